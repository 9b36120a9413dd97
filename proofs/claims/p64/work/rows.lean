section
/-- a private method of a class that the tables say can be made, by its rows of tables_1 -/
def lw_okq (q : MethodName × Nat) : Prop := (q.1.cls ≠ "java/lang/invoke/MethodHandle" ∧ q.1.cls ≠ "java/lang/invoke/VarHandle") ∧ Cond.instantiable q.1.cls q.2 ∈ tables_1 ∧ Cond.privateMethod q.1 ∈ tables_1 ∧ Cond.instanceMethod q.1 ∈ tables_1
theorem lw_p0 : lw_okq (⟨"NightPorter", "readInput", "()V"⟩, 8) := ⟨⟨by decide +kernel, by decide +kernel⟩, List.mem_of_getElem? (i := 30) (by decide +kernel), List.mem_of_getElem? (i := 318) (by decide +kernel), List.mem_of_getElem? (i := 319) (by decide +kernel)⟩
theorem lw_p1 : lw_okq (⟨"NightPorter$Parser", "advance", "()V"⟩, 5) := ⟨⟨by decide +kernel, by decide +kernel⟩, List.mem_of_getElem? (i := 57) (by decide +kernel), List.mem_of_getElem? (i := 330) (by decide +kernel), List.mem_of_getElem? (i := 331) (by decide +kernel)⟩
theorem lw_p2 : lw_okq (⟨"NightPorter$Parser", "takeWord", "()V"⟩, 5) := ⟨⟨by decide +kernel, by decide +kernel⟩, List.mem_of_getElem? (i := 57) (by decide +kernel), List.mem_of_getElem? (i := 340) (by decide +kernel), List.mem_of_getElem? (i := 341) (by decide +kernel)⟩
theorem lw_p3 : lw_okq (⟨"NightPorter$Parser", "takeNumber", "()V"⟩, 5) := ⟨⟨by decide +kernel, by decide +kernel⟩, List.mem_of_getElem? (i := 57) (by decide +kernel), List.mem_of_getElem? (i := 347) (by decide +kernel), List.mem_of_getElem? (i := 348) (by decide +kernel)⟩
theorem lw_p4 : lw_okq (⟨"NightPorter$Parser", "readHead", "(LNightPorter$Night;)Z"⟩, 5) := ⟨⟨by decide +kernel, by decide +kernel⟩, List.mem_of_getElem? (i := 57) (by decide +kernel), List.mem_of_getElem? (i := 351) (by decide +kernel), List.mem_of_getElem? (i := 352) (by decide +kernel)⟩
theorem lw_p5 : lw_okq (⟨"NightPorter$Parser", "isWord", "(Ljava/lang/String;)Z"⟩, 5) := ⟨⟨by decide +kernel, by decide +kernel⟩, List.mem_of_getElem? (i := 57) (by decide +kernel), List.mem_of_getElem? (i := 356) (by decide +kernel), List.mem_of_getElem? (i := 357) (by decide +kernel)⟩
theorem lw_p6 : lw_okq (⟨"NightPorter$Parser", "isNumber", "(II)Z"⟩, 5) := ⟨⟨by decide +kernel, by decide +kernel⟩, List.mem_of_getElem? (i := 57) (by decide +kernel), List.mem_of_getElem? (i := 362) (by decide +kernel), List.mem_of_getElem? (i := 363) (by decide +kernel)⟩
theorem lw_p7 : lw_okq (⟨"NightPorter$Parser", "passSemicolon", "()Z"⟩, 5) := ⟨⟨by decide +kernel, by decide +kernel⟩, List.mem_of_getElem? (i := 57) (by decide +kernel), List.mem_of_getElem? (i := 366) (by decide +kernel), List.mem_of_getElem? (i := 367) (by decide +kernel)⟩
theorem lw_p8 : lw_okq (⟨"NightPorter$Parser", "readGuest", "(LNightPorter$Guests;)Z"⟩, 5) := ⟨⟨by decide +kernel, by decide +kernel⟩, List.mem_of_getElem? (i := 57) (by decide +kernel), List.mem_of_getElem? (i := 371) (by decide +kernel), List.mem_of_getElem? (i := 372) (by decide +kernel)⟩
theorem lw_p9 : lw_okq (⟨"NightPorter$Guests", "hasLetters", "(ILNightPorter$Bytes;I)Z"⟩, 9) := ⟨⟨by decide +kernel, by decide +kernel⟩, List.mem_of_getElem? (i := 85) (by decide +kernel), List.mem_of_getElem? (i := 379) (by decide +kernel), List.mem_of_getElem? (i := 380) (by decide +kernel)⟩
theorem lw_p10 : lw_okq (⟨"NightPorter$Parser", "readUmbrella", "(LNightPorter$Night;)Z"⟩, 5) := ⟨⟨by decide +kernel, by decide +kernel⟩, List.mem_of_getElem? (i := 57) (by decide +kernel), List.mem_of_getElem? (i := 393) (by decide +kernel), List.mem_of_getElem? (i := 394) (by decide +kernel)⟩
theorem lw_p11 : lw_okq (⟨"NightPorter", "requireRange", "(III)V"⟩, 8) := ⟨⟨by decide +kernel, by decide +kernel⟩, List.mem_of_getElem? (i := 30) (by decide +kernel), List.mem_of_getElem? (i := 482) (by decide +kernel), List.mem_of_getElem? (i := 483) (by decide +kernel)⟩
theorem lw_p12 : lw_okq (⟨"java/lang/Throwable", "fillInStackTrace", "(I)Ljava/lang/Throwable;"⟩, 6) := ⟨⟨by decide +kernel, by decide +kernel⟩, List.mem_of_getElem? (i := 525) (by decide +kernel), List.mem_of_getElem? (i := 523) (by decide +kernel), List.mem_of_getElem? (i := 524) (by decide +kernel)⟩
theorem lw_p13 : lw_okq (⟨"NightPorter", "requireGuest", "(I)V"⟩, 8) := ⟨⟨by decide +kernel, by decide +kernel⟩, List.mem_of_getElem? (i := 30) (by decide +kernel), List.mem_of_getElem? (i := 591) (by decide +kernel), List.mem_of_getElem? (i := 592) (by decide +kernel)⟩
theorem lw_p14 : lw_okq (⟨"NightPorter", "requireRoomForEntry", "()V"⟩, 8) := ⟨⟨by decide +kernel, by decide +kernel⟩, List.mem_of_getElem? (i := 30) (by decide +kernel), List.mem_of_getElem? (i := 622) (by decide +kernel), List.mem_of_getElem? (i := 623) (by decide +kernel)⟩
theorem lw_p15 : lw_okq (⟨"NightPorter$Night", "soakGuests", "()V"⟩, 10) := ⟨⟨by decide +kernel, by decide +kernel⟩, List.mem_of_getElem? (i := 79) (by decide +kernel), List.mem_of_getElem? (i := 703) (by decide +kernel), List.mem_of_getElem? (i := 704) (by decide +kernel)⟩
def lw_privs_1 : List (MethodName × Nat) := [(⟨"NightPorter", "readInput", "()V"⟩, 8), (⟨"NightPorter$Parser", "advance", "()V"⟩, 5), (⟨"NightPorter$Parser", "takeWord", "()V"⟩, 5), (⟨"NightPorter$Parser", "takeNumber", "()V"⟩, 5), (⟨"NightPorter$Parser", "readHead", "(LNightPorter$Night;)Z"⟩, 5), (⟨"NightPorter$Parser", "isWord", "(Ljava/lang/String;)Z"⟩, 5), (⟨"NightPorter$Parser", "isNumber", "(II)Z"⟩, 5), (⟨"NightPorter$Parser", "passSemicolon", "()Z"⟩, 5), (⟨"NightPorter$Parser", "readGuest", "(LNightPorter$Guests;)Z"⟩, 5), (⟨"NightPorter$Guests", "hasLetters", "(ILNightPorter$Bytes;I)Z"⟩, 9), (⟨"NightPorter$Parser", "readUmbrella", "(LNightPorter$Night;)Z"⟩, 5), (⟨"NightPorter", "requireRange", "(III)V"⟩, 8), (⟨"java/lang/Throwable", "fillInStackTrace", "(I)Ljava/lang/Throwable;"⟩, 6), (⟨"NightPorter", "requireGuest", "(I)V"⟩, 8), (⟨"NightPorter", "requireRoomForEntry", "()V"⟩, 8), (⟨"NightPorter$Night", "soakGuests", "()V"⟩, 10)]
theorem lw_r1 : ∀ q ∈ lw_privs_1, lw_okq q := List.forall_mem_cons.mpr ⟨lw_p0, List.forall_mem_cons.mpr ⟨lw_p1, List.forall_mem_cons.mpr ⟨lw_p2, List.forall_mem_cons.mpr ⟨lw_p3, List.forall_mem_cons.mpr ⟨lw_p4, List.forall_mem_cons.mpr ⟨lw_p5, List.forall_mem_cons.mpr ⟨lw_p6, List.forall_mem_cons.mpr ⟨lw_p7, List.forall_mem_cons.mpr ⟨lw_p8, List.forall_mem_cons.mpr ⟨lw_p9, List.forall_mem_cons.mpr ⟨lw_p10, List.forall_mem_cons.mpr ⟨lw_p11, List.forall_mem_cons.mpr ⟨lw_p12, List.forall_mem_cons.mpr ⟨lw_p13, List.forall_mem_cons.mpr ⟨lw_p14, List.forall_mem_cons.mpr ⟨lw_p15, fun _ h => absurd h List.not_mem_nil⟩⟩⟩⟩⟩⟩⟩⟩⟩⟩⟩⟩⟩⟩⟩⟩
theorem lw_p16 : lw_okq (⟨"NightPorter", "requireSlot", "(I)V"⟩, 8) := ⟨⟨by decide +kernel, by decide +kernel⟩, List.mem_of_getElem? (i := 30) (by decide +kernel), List.mem_of_getElem? (i := 751) (by decide +kernel), List.mem_of_getElem? (i := 752) (by decide +kernel)⟩
theorem lw_p17 : lw_okq (⟨"NightPorter", "requireUmbrella", "(I)V"⟩, 8) := ⟨⟨by decide +kernel, by decide +kernel⟩, List.mem_of_getElem? (i := 30) (by decide +kernel), List.mem_of_getElem? (i := 849) (by decide +kernel), List.mem_of_getElem? (i := 850) (by decide +kernel)⟩
theorem lw_p18 : lw_okq (⟨"NightPorter", "requireEntry", "(I)V"⟩, 8) := ⟨⟨by decide +kernel, by decide +kernel⟩, List.mem_of_getElem? (i := 30) (by decide +kernel), List.mem_of_getElem? (i := 883) (by decide +kernel), List.mem_of_getElem? (i := 884) (by decide +kernel)⟩
theorem lw_p19 : lw_okq (⟨"NightPorter", "requirePassed", "(II)V"⟩, 8) := ⟨⟨by decide +kernel, by decide +kernel⟩, List.mem_of_getElem? (i := 30) (by decide +kernel), List.mem_of_getElem? (i := 900) (by decide +kernel), List.mem_of_getElem? (i := 901) (by decide +kernel)⟩
def lw_privs_2 : List (MethodName × Nat) := [(⟨"NightPorter", "requireSlot", "(I)V"⟩, 8), (⟨"NightPorter", "requireUmbrella", "(I)V"⟩, 8), (⟨"NightPorter", "requireEntry", "(I)V"⟩, 8), (⟨"NightPorter", "requirePassed", "(II)V"⟩, 8)]
theorem lw_r2 : ∀ q ∈ lw_privs_2, lw_okq q := List.forall_mem_cons.mpr ⟨lw_p16, List.forall_mem_cons.mpr ⟨lw_p17, List.forall_mem_cons.mpr ⟨lw_p18, List.forall_mem_cons.mpr ⟨lw_p19, fun _ h => absurd h List.not_mem_nil⟩⟩⟩⟩
def lw_privs : List (MethodName × Nat) := lw_privs_1 ++ (lw_privs_2)
def lw_tbl : List Cond := k2_sels lw_privs ++ tables_1
theorem lw_privs_ok : ∀ q ∈ lw_privs, lw_okq q := by
  show ∀ q ∈ lw_privs_1 ++ (lw_privs_2), lw_okq q
  exact List.forall_mem_append.mpr ⟨lw_r1, lw_r2⟩
/-- the streams that the claim lets the run draw from -/
abbrev lw_cs : List Choice := [Jvm.Choice.named "NaN.bits"]
theorem lw_bits : nanBits ∈ lw_cs := by first | decide | exact List.mem_cons_self | simp [lw_cs, nanBits]
end
section
/-! the laws of floats stand in the whole library: with this part first the claim is read over it from its first round on -/
theorem wi_1 (n : Int32) : FP.Core.val64 (FP.Core.i2d n) ≠ .nan := by
  rw [FP.Core.val64_i2d]
  exact FP.Core.roundRatio_ne_nan _ _ _ _ _
end
section
/-! ===== BEGIN words of one list among another's, by their places ===== -/
theorem goodIn_r {big : List Cond} (ws : List Cond) (ps : List Nat) (hp : ws = ps.filterMap (fun i => big[i]?)) (h : ws.all goodWord = true) : GoodIn big ws := by
  intro w hw
  have h1 := List.all_eq_true.mp h w hw
  rw [hp] at hw
  obtain ⟨i, -, hi⟩ := List.mem_filterMap.mp hw
  have hm : w ∈ big := by first | exact List.mem_of_getElem? hi | exact List.getElem?_mem hi
  exact ⟨hm, good_of_word h1⟩
theorem goodIn_app {big a b : List Cond} (ha : GoodIn big a) (hb : GoodIn big b) : GoodIn big (a ++ b) := fun w h => (List.mem_append.mp h).elim (ha w) (hb w)
theorem goodIn_ca {big a b : List Cond} {c : Cond} (ha : GoodIn big (c :: a)) (hb : GoodIn big b) : GoodIn big (c :: (a ++ b)) := fun w h => (List.mem_cons.mp h).elim (fun e => ha w (List.mem_cons.mpr (Or.inl e))) (fun h => (List.mem_append.mp h).elim (fun h => ha w (List.mem_cons.mpr (Or.inr h))) (hb w))
theorem goodIn_sub {big ws : List Cond} (hm : ∀ w ∈ ws, w ∈ big) (h : ws.all goodWord = true) : GoodIn big ws := fun w hw => ⟨hm w hw, good_of_word (List.all_eq_true.mp h w hw)⟩
/-! ===== END ===== -/

/-! ===== BEGIN exceptions that leave a method, and their catching by the caller (launches without stack traces) ===== -/
section VXA
/-! The laws vx_back, vx_callV, vx_callS, vx_callSW, vx_throw0, vx_throwS follow proofs of the library, with one case more: JvmDerived/Free/Laws.lean (Back.of_free), Shelf42/LK1.lean (callV, callS), Shelf/KitTraced.lean (throwNew0V, throwNewS). -/
/-- where a method has thrown q: the class by its name, the cell, what was written, the world -/
def vx_T (XC : String → State → State → Prop) (st : State) (q : Addr) (t : State) (mc ms : Nat) (free : Addr → Prop) : Prop :=
  ∃ (E : String) (ce : Cell) (L : List Loc), XC E st t ∧ t.heap[q]? = some ce ∧ ce.vm = .none ∧ st.vm.findClass E = some ce.cls ∧ st.WarmedH t.vm ∧ st.sameButNew ({ t with vm := st.vm } : State) L mc ms ∧ ∀ z ∈ L, free z.base
def vx_Q (Qc : Array Value → State → Outcome → State → Prop) (XC : String → State → State → Prop) (mc ms : Nat) (free : Addr → Prop) : Array Value → State → Outcome → State → Prop := fun a st o t =>
  (Qc a st o t ∧ ∃ L, FrameEnd st o t L mc ms ∧ ∀ q ∈ L, free q.base) ∨ ∃ q, o = .threw q ∧ vx_T XC st q t mc ms free
/-- a callee that returns or throws -/
def vx_Met (l : Launch) (y : MethodName) (ws : List Cond) (rm : Room) (Pc : Array Value → State → Prop) (Qc : Array Value → State → Outcome → State → Prop) (XC : String → State → State → Prop) (mc ms : Nat) (free : Addr → Prop) : Prop :=
  MetFree l y (headSpec ws rm) Pc (fun _ _ _ _ _ => True) (vx_Q Qc XC mc ms free)
def vx_Post (XC : String → State → State → Prop) (mc ms : Nat) (free : Addr → Prop) : Pt → Array Value → Addr → Pt → Prop := fun A a q B =>
  ∃ (g : JFrame) (mk : MethodId) (t : State) (L : List Loc) (E : String) (ce : Cell), B.U.heap = t.heap ∧ B.U.vm = t.vm ∧ XC E (A.U.calling g mk a) t ∧ t.heap[q]? = some ce ∧ ce.vm = .none ∧ A.U.vm.findClass E = some ce.cls ∧ B.locs = A.locs ++ L ∧ (∀ z ∈ L, free z.base) ∧ B.cells = A.cells + mc ∧ B.slots = A.slots + ms
def vx_Back (l : Launch) (R : Room) (p : Program) (e : Env) (below : List Frame) (s : State) (sargs : Array Value) (y : MethodName) (len W9 : Nat)
    (Pre : Pt → Array Value → Prop) (Post : Pt → Array Value → Option Value → Pt → Prop) (PostX : Pt → Array Value → Addr → Pt → Prop) : Prop :=
  ∀ (m : MethodId) (meth : Method) (c : Code) (A : Pt) (g : JFrame) (ig : Instr) (mk : MethodId) (a : Array Value),
    Stand p l e R s m sargs below meth c A.U A.locs A.cells A.slots → g.method = m → g.locals.size = c.maxLocals → decode c.code g.pc = .ok (ig, len) →
    2 * g.monitorRoom + (g.stack.map fun v => v.category).sum ≤ W9 → A.U.methodNamed? y = some mk → Pre A a →
    (∃ (v : Option Value) (B : Pt), Stand p l e R s m sargs below meth c B.U B.locs B.cells B.slots ∧ Post A a v B ∧
      Steps p.tables e below (doInvoke e (A.U.setTop g) [] mk a).1 (B.U.setTop { g with pc := g.pc + len, stack := v.toList ++ g.stack })) ∨
    (∃ (q : Addr) (B : Pt), Stand p l e R s m sargs below meth c B.U B.locs B.cells B.slots ∧ PostX A a q B ∧
      Steps p.tables e below (doInvoke e (A.U.setTop g) [] mk a).1 ((B.U.setTop g).pushFrame (.throwing q)))
section Payer
variable {l : Launch} {R : Room} {p : Program} {e : Env} {below : List Frame} {s : State} {sargs : Array Value} {y : MethodName} {len W9 : Nat}
theorem vx_back {ws : List Cond} {rm : Room} {Pc : Array Value → State → Prop} {Qc : Array Value → State → Outcome → State → Prop} {XC : String → State → State → Prop} {mc ms : Nat} {free : Addr → Prop} {bytes : ByteArray} {maxL : Nat} {ret : Option FieldType}
    (hM : vx_Met l y ws rm Pc Qc XC mc ms free) (hblind : FrameBlind Pc) (hrc : rm.cells = mc) (hrs : rm.slots = ms)
    (hframes : rm.frames + 1 ≤ R.frames) (hlocals : W9 + (maxL + 11) + rm.locals ≤ R.locals)
    (hws : ∀ w ∈ ws, ∀ a' U, s.WarmedH U.vm → w.before a' U = true) (hcode : Cond.code y bytes maxL ret ∈ ws) (hinit : ∀ a' U, s.WarmedH U.vm → (Cond.initialized y.cls).before a' U = true) :
    vx_Back l R p e below s sargs y len W9 (PreOf R mc ms Pc) (PostOf Qc mc ms free) (vx_Post XC mc ms free) := by
  intro m meth c A g ig mk a X hg hsize hdg hW hn hp
  have h1 : (headSpec ws rm).pre.before a A.U = true := atoms_intro fun w hw => hws w hw _ _ X.warmed
  have h2 : (Cond.code y bytes maxL ret).before a A.U = true := hws _ hcode _ _ X.warmed
  have h3 : (Cond.initialized y.cls).before a A.U = true := hinit _ _ X.warmed
  have h4 : A.cells + (headSpec ws rm).room.cells ≤ R.cells := by rw [show (headSpec ws rm).room.cells = mc from hrc]; exact hp.1
  have h5 : A.slots + (headSpec ws rm).room.slots ≤ R.slots := by rw [show (headSpec ws rm).room.slots = ms from hrs]; exact hp.2.1
  have hPc : Pc a (A.U.calling g mk a) := hblind _ _ _ _ hp.2.2
  obtain ⟨U, Ls, c0, s0⟩ := A
  dsimp only [Pt.U, Pt.locs, Pt.cells, Pt.slots] at h1 h2 h3 h4 h5 X hn hPc ⊢
  obtain ⟨methY, cY, hmY, hcY, -, hlY, -, -, -, -⟩ := Cond.code_spec hn h2
  obtain ⟨kY, hkY, -⟩ := className_of_methodNamed hn
  have hinitY : kY.init = .initialized := Cond.initialized_spec (findClass_of_methodNamed hn) hkY h3
  have h : At U g.method c below := by rw [hg]; exact X.here
  have hlocals9 : W9 + (maxL + 11) + (headSpec ws rm).room.locals ≤ R.locals := hlocals
  have happ : (headSpec ws rm).appliesLoose y e.platform (U.calling g mk a) = true :=
    Spec.appliesLoose_calling (g := g) h hdg hn hkY hinitY
      (X.room_calling (g := g) (R' := (headSpec ws rm).room) hsize hmY hcY hframes (by rw [hlY]; omega) h4 h5) h1
  obtain ⟨mid, hmid⟩ := h.above
  have hfr : (U.setTop g).frames = (.java g :: mid) ++ below := by rw [State.frames_setTop' g h.top, hmid]; rfl
  obtain ⟨o, s₂, hsteps, -, hend, hq⟩ := Steps.callFree hM p X.admits X.cas X.clock (acts := []) hfr happ hPc trivial
  have hq' : vx_Q Qc XC mc ms free a (U.calling g mk a) o s₂ := hq
  rw [State.frames_setTop' g h.top] at hend
  obtain ⟨g₀, hg0⟩ := Option.isSome_iff_exists.mp h.top
  obtain ⟨r, hr⟩ := State.topJava?_eq_some.mp hg0
  have hr' : (({ U with heap := s₂.heap, slotsUsed := s₂.slotsUsed } : State).setVm s₂.vm).frames = .java g₀ :: r := hr
  rcases hq' with ⟨hqc, L, hfe, hL⟩ | ⟨q, rfl, E, ce, L, hx, hce, hcv, hcl, hW₂, hsm, hL⟩
  · obtain ⟨⟨v, rfl⟩, hW₂, e2, q2, q3, q4, q5, q6⟩ := id hfe
    have e3 : s₂ = ({ (U.calling g mk a).setFrames s₂.frames with heap := s₂.heap, slotsUsed := s₂.slotsUsed } : State).setVm s₂.vm := by
      have : s₂ = ({ s₂ with vm := (U.calling g mk a).vm } : State).setVm s₂.vm := rfl
      rw [e2] at this
      exact this
    obtain ⟨c₂, i₂, len₂, hc₂, hd₂, hf₂⟩ := hend
    have hW' : U.WarmedH s₂.vm := hW₂
    have hcc : c₂ = c := by
      have h1 : s₂.code? g.method = U.code? g.method := by
        rw [State.code?_eq, State.code?_eq, hW'.alike.method?]
      exact Option.some.inj (hc₂.symm.trans (h1.trans h.code))
    subst hcc
    have hlen : len₂ = len := by rw [hdg] at hd₂; cases hd₂; rfl
    subst hlen
    have hs₂ : s₂ = (({ U with heap := s₂.heap, slotsUsed := s₂.slotsUsed } : State).setVm s₂.vm).setTop { g with pc := g.pc + len₂, stack := v.toList ++ g.stack } := by
      refine e3.trans ?_
      rw [hf₂, State.calling_eq h.top, State.setFrames_setFrames, State.setTop_of_frames _ hr', hr]
      rfl
    have hsame : U.sameButNew ({ U with heap := s₂.heap, slotsUsed := s₂.slotsUsed } : State) L mc ms := by
      refine ⟨?_, q2, q3, q4, q5, q6⟩
      obtain ⟨t, ht, -⟩ := State.frames_cons hr
      show ({ U with heap := s₂.heap, slotsUsed := s₂.slotsUsed } : State) = { U.setFrames U.frames with heap := s₂.heap, slotsUsed := s₂.slotsUsed }
      rw [State.setFrames_self ht]
    subst hg
    refine Or.inl ⟨v, ⟨(({ U with heap := s₂.heap, slotsUsed := s₂.slotsUsed } : State).setVm s₂.vm), Ls ++ L, c0 + mc, s0 + ms⟩,
      ⟨X.admits, X.cas, X.clock, X.frames, X.room, X.hears, X.method, X.code, (X.here.setHeapUsed s₂.heap s₂.slotsUsed).setVm hW'.alike, X.tail, State.WarmedH.trans X.warmed hW', X.limits, X.bytes, X.same.trans (hsame.setVm s.vm)⟩,
      ⟨g, mk, s₂, L, rfl, rfl, hqc, rfl, hL, rfl, rfl⟩, ?_⟩
    show Steps p.tables e below _ ((({ U with heap := s₂.heap, slotsUsed := s₂.slotsUsed } : State).setVm s₂.vm).setTop { g with pc := g.pc + len₂, stack := v.toList ++ g.stack })
    rw [← hs₂]
    exact hsteps
  · obtain ⟨e2, q2, q3, q4, q5, q6⟩ := id hsm
    have e3 : s₂ = ({ (U.calling g mk a).setFrames s₂.frames with heap := s₂.heap, slotsUsed := s₂.slotsUsed } : State).setVm s₂.vm := by
      have : s₂ = ({ s₂ with vm := (U.calling g mk a).vm } : State).setVm s₂.vm := rfl
      rw [e2] at this
      exact this
    have hf₂ : s₂.frames = .throwing q :: .java g :: U.frames.tail := hend
    have hW' : U.WarmedH s₂.vm := hW₂
    have hs₂ : s₂ = ((({ U with heap := s₂.heap, slotsUsed := s₂.slotsUsed } : State).setVm s₂.vm).setTop g).pushFrame (.throwing q) := by
      refine e3.trans ?_
      rw [hf₂, State.calling_eq h.top, State.setFrames_setFrames, State.pushFrame, State.frames_setTop _ hr', State.setTop_of_frames _ hr', State.setFrames_setFrames, hr]
      rfl
    have hsame : U.sameButNew ({ U with heap := s₂.heap, slotsUsed := s₂.slotsUsed } : State) L mc ms := by
      refine ⟨?_, q2, q3, q4, q5, q6⟩
      obtain ⟨t, ht, -⟩ := State.frames_cons hr
      show ({ U with heap := s₂.heap, slotsUsed := s₂.slotsUsed } : State) = { U.setFrames U.frames with heap := s₂.heap, slotsUsed := s₂.slotsUsed }
      rw [State.setFrames_self ht]
    subst hg
    refine Or.inr ⟨q, ⟨(({ U with heap := s₂.heap, slotsUsed := s₂.slotsUsed } : State).setVm s₂.vm), Ls ++ L, c0 + mc, s0 + ms⟩,
      ⟨X.admits, X.cas, X.clock, X.frames, X.room, X.hears, X.method, X.code, (X.here.setHeapUsed s₂.heap s₂.slotsUsed).setVm hW'.alike, X.tail, State.WarmedH.trans X.warmed hW', X.limits, X.bytes, X.same.trans (hsame.setVm s.vm)⟩,
      ⟨g, mk, s₂, L, E, ce, rfl, rfl, hx, hce, hcv, hcl, rfl, hL, rfl, rfl⟩, ?_⟩
    show Steps p.tables e below _ (((({ U with heap := s₂.heap, slotsUsed := s₂.slotsUsed } : State).setVm s₂.vm).setTop g).pushFrame (.throwing q))
    rw [← hs₂]
    exact hsteps
end Payer
section Calls
variable {p : Program} {l : Launch} {e : Env} {R : Room} {s : State} {m : MethodId} {args : Array Value} {below : List Frame} {meth : Method} {c : Code} {T : State} {locs : List Loc} {cells slots : Nat}
theorem vx_callV (X : Stand p l e R s m args below meth c T locs cells slots) (hexec : p.tables.exec = Jvm.exec) {own C : String} {index : Nat} {y : MethodName} {bytes : ByteArray} {maxL : Nat} {ret : Option FieldType}
    (hown : s.vm.findClass own = some m.cls) (hlink : (Cond.methodLink own index y).before args s = true) (hinst : (Cond.instanceMethod y).before args s = true) (hsel : (Cond.selects C y y).before args s = true)
    (hcode : (Cond.code y bytes maxL ret).before args s = true) (hy : y.cls ≠ "java/lang/invoke/MethodHandle" ∧ y.cls ≠ "java/lang/invoke/VarHandle")
    {W9 : Nat} {Pre : Pt → Array Value → Prop} {Post : Pt → Array Value → Option Value → Pt → Prop} {PostX : Pt → Array Value → Addr → Pt → Prop} (hK : vx_Back l R p e below s args y 3 W9 Pre Post PostX)
    {b : Addr} {cellB : Cell} (hcell : T.heap[b]? = some cellB) (hobj : cellB.vm.isStatics = false) (hcls : s.vm.findClass C = some cellB.cls)
    {g : JFrame} (hg : g.method = m) (hsize : g.locals.size = c.maxLocals) {argsL rest : List Value} (hlen : ∀ sig, parseMethodDescriptor y.desc = some sig → argsL.length = sig.parameters.length)
    (hstack : g.stack = argsL.reverse ++ .ref b :: rest) (hW : 2 * g.monitorRoom + (rest.map fun v => v.category).sum ≤ W9) (hdg : decode c.code g.pc = .ok (.invokevirtual index, 3))
    (hpre : ∀ vm₁, s.WarmedH vm₁ → Pre ⟨T.setVm vm₁, locs, cells, slots⟩ (Value.ref b :: argsL).toArray) :
    (∃ (v : Option Value) (vm₁ : Vm) (B : Pt), s.WarmedH vm₁ ∧ Stand p l e R s m args below meth c B.U B.locs B.cells B.slots ∧ Post ⟨T.setVm vm₁, locs, cells, slots⟩ (Value.ref b :: argsL).toArray v B ∧
      ∀ target, Steps p.tables e below (B.U.setTop { g with pc := g.pc + 3, stack := v.toList ++ rest }) target → Steps p.tables e below (T.setTop g) target) ∨
    (∃ (q : Addr) (vm₁ : Vm) (B : Pt), s.WarmedH vm₁ ∧ Stand p l e R s m args below meth c B.U B.locs B.cells B.slots ∧ PostX ⟨T.setVm vm₁, locs, cells, slots⟩ (Value.ref b :: argsL).toArray q B ∧
      Steps p.tables e below (T.setTop g) ((B.U.setTop { g with stack := rest }).pushFrame (.throwing q))) := by
  obtain ⟨mk, methM, hnamed, hmethM, hstM, habM⟩ := Cond.instanceMethod_spec hinst
  obtain ⟨methM', cM, hmethM', -, -, -, -, -, -, hsigM⟩ := Cond.code_spec hnamed hcode
  cases hmethM.symm.trans hmethM'
  obtain ⟨c2, r2, m2, q1, q2, q3, q4, kP, hkP, hkPi⟩ := Cond.selects_spec hsel
  cases hcls.symm.trans q1
  cases (State.methodFound?_of_named hnamed hy).symm.trans q2
  cases hnamed.symm.trans q3
  have hselP : selectMethod e.platform s.vm cellB.cls mk = .method mk := by rw [Launch.admits_selectMethod X.admits]; exact q4
  obtain ⟨vm₁, X₁, hstep₁⟩ := X.invokevirtual hexec hown hlink hnamed hmethM hstM hkP hkPi hy (a := b) (cell := cellB) hcell
    (fun z h => by rw [h] at hobj; cases hobj) hselP hmethM habM hkP hkPi (g := g) hg (argsL := argsL) (rest := rest) (hlen _ hsigM) hstack hdg
  rcases hK m meth c ⟨T.setVm vm₁, locs, cells, slots⟩ { g with stack := rest } (.invokevirtual index) mk (Value.ref b :: argsL).toArray X₁ hg hsize hdg hW (X₁.named hnamed) (hpre vm₁ X₁.warmed) with ⟨v, B, X', hpost, hsteps⟩ | ⟨q, B, X', hpost, hsteps⟩
  · exact Or.inl ⟨v, vm₁, B, X₁.warmed, X', hpost, fun target h => hstep₁ _ fun acts => by rw [doInvoke_state]; exact hsteps.trans h⟩
  · exact Or.inr ⟨q, vm₁, B, X₁.warmed, X', hpost, hstep₁ _ fun acts => by rw [doInvoke_state]; exact hsteps⟩
theorem vx_callS (X : Stand p l e R s m args below meth c T locs cells slots) (hexec : p.tables.exec = Jvm.exec) {own : String} {index : Nat} {y : MethodName} {bytes : ByteArray} {maxL : Nat} {ret : Option FieldType}
    (hown : s.vm.findClass own = some m.cls) (hlink : (Cond.methodLink own index y).before args s = true) (hstat : (Cond.static y).before args s = true) (hinit : (Cond.initialized y.cls).before args s = true)
    (hcode : (Cond.code y bytes maxL ret).before args s = true) (hy : y.cls ≠ "java/lang/invoke/MethodHandle" ∧ y.cls ≠ "java/lang/invoke/VarHandle")
    {W9 : Nat} {Pre : Pt → Array Value → Prop} {Post : Pt → Array Value → Option Value → Pt → Prop} {PostX : Pt → Array Value → Addr → Pt → Prop} (hK : vx_Back l R p e below s args y 3 W9 Pre Post PostX)
    {g : JFrame} (hg : g.method = m) (hsize : g.locals.size = c.maxLocals) {argsL rest : List Value} (hlen : ∀ sig, parseMethodDescriptor y.desc = some sig → argsL.length = sig.parameters.length)
    (hstack : g.stack = argsL.reverse ++ rest) (hW : 2 * g.monitorRoom + (rest.map fun v => v.category).sum ≤ W9) (hdg : decode c.code g.pc = .ok (.invokestatic index, 3))
    (hpre : ∀ vm₁, s.WarmedH vm₁ → Pre ⟨T.setVm vm₁, locs, cells, slots⟩ argsL.toArray) :
    (∃ (v : Option Value) (vm₁ : Vm) (B : Pt), s.WarmedH vm₁ ∧ Stand p l e R s m args below meth c B.U B.locs B.cells B.slots ∧ Post ⟨T.setVm vm₁, locs, cells, slots⟩ argsL.toArray v B ∧
      ∀ target, Steps p.tables e below (B.U.setTop { g with pc := g.pc + 3, stack := v.toList ++ rest }) target → Steps p.tables e below (T.setTop g) target) ∨
    (∃ (q : Addr) (vm₁ : Vm) (B : Pt), s.WarmedH vm₁ ∧ Stand p l e R s m args below meth c B.U B.locs B.cells B.slots ∧ PostX ⟨T.setVm vm₁, locs, cells, slots⟩ argsL.toArray q B ∧
      Steps p.tables e below (T.setTop g) ((B.U.setTop { g with stack := rest }).pushFrame (.throwing q))) := by
  obtain ⟨mk, hnamed⟩ := Cond.code_named hcode
  obtain ⟨methM, cM, hmethM, -, -, -, -, -, -, hsigM⟩ := Cond.code_spec hnamed hcode
  have hstatic : methM.isStatic = true := Cond.static_spec hnamed hmethM hstat
  obtain ⟨kP, hkP, -⟩ := className_of_methodNamed hnamed
  have hinitP : kP.init = .initialized := Cond.initialized_spec (findClass_of_methodNamed hnamed) hkP hinit
  obtain ⟨vm₁, X₁, hstep₁⟩ := X.invokestatic hexec hown hlink hnamed hmethM hstatic hkP hinitP hy (g := g) hg (argsL := argsL) (rest := rest) (hlen _ hsigM) hstack hdg
  rcases hK m meth c ⟨T.setVm vm₁, locs, cells, slots⟩ { g with stack := rest } (.invokestatic index) mk argsL.toArray X₁ hg hsize hdg hW (X₁.named hnamed) (hpre vm₁ X₁.warmed) with ⟨v, B, X', hpost, hsteps⟩ | ⟨q, B, X', hpost, hsteps⟩
  · exact Or.inl ⟨v, vm₁, B, X₁.warmed, X', hpost, fun target h => hstep₁ _ fun acts => by rw [doInvoke_state]; exact hsteps.trans h⟩
  · exact Or.inr ⟨q, vm₁, B, X₁.warmed, X', hpost, hstep₁ _ fun acts => by rw [doInvoke_state]; exact hsteps⟩
end Calls
theorem vx_cls {s : State} {T : State} {vm₁ : Vm} {E : String} {k : ClassId} (hW : s.WarmedH vm₁) (h : (T.setVm vm₁).vm.findClass E = some k) : s.vm.findClass E = some k := by
  have h1 : vm₁.findClass E = some k := h
  rw [hW.alike.findClass] at h1
  exact h1
/-- the method's frame g, with q thrown over it -/
def vx_W (p : Program) (l : Launch) (e : Env) (R : Room) (s : State) (m : MethodId) (args : Array Value) (below : List Frame) (meth : Method) (c : Code) (H : Heap) (locs : List Loc) (cells slots : Nat) (Q : State → Prop) (g : JFrame) (q : Addr) : Prop :=
  ∀ T : State, T.heap = H → Stand p l e R s m args below meth c T locs cells slots → ∃ t, Steps p.tables e below ((T.setTop g).pushFrame (.throwing q)) t ∧ Q t
def vx_Run (p : Program) (l : Launch) (e : Env) (R : Room) (s : State) (m : MethodId) (args : Array Value) (below : List Frame) (meth : Method) (c : Code) (H : Heap) (locs : List Loc) (cells slots mc ms : Nat) (g : JFrame) (rest : List Value) (Qa : State → Outcome → State → Prop) (XC : String → State → State → Prop) (free : Addr → Prop) : Prop :=
  ∀ T : State, T.heap = H → Stand p l e R s m args below meth c T locs cells slots →
    (∃ (v : Option Value) (st₀ t T' : State) (L : List Loc), st₀.heap = H ∧ Stand p l e R s m args below meth c T' (locs ++ L) (cells + mc) (slots + ms) ∧ (∀ q ∈ L, free q.base) ∧ T'.heap = t.heap ∧ T'.vm = t.vm ∧ Qa st₀ (.returned v) t ∧
      Goes p e below T g T' { g with pc := g.pc + 3, stack := v.toList ++ rest }) ∨
    (∃ (q : Addr) (st₀ t T' : State) (L : List Loc) (E : String) (ce : Cell), st₀.heap = H ∧ Stand p l e R s m args below meth c T' (locs ++ L) (cells + mc) (slots + ms) ∧ (∀ z ∈ L, free z.base) ∧ T'.heap = t.heap ∧ T'.vm = t.vm ∧ XC E st₀ t ∧ t.heap[q]? = some ce ∧ ce.vm = .none ∧ s.vm.findClass E = some ce.cls ∧
      Steps p.tables e below (T.setTop g) ((T'.setTop { g with stack := rest }).pushFrame (.throwing q)))
def vx_X {S : Type} (px : S → Prop) (B : String → S → State → Prop) (A : Nat → Prop) : String → State → State → Prop := fun E st t => ∃ u : S, px u ∧ B E u t ∧ va_F A st t
section Runs
variable {p : Program} {l : Launch} {e : Env} {R : Room} {s : State} {m : MethodId} {args : Array Value} {below : List Frame} {meth : Method} {c : Code} {H : Heap} {locs : List Loc} {cells slots : Nat}
variable {y : MethodName} {bytes cc : ByteArray} {maxL nL mc ms n index : Nat} {ret : Option FieldType} {ws : List Cond} {rm : Room} {Pc : Array Value → State → Prop} {Qc : Array Value → State → Outcome → State → Prop} {XC : String → State → State → Prop} {free : Addr → Prop} {Ts : List Cond} {own C : String} {b : Addr} {As rest : List Value} {g : JFrame}
theorem vx_callBack (cb : CallB R s args own index y bytes maxL ret ws rm mc ms n) (hM : vx_Met l y ws rm Pc Qc XC mc ms free) (hbl : FrameBlind Pc) : vx_Back l R p e below s args y 3 8 (PreOf R mc ms Pc) (PostOf Qc mc ms free) (vx_Post XC mc ms free) := by
  obtain ⟨hrc, hrs, hfr, hlo, hws, hcw, -, hini, -⟩ := cb
  exact vx_back (bytes := bytes) (maxL := maxL) (ret := ret) hM hbl hrc hrs hfr hlo hws hcw (fun a' U hW => word_at hW (Or.inl (by first | rfl | simp [Cond.onTables, Cond.keeps, Cond.steady])) hini)
theorem vx_runV (S : CallFix p m c cc nL s args Ts own) (hM : vx_Met l y ws rm Pc Qc XC mc ms free) (cw : CallW R s args own C index y bytes maxL ret ws rm mc ms n) (hp : PreV s H C b Pc As)
    (hg : g.method = m) (hn : As.length = n) (hsize : g.locals.size = nL) (hstack : g.stack = As.reverse ++ .ref b :: rest) (hW : 2 * g.monitorRoom + (rest.map fun v => v.category).sum ≤ 8) (hdg : decode cc g.pc = .ok (.invokevirtual index, 3)) (hf : cells + mc ≤ R.cells ∧ slots + ms ≤ R.slots) :
    vx_Run p l e R s m args below meth c H locs cells slots mc ms g rest (Qc (Value.ref b :: As).toArray) XC free := by
  have hK : vx_Back l R p e below s args y 3 8 (PreOf R mc ms Pc) (PostOf Qc mc ms free) (vx_Post XC mc ms free) := vx_callBack cw.1 hM hp.1
  obtain ⟨⟨-, -, -, -, -, -, hcode, -, hy, hlen, hl⟩, hin, hse⟩ := cw
  obtain ⟨hx, hb, hml, ho, -⟩ := S
  obtain ⟨-, ⟨cellB, hcB, hoB, hclB⟩, hPc⟩ := hp
  intro T hT X
  rcases vx_callV X hx (C := C) (bytes := bytes) (maxL := maxL) (ret := ret) ho hl hin hse hcode hy hK (by rw [hT]; exact hcB) hoB hclB hg (hsize.trans hml.symm) (argsL := As) (rest := rest) (fun sig h => hn.trans (hlen sig h)) hstack hW (by rw [hb]; exact hdg)
    (fun vm₁ hW₁ => ⟨hf.1, hf.2, hPc (T.setVm vm₁) hT hW₁⟩) with ⟨v, vm₁, ⟨U', l2, c2, s2⟩, hW₁, X', ⟨g', mk, t, L, e1, e2, hq, h1, hL, h2, h3⟩, st⟩ | ⟨q, vm₁, ⟨U', l2, c2, s2⟩, hW₁, X', ⟨g', mk, t, L, E, ce, e1, e2, hq, hce, hcv, hcl, h1, hL, h2, h3⟩, st⟩
  · dsimp only [Pt.U, Pt.locs, Pt.cells, Pt.slots] at X' e1 e2 h1 h2 h3 st
    subst h1; subst h2; subst h3
    exact Or.inl ⟨v, (T.setVm vm₁).calling g' mk (Value.ref b :: As).toArray, t, U', L, hT, X', hL, e1, e2, hq, st⟩
  · dsimp only [Pt.U, Pt.locs, Pt.cells, Pt.slots] at X' e1 e2 h1 h2 h3 st hcl
    subst h1; subst h2; subst h3
    exact Or.inr ⟨q, (T.setVm vm₁).calling g' mk (Value.ref b :: As).toArray, t, U', L, E, ce, hT, X', hL, e1, e2, hq, hce, hcv, vx_cls hW₁ hcl, st⟩
theorem vx_runS (S : CallFix p m c cc nL s args Ts own) (hM : vx_Met l y ws rm Pc Qc XC mc ms free) (cw : CallB R s args own index y bytes maxL ret ws rm mc ms n ∧ (Cond.static y).before args s = true) (hp : PreS s H Pc As)
    (hg : g.method = m) (hn : As.length = n) (hsize : g.locals.size = nL) (hstack : g.stack = As.reverse ++ rest) (hW : 2 * g.monitorRoom + (rest.map fun v => v.category).sum ≤ 8) (hdg : decode cc g.pc = .ok (.invokestatic index, 3)) (hf : cells + mc ≤ R.cells ∧ slots + ms ≤ R.slots) :
    vx_Run p l e R s m args below meth c H locs cells slots mc ms g rest (Qc As.toArray) XC free := by
  have hK : vx_Back l R p e below s args y 3 8 (PreOf R mc ms Pc) (PostOf Qc mc ms free) (vx_Post XC mc ms free) := vx_callBack cw.1 hM hp.1
  obtain ⟨⟨-, -, -, -, -, -, hcode, hini, hy, hlen, hl⟩, hstt⟩ := cw
  obtain ⟨hx, hb, hml, ho, -⟩ := S
  intro T hT X
  rcases vx_callS X hx (bytes := bytes) (maxL := maxL) (ret := ret) ho hl hstt hini hcode hy hK hg (hsize.trans hml.symm) (argsL := As) (rest := rest) (fun sig h => hn.trans (hlen sig h)) hstack hW (by rw [hb]; exact hdg)
    (fun vm₁ hW₁ => ⟨hf.1, hf.2, hp.2 (T.setVm vm₁) hT hW₁⟩) with ⟨v, vm₁, ⟨U', l2, c2, s2⟩, hW₁, X', ⟨g', mk, t, L, e1, e2, hq, h1, hL, h2, h3⟩, st⟩ | ⟨q, vm₁, ⟨U', l2, c2, s2⟩, hW₁, X', ⟨g', mk, t, L, E, ce, e1, e2, hq, hce, hcv, hcl, h1, hL, h2, h3⟩, st⟩
  · dsimp only [Pt.U, Pt.locs, Pt.cells, Pt.slots] at X' e1 e2 h1 h2 h3 st
    subst h1; subst h2; subst h3
    exact Or.inl ⟨v, (T.setVm vm₁).calling g' mk As.toArray, t, U', L, hT, X', hL, e1, e2, hq, st⟩
  · dsimp only [Pt.U, Pt.locs, Pt.cells, Pt.slots] at X' e1 e2 h1 h2 h3 st hcl
    subst h1; subst h2; subst h3
    exact Or.inr ⟨q, (T.setVm vm₁).calling g' mk As.toArray, t, U', L, E, ce, hT, X', hL, e1, e2, hq, hce, hcv, vx_cls hW₁ hcl, st⟩
end Runs
section Rows
variable {p : Program} {l : Launch} {e : Env} {R : Room} {s : State} {m : MethodId} {args : Array Value} {below : List Frame} {meth : Method} {c : Code} {H : Heap} {locs : List Loc} {cells slots : Nat} {Q : State → Prop}
variable {mc ms : Nat} {free : Addr → Prop} {A0 A1 : Nat → Prop} {H0 : Heap} {a : Array Value} {pc : Nat} {ls : Array Slot} {st0 rest : List Value}
theorem vx_keep {st₀ t T' : State} {L : List Loc} (h0 : st₀.heap = H) (e1 : T'.heap = t.heap) (hS : va_S A0 H0 H locs) (hA : ∀ q, q < H.size → A1 q → A0 q) (hf : ∀ q, free q → A0 q) (hL : ∀ q ∈ L, free q.base) (hF : va_F A1 st₀ t) :
    H.size ≤ T'.heap.size ∧ (∀ q : Nat, q < H.size → ¬ A1 q → T'.heap[q]? = H[q]?) ∧ va_S A0 H0 T'.heap (locs ++ L) := by
  obtain ⟨hz, hk⟩ := hF
  rw [h0] at hz hk
  exact ⟨by rw [e1]; exact hz, fun q h1 h2 => by rw [e1]; exact hk q h1 h2,
    ⟨Nat.le_trans hS.1 (by rw [e1]; exact hz), fun q h1 h2 => by rw [e1, hk q (Nat.lt_of_lt_of_le h1 hS.1) (fun z => h2 (hA q (Nat.lt_of_lt_of_le h1 hS.1) z))]; exact hS.2.1 q h1 h2, fun q hq => by
      rcases List.mem_append.mp hq with h | h
      · exact hS.2.2 q h
      · exact hf _ (hL q h)⟩⟩
theorem vx_calli {S SX : Type} {post : Int32 → S → Prop} {px : SX → Prop} {B : S → State → Prop} {BX : String → SX → State → Prop} {AX : Nat → Prop} (hr : vx_Run p l e R s m args below meth c H locs cells slots mc ms (F0 m pc ls st0) rest (va_Qi post B A1 a) (vx_X px BX AX) free) (hS : va_S A0 H0 H locs) (hA : ∀ q, q < H.size → A1 q → A0 q) (hf : ∀ q, free q → A0 q) (hAX : ∀ q, q < H.size → AX q → A0 q)
    (kx : ∀ (E : String) (ce : Cell) (q9 : Addr) (u : SX) (t : State) (H1 : Heap) (locs1 : List Loc), t.heap = H1 → s.vm.Alike t.vm → px u → BX E u t → H.size ≤ H1.size → (∀ q : Nat, q < H.size → ¬ AX q → H1[q]? = H[q]?) → va_S A0 H0 H1 locs1 → H1[q9]? = some ce → ce.vm = .none → s.vm.findClass E = some ce.cls → vx_W p l e R s m args below meth c H1 locs1 (cells + mc) (slots + ms) Q (F0 m pc ls rest) q9)
    (kk : ∀ (r : Int32) (u : S) (t : State) (H1 : Heap) (locs1 : List Loc), t.heap = H1 → s.vm.Alike t.vm → post r u → B u t → H.size ≤ H1.size → (∀ q : Nat, q < H.size → ¬ A1 q → H1[q]? = H[q]?) → va_S A0 H0 H1 locs1 → W p l e R s m args below meth c H1 locs1 (cells + mc) (slots + ms) Q (F0 m (pc + 3) ls (.int r :: rest))) : W p l e R s m args below meth c H locs cells slots Q (F0 m pc ls st0) := by
  intro T hT X
  rcases hr T hT X with ⟨v, st₀, t, T', L, h0, X', hL, e1, e2, ⟨⟨r, u, hv, hp, hb⟩, hF⟩, st⟩ | ⟨q, st₀, t, T', L, E, ce, h0, X', hL, e1, e2, ⟨u, hp, hb, hF⟩, hce, hcv, hcl, st⟩
  · cases hv
    obtain ⟨k1, k2, k3⟩ := vx_keep h0 e1 hS hA hf hL hF
    obtain ⟨t2, a1, b1⟩ := kk r u t T'.heap (locs ++ L) e1.symm (by rw [← e2]; exact X'.warmed.alike) hp hb k1 k2 k3 T' rfl X'
    exact ⟨t2, st t2 a1, b1⟩
  · obtain ⟨k1, k2, k3⟩ := vx_keep h0 e1 hS hAX hf hL hF
    obtain ⟨t2, a1, b1⟩ := kx E ce q u t T'.heap (locs ++ L) e1.symm (by rw [← e2]; exact X'.warmed.alike) hp hb k1 k2 k3 (by rw [e1]; exact hce) hcv hcl T' rfl X'
    exact ⟨t2, st.trans a1, b1⟩
theorem vx_calll {S SX : Type} {post : Int64 → S → Prop} {px : SX → Prop} {B : S → State → Prop} {BX : String → SX → State → Prop} {AX : Nat → Prop} (hr : vx_Run p l e R s m args below meth c H locs cells slots mc ms (F0 m pc ls st0) rest (va_Ql post B A1 a) (vx_X px BX AX) free) (hS : va_S A0 H0 H locs) (hA : ∀ q, q < H.size → A1 q → A0 q) (hf : ∀ q, free q → A0 q) (hAX : ∀ q, q < H.size → AX q → A0 q)
    (kx : ∀ (E : String) (ce : Cell) (q9 : Addr) (u : SX) (t : State) (H1 : Heap) (locs1 : List Loc), t.heap = H1 → s.vm.Alike t.vm → px u → BX E u t → H.size ≤ H1.size → (∀ q : Nat, q < H.size → ¬ AX q → H1[q]? = H[q]?) → va_S A0 H0 H1 locs1 → H1[q9]? = some ce → ce.vm = .none → s.vm.findClass E = some ce.cls → vx_W p l e R s m args below meth c H1 locs1 (cells + mc) (slots + ms) Q (F0 m pc ls rest) q9)
    (kk : ∀ (r : Int64) (u : S) (t : State) (H1 : Heap) (locs1 : List Loc), t.heap = H1 → s.vm.Alike t.vm → post r u → B u t → H.size ≤ H1.size → (∀ q : Nat, q < H.size → ¬ A1 q → H1[q]? = H[q]?) → va_S A0 H0 H1 locs1 → W p l e R s m args below meth c H1 locs1 (cells + mc) (slots + ms) Q (F0 m (pc + 3) ls (.long r :: rest))) : W p l e R s m args below meth c H locs cells slots Q (F0 m pc ls st0) := by
  intro T hT X
  rcases hr T hT X with ⟨v, st₀, t, T', L, h0, X', hL, e1, e2, ⟨⟨r, u, hv, hp, hb⟩, hF⟩, st⟩ | ⟨q, st₀, t, T', L, E, ce, h0, X', hL, e1, e2, ⟨u, hp, hb, hF⟩, hce, hcv, hcl, st⟩
  · cases hv
    obtain ⟨k1, k2, k3⟩ := vx_keep h0 e1 hS hA hf hL hF
    obtain ⟨t2, a1, b1⟩ := kk r u t T'.heap (locs ++ L) e1.symm (by rw [← e2]; exact X'.warmed.alike) hp hb k1 k2 k3 T' rfl X'
    exact ⟨t2, st t2 a1, b1⟩
  · obtain ⟨k1, k2, k3⟩ := vx_keep h0 e1 hS hAX hf hL hF
    obtain ⟨t2, a1, b1⟩ := kx E ce q u t T'.heap (locs ++ L) e1.symm (by rw [← e2]; exact X'.warmed.alike) hp hb k1 k2 k3 (by rw [e1]; exact hce) hcv hcl T' rfl X'
    exact ⟨t2, st.trans a1, b1⟩
theorem vx_callf {S SX : Type} {post : UInt32 → S → Prop} {px : SX → Prop} {B : S → State → Prop} {BX : String → SX → State → Prop} {AX : Nat → Prop} (hr : vx_Run p l e R s m args below meth c H locs cells slots mc ms (F0 m pc ls st0) rest (va_Qf post B A1 a) (vx_X px BX AX) free) (hS : va_S A0 H0 H locs) (hA : ∀ q, q < H.size → A1 q → A0 q) (hf : ∀ q, free q → A0 q) (hAX : ∀ q, q < H.size → AX q → A0 q)
    (kx : ∀ (E : String) (ce : Cell) (q9 : Addr) (u : SX) (t : State) (H1 : Heap) (locs1 : List Loc), t.heap = H1 → s.vm.Alike t.vm → px u → BX E u t → H.size ≤ H1.size → (∀ q : Nat, q < H.size → ¬ AX q → H1[q]? = H[q]?) → va_S A0 H0 H1 locs1 → H1[q9]? = some ce → ce.vm = .none → s.vm.findClass E = some ce.cls → vx_W p l e R s m args below meth c H1 locs1 (cells + mc) (slots + ms) Q (F0 m pc ls rest) q9)
    (kk : ∀ (r : UInt32) (u : S) (t : State) (H1 : Heap) (locs1 : List Loc), t.heap = H1 → s.vm.Alike t.vm → post r u → B u t → H.size ≤ H1.size → (∀ q : Nat, q < H.size → ¬ A1 q → H1[q]? = H[q]?) → va_S A0 H0 H1 locs1 → W p l e R s m args below meth c H1 locs1 (cells + mc) (slots + ms) Q (F0 m (pc + 3) ls (.float r :: rest))) : W p l e R s m args below meth c H locs cells slots Q (F0 m pc ls st0) := by
  intro T hT X
  rcases hr T hT X with ⟨v, st₀, t, T', L, h0, X', hL, e1, e2, ⟨⟨r, u, hv, hp, hb⟩, hF⟩, st⟩ | ⟨q, st₀, t, T', L, E, ce, h0, X', hL, e1, e2, ⟨u, hp, hb, hF⟩, hce, hcv, hcl, st⟩
  · cases hv
    obtain ⟨k1, k2, k3⟩ := vx_keep h0 e1 hS hA hf hL hF
    obtain ⟨t2, a1, b1⟩ := kk r u t T'.heap (locs ++ L) e1.symm (by rw [← e2]; exact X'.warmed.alike) hp hb k1 k2 k3 T' rfl X'
    exact ⟨t2, st t2 a1, b1⟩
  · obtain ⟨k1, k2, k3⟩ := vx_keep h0 e1 hS hAX hf hL hF
    obtain ⟨t2, a1, b1⟩ := kx E ce q u t T'.heap (locs ++ L) e1.symm (by rw [← e2]; exact X'.warmed.alike) hp hb k1 k2 k3 (by rw [e1]; exact hce) hcv hcl T' rfl X'
    exact ⟨t2, st.trans a1, b1⟩
theorem vx_calld {S SX : Type} {post : UInt64 → S → Prop} {px : SX → Prop} {B : S → State → Prop} {BX : String → SX → State → Prop} {AX : Nat → Prop} (hr : vx_Run p l e R s m args below meth c H locs cells slots mc ms (F0 m pc ls st0) rest (va_Qd post B A1 a) (vx_X px BX AX) free) (hS : va_S A0 H0 H locs) (hA : ∀ q, q < H.size → A1 q → A0 q) (hf : ∀ q, free q → A0 q) (hAX : ∀ q, q < H.size → AX q → A0 q)
    (kx : ∀ (E : String) (ce : Cell) (q9 : Addr) (u : SX) (t : State) (H1 : Heap) (locs1 : List Loc), t.heap = H1 → s.vm.Alike t.vm → px u → BX E u t → H.size ≤ H1.size → (∀ q : Nat, q < H.size → ¬ AX q → H1[q]? = H[q]?) → va_S A0 H0 H1 locs1 → H1[q9]? = some ce → ce.vm = .none → s.vm.findClass E = some ce.cls → vx_W p l e R s m args below meth c H1 locs1 (cells + mc) (slots + ms) Q (F0 m pc ls rest) q9)
    (kk : ∀ (r : UInt64) (u : S) (t : State) (H1 : Heap) (locs1 : List Loc), t.heap = H1 → s.vm.Alike t.vm → post r u → B u t → H.size ≤ H1.size → (∀ q : Nat, q < H.size → ¬ A1 q → H1[q]? = H[q]?) → va_S A0 H0 H1 locs1 → W p l e R s m args below meth c H1 locs1 (cells + mc) (slots + ms) Q (F0 m (pc + 3) ls (.double r :: rest))) : W p l e R s m args below meth c H locs cells slots Q (F0 m pc ls st0) := by
  intro T hT X
  rcases hr T hT X with ⟨v, st₀, t, T', L, h0, X', hL, e1, e2, ⟨⟨r, u, hv, hp, hb⟩, hF⟩, st⟩ | ⟨q, st₀, t, T', L, E, ce, h0, X', hL, e1, e2, ⟨u, hp, hb, hF⟩, hce, hcv, hcl, st⟩
  · cases hv
    obtain ⟨k1, k2, k3⟩ := vx_keep h0 e1 hS hA hf hL hF
    obtain ⟨t2, a1, b1⟩ := kk r u t T'.heap (locs ++ L) e1.symm (by rw [← e2]; exact X'.warmed.alike) hp hb k1 k2 k3 T' rfl X'
    exact ⟨t2, st t2 a1, b1⟩
  · obtain ⟨k1, k2, k3⟩ := vx_keep h0 e1 hS hAX hf hL hF
    obtain ⟨t2, a1, b1⟩ := kx E ce q u t T'.heap (locs ++ L) e1.symm (by rw [← e2]; exact X'.warmed.alike) hp hb k1 k2 k3 (by rw [e1]; exact hce) hcv hcl T' rfl X'
    exact ⟨t2, st.trans a1, b1⟩
theorem vx_callv {S SX : Type} {post : S → Prop} {px : SX → Prop} {B : S → State → Prop} {BX : String → SX → State → Prop} {AX : Nat → Prop} (hr : vx_Run p l e R s m args below meth c H locs cells slots mc ms (F0 m pc ls st0) rest (va_Qv post B A1 a) (vx_X px BX AX) free) (hS : va_S A0 H0 H locs) (hA : ∀ q, q < H.size → A1 q → A0 q) (hf : ∀ q, free q → A0 q) (hAX : ∀ q, q < H.size → AX q → A0 q)
    (kx : ∀ (E : String) (ce : Cell) (q9 : Addr) (u : SX) (t : State) (H1 : Heap) (locs1 : List Loc), t.heap = H1 → s.vm.Alike t.vm → px u → BX E u t → H.size ≤ H1.size → (∀ q : Nat, q < H.size → ¬ AX q → H1[q]? = H[q]?) → va_S A0 H0 H1 locs1 → H1[q9]? = some ce → ce.vm = .none → s.vm.findClass E = some ce.cls → vx_W p l e R s m args below meth c H1 locs1 (cells + mc) (slots + ms) Q (F0 m pc ls rest) q9)
    (kk : ∀ (u : S) (t : State) (H1 : Heap) (locs1 : List Loc), t.heap = H1 → s.vm.Alike t.vm → post u → B u t → H.size ≤ H1.size → (∀ q : Nat, q < H.size → ¬ A1 q → H1[q]? = H[q]?) → va_S A0 H0 H1 locs1 → W p l e R s m args below meth c H1 locs1 (cells + mc) (slots + ms) Q (F0 m (pc + 3) ls (rest))) : W p l e R s m args below meth c H locs cells slots Q (F0 m pc ls st0) := by
  intro T hT X
  rcases hr T hT X with ⟨v, st₀, t, T', L, h0, X', hL, e1, e2, ⟨⟨u, hv, hp, hb⟩, hF⟩, st⟩ | ⟨q, st₀, t, T', L, E, ce, h0, X', hL, e1, e2, ⟨u, hp, hb, hF⟩, hce, hcv, hcl, st⟩
  · cases hv
    obtain ⟨k1, k2, k3⟩ := vx_keep h0 e1 hS hA hf hL hF
    obtain ⟨t2, a1, b1⟩ := kk u t T'.heap (locs ++ L) e1.symm (by rw [← e2]; exact X'.warmed.alike) hp hb k1 k2 k3 T' rfl X'
    exact ⟨t2, st t2 a1, b1⟩
  · obtain ⟨k1, k2, k3⟩ := vx_keep h0 e1 hS hAX hf hL hF
    obtain ⟨t2, a1, b1⟩ := kx E ce q u t T'.heap (locs ++ L) e1.symm (by rw [← e2]; exact X'.warmed.alike) hp hb k1 k2 k3 (by rw [e1]; exact hce) hcv hcl T' rfl X'
    exact ⟨t2, st.trans a1, b1⟩
/-- caught by the row x of this method's table; the rows ahead don't take it -/
theorem vx_catch {own name : String} {E : String} {ce : Cell} {q : Addr} (hown : s.vm.findClass own = some m.cls) (pre : List ExceptionTableEntry) (x : ExceptionTableEntry) (suf : List ExceptionTableEntry) (hsplit : c.exceptionTable.toList = pre ++ x :: suf)
    (hpass : ∀ z ∈ pre, covers z pc = false ∨ (z.catchType ≠ 0 ∧ ∃ nm : String, (Cond.classLink own z.catchType nm).before args s = true ∧ va_Nc E nm s)) (hx : covers x pc = true) (h0 : x.catchType ≠ 0)
    (hlink : (Cond.classLink own x.catchType name).before args s = true) (hcast : (Cond.castable E name).before args s = true) (hcell : H[q]? = some ce) (hv : ce.vm = .none) (hcl : s.vm.findClass E = some ce.cls)
    (kk : W p l e R s m args below meth c H locs cells slots Q (F0 m x.handlerPc ls [.ref q])) : vx_W p l e R s m args below meth c H locs cells slots Q (F0 m pc ls rest) q := by
  intro T hT X
  have hpl : e.platform.magicAccessors = ({} : Platform).magicAccessors := by rw [X.admits.platform]
  obtain ⟨c3, c4, hc3, hc4, hasg⟩ := Cond.castable_spec hcast
  cases Option.some.inj (hc3.symm.trans hcl)
  obtain ⟨c5, hc5, hcl5⟩ := Cond.classLink_spec hown hlink e.platform hpl
  cases Option.some.inj (hc4.symm.trans hc5)
  obtain ⟨vm', X', st⟩ := X.thenCaughtThrough q (g := F0 m pc ls rest) rfl (Steps.refl _) (by rw [hT]; exact hcell) (by rw [hv]; rfl) (by obtain ⟨k9, h9, -⟩ := Vm.findClass_spec hcl; exact ⟨k9, h9⟩) pre x suf hsplit
    (fun z hz => by
      rcases hpass z hz with h | ⟨hz0, nm, hl1, hn1⟩
      · exact Or.inl h
      · obtain ⟨c6, hc6, hcl6⟩ := Cond.classLink_spec hown hl1 e.platform hpl
        obtain ⟨a8, b8, h1, h2, h3⟩ := hn1
        cases Option.some.inj (h1.symm.trans hcl)
        cases Option.some.inj (h2.symm.trans hc6)
        exact Or.inr ⟨hz0, _, hcl6, h3⟩) hx (Or.inr ⟨h0, c4, hcl5, hasg⟩)
  obtain ⟨t, a1, b1⟩ := kk (T.setVm vm') hT X'
  exact ⟨t, st.trans a1, b1⟩
end Rows
section Ends
variable {p : Program} {l : Launch} {e : Env} {R : Room} {s : State} {m : MethodId} {args : Array Value} {below : List Frame} {meth : Method} {c : Code} {H : Heap} {locs : List Loc} {cells slots : Nat} {Q : State → Prop}
variable {mc ms : Nat} {free : Addr → Prop} {A0 A1 : Nat → Prop} {H0 : Heap} {a : Array Value} {ls : Array Slot} {st0 rest : List Value}
variable {Qc : Array Value → State → Outcome → State → Prop} {XC : String → State → State → Prop}
/-- what a body that may throw owes at its end -/
def vx_MQ (below : List Frame) (Qc : Array Value → State → Outcome → State → Prop) (XC : String → State → State → Prop) (a : Array Value) (s : State) (mc ms : Nat) (free : Addr → Prop) : State → Prop := fun t =>
  ∃ o, t.status = .running ∧ Ended t below o ∧ vx_Q Qc XC mc ms free a s o t
theorem vx_ret {g : JFrame} {mc ms : Nat} (k : W p l e R s m args below meth c H locs cells slots (MQ below Qc args s mc ms free) g) : W p l e R s m args below meth c H locs cells slots (vx_MQ below Qc XC args s mc ms free) g := by
  intro T hT X
  obtain ⟨t, a1, o, b1, b2, b3, b4⟩ := k T hT X
  exact ⟨t, a1, o, b1, b2, Or.inl ⟨b3, b4⟩⟩
/-- not caught here: it goes on to the caller -/
theorem vx_widen {g : JFrame} {q : Addr} {k n : Nat} (h1 : cells ≤ k) (h2 : slots ≤ n) (kk : vx_W p l e R s m args below meth c H locs k n Q g q) : vx_W p l e R s m args below meth c H locs cells slots Q g q := fun T hT X => kk T hT (stand_widen X h1 h2)
theorem vx_out {pc : Nat} {E : String} {ce : Cell} {q : Addr} {mc ms : Nat} (hout : ∀ x ∈ c.exceptionTable.toList, covers x pc = false) (hlocks : meth.locks = false) (hcell : H[q]? = some ce) (hv : ce.vm = .none) (hcl : s.vm.findClass E = some ce.cls)
    (hx : ∀ t : State, t.heap = H → s.vm.Alike t.vm → XC E s t) (hf : ∀ z ∈ locs, free z.base) (hc : cells ≤ mc) (hs : slots ≤ ms) :
    vx_W p l e R s m args below meth c H locs cells slots (vx_MQ below Qc XC args s mc ms free) (F0 m pc ls rest) q := by
  intro T hT X
  obtain ⟨st1, hrun, hend, hW, hsm⟩ := X.leaveThrown q (g := F0 m pc ls rest) rfl rfl rfl hout hlocks
  have hcell9 : (T.setFrames (.throwing q :: below)).heap[q]? = some ce := by
    show T.heap[q]? = some ce
    rw [hT]; exact hcell
  exact ⟨_, st1, .threw q, hrun, hend, Or.inr ⟨q, rfl, E, ce, locs, hx _ hT hW.alike, hcell9, hv, hcl, hW, hsm.mono hc hs, hf⟩⟩
theorem vx_frame {U : State} {k n : Nat} (h : s.sameButNew ({ U with vm := s.vm } : State) locs k n) : s.heap.size ≤ U.heap.size ∧ ∀ q : Nat, q < s.heap.size → (∀ z ∈ locs, z.base ≠ q) → U.heap[q]? = s.heap[q]? := by
  obtain ⟨-, h2, -, -, -, h6⟩ := h
  refine ⟨h2, fun q hq hz => ?_⟩
  obtain ⟨c9, e1, e2, e3, e4⟩ := h6 q _ (Array.getElem?_eq_getElem hq)
  have hs : c9.slots = (s.heap[q]).slots := Array.ext_getElem? fun i => e4 i fun hm => hz _ hm rfl
  have h9 : c9 = s.heap[q] := by
    rw [hs] at e2
    exact e2
  have e5 : U.heap[q]? = some c9 := e1
  rw [e5, h9, Array.getElem?_eq_getElem hq]
/-- the words of a throw but the four that speak of the heap -/
def vx_no (w : Cond) : Bool := decide (w ≠ .isRef (.static Bundle.tN "UNASSIGNED_STACK" Bundle.steD)) && decide (w ≠ .isRef (.static Bundle.tN "SUPPRESSED_SENTINEL" Bundle.listD)) && decide (w ≠ .laysStatic Bundle.tN "UNASSIGNED_STACK" Bundle.steD) && decide (w ≠ .laysStatic Bundle.tN "SUPPRESSED_SENTINEL" Bundle.listD)
def vx_at0 (own : String) (ic : Nat) (X : String) (names : List String) : List Cond := (Bundle.ownAtoms0 own ic X names).filter vx_no
def vx_atS (own : String) (ic : Nat) (X : String) (names : List String) : List Cond := (Bundle.ownAtoms own ic X names).filter vx_no
/-- a word that the tables alone decide, or a good one -/
def vx_ot (w : Cond) : Bool := w.onTables || goodWord w
theorem vx_ot_at {args a' : Array Value} {s U : State} {w : Cond} (hW : s.WarmedH U.vm) (hvm : s.vm = U.vm) (hg : vx_ot w = true) (h : w.before args s = true) : w.before a' U = true := by
  simp only [vx_ot, Bool.or_eq_true] at hg
  rcases hg with hg | hg
  · exact va_tabs hg hvm h
  · exact word_at hW (good_of_word hg) h
/-- a list's words: the good ones out of the method's own list, the others by premises of their own -/
theorem vx_hat {args : Array Value} {s : State} {L B : List Cond} (h1 : ∀ w ∈ L.filter goodWord, w.before args s = true) (h2 : ∀ w ∈ L.filter (fun w => !goodWord w), w ∈ B) (h3 : ∀ w ∈ B, w.before args s = true) : ∀ w ∈ L, w.before args s = true := by
  intro w hw
  by_cases g : goodWord w = true
  · exact h1 w (List.mem_filter.mpr ⟨hw, g⟩)
  · refine h3 w (h2 w (List.mem_filter.mpr ⟨hw, ?_⟩))
    show (!goodWord w) = true
    cases hgw : goodWord w
    · rfl
    · exact absurd hgw g
theorem vx_c {args : Array Value} {s : State} {w : Cond} {B : List Cond} (h : w.before args s = true) (t : ∀ w ∈ B, w.before args s = true) : ∀ w' ∈ w :: B, w'.before args s = true := fun w' h' => (List.mem_cons.mp h').elim (fun e => by rw [e]; exact h) (t w')
theorem vx_n {args : Array Value} {s : State} : ∀ w ∈ ([] : List Cond), w.before args s = true := fun _ h => nomatch h
theorem vx_own {args : Array Value} {s : State} {L : List Cond} (h1 : ∀ w ∈ L.filter vx_no, w.before args s = true)
    (hU : (Cond.isRef (.static Bundle.tN "UNASSIGNED_STACK" Bundle.steD)).before args s = true) (hN : (Cond.isRef (.static Bundle.tN "SUPPRESSED_SENTINEL" Bundle.listD)).before args s = true)
    (lU : (Cond.laysStatic Bundle.tN "UNASSIGNED_STACK" Bundle.steD).before args s = true) (lN : (Cond.laysStatic Bundle.tN "SUPPRESSED_SENTINEL" Bundle.listD).before args s = true) : ∀ w ∈ L, w.before args s = true := by
  intro w hw
  by_cases e1 : w = .isRef (.static Bundle.tN "UNASSIGNED_STACK" Bundle.steD)
  · rw [e1]; exact hU
  · by_cases e2 : w = .isRef (.static Bundle.tN "SUPPRESSED_SENTINEL" Bundle.listD)
    · rw [e2]; exact hN
    · by_cases e3 : w = .laysStatic Bundle.tN "UNASSIGNED_STACK" Bundle.steD
      · rw [e3]; exact lU
      · by_cases e4 : w = .laysStatic Bundle.tN "SUPPRESSED_SENTINEL" Bundle.listD
        · rw [e4]; exact lN
        · exact h1 w (List.mem_filter.mpr ⟨hw, by unfold vx_no; rw [decide_eq_true e1, decide_eq_true e2, decide_eq_true e3, decide_eq_true e4]; rfl⟩)
/-- where a static field lies, its class's statics cell in H -/
def vx_L (C n d : String) (A : Nat → Prop) (U : State) (H : Heap) : Prop := ∃ (c : ClassId) (k : Class) (i : Nat) (f : Field) (a : Nat) (cell : Cell), U.vm.findClass C = some c ∧ U.fieldFound? C n d = some (c, k, i, f) ∧ f.isStatic = true ∧ k.statics = some a ∧ H[a]? = some cell ∧ cell.vm.isStatics = true ∧ cell.cls = c ∧ f.slot < cell.slots.size ∧ k.staticTypes[f.slot]? = some f.type ∧ ¬ A a
theorem vx_L.moved {C n d : String} {A : Nat → Prop} {u U : State} {H : Heap} (hvm : u.vm.Alike U.vm) (h : vx_L C n d A u H) : vx_L C n d A U H := by
  obtain ⟨c, k, i, f, a, cell, h1, h2, h3, h4, h5, h6, h7, h8, h9, h10⟩ := h
  obtain ⟨k', hi', he⟩ := State.fieldFound?_setVm hvm h2
  exact ⟨c, k', i, f, a, cell, by rw [hvm.findClass]; exact h1, hi', h3, by rw [he]; exact h4, h5, h6, h7, h8, by rw [he]; exact h9, h10⟩
theorem vx_L.kept {C n d : String} {A : Nat → Prop} {U : State} {H H1 : Heap} (h : vx_L C n d A U H) (hq : ∀ a : Nat, a < H.size → ¬ A a → H1[a]? = H[a]?) : vx_L C n d A U H1 := by
  obtain ⟨c, k, i, f, a, cell, h1, h2, h3, h4, h5, h6, h7, h8, h9, h10⟩ := h
  exact ⟨c, k, i, f, a, cell, h1, h2, h3, h4, by rw [hq a (Array.getElem?_eq_some_iff.mp h5).1 h10]; exact h5, h6, h7, h8, h9, h10⟩
theorem vx_L.narrow {C n d : String} {A B : Nat → Prop} {U : State} {H : Heap} (h : vx_L C n d A U H) (hAB : ∀ q, B q → A q) : vx_L C n d B U H := by
  obtain ⟨c, k, i, f, a, cell, h1, h2, h3, h4, h5, h6, h7, h8, h9, h10⟩ := h
  exact ⟨c, k, i, f, a, cell, h1, h2, h3, h4, h5, h6, h7, h8, h9, fun z => h10 (hAB _ z)⟩
theorem vx_L.word {C n d : String} {A : Nat → Prop} {s : State} {args : Array Value} (h : vx_L C n d A s s.heap) : (Cond.laysStatic C n d).before args s = true := by
  obtain ⟨c, k, i, f, a, cell, h1, h2, h3, h4, h5, h6, h7, h8, h9, -⟩ := h
  show (Cond.laysStatic C n d).holds args s none s [] = true
  exact Cond.laysStatic_of h1 h2 h3 h4 h5 h6 h7 h8 h9
/-- .. and what it holds: null or some reference -/
def vx_Zq (C n d : String) (A : Nat → Prop) (U : State) (H : Heap) : Prop := va_Zq C n d A U H ∧ vx_L C n d A U H
theorem vx_Zq.moved {C n d : String} {A : Nat → Prop} {u U : State} {H : Heap} (hvm : u.vm.Alike U.vm) (h : vx_Zq C n d A u H) : vx_Zq C n d A U H := ⟨va_Zq.moved hvm h.1, vx_L.moved hvm h.2⟩
theorem vx_Zq.kept {C n d : String} {A : Nat → Prop} {U : State} {H H1 : Heap} (h : vx_Zq C n d A U H) (hq : ∀ a : Nat, a < H.size → ¬ A a → H1[a]? = H[a]?) : vx_Zq C n d A U H1 := ⟨va_Zq.kept h.1 hq, vx_L.kept h.2 hq⟩
theorem vx_Zq.narrow {C n d : String} {A B : Nat → Prop} {U : State} {H : Heap} (h : vx_Zq C n d A U H) (hAB : ∀ q, B q → A q) : vx_Zq C n d B U H := ⟨va_Zq.narrow h.1 hAB, vx_L.narrow h.2 hAB⟩
theorem vx_Zqof {args : Array Value} {s : State} {C n d : String} {A : Nat → Prop} (hl : (Cond.laysStatic C n d).before args s = true) (hini : (Cond.initialized C).before args s = true) (h : (Cond.isRef (.static C n d)).before args s = true) (hA : ∀ a : Nat, a < s.heap.size → ¬ A a) : vx_Zq C n d A s s.heap := by
  refine ⟨va_Zqof hl hini h hA, ?_⟩
  obtain ⟨c, k, i, f, a, cell, h1, h2, h3, h4, h5, h6, h7, h8, h9⟩ := Cond.laysStatic_spec hl
  exact ⟨c, k, i, f, a, cell, h1, h2, h3, h4, h5, h6, h7, h8, h9, hA a (Array.getElem?_eq_some_iff.mp h5).1⟩
theorem vx_isRef {C n d : String} {v : Value} {A : Nat → Prop} {s : State} {args : Array Value} (h : va_Z C n d v A s s.heap) (hv : v.isRef = true) : (Cond.isRef (.static C n d)).before args s = true := by
  obtain ⟨cf, kf, fi, f, a, cell, h1, h2, h3, h4, h5, h6, h7, -⟩ := h
  have he : (Term.static C n d).eval args s none [] s = some v := by
    simp [Term.eval, State.fieldNamed?, h1, h2, h4, h5, h6, h7]
  simp only [Cond.before, Cond.holds, Cond.value, he]
  cases v <;> simp_all [Value.isRef]
theorem vx_isRefq {C n d : String} {A : Nat → Prop} {s : State} {args : Array Value} (h : va_Zq C n d A s s.heap) : (Cond.isRef (.static C n d)).before args s = true := by
  rcases h with h | ⟨t, h⟩
  · exact vx_isRef h rfl
  · exact vx_isRef h rfl
/-- the same frame, seen from here: as if the method were called anew in this heap -/
theorem vx_rebase {T : State} (X : Stand p l e R s m args below meth c T locs cells slots) {R' : Room} (hf : R'.frames ≤ R.frames) (hl : R'.locals ≤ R.locals) (hc : cells + R'.cells ≤ R.cells) (hs : slots + R'.slots ≤ R.slots) :
    Stand p l e R' ((T.setVm s.vm).setFrames (.invoking m args :: below)) m args below meth c T [] 0 0 := by
  have htop : (T.setVm s.vm).topJava?.isSome := X.here.top
  have hF : ((T.setVm s.vm).setFrames (.invoking m args :: below)).frames = .invoking m args :: below := State.frames_setFrames _ (State.cur_lt_of_top htop)
  obtain ⟨g₀, hg0⟩ := Option.isSome_iff_exists.mp htop
  obtain ⟨r, hr⟩ := State.topJava?_eq_some.mp hg0
  have hl9 : e.platform.stackLimits (T.setVm s.vm).me = e.platform.stackLimits s.me := X.limits
  have hb9 : (T.setVm s.vm).me.stackBytes = s.me.stackBytes := X.bytes
  refine ⟨X.admits, X.cas, X.clock, hF, ?_, X.hears, X.method, X.code, X.here, X.tail, X.warmed, ?_, ?_, ?_⟩
  · have h := X.room
    have hU : ((T.setVm s.vm).setFrames (.invoking m args :: below)).localsInUse = s.localsInUse := by
      rw [State.localsInUse_invoking hF (meth := meth) (c := c) X.method X.code, State.localsInUse_invoking X.frames X.method X.code]
    simp only [State.hasRoom, Bool.and_eq_true, decide_eq_true_eq] at h ⊢
    obtain ⟨⟨⟨⟨h1, h2, h3, h4, h5, h6⟩, h7⟩, h8⟩, h9⟩ := h
    rw [X.frames, List.length_cons] at h2 h3
    have q1 := X.heapSize
    have q2 := X.used
    simp only [hF, hU, List.length_cons, State.stackLimits_setFrames, State.stackBytes_setFrames, hl9, hb9]
    refine ⟨⟨⟨⟨by omega, by omega, by omega, by omega, by omega, h6⟩, ?_⟩, ?_⟩, X.book⟩
    · show T.heap.size + R'.cells ≤ e.platform.maxCells
      omega
    · show T.slotsUsed + R'.slots ≤ e.platform.maxSlots
      omega
  · rw [State.stackLimits_setFrames]; rfl
  · rw [State.stackBytes_setFrames]; rfl
  · refine ⟨?_, Nat.le_refl _, Nat.le_refl _, ?_, ?_, fun a c9 h9 => ⟨c9, h9, rfl, rfl, fun _ _ => rfl⟩⟩
    · obtain ⟨t, ht, -⟩ := State.frames_cons hr
      show T.setVm s.vm = { ((T.setVm s.vm).setFrames (.invoking m args :: below)).setFrames (T.setVm s.vm).frames with heap := T.heap, slotsUsed := T.slotsUsed }
      rw [State.setFrames_setFrames, State.setFrames_self ht]
      rfl
    · show T.slotsUsed = T.slotsUsed + ((T.heap.toList.drop T.heap.size).map (·.slots.size)).sum
      rw [List.drop_eq_nil_of_le (Nat.le_of_eq Array.length_toList)]
      rfl
    · show ((T.heap.toList.drop T.heap.size).map (·.slots.size)).sum ≤ 0
      rw [List.drop_eq_nil_of_le (Nat.le_of_eq Array.length_toList)]
      exact Nat.le_refl _
/-- 'throw new E()': new; dup; invokespecial; athrow -/
theorem vx_throw0 {cc : ByteArray} {pc : Nat} (hexec : p.tables.exec = Jvm.exec) (hb : c.code = cc) (hl : l.stackTraces = false) {own cls : String} {names : List String} {ik ic mc ms : Nat} {A : Nat → Prop}
    (hown : s.vm.findClass own = some m.cls) (hcls : Bundle.fit cls = true) (hnames : ∀ n ∈ names, Bundle.fit n = true)
    (hk : (Cond.classLink own ik cls).before args s = true) (hini : (Cond.initialized cls).before args s = true) (hat : ∀ w ∈ vx_at0 own ic cls names, w.before args s = true)
    (hgood : ∀ w ∈ Cond.classLink own ik cls :: Cond.initialized cls :: vx_at0 own ic cls names, vx_ot w = true)
    (hU : vx_Zq Bundle.tN "UNASSIGNED_STACK" Bundle.steD A s s.heap) (hN : vx_Zq Bundle.tN "SUPPRESSED_SENTINEL" Bundle.listD A s s.heap) (hS : va_S A s.heap H locs) (hsize : ls.size = c.maxLocals)
    (d0 : decode cc pc = .ok (.new ik, 3)) (d3 : decode cc (pc + 3) = .ok (.dup, 1)) (d4 : decode cc (pc + 4) = .ok (.invokespecial ic, 3)) (d7 : decode cc (pc + 7) = .ok (.athrow, 1))
    (hout : ∀ x ∈ c.exceptionTable.toList, covers x (pc + 7) = false)
    (hRframes : names.length + 3 < R.frames) (hRlocals : (rest.map fun v => v.category).sum + (13 * (names.length + 1) + 42) ≤ R.locals) (hRcells : cells + 1 ≤ R.cells) (hRslots : slots + 6 ≤ R.slots) (hlocks : meth.locks = false)
    (hx : ∀ t : State, s.vm.Alike t.vm → H.size ≤ t.heap.size → (∀ q : Nat, q < H.size → t.heap[q]? = H[q]?) → XC cls s t)
    (hf : ∀ z ∈ locs, free z.base) (hc : cells + 1 ≤ mc) (hs : slots + 6 ≤ ms) :
    W p l e R s m args below meth c H locs cells slots (vx_MQ below Qc XC args s mc ms free) (F0 m pc ls rest) := by
  intro T hT X
  have htr : e.platform.stackTraces = false := (show e.platform.stackTraces = l.stackTraces by rw [X.admits.platform]).trans hl
  have Y := vx_rebase X (R' := { frames := R.frames, locals := R.locals, cells := 1, slots := 6 }) (Nat.le_refl _) (Nat.le_refl _) hRcells hRslots
  obtain ⟨s', hA⟩ : ∃ z, z = (T.setVm s.vm).setFrames (.invoking m args :: below) := ⟨_, rfl⟩
  rw [← hA] at Y
  have hvm : s'.vm = s.vm := by rw [hA]; rfl
  have hhp : s'.heap = H := by rw [hA]; exact hT
  have hW0 : s.WarmedH s'.vm := by rw [hvm]; exact State.WarmedH.refl s
  have hat' : ∀ w ∈ vx_at0 own ic cls names, w.before args s' = true := fun w hw => vx_ot_at hW0 hvm.symm (hgood w (List.mem_cons_of_mem _ (List.mem_cons_of_mem _ hw))) (hat w hw)
  have hk' : (Cond.classLink own ik cls).before args s' = true := vx_ot_at hW0 hvm.symm (hgood _ List.mem_cons_self) hk
  have hini' : (Cond.initialized cls).before args s' = true := vx_ot_at hW0 hvm.symm (hgood _ (List.mem_cons_of_mem _ List.mem_cons_self)) hini
  have hU' : vx_Zq Bundle.tN "UNASSIGNED_STACK" Bundle.steD A s' s'.heap := by rw [hhp]; exact vx_Zq.moved hW0.alike (hU.kept hS.2.1)
  have hN' : vx_Zq Bundle.tN "SUPPRESSED_SENTINEL" Bundle.listD A s' s'.heap := by rw [hhp]; exact vx_Zq.moved hW0.alike (hN.kept hS.2.1)
  have h : ∀ w ∈ Bundle.ownAtoms0 own ic cls names, w.before args s' = true := vx_own hat' (vx_isRefq hU'.1) (vx_isRefq hN'.1) hU'.2.word hN'.2.word
  have hown' : s'.vm.findClass own = some m.cls := by rw [hvm]; exact hown
  have hins : (Cond.instantiable cls 6).before args s' = true := h _ (by simp [Bundle.ownAtoms0])
  obtain ⟨vm₁, cX, kX, hfX, hkX, -, -, X₁, st1⟩ := Y.newCold hexec (own := own) (C := cls) (index := ik) (n := 6) hown' hk' hins hini'
    (g := F0 m pc ls rest) rfl (by rw [hb]; exact d0) (Nat.le_refl _) (Nat.le_refl _)
  generalize hT1 : (T.setVm vm₁).pushCell { cls := cX, slots := kX.instanceTypes.map defaultValue, vm := .none } = T1 at X₁ st1
  have hcat : (Value.ref T.heap.size).category = 1 := rfl
  have hcellA : T1.heap[T.heap.size]? = some (freshCell cX kX) := by rw [← hT1]; exact State.heap_pushCell_size _ _
  have d3' : decode c.code (pc + 3) = .ok (.dup, 1) := by rw [hb]; exact d3
  obtain ⟨U, hsteps, hrun, hend, hW, hsame, ce, hce, hO⟩ := X₁.ctorThrow0 hexec htr (own := own) (cls := cls) (names := names) (ic := ic) hown' hcls hnames h (fun x hx => nomatch hx) hfX hkX hcellA (by rw [hhp, hT]; exact Nat.le_refl _)
    (g := { method := m, pc := pc + 4, locals := ls, stack := .ref T.heap.size :: .ref T.heap.size :: rest, locked := none }) rfl hsize rfl rfl (rest := rest) rfl
    (by rw [hb]; exact d4) (by rw [hb]; exact d7) hout hRframes (by simp only [List.map_cons, List.sum_cons, hcat]; omega) hlocks
  obtain ⟨f1, f2⟩ := vx_frame hsame
  rw [hhp] at f1 f2
  have hWs : s.WarmedH U.vm := State.WarmedH.trans hW0 hW
  have hcl : s.vm.findClass cls = some ce.cls := by
    have h9 := hO.cls
    rw [hvm] at h9
    exact h9
  have hall : s.sameButNew ({ U with vm := s.vm } : State) locs mc ms := by
    subst hA
    obtain ⟨e1, e2⟩ := hsame
    rw [State.setFrames_setFrames] at e1
    have h2 : (T.setVm s.vm).sameButNew ({ U with vm := s.vm } : State) [] (0 + 1) (0 + 6) := ⟨e1, e2⟩
    have h3 := X.same.trans h2
    rw [List.append_nil] at h3
    exact h3.mono hc hs
  refine ⟨U, ?_, .threw T.heap.size, hrun, hend, Or.inr ⟨T.heap.size, rfl, cls, ce, locs, hx U hWs.alike f1 (fun q hq => f2 q hq (fun z hz => nomatch hz)), hce, hO.vm, hcl, hWs, hall, hf⟩⟩
  refine st1 _ ?_
  show Steps p.tables e below (T1.setTop { method := m, pc := pc + 3, locals := ls, stack := .ref T.heap.size :: rest, locked := none }) _
  jvm_step X₁.here [X₁.here.top, hexec, d3', Value.category]
  exact hsteps
/-- 'throw new E("text")': new; dup; ldc; invokespecial; athrow -/
theorem vx_throwS {cc : ByteArray} {pc : Nat} (hexec : p.tables.exec = Jvm.exec) (hb : c.code = cc) (hl : l.stackTraces = false) {own cls text : String} {names : List String} {ik is ic mc ms sa : Nat} {A : Nat → Prop}
    (hown : s.vm.findClass own = some m.cls) (hcls : Bundle.fit cls = true) (hnames : ∀ n ∈ names, Bundle.fit n = true)
    (hk : (Cond.classLink own ik cls).before args s = true) (hini : (Cond.initialized cls).before args s = true) (hstr : vk_R own is text sa s) (hat : ∀ w ∈ vx_atS own ic cls names, w.before args s = true)
    (hgood : ∀ w ∈ Cond.classLink own ik cls :: Cond.initialized cls :: vx_atS own ic cls names, vx_ot w = true)
    (hU : vx_Zq Bundle.tN "UNASSIGNED_STACK" Bundle.steD A s s.heap) (hN : vx_Zq Bundle.tN "SUPPRESSED_SENTINEL" Bundle.listD A s s.heap) (hS : va_S A s.heap H locs) (hsize : ls.size = c.maxLocals)
    (d0 : decode cc pc = .ok (.new ik, 3)) (d3 : decode cc (pc + 3) = .ok (.dup, 1)) (d4 : decode cc (pc + 4) = .ok (.ldc is, 2)) (d6 : decode cc (pc + 6) = .ok (.invokespecial ic, 3)) (d9 : decode cc (pc + 9) = .ok (.athrow, 1))
    (hout : ∀ x ∈ c.exceptionTable.toList, covers x (pc + 9) = false)
    (hRframes : names.length + 3 < R.frames) (hRlocals : (rest.map fun v => v.category).sum + (13 * (names.length + 1) + 43) ≤ R.locals) (hRcells : cells + 1 ≤ R.cells) (hRslots : slots + 6 ≤ R.slots) (hlocks : meth.locks = false)
    (hx : ∀ t : State, s.vm.Alike t.vm → H.size ≤ t.heap.size → (∀ q : Nat, q < H.size → t.heap[q]? = H[q]?) → XC cls s t)
    (hf : ∀ z ∈ locs, free z.base) (hc : cells + 1 ≤ mc) (hs : slots + 6 ≤ ms) :
    W p l e R s m args below meth c H locs cells slots (vx_MQ below Qc XC args s mc ms free) (F0 m pc ls rest) := by
  intro T hT X
  have htr : e.platform.stackTraces = false := (show e.platform.stackTraces = l.stackTraces by rw [X.admits.platform]).trans hl
  have Y := vx_rebase X (R' := { frames := R.frames, locals := R.locals, cells := 1, slots := 6 }) (Nat.le_refl _) (Nat.le_refl _) hRcells hRslots
  obtain ⟨s', hA⟩ : ∃ z, z = (T.setVm s.vm).setFrames (.invoking m args :: below) := ⟨_, rfl⟩
  rw [← hA] at Y
  have hvm : s'.vm = s.vm := by rw [hA]; rfl
  have hhp : s'.heap = H := by rw [hA]; exact hT
  have hW0 : s.WarmedH s'.vm := by rw [hvm]; exact State.WarmedH.refl s
  have hat' : ∀ w ∈ vx_atS own ic cls names, w.before args s' = true := fun w hw => vx_ot_at hW0 hvm.symm (hgood w (List.mem_cons_of_mem _ (List.mem_cons_of_mem _ hw))) (hat w hw)
  have hk' : (Cond.classLink own ik cls).before args s' = true := vx_ot_at hW0 hvm.symm (hgood _ List.mem_cons_self) hk
  have hini' : (Cond.initialized cls).before args s' = true := vx_ot_at hW0 hvm.symm (hgood _ (List.mem_cons_of_mem _ List.mem_cons_self)) hini
  have hU' : vx_Zq Bundle.tN "UNASSIGNED_STACK" Bundle.steD A s' s'.heap := by rw [hhp]; exact vx_Zq.moved hW0.alike (hU.kept hS.2.1)
  have hN' : vx_Zq Bundle.tN "SUPPRESSED_SENTINEL" Bundle.listD A s' s'.heap := by rw [hhp]; exact vx_Zq.moved hW0.alike (hN.kept hS.2.1)
  have h : ∀ w ∈ Bundle.ownAtoms own ic cls names, w.before args s' = true := vx_own hat' (vx_isRefq hU'.1) (vx_isRefq hN'.1) hU'.2.word hN'.2.word
  have hown' : s'.vm.findClass own = some m.cls := by rw [hvm]; exact hown
  have hins : (Cond.instantiable cls 6).before args s' = true := h _ (by simp [Bundle.ownAtoms])
  obtain ⟨vm₁, cX, kX, hfX, hkX, -, -, X₁, st1⟩ := Y.newCold hexec (own := own) (C := cls) (index := ik) (n := 6) hown' hk' hins hini'
    (g := F0 m pc ls rest) rfl (by rw [hb]; exact d0) (Nat.le_refl _) (Nat.le_refl _)
  generalize hT1 : (T.setVm vm₁).pushCell { cls := cX, slots := kX.instanceTypes.map defaultValue, vm := .none } = T1 at X₁ st1
  have hcat : (Value.ref T.heap.size).category = 1 := rfl
  have hcellA : T1.heap[T.heap.size]? = some (freshCell cX kX) := by rw [← hT1]; exact State.heap_pushCell_size _ _
  have d3' : decode c.code (pc + 3) = .ok (.dup, 1) := by rw [hb]; exact d3
  have d4' : decode c.code (pc + 4) = .ok (.ldc is, 2) := by rw [hb]; exact d4
  have hstr' : vk_R own is text sa s' := vk_R.warm hW0 hstr
  obtain ⟨U, hsteps, hrun, hend, hW, hsame, ce, hce, hO⟩ := X₁.ctorThrowS hexec htr (own := own) (cls := cls) (names := names) (ic := ic) hown' hcls hnames h (fun x hx => nomatch hx) hfX hkX hcellA (by rw [hhp, hT]; exact Nat.le_refl _) (msg := .ref sa) rfl
    (g := { method := m, pc := pc + 6, locals := ls, stack := .ref sa :: .ref T.heap.size :: .ref T.heap.size :: rest, locked := none }) rfl hsize rfl rfl (rest := rest) rfl
    (by rw [hb]; exact d6) (by rw [hb]; exact d9) hout hRframes (by simp only [List.map_cons, List.sum_cons, hcat]; omega) hlocks
  obtain ⟨f1, f2⟩ := vx_frame hsame
  rw [hhp] at f1 f2
  have hWs : s.WarmedH U.vm := State.WarmedH.trans hW0 hW
  have hcl : s.vm.findClass cls = some ce.cls := by
    have h9 := hO.cls
    rw [hvm] at h9
    exact h9
  have hall : s.sameButNew ({ U with vm := s.vm } : State) locs mc ms := by
    subst hA
    obtain ⟨e1, e2⟩ := hsame
    rw [State.setFrames_setFrames] at e1
    have h2 : (T.setVm s.vm).sameButNew ({ U with vm := s.vm } : State) [] (0 + 1) (0 + 6) := ⟨e1, e2⟩
    have h3 := X.same.trans h2
    rw [List.append_nil] at h3
    exact h3.mono hc hs
  refine ⟨U, ?_, .threw T.heap.size, hrun, hend, Or.inr ⟨T.heap.size, rfl, cls, ce, locs, hx U hWs.alike f1 (fun q hq => f2 q hq (fun z hz => nomatch hz)), hce, hO.vm, hcl, hWs, hall, hf⟩⟩
  refine st1 _ ?_
  show Steps p.tables e below (T1.setTop { method := m, pc := pc + 3, locals := ls, stack := .ref T.heap.size :: rest, locked := none }) _
  jvm_step X₁.here [X₁.here.top, hexec, d3', Value.category]
  exact X₁.ldcString hexec (own := own) (text := text) (index := is) (a := sa) hown' hstr'.1 hstr'.2
    (g := { method := m, pc := pc + 4, locals := ls, stack := .ref T.heap.size :: .ref T.heap.size :: rest, locked := none }) rfl d4' _ hsteps
/-- 'throw new E("text")', the text by a wide index -/
theorem vx_throwSW {cc : ByteArray} {pc : Nat} (hexec : p.tables.exec = Jvm.exec) (hb : c.code = cc) (hl : l.stackTraces = false) {own cls text : String} {names : List String} {ik is ic mc ms sa : Nat} {A : Nat → Prop}
    (hown : s.vm.findClass own = some m.cls) (hcls : Bundle.fit cls = true) (hnames : ∀ n ∈ names, Bundle.fit n = true)
    (hk : (Cond.classLink own ik cls).before args s = true) (hini : (Cond.initialized cls).before args s = true) (hstr : vk_R own is text sa s) (hat : ∀ w ∈ vx_atS own ic cls names, w.before args s = true)
    (hgood : ∀ w ∈ Cond.classLink own ik cls :: Cond.initialized cls :: vx_atS own ic cls names, vx_ot w = true)
    (hU : vx_Zq Bundle.tN "UNASSIGNED_STACK" Bundle.steD A s s.heap) (hN : vx_Zq Bundle.tN "SUPPRESSED_SENTINEL" Bundle.listD A s s.heap) (hS : va_S A s.heap H locs) (hsize : ls.size = c.maxLocals)
    (d0 : decode cc pc = .ok (.new ik, 3)) (d3 : decode cc (pc + 3) = .ok (.dup, 1)) (d4 : decode cc (pc + 4) = .ok (.ldc_w is, 3)) (d7 : decode cc (pc + 7) = .ok (.invokespecial ic, 3)) (d10 : decode cc (pc + 10) = .ok (.athrow, 1))
    (hout : ∀ x ∈ c.exceptionTable.toList, covers x (pc + 10) = false)
    (hRframes : names.length + 3 < R.frames) (hRlocals : (rest.map fun v => v.category).sum + (13 * (names.length + 1) + 43) ≤ R.locals) (hRcells : cells + 1 ≤ R.cells) (hRslots : slots + 6 ≤ R.slots) (hlocks : meth.locks = false)
    (hx : ∀ t : State, s.vm.Alike t.vm → H.size ≤ t.heap.size → (∀ q : Nat, q < H.size → t.heap[q]? = H[q]?) → XC cls s t)
    (hf : ∀ z ∈ locs, free z.base) (hc : cells + 1 ≤ mc) (hs : slots + 6 ≤ ms) :
    W p l e R s m args below meth c H locs cells slots (vx_MQ below Qc XC args s mc ms free) (F0 m pc ls rest) := by
  intro T hT X
  have htr : e.platform.stackTraces = false := (show e.platform.stackTraces = l.stackTraces by rw [X.admits.platform]).trans hl
  have Y := vx_rebase X (R' := { frames := R.frames, locals := R.locals, cells := 1, slots := 6 }) (Nat.le_refl _) (Nat.le_refl _) hRcells hRslots
  obtain ⟨s', hA⟩ : ∃ z, z = (T.setVm s.vm).setFrames (.invoking m args :: below) := ⟨_, rfl⟩
  rw [← hA] at Y
  have hvm : s'.vm = s.vm := by rw [hA]; rfl
  have hhp : s'.heap = H := by rw [hA]; exact hT
  have hW0 : s.WarmedH s'.vm := by rw [hvm]; exact State.WarmedH.refl s
  have hat' : ∀ w ∈ vx_atS own ic cls names, w.before args s' = true := fun w hw => vx_ot_at hW0 hvm.symm (hgood w (List.mem_cons_of_mem _ (List.mem_cons_of_mem _ hw))) (hat w hw)
  have hk' : (Cond.classLink own ik cls).before args s' = true := vx_ot_at hW0 hvm.symm (hgood _ List.mem_cons_self) hk
  have hini' : (Cond.initialized cls).before args s' = true := vx_ot_at hW0 hvm.symm (hgood _ (List.mem_cons_of_mem _ List.mem_cons_self)) hini
  have hU' : vx_Zq Bundle.tN "UNASSIGNED_STACK" Bundle.steD A s' s'.heap := by rw [hhp]; exact vx_Zq.moved hW0.alike (hU.kept hS.2.1)
  have hN' : vx_Zq Bundle.tN "SUPPRESSED_SENTINEL" Bundle.listD A s' s'.heap := by rw [hhp]; exact vx_Zq.moved hW0.alike (hN.kept hS.2.1)
  have h : ∀ w ∈ Bundle.ownAtoms own ic cls names, w.before args s' = true := vx_own hat' (vx_isRefq hU'.1) (vx_isRefq hN'.1) hU'.2.word hN'.2.word
  have hown' : s'.vm.findClass own = some m.cls := by rw [hvm]; exact hown
  have hins : (Cond.instantiable cls 6).before args s' = true := h _ (by simp [Bundle.ownAtoms])
  obtain ⟨vm₁, cX, kX, hfX, hkX, -, -, X₁, st1⟩ := Y.newCold hexec (own := own) (C := cls) (index := ik) (n := 6) hown' hk' hins hini'
    (g := F0 m pc ls rest) rfl (by rw [hb]; exact d0) (Nat.le_refl _) (Nat.le_refl _)
  generalize hT1 : (T.setVm vm₁).pushCell { cls := cX, slots := kX.instanceTypes.map defaultValue, vm := .none } = T1 at X₁ st1
  have hcat : (Value.ref T.heap.size).category = 1 := rfl
  have hcellA : T1.heap[T.heap.size]? = some (freshCell cX kX) := by rw [← hT1]; exact State.heap_pushCell_size _ _
  have d3' : decode c.code (pc + 3) = .ok (.dup, 1) := by rw [hb]; exact d3
  have d4' : decode c.code (pc + 4) = .ok (.ldc_w is, 3) := by rw [hb]; exact d4
  have hstr' : vk_R own is text sa s' := vk_R.warm hW0 hstr
  obtain ⟨U, hsteps, hrun, hend, hW, hsame, ce, hce, hO⟩ := X₁.ctorThrowS hexec htr (own := own) (cls := cls) (names := names) (ic := ic) hown' hcls hnames h (fun x hx => nomatch hx) hfX hkX hcellA (by rw [hhp, hT]; exact Nat.le_refl _) (msg := .ref sa) rfl
    (g := { method := m, pc := pc + 7, locals := ls, stack := .ref sa :: .ref T.heap.size :: .ref T.heap.size :: rest, locked := none }) rfl hsize rfl rfl (rest := rest) rfl
    (by rw [hb]; exact d7) (by rw [hb]; exact d10) hout hRframes (by simp only [List.map_cons, List.sum_cons, hcat]; omega) hlocks
  obtain ⟨f1, f2⟩ := vx_frame hsame
  rw [hhp] at f1 f2
  have hWs : s.WarmedH U.vm := State.WarmedH.trans hW0 hW
  have hcl : s.vm.findClass cls = some ce.cls := by
    have h9 := hO.cls
    rw [hvm] at h9
    exact h9
  have hall : s.sameButNew ({ U with vm := s.vm } : State) locs mc ms := by
    subst hA
    obtain ⟨e1, e2⟩ := hsame
    rw [State.setFrames_setFrames] at e1
    have h2 : (T.setVm s.vm).sameButNew ({ U with vm := s.vm } : State) [] (0 + 1) (0 + 6) := ⟨e1, e2⟩
    have h3 := X.same.trans h2
    rw [List.append_nil] at h3
    exact h3.mono hc hs
  refine ⟨U, ?_, .threw T.heap.size, hrun, hend, Or.inr ⟨T.heap.size, rfl, cls, ce, locs, hx U hWs.alike f1 (fun q hq => f2 q hq (fun z hz => nomatch hz)), hce, hO.vm, hcl, hWs, hall, hf⟩⟩
  refine st1 _ ?_
  show Steps p.tables e below (T1.setTop { method := m, pc := pc + 3, locals := ls, stack := .ref T.heap.size :: rest, locked := none }) _
  jvm_step X₁.here [X₁.here.top, hexec, d3', Value.category]
  exact X₁.ldcStringW hexec (own := own) (text := text) (index := is) (a := sa) hown' hstr'.1 hstr'.2
    (g := { method := m, pc := pc + 4, locals := ls, stack := .ref T.heap.size :: .ref T.heap.size :: rest, locked := none }) rfl d4' _ hsteps
end Ends
section Bodies
variable {l : Launch}
theorem vx_ofW {y : MethodName} {ws ws' : List Cond} {rm : Room} {Pc : Array Value → State → Prop} {Qc : Array Value → State → Outcome → State → Prop} {XC : String → State → State → Prop} {mc ms : Nat} {free : Addr → Prop} {cc : ByteArray} {maxL : Nat} {ret : Option FieldType}
    (hy : plainName y.cls = true) (hw : ws = Cond.code y cc maxL ret :: ws')
    (body : ∀ p e s m args below meth c s₁, BodyLoose p l y (headSpec ws rm) cc maxL ret e s m args below meth c s₁ → c.maxLocals = maxL → (∀ x ∈ c.exceptionTable.toList, False) → Pc args s →
      W p l e (headSpec ws rm).room s m args below meth c s.heap [] 0 0 (vx_MQ below Qc XC args s mc ms free) (entryFrame m args maxL)) : vx_Met l y ws rm Pc Qc XC mc ms free := by
  refine MetFree.of_bodyS (code := cc) (maxLocals := maxL) (ret := ret) hy ?_ ?_
  · intro args s m h hn
    obtain ⟨meth, c, h1, h2, h3, h4, h5, h6, -, -⟩ := Cond.code_spec hn (atoms_spec (ws := ws) h _ (by rw [hw]; exact List.mem_cons_self))
    exact ⟨meth, c, h1, h2, h3, h4, h5, h6⟩
  · intro p e s m args below meth c s₁ B hml hP _
    have hh0 : s₁.heap = s.heap := by rw [B.state]; rfl
    have ht : ∀ x ∈ c.exceptionTable.toList, False := by
      obtain ⟨meth9, c9, h1, h2, -, -, -, -, h7, -⟩ := Cond.code_spec B.named (atoms_spec (ws := ws) B.pre _ (by rw [hw]; exact List.mem_cons_self))
      cases Option.some.inj (h1.symm.trans B.method)
      cases Option.some.inj (h2.symm.trans (Stand.of_body B).code)
      intro x hx
      rw [Array.isEmpty_iff.mp h7] at hx
      cases hx
    obtain ⟨t, a1, o, b1, b2, b3⟩ := body p e s m args below meth c s₁ B hml ht hP s₁ hh0 (Stand.of_body B)
    exact ⟨t, o, a1, b1, b2, b3⟩
/-- the table of a body with handlers -/
theorem vx_table {p : Program} {x y : MethodName} {S : Spec} {cc bytes : ByteArray} {maxL maxL' : Nat} {ret ret' : Option FieldType} {e : Env} {s s₁ : State} {m : MethodId} {args : Array Value} {below : List Frame} {meth : Method} {c : Code} {hh : List (Nat × Nat × Nat × Nat)}
    (B : BodyLoose p l y S cc maxL ret e s m args below meth c s₁) (h : (Cond.codeWith y bytes maxL' ret' hh).before args s = true) : c.exceptionTable.toList = tableOf hh := by
  obtain ⟨m9, meth9, c9, hn9, h1, h2, -, -, h6, -⟩ := Cond.codeWith_spec h
  cases Option.some.inj (hn9.symm.trans B.named)
  cases Option.some.inj (h1.symm.trans B.method)
  cases Option.some.inj (h2.symm.trans (Stand.of_body B).code)
  rw [← h6, table_eq]
end Bodies
end VXA
/-! ===== END ===== -/
/-! ===== BEGIN a static call of a method with an exception table ===== -/
section VXS
variable {p : Program} {l : Launch} {e : Env} {R : Room} {s : State} {m : MethodId} {args : Array Value} {below : List Frame} {meth : Method} {c : Code} {T : State} {H : Heap} {locs : List Loc} {cells slots : Nat}
abbrev vx_CSW (R : Room) (s : State) (args : Array Value) (own : String) (index : Nat) (y : MethodName) (bytes : ByteArray) (maxL : Nat) (ret : Option FieldType) (hh : List (Nat × Nat × Nat × Nat)) (ws : List Cond) (rm : Room) (mc ms n : Nat) : Prop :=
  (rm.cells = mc ∧ rm.slots = ms ∧ rm.frames + 1 ≤ R.frames ∧ 8 + (maxL + 11) + rm.locals ≤ R.locals ∧ (∀ w ∈ ws, ∀ (a' : Array Value) (U : State), s.WarmedH U.vm → w.before a' U = true) ∧ Cond.codeWith y bytes maxL ret hh ∈ ws) ∧
  (Cond.codeWith y bytes maxL ret hh).before args s = true ∧ (Cond.initialized y.cls).before args s = true ∧ (y.cls ≠ "java/lang/invoke/MethodHandle" ∧ y.cls ≠ "java/lang/invoke/VarHandle") ∧
  (∀ sig, parseMethodDescriptor y.desc = some sig → n = sig.parameters.length) ∧ (Cond.methodLink own index y).before args s = true ∧ (Cond.static y).before args s = true
theorem vx_cwSW {own : String} {index maxL mc ms : Nat} {y : MethodName} {bytes : ByteArray} {ret : Option FieldType} {hh : List (Nat × Nat × Nat × Nat)} {Ts ws ws' : List Cond} {rm : Room} (n : Nat) (ht : ∀ w ∈ Ts, w.before args s = true) (hT : GoodIn Ts (va_wsS own index y ws)) (hw : ws = Cond.codeWith y bytes maxL ret hh :: ws') (hrc : rm.cells = mc) (hrs : rm.slots = ms)
    (hd : y.cls ≠ "java/lang/invoke/MethodHandle" ∧ y.cls ≠ "java/lang/invoke/VarHandle" ∧ (parseMethodDescriptor y.desc).map (fun d => d.parameters.length) = some n) (hR : rm.frames + 1 ≤ R.frames ∧ 8 + (maxL + 11) + rm.locals ≤ R.locals) :
    vx_CSW R s args own index y bytes maxL ret hh ws rm mc ms n := by
  have ok : ∀ w ∈ va_wsS own index y ws, w.before args s = true := fun w h => ht w (hT w h).1
  have hG : GoodIn Ts ws := fun w h => hT w (by unfold va_wsS; exact List.mem_append_right _ h)
  have hc : Cond.codeWith y bytes maxL ret hh ∈ ws := by rw [hw]; exact List.mem_cons_self
  refine ⟨⟨hrc, hrs, hR.1, hR.2, pay_in ht hG, hc⟩, ht _ (hG _ hc).1, ok _ (by simp [va_wsS]), ⟨hd.1, hd.2.1⟩, fun sig h => ?_, ok _ (by simp [va_wsS]), ok _ (by simp [va_wsS])⟩
  have h2 := hd.2.2
  rw [h] at h2
  exact (Option.some.inj h2).symm
theorem vx_callSW (X : Stand p l e R s m args below meth c T locs cells slots) (hexec : p.tables.exec = Jvm.exec) {own : String} {index : Nat} {y : MethodName} {bytes : ByteArray} {maxL : Nat} {ret : Option FieldType} {hh : List (Nat × Nat × Nat × Nat)}
    (hown : s.vm.findClass own = some m.cls) (hlink : (Cond.methodLink own index y).before args s = true) (hstat : (Cond.static y).before args s = true) (hinit : (Cond.initialized y.cls).before args s = true)
    (hcode : (Cond.codeWith y bytes maxL ret hh).before args s = true) (hy : y.cls ≠ "java/lang/invoke/MethodHandle" ∧ y.cls ≠ "java/lang/invoke/VarHandle")
    {W9 : Nat} {Pre : Pt → Array Value → Prop} {Post : Pt → Array Value → Option Value → Pt → Prop} (hK : Back l R p e below s args y 3 W9 Pre Post)
    {g : JFrame} (hg : g.method = m) (hsize : g.locals.size = c.maxLocals) {argsL rest : List Value} (hlen : ∀ sig, parseMethodDescriptor y.desc = some sig → argsL.length = sig.parameters.length)
    (hstack : g.stack = argsL.reverse ++ rest) (hW : 2 * g.monitorRoom + (rest.map fun v => v.category).sum ≤ W9) (hdg : decode c.code g.pc = .ok (.invokestatic index, 3))
    (hpre : ∀ vm₁, s.WarmedH vm₁ → Pre ⟨T.setVm vm₁, locs, cells, slots⟩ argsL.toArray) :
    ∃ (v : Option Value) (vm₁ : Vm) (B : Pt), s.WarmedH vm₁ ∧ Stand p l e R s m args below meth c B.U B.locs B.cells B.slots ∧ Post ⟨T.setVm vm₁, locs, cells, slots⟩ argsL.toArray v B ∧
      ∀ target, Steps p.tables e below (B.U.setTop { g with pc := g.pc + 3, stack := v.toList ++ rest }) target → Steps p.tables e below (T.setTop g) target := by
  obtain ⟨mk, methM, cM, hnamed, hmethM, -, -, -, -, -, -, hsigM⟩ := Cond.codeWith_spec hcode
  have hstatic : methM.isStatic = true := Cond.static_spec hnamed hmethM hstat
  obtain ⟨kP, hkP, -⟩ := className_of_methodNamed hnamed
  have hinitP : kP.init = .initialized := Cond.initialized_spec (findClass_of_methodNamed hnamed) hkP hinit
  obtain ⟨vm₁, X₁, hstep₁⟩ := X.invokestatic hexec hown hlink hnamed hmethM hstatic hkP hinitP hy (g := g) hg (argsL := argsL) (rest := rest) (hlen _ hsigM) hstack hdg
  obtain ⟨v, B, X', hpost, hsteps⟩ := hK m meth c ⟨T.setVm vm₁, locs, cells, slots⟩ { g with stack := rest } (.invokestatic index) mk argsL.toArray X₁ hg hsize hdg hW (X₁.named hnamed) (hpre vm₁ X₁.warmed)
  exact ⟨v, vm₁, B, X₁.warmed, X', hpost, fun target h => hstep₁ _ fun acts => by rw [doInvoke_state]; exact hsteps.trans h⟩
theorem vx_runSW {y : MethodName} {bytes cc : ByteArray} {maxL nL mc ms n index : Nat} {ret : Option FieldType} {hh : List (Nat × Nat × Nat × Nat)} {ws : List Cond} {rm : Room} {Pc : Array Value → State → Prop} {Qc : Array Value → State → Outcome → State → Prop} {free : Addr → Prop} {Ts : List Cond} {own : String} {As rest : List Value} {g : JFrame}
    (S : CallFix p m c cc nL s args Ts own) (hM : Met l y ws rm Pc Qc mc ms free) (cw : vx_CSW R s args own index y bytes maxL ret hh ws rm mc ms n) (hp : PreS s H Pc As)
    (hg : g.method = m) (hn : As.length = n) (hsize : g.locals.size = nL) (hstack : g.stack = As.reverse ++ rest) (hW : 2 * g.monitorRoom + (rest.map fun v => v.category).sum ≤ 8) (hdg : decode cc g.pc = .ok (.invokestatic index, 3)) (hf : cells + mc ≤ R.cells ∧ slots + ms ≤ R.slots) :
    va_Run p l e R s m args below meth c H locs cells slots mc ms g rest (Qc As.toArray) (free) := by
  obtain ⟨⟨hrc, hrs, hfr, hlo, hws, hcw⟩, hcode, hini, hy, hlen, hl, hstt⟩ := cw
  have hK : Back l R p e below s args y 3 8 (PreOf R mc ms Pc) (PostOf Qc mc ms free) := va_backW (hh := hh) (bytes := bytes) (maxL := maxL) (ret := ret) hM hp.1 hrc hrs hfr hlo hws hcw (fun a' U hW => word_at hW (Or.inl (by first | rfl | simp [Cond.onTables, Cond.keeps, Cond.steady])) hini)
  obtain ⟨hx, hb, hml, ho, -⟩ := S
  intro T hT X
  obtain ⟨v, vm₁, ⟨U', l2, c2, s2⟩, hW₁, X', ⟨g', mk, t, L, e1, e2, hq, h1, hL, h2, h3⟩, st⟩ := vx_callSW X hx (hh := hh) (bytes := bytes) (maxL := maxL) (ret := ret) ho hl hstt hini hcode hy hK hg (hsize.trans hml.symm) (argsL := As) (rest := rest) (fun sig h => hn.trans (hlen sig h)) hstack hW (by rw [hb]; exact hdg)
    (fun vm₁ hW₁ => ⟨hf.1, hf.2, hp.2 (T.setVm vm₁) hT hW₁⟩)
  dsimp only [Pt.U, Pt.locs, Pt.cells, Pt.slots] at X' e1 e2 h1 h2 h3 st
  subst h1; subst h2; subst h3
  exact ⟨v, (T.setVm vm₁).calling g' mk As.toArray, t, U', L, hT, X', hL, e1, e2, hq, st⟩
/-- not caught here, past rows that name other classes: it goes on to the caller -/
theorem vx_outP {p : Program} {l : Launch} {e : Env} {R : Room} {s : State} {m : MethodId} {args : Array Value} {below : List Frame} {meth : Method} {c : Code} {H : Heap} {locs : List Loc} {cells slots : Nat} {free : Addr → Prop} {ls : Array Slot} {rest : List Value} {Qc : Array Value → State → Outcome → State → Prop} {XC : String → State → State → Prop}
    {pc : Nat} {own E : String} {ce : Cell} {q : Addr} {mc ms : Nat} (hown : s.vm.findClass own = some m.cls) (hlocks : meth.locks = false)
    (hpass : ∀ z ∈ c.exceptionTable.toList, covers z pc = false ∨ (z.catchType ≠ 0 ∧ ∃ nm : String, (Cond.classLink own z.catchType nm).before args s = true ∧ va_Nc E nm s)) (hcell : H[q]? = some ce) (hv : ce.vm = .none) (hcl : s.vm.findClass E = some ce.cls)
    (hx : ∀ t : State, t.heap = H → s.vm.Alike t.vm → XC E s t) (hf : ∀ z ∈ locs, free z.base) (hc : cells ≤ mc) (hs : slots ≤ ms) :
    vx_W p l e R s m args below meth c H locs cells slots (vx_MQ below Qc XC args s mc ms free) (F0 m pc ls rest) q := by
  intro T hT X
  have hpl : e.platform.magicAccessors = ({} : Platform).magicAccessors := by rw [X.admits.platform]
  obtain ⟨vm', hW', X', st⟩ := X.outThrough hlocks q (g := F0 m pc ls rest) rfl rfl rfl (cell := ce) (by rw [hT]; exact hcell) (by rw [hv]; rfl)
    (by obtain ⟨k9, h9, -⟩ := Vm.findClass_spec hcl; exact ⟨k9, h9⟩) (fun z hz => by
      rcases hpass z hz with h | ⟨hz0, nm, hl1, hn1⟩
      · exact Or.inl h
      · obtain ⟨c6, hc6, hcl6⟩ := Cond.classLink_spec hown hl1 e.platform hpl
        obtain ⟨a8, b8, h1, h2, h3⟩ := hn1
        cases Option.some.inj (h1.symm.trans hcl)
        cases Option.some.inj (h2.symm.trans hc6)
        exact Or.inr ⟨hz0, _, hcl6, h3⟩)
  obtain ⟨g₀, hfr⟩ := X'.frames_eq
  have hcell9 : ((T.setVm vm').setFrames (.throwing q :: below)).heap[q]? = some ce := by
    show T.heap[q]? = some ce
    rw [hT]; exact hcell
  have hend : Ended ((T.setVm vm').setFrames (.throwing q :: below)) below (.threw q) := State.frames_setFrames _ (State.cur_lt_of_frames hfr)
  refine ⟨(T.setVm vm').setFrames (.throwing q :: below), ?_, .threw q, X'.here.running, hend, Or.inr ⟨q, rfl, E, ce, locs, hx _ hT (X'.ends _).1.alike, hcell9, hv, hcl, (X'.ends _).1, (X'.ends _).2.mono hc hs, hf⟩⟩
  rw [X.pushThrowing_eq]
  exact st
/-- a thing of a world lies in the heap -/
theorem vx_lt {D : va_G} {cl : List vw_C} {ws : va_W} {H1 : Heap} (h : va_P D cl ws H1) {k : Nat} {q : Nat × va_E} (hk : ws[k]? = some q) : q.1 < H1.size := (h k q hk).lt
end VXS
/-! ===== END ===== -/
/-! ===== BEGIN methods with a table of their own: called by a name, returning or throwing ===== -/
section VXH
/-! vx_backW, vx_callVX, vx_callSX, vx_callVW, vx_runVW, vx_runVX, vx_runSX, vx_ofWH follow the same proofs as their sisters above (Free/Laws.lean, Shelf42/LK1.lean); vx_outP calls Shelf42/NT130.lean (outThrough). -/
section
variable {l : Launch} {R : Room} {p : Program} {e : Env} {below : List Frame} {s : State} {sargs : Array Value} {y : MethodName} {len W9 : Nat}
theorem vx_backW {ws : List Cond} {rm : Room} {Pc : Array Value → State → Prop} {Qc : Array Value → State → Outcome → State → Prop} {XC : String → State → State → Prop} {mc ms : Nat} {free : Addr → Prop} {bytes : ByteArray} {maxL : Nat} {ret : Option FieldType} {hh : List (Nat × Nat × Nat × Nat)}
    (hM : vx_Met l y ws rm Pc Qc XC mc ms free) (hblind : FrameBlind Pc) (hrc : rm.cells = mc) (hrs : rm.slots = ms)
    (hframes : rm.frames + 1 ≤ R.frames) (hlocals : W9 + (maxL + 11) + rm.locals ≤ R.locals)
    (hws : ∀ w ∈ ws, ∀ a' U, s.WarmedH U.vm → w.before a' U = true) (hcode : Cond.codeWith y bytes maxL ret hh ∈ ws) (hinit : ∀ a' U, s.WarmedH U.vm → (Cond.initialized y.cls).before a' U = true) :
    vx_Back l R p e below s sargs y len W9 (PreOf R mc ms Pc) (PostOf Qc mc ms free) (vx_Post XC mc ms free) := by
  intro m meth c A g ig mk a X hg hsize hdg hW hn hp
  have h1 : (headSpec ws rm).pre.before a A.U = true := atoms_intro fun w hw => hws w hw _ _ X.warmed
  have h2 : (Cond.codeWith y bytes maxL ret hh).before a A.U = true := hws _ hcode _ _ X.warmed
  have h3 : (Cond.initialized y.cls).before a A.U = true := hinit _ _ X.warmed
  have h4 : A.cells + (headSpec ws rm).room.cells ≤ R.cells := by rw [show (headSpec ws rm).room.cells = mc from hrc]; exact hp.1
  have h5 : A.slots + (headSpec ws rm).room.slots ≤ R.slots := by rw [show (headSpec ws rm).room.slots = ms from hrs]; exact hp.2.1
  have hPc : Pc a (A.U.calling g mk a) := hblind _ _ _ _ hp.2.2
  obtain ⟨U, Ls, c0, s0⟩ := A
  dsimp only [Pt.U, Pt.locs, Pt.cells, Pt.slots] at h1 h2 h3 h4 h5 X hn hPc ⊢
  obtain ⟨m9, methY, cY, hn9, hmY, hcY, -, hlY, -⟩ := Cond.codeWith_spec h2
  cases Option.some.inj (hn9.symm.trans hn)
  obtain ⟨kY, hkY, -⟩ := className_of_methodNamed hn
  have hinitY : kY.init = .initialized := Cond.initialized_spec (findClass_of_methodNamed hn) hkY h3
  have h : At U g.method c below := by rw [hg]; exact X.here
  have hlocals9 : W9 + (maxL + 11) + (headSpec ws rm).room.locals ≤ R.locals := hlocals
  have happ : (headSpec ws rm).appliesLoose y e.platform (U.calling g mk a) = true :=
    Spec.appliesLoose_calling (g := g) h hdg hn hkY hinitY
      (X.room_calling (g := g) (R' := (headSpec ws rm).room) hsize hmY hcY hframes (by rw [hlY]; omega) h4 h5) h1
  obtain ⟨mid, hmid⟩ := h.above
  have hfr : (U.setTop g).frames = (.java g :: mid) ++ below := by rw [State.frames_setTop' g h.top, hmid]; rfl
  obtain ⟨o, s₂, hsteps, -, hend, hq⟩ := Steps.callFree hM p X.admits X.cas X.clock (acts := []) hfr happ hPc trivial
  have hq' : vx_Q Qc XC mc ms free a (U.calling g mk a) o s₂ := hq
  rw [State.frames_setTop' g h.top] at hend
  obtain ⟨g₀, hg0⟩ := Option.isSome_iff_exists.mp h.top
  obtain ⟨r, hr⟩ := State.topJava?_eq_some.mp hg0
  have hr' : (({ U with heap := s₂.heap, slotsUsed := s₂.slotsUsed } : State).setVm s₂.vm).frames = .java g₀ :: r := hr
  rcases hq' with ⟨hqc, L, hfe, hL⟩ | ⟨q, rfl, E, ce, L, hx, hce, hcv, hcl, hW₂, hsm, hL⟩
  · obtain ⟨⟨v, rfl⟩, hW₂, e2, q2, q3, q4, q5, q6⟩ := id hfe
    have e3 : s₂ = ({ (U.calling g mk a).setFrames s₂.frames with heap := s₂.heap, slotsUsed := s₂.slotsUsed } : State).setVm s₂.vm := by
      have : s₂ = ({ s₂ with vm := (U.calling g mk a).vm } : State).setVm s₂.vm := rfl
      rw [e2] at this
      exact this
    obtain ⟨c₂, i₂, len₂, hc₂, hd₂, hf₂⟩ := hend
    have hW' : U.WarmedH s₂.vm := hW₂
    have hcc : c₂ = c := by
      have h1 : s₂.code? g.method = U.code? g.method := by
        rw [State.code?_eq, State.code?_eq, hW'.alike.method?]
      exact Option.some.inj (hc₂.symm.trans (h1.trans h.code))
    subst hcc
    have hlen : len₂ = len := by rw [hdg] at hd₂; cases hd₂; rfl
    subst hlen
    have hs₂ : s₂ = (({ U with heap := s₂.heap, slotsUsed := s₂.slotsUsed } : State).setVm s₂.vm).setTop { g with pc := g.pc + len₂, stack := v.toList ++ g.stack } := by
      refine e3.trans ?_
      rw [hf₂, State.calling_eq h.top, State.setFrames_setFrames, State.setTop_of_frames _ hr', hr]
      rfl
    have hsame : U.sameButNew ({ U with heap := s₂.heap, slotsUsed := s₂.slotsUsed } : State) L mc ms := by
      refine ⟨?_, q2, q3, q4, q5, q6⟩
      obtain ⟨t, ht, -⟩ := State.frames_cons hr
      show ({ U with heap := s₂.heap, slotsUsed := s₂.slotsUsed } : State) = { U.setFrames U.frames with heap := s₂.heap, slotsUsed := s₂.slotsUsed }
      rw [State.setFrames_self ht]
    subst hg
    refine Or.inl ⟨v, ⟨(({ U with heap := s₂.heap, slotsUsed := s₂.slotsUsed } : State).setVm s₂.vm), Ls ++ L, c0 + mc, s0 + ms⟩,
      ⟨X.admits, X.cas, X.clock, X.frames, X.room, X.hears, X.method, X.code, (X.here.setHeapUsed s₂.heap s₂.slotsUsed).setVm hW'.alike, X.tail, State.WarmedH.trans X.warmed hW', X.limits, X.bytes, X.same.trans (hsame.setVm s.vm)⟩,
      ⟨g, mk, s₂, L, rfl, rfl, hqc, rfl, hL, rfl, rfl⟩, ?_⟩
    show Steps p.tables e below _ ((({ U with heap := s₂.heap, slotsUsed := s₂.slotsUsed } : State).setVm s₂.vm).setTop { g with pc := g.pc + len₂, stack := v.toList ++ g.stack })
    rw [← hs₂]
    exact hsteps
  · obtain ⟨e2, q2, q3, q4, q5, q6⟩ := id hsm
    have e3 : s₂ = ({ (U.calling g mk a).setFrames s₂.frames with heap := s₂.heap, slotsUsed := s₂.slotsUsed } : State).setVm s₂.vm := by
      have : s₂ = ({ s₂ with vm := (U.calling g mk a).vm } : State).setVm s₂.vm := rfl
      rw [e2] at this
      exact this
    have hf₂ : s₂.frames = .throwing q :: .java g :: U.frames.tail := hend
    have hW' : U.WarmedH s₂.vm := hW₂
    have hs₂ : s₂ = ((({ U with heap := s₂.heap, slotsUsed := s₂.slotsUsed } : State).setVm s₂.vm).setTop g).pushFrame (.throwing q) := by
      refine e3.trans ?_
      rw [hf₂, State.calling_eq h.top, State.setFrames_setFrames, State.pushFrame, State.frames_setTop _ hr', State.setTop_of_frames _ hr', State.setFrames_setFrames, hr]
      rfl
    have hsame : U.sameButNew ({ U with heap := s₂.heap, slotsUsed := s₂.slotsUsed } : State) L mc ms := by
      refine ⟨?_, q2, q3, q4, q5, q6⟩
      obtain ⟨t, ht, -⟩ := State.frames_cons hr
      show ({ U with heap := s₂.heap, slotsUsed := s₂.slotsUsed } : State) = { U.setFrames U.frames with heap := s₂.heap, slotsUsed := s₂.slotsUsed }
      rw [State.setFrames_self ht]
    subst hg
    refine Or.inr ⟨q, ⟨(({ U with heap := s₂.heap, slotsUsed := s₂.slotsUsed } : State).setVm s₂.vm), Ls ++ L, c0 + mc, s0 + ms⟩,
      ⟨X.admits, X.cas, X.clock, X.frames, X.room, X.hears, X.method, X.code, (X.here.setHeapUsed s₂.heap s₂.slotsUsed).setVm hW'.alike, X.tail, State.WarmedH.trans X.warmed hW', X.limits, X.bytes, X.same.trans (hsame.setVm s.vm)⟩,
      ⟨g, mk, s₂, L, E, ce, rfl, rfl, hx, hce, hcv, hcl, rfl, hL, rfl, rfl⟩, ?_⟩
    show Steps p.tables e below _ (((({ U with heap := s₂.heap, slotsUsed := s₂.slotsUsed } : State).setVm s₂.vm).setTop g).pushFrame (.throwing q))
    rw [← hs₂]
    exact hsteps
end
variable {p : Program} {l : Launch} {e : Env} {R : Room} {s : State} {m : MethodId} {args : Array Value} {below : List Frame} {meth : Method} {c : Code} {T : State} {H : Heap} {locs : List Loc} {cells slots : Nat}
theorem vx_callVX (X : Stand p l e R s m args below meth c T locs cells slots) (hexec : p.tables.exec = Jvm.exec) {own C : String} {index : Nat} {y : MethodName} {bytes : ByteArray} {maxL : Nat} {ret : Option FieldType} {hh : List (Nat × Nat × Nat × Nat)}
    (hown : s.vm.findClass own = some m.cls) (hlink : (Cond.methodLink own index y).before args s = true) (hinst : (Cond.instanceMethod y).before args s = true) (hsel : (Cond.selects C y y).before args s = true)
    (hcode : (Cond.codeWith y bytes maxL ret hh).before args s = true) (hy : y.cls ≠ "java/lang/invoke/MethodHandle" ∧ y.cls ≠ "java/lang/invoke/VarHandle")
    {W9 : Nat} {Pre : Pt → Array Value → Prop} {Post : Pt → Array Value → Option Value → Pt → Prop} {PostX : Pt → Array Value → Addr → Pt → Prop} (hK : vx_Back l R p e below s args y 3 W9 Pre Post PostX)
    {b : Addr} {cellB : Cell} (hcell : T.heap[b]? = some cellB) (hobj : cellB.vm.isStatics = false) (hcls : s.vm.findClass C = some cellB.cls)
    {g : JFrame} (hg : g.method = m) (hsize : g.locals.size = c.maxLocals) {argsL rest : List Value} (hlen : ∀ sig, parseMethodDescriptor y.desc = some sig → argsL.length = sig.parameters.length)
    (hstack : g.stack = argsL.reverse ++ .ref b :: rest) (hW : 2 * g.monitorRoom + (rest.map fun v => v.category).sum ≤ W9) (hdg : decode c.code g.pc = .ok (.invokevirtual index, 3))
    (hpre : ∀ vm₁, s.WarmedH vm₁ → Pre ⟨T.setVm vm₁, locs, cells, slots⟩ (Value.ref b :: argsL).toArray) :
    (∃ (v : Option Value) (vm₁ : Vm) (B : Pt), s.WarmedH vm₁ ∧ Stand p l e R s m args below meth c B.U B.locs B.cells B.slots ∧ Post ⟨T.setVm vm₁, locs, cells, slots⟩ (Value.ref b :: argsL).toArray v B ∧
      ∀ target, Steps p.tables e below (B.U.setTop { g with pc := g.pc + 3, stack := v.toList ++ rest }) target → Steps p.tables e below (T.setTop g) target) ∨
    (∃ (q : Addr) (vm₁ : Vm) (B : Pt), s.WarmedH vm₁ ∧ Stand p l e R s m args below meth c B.U B.locs B.cells B.slots ∧ PostX ⟨T.setVm vm₁, locs, cells, slots⟩ (Value.ref b :: argsL).toArray q B ∧
      Steps p.tables e below (T.setTop g) ((B.U.setTop { g with stack := rest }).pushFrame (.throwing q))) := by
  obtain ⟨mk, methM, hnamed, hmethM, hstM, habM⟩ := Cond.instanceMethod_spec hinst
  obtain ⟨m8, methM', cM, hn8, hmethM', -, -, -, -, -, -, hsigM⟩ := Cond.codeWith_spec hcode
  cases Option.some.inj (hn8.symm.trans hnamed)
  cases hmethM.symm.trans hmethM'
  obtain ⟨c2, r2, m2, q1, q2, q3, q4, kP, hkP, hkPi⟩ := Cond.selects_spec hsel
  cases hcls.symm.trans q1
  cases (State.methodFound?_of_named hnamed hy).symm.trans q2
  cases hnamed.symm.trans q3
  have hselP : selectMethod e.platform s.vm cellB.cls mk = .method mk := by rw [Launch.admits_selectMethod X.admits]; exact q4
  obtain ⟨vm₁, X₁, hstep₁⟩ := X.invokevirtual hexec hown hlink hnamed hmethM hstM hkP hkPi hy (a := b) (cell := cellB) hcell
    (fun z h => by rw [h] at hobj; cases hobj) hselP hmethM habM hkP hkPi (g := g) hg (argsL := argsL) (rest := rest) (hlen _ hsigM) hstack hdg
  rcases hK m meth c ⟨T.setVm vm₁, locs, cells, slots⟩ { g with stack := rest } (.invokevirtual index) mk (Value.ref b :: argsL).toArray X₁ hg hsize hdg hW (X₁.named hnamed) (hpre vm₁ X₁.warmed) with ⟨v, B, X', hpost, hsteps⟩ | ⟨q, B, X', hpost, hsteps⟩
  · exact Or.inl ⟨v, vm₁, B, X₁.warmed, X', hpost, fun target h => hstep₁ _ fun acts => by rw [doInvoke_state]; exact hsteps.trans h⟩
  · exact Or.inr ⟨q, vm₁, B, X₁.warmed, X', hpost, hstep₁ _ fun acts => by rw [doInvoke_state]; exact hsteps⟩
theorem vx_callSX (X : Stand p l e R s m args below meth c T locs cells slots) (hexec : p.tables.exec = Jvm.exec) {own : String} {index : Nat} {y : MethodName} {bytes : ByteArray} {maxL : Nat} {ret : Option FieldType} {hh : List (Nat × Nat × Nat × Nat)}
    (hown : s.vm.findClass own = some m.cls) (hlink : (Cond.methodLink own index y).before args s = true) (hstat : (Cond.static y).before args s = true) (hinit : (Cond.initialized y.cls).before args s = true)
    (hcode : (Cond.codeWith y bytes maxL ret hh).before args s = true) (hy : y.cls ≠ "java/lang/invoke/MethodHandle" ∧ y.cls ≠ "java/lang/invoke/VarHandle")
    {W9 : Nat} {Pre : Pt → Array Value → Prop} {Post : Pt → Array Value → Option Value → Pt → Prop} {PostX : Pt → Array Value → Addr → Pt → Prop} (hK : vx_Back l R p e below s args y 3 W9 Pre Post PostX)
    {g : JFrame} (hg : g.method = m) (hsize : g.locals.size = c.maxLocals) {argsL rest : List Value} (hlen : ∀ sig, parseMethodDescriptor y.desc = some sig → argsL.length = sig.parameters.length)
    (hstack : g.stack = argsL.reverse ++ rest) (hW : 2 * g.monitorRoom + (rest.map fun v => v.category).sum ≤ W9) (hdg : decode c.code g.pc = .ok (.invokestatic index, 3))
    (hpre : ∀ vm₁, s.WarmedH vm₁ → Pre ⟨T.setVm vm₁, locs, cells, slots⟩ argsL.toArray) :
    (∃ (v : Option Value) (vm₁ : Vm) (B : Pt), s.WarmedH vm₁ ∧ Stand p l e R s m args below meth c B.U B.locs B.cells B.slots ∧ Post ⟨T.setVm vm₁, locs, cells, slots⟩ argsL.toArray v B ∧
      ∀ target, Steps p.tables e below (B.U.setTop { g with pc := g.pc + 3, stack := v.toList ++ rest }) target → Steps p.tables e below (T.setTop g) target) ∨
    (∃ (q : Addr) (vm₁ : Vm) (B : Pt), s.WarmedH vm₁ ∧ Stand p l e R s m args below meth c B.U B.locs B.cells B.slots ∧ PostX ⟨T.setVm vm₁, locs, cells, slots⟩ argsL.toArray q B ∧
      Steps p.tables e below (T.setTop g) ((B.U.setTop { g with stack := rest }).pushFrame (.throwing q))) := by
  obtain ⟨mk, methM, cM, hnamed, hmethM, -, -, -, -, -, -, hsigM⟩ := Cond.codeWith_spec hcode
  have hstatic : methM.isStatic = true := Cond.static_spec hnamed hmethM hstat
  obtain ⟨kP, hkP, -⟩ := className_of_methodNamed hnamed
  have hinitP : kP.init = .initialized := Cond.initialized_spec (findClass_of_methodNamed hnamed) hkP hinit
  obtain ⟨vm₁, X₁, hstep₁⟩ := X.invokestatic hexec hown hlink hnamed hmethM hstatic hkP hinitP hy (g := g) hg (argsL := argsL) (rest := rest) (hlen _ hsigM) hstack hdg
  rcases hK m meth c ⟨T.setVm vm₁, locs, cells, slots⟩ { g with stack := rest } (.invokestatic index) mk argsL.toArray X₁ hg hsize hdg hW (X₁.named hnamed) (hpre vm₁ X₁.warmed) with ⟨v, B, X', hpost, hsteps⟩ | ⟨q, B, X', hpost, hsteps⟩
  · exact Or.inl ⟨v, vm₁, B, X₁.warmed, X', hpost, fun target h => hstep₁ _ fun acts => by rw [doInvoke_state]; exact hsteps.trans h⟩
  · exact Or.inr ⟨q, vm₁, B, X₁.warmed, X', hpost, hstep₁ _ fun acts => by rw [doInvoke_state]; exact hsteps⟩
theorem vx_callVW (X : Stand p l e R s m args below meth c T locs cells slots) (hexec : p.tables.exec = Jvm.exec) {own C : String} {index : Nat} {y : MethodName} {bytes : ByteArray} {maxL : Nat} {ret : Option FieldType} {hh : List (Nat × Nat × Nat × Nat)}
    (hown : s.vm.findClass own = some m.cls) (hlink : (Cond.methodLink own index y).before args s = true) (hinst : (Cond.instanceMethod y).before args s = true) (hsel : (Cond.selects C y y).before args s = true)
    (hcode : (Cond.codeWith y bytes maxL ret hh).before args s = true) (hy : y.cls ≠ "java/lang/invoke/MethodHandle" ∧ y.cls ≠ "java/lang/invoke/VarHandle")
    {W9 : Nat} {Pre : Pt → Array Value → Prop} {Post : Pt → Array Value → Option Value → Pt → Prop} (hK : Back l R p e below s args y 3 W9 Pre Post)
    {b : Addr} {cellB : Cell} (hcell : T.heap[b]? = some cellB) (hobj : cellB.vm.isStatics = false) (hcls : s.vm.findClass C = some cellB.cls)
    {g : JFrame} (hg : g.method = m) (hsize : g.locals.size = c.maxLocals) {argsL rest : List Value} (hlen : ∀ sig, parseMethodDescriptor y.desc = some sig → argsL.length = sig.parameters.length)
    (hstack : g.stack = argsL.reverse ++ .ref b :: rest) (hW : 2 * g.monitorRoom + (rest.map fun v => v.category).sum ≤ W9) (hdg : decode c.code g.pc = .ok (.invokevirtual index, 3))
    (hpre : ∀ vm₁, s.WarmedH vm₁ → Pre ⟨T.setVm vm₁, locs, cells, slots⟩ (Value.ref b :: argsL).toArray) :
    ∃ (v : Option Value) (vm₁ : Vm) (B : Pt), s.WarmedH vm₁ ∧ Stand p l e R s m args below meth c B.U B.locs B.cells B.slots ∧ Post ⟨T.setVm vm₁, locs, cells, slots⟩ (Value.ref b :: argsL).toArray v B ∧
      ∀ target, Steps p.tables e below (B.U.setTop { g with pc := g.pc + 3, stack := v.toList ++ rest }) target → Steps p.tables e below (T.setTop g) target := by
  obtain ⟨mk, methM, hnamed, hmethM, hstM, habM⟩ := Cond.instanceMethod_spec hinst
  obtain ⟨m8, methM', cM, hn8, hmethM', -, -, -, -, -, -, hsigM⟩ := Cond.codeWith_spec hcode
  cases Option.some.inj (hn8.symm.trans hnamed)
  cases hmethM.symm.trans hmethM'
  obtain ⟨c2, r2, m2, q1, q2, q3, q4, kP, hkP, hkPi⟩ := Cond.selects_spec hsel
  cases hcls.symm.trans q1
  cases (State.methodFound?_of_named hnamed hy).symm.trans q2
  cases hnamed.symm.trans q3
  have hselP : selectMethod e.platform s.vm cellB.cls mk = .method mk := by rw [Launch.admits_selectMethod X.admits]; exact q4
  obtain ⟨vm₁, X₁, hstep₁⟩ := X.invokevirtual hexec hown hlink hnamed hmethM hstM hkP hkPi hy (a := b) (cell := cellB) hcell
    (fun z h => by rw [h] at hobj; cases hobj) hselP hmethM habM hkP hkPi (g := g) hg (argsL := argsL) (rest := rest) (hlen _ hsigM) hstack hdg
  obtain ⟨v, B, X', hpost, hsteps⟩ := hK m meth c ⟨T.setVm vm₁, locs, cells, slots⟩ { g with stack := rest } (.invokevirtual index) mk (Value.ref b :: argsL).toArray X₁ hg hsize hdg hW (X₁.named hnamed) (hpre vm₁ X₁.warmed)
  exact ⟨v, vm₁, B, X₁.warmed, X', hpost, fun target h => hstep₁ _ fun acts => by rw [doInvoke_state]; exact hsteps.trans h⟩
abbrev vx_CVW (R : Room) (s : State) (args : Array Value) (own C : String) (index : Nat) (y : MethodName) (bytes : ByteArray) (maxL : Nat) (ret : Option FieldType) (hh : List (Nat × Nat × Nat × Nat)) (ws : List Cond) (rm : Room) (mc ms n : Nat) : Prop :=
  (rm.cells = mc ∧ rm.slots = ms ∧ rm.frames + 1 ≤ R.frames ∧ 8 + (maxL + 11) + rm.locals ≤ R.locals ∧ (∀ w ∈ ws, ∀ (a' : Array Value) (U : State), s.WarmedH U.vm → w.before a' U = true) ∧ Cond.codeWith y bytes maxL ret hh ∈ ws) ∧
  (Cond.codeWith y bytes maxL ret hh).before args s = true ∧ (Cond.initialized y.cls).before args s = true ∧ (y.cls ≠ "java/lang/invoke/MethodHandle" ∧ y.cls ≠ "java/lang/invoke/VarHandle") ∧
  (∀ sig, parseMethodDescriptor y.desc = some sig → n = sig.parameters.length) ∧ (Cond.methodLink own index y).before args s = true ∧ (Cond.instanceMethod y).before args s = true ∧ (Cond.selects C y y).before args s = true
theorem vx_cwVW {own C : String} {index maxL mc ms : Nat} {y : MethodName} {bytes : ByteArray} {ret : Option FieldType} {hh : List (Nat × Nat × Nat × Nat)} {Ts ws ws' : List Cond} {rm : Room} (n : Nat) (ht : ∀ w ∈ Ts, w.before args s = true) (hT : GoodIn Ts (wsV own index C y ws)) (hw : ws = Cond.codeWith y bytes maxL ret hh :: ws') (hrc : rm.cells = mc) (hrs : rm.slots = ms)
    (hd : y.cls = C ∧ y.cls ≠ "java/lang/invoke/MethodHandle" ∧ y.cls ≠ "java/lang/invoke/VarHandle" ∧ (parseMethodDescriptor y.desc).map (fun d => d.parameters.length) = some n) (hR : rm.frames + 1 ≤ R.frames ∧ 8 + (maxL + 11) + rm.locals ≤ R.locals) :
    vx_CVW R s args own C index y bytes maxL ret hh ws rm mc ms n := by
  obtain ⟨hC, hd⟩ := hd
  subst hC
  have ok : ∀ w ∈ wsV own index y.cls y ws, w.before args s = true := fun w h => ht w (hT w h).1
  have hG : GoodIn Ts ws := fun w h => hT w (by unfold wsV; exact List.mem_append_right _ h)
  have hc : Cond.codeWith y bytes maxL ret hh ∈ ws := by rw [hw]; exact List.mem_cons_self
  refine ⟨⟨hrc, hrs, hR.1, hR.2, pay_in ht hG, hc⟩, ht _ (hG _ hc).1, ok _ (by simp [wsV]), ⟨hd.1, hd.2.1⟩, fun sig h => ?_, ok _ (by simp [wsV]), ok _ (by simp [wsV]), ok _ (by simp [wsV])⟩
  have h2 := hd.2.2
  rw [h] at h2
  exact (Option.some.inj h2).symm
theorem vx_runVW {y : MethodName} {bytes cc : ByteArray} {maxL nL mc ms n index : Nat} {ret : Option FieldType} {hh : List (Nat × Nat × Nat × Nat)} {ws : List Cond} {rm : Room} {Pc : Array Value → State → Prop} {Qc : Array Value → State → Outcome → State → Prop} {free : Addr → Prop} {Ts : List Cond} {own C : String} {b : Addr} {As rest : List Value} {g : JFrame}
    (S : CallFix p m c cc nL s args Ts own) (hM : Met l y ws rm Pc Qc mc ms free) (cw : vx_CVW R s args own C index y bytes maxL ret hh ws rm mc ms n) (hp : PreV s H C b Pc As)
    (hg : g.method = m) (hn : As.length = n) (hsize : g.locals.size = nL) (hstack : g.stack = As.reverse ++ .ref b :: rest) (hW : 2 * g.monitorRoom + (rest.map fun v => v.category).sum ≤ 8) (hdg : decode cc g.pc = .ok (.invokevirtual index, 3)) (hf : cells + mc ≤ R.cells ∧ slots + ms ≤ R.slots) :
    va_Run p l e R s m args below meth c H locs cells slots mc ms g rest (Qc (Value.ref b :: As).toArray) free := by
  obtain ⟨⟨hrc, hrs, hfr, hlo, hws, hcw⟩, hcode, hini, hy, hlen, hl, hin, hse⟩ := cw
  have hK : Back l R p e below s args y 3 8 (PreOf R mc ms Pc) (PostOf Qc mc ms free) := va_backW (hh := hh) (bytes := bytes) (maxL := maxL) (ret := ret) hM hp.1 hrc hrs hfr hlo hws hcw (fun a' U hW => word_at hW (Or.inl (by first | rfl | simp [Cond.onTables, Cond.keeps, Cond.steady])) hini)
  obtain ⟨hx, hb, hml, ho, -⟩ := S
  obtain ⟨-, ⟨cellB, hcB, hoB, hclB⟩, hPc⟩ := hp
  intro T hT X
  obtain ⟨v, vm₁, ⟨U', l2, c2, s2⟩, hW₁, X', ⟨g', mk, t, L, e1, e2, hq, h1, hL, h2, h3⟩, st⟩ := vx_callVW X hx (C := C) (hh := hh) (bytes := bytes) (maxL := maxL) (ret := ret) ho hl hin hse hcode hy hK (by rw [hT]; exact hcB) hoB hclB hg (hsize.trans hml.symm) (argsL := As) (rest := rest) (fun sig h => hn.trans (hlen sig h)) hstack hW (by rw [hb]; exact hdg)
    (fun vm₁ hW₁ => ⟨hf.1, hf.2, hPc (T.setVm vm₁) hT hW₁⟩)
  dsimp only [Pt.U, Pt.locs, Pt.cells, Pt.slots] at X' e1 e2 h1 h2 h3 st
  subst h1; subst h2; subst h3
  exact ⟨v, (T.setVm vm₁).calling g' mk (Value.ref b :: As).toArray, t, U', L, hT, X', hL, e1, e2, hq, st⟩
section
variable {y : MethodName} {bytes cc : ByteArray} {maxL nL mc ms n index : Nat} {ret : Option FieldType} {ws : List Cond} {rm : Room} {Pc : Array Value → State → Prop} {Qc : Array Value → State → Outcome → State → Prop} {XC : String → State → State → Prop} {free : Addr → Prop} {Ts : List Cond} {own C : String} {b : Addr} {As rest : List Value} {g : JFrame}
theorem vx_runVX {hh : List (Nat × Nat × Nat × Nat)} (S : CallFix p m c cc nL s args Ts own) (hM : vx_Met l y ws rm Pc Qc XC mc ms free) (cw : vx_CVW R s args own C index y bytes maxL ret hh ws rm mc ms n) (hp : PreV s H C b Pc As)
    (hg : g.method = m) (hn : As.length = n) (hsize : g.locals.size = nL) (hstack : g.stack = As.reverse ++ .ref b :: rest) (hW : 2 * g.monitorRoom + (rest.map fun v => v.category).sum ≤ 8) (hdg : decode cc g.pc = .ok (.invokevirtual index, 3)) (hf : cells + mc ≤ R.cells ∧ slots + ms ≤ R.slots) :
    vx_Run p l e R s m args below meth c H locs cells slots mc ms g rest (Qc (Value.ref b :: As).toArray) XC free := by
  obtain ⟨⟨hrc, hrs, hfr, hlo, hws, hcw⟩, hcode, hini, hy, hlen, hl, hin, hse⟩ := cw
  have hK : vx_Back l R p e below s args y 3 8 (PreOf R mc ms Pc) (PostOf Qc mc ms free) (vx_Post XC mc ms free) := vx_backW (hh := hh) (bytes := bytes) (maxL := maxL) (ret := ret) hM hp.1 hrc hrs hfr hlo hws hcw (fun a' U hW => word_at hW (Or.inl (by first | rfl | simp [Cond.onTables, Cond.keeps, Cond.steady])) hini)
  obtain ⟨hx, hb, hml, ho, -⟩ := S
  obtain ⟨-, ⟨cellB, hcB, hoB, hclB⟩, hPc⟩ := hp
  intro T hT X
  rcases vx_callVX X hx (C := C) (hh := hh) (bytes := bytes) (maxL := maxL) (ret := ret) ho hl hin hse hcode hy hK (by rw [hT]; exact hcB) hoB hclB hg (hsize.trans hml.symm) (argsL := As) (rest := rest) (fun sig h => hn.trans (hlen sig h)) hstack hW (by rw [hb]; exact hdg)
    (fun vm₁ hW₁ => ⟨hf.1, hf.2, hPc (T.setVm vm₁) hT hW₁⟩) with ⟨v, vm₁, ⟨U', l2, c2, s2⟩, hW₁, X', ⟨g', mk, t, L, e1, e2, hq, h1, hL, h2, h3⟩, st⟩ | ⟨q, vm₁, ⟨U', l2, c2, s2⟩, hW₁, X', ⟨g', mk, t, L, E, ce, e1, e2, hq, hce, hcv, hcl, h1, hL, h2, h3⟩, st⟩
  · dsimp only [Pt.U, Pt.locs, Pt.cells, Pt.slots] at X' e1 e2 h1 h2 h3 st
    subst h1; subst h2; subst h3
    exact Or.inl ⟨v, (T.setVm vm₁).calling g' mk (Value.ref b :: As).toArray, t, U', L, hT, X', hL, e1, e2, hq, st⟩
  · dsimp only [Pt.U, Pt.locs, Pt.cells, Pt.slots] at X' e1 e2 h1 h2 h3 st hcl
    subst h1; subst h2; subst h3
    exact Or.inr ⟨q, (T.setVm vm₁).calling g' mk (Value.ref b :: As).toArray, t, U', L, E, ce, hT, X', hL, e1, e2, hq, hce, hcv, vx_cls hW₁ hcl, st⟩
theorem vx_runSX {hh : List (Nat × Nat × Nat × Nat)} (S : CallFix p m c cc nL s args Ts own) (hM : vx_Met l y ws rm Pc Qc XC mc ms free) (cw : vx_CSW R s args own index y bytes maxL ret hh ws rm mc ms n) (hp : PreS s H Pc As)
    (hg : g.method = m) (hn : As.length = n) (hsize : g.locals.size = nL) (hstack : g.stack = As.reverse ++ rest) (hW : 2 * g.monitorRoom + (rest.map fun v => v.category).sum ≤ 8) (hdg : decode cc g.pc = .ok (.invokestatic index, 3)) (hf : cells + mc ≤ R.cells ∧ slots + ms ≤ R.slots) :
    vx_Run p l e R s m args below meth c H locs cells slots mc ms g rest (Qc As.toArray) XC free := by
  obtain ⟨⟨hrc, hrs, hfr, hlo, hws, hcw⟩, hcode, hini, hy, hlen, hl, hstt⟩ := cw
  have hK : vx_Back l R p e below s args y 3 8 (PreOf R mc ms Pc) (PostOf Qc mc ms free) (vx_Post XC mc ms free) := vx_backW (hh := hh) (bytes := bytes) (maxL := maxL) (ret := ret) hM hp.1 hrc hrs hfr hlo hws hcw (fun a' U hW => word_at hW (Or.inl (by first | rfl | simp [Cond.onTables, Cond.keeps, Cond.steady])) hini)
  obtain ⟨hx, hb, hml, ho, -⟩ := S
  intro T hT X
  rcases vx_callSX X hx (hh := hh) (bytes := bytes) (maxL := maxL) (ret := ret) ho hl hstt hini hcode hy hK hg (hsize.trans hml.symm) (argsL := As) (rest := rest) (fun sig h => hn.trans (hlen sig h)) hstack hW (by rw [hb]; exact hdg)
    (fun vm₁ hW₁ => ⟨hf.1, hf.2, hp.2 (T.setVm vm₁) hT hW₁⟩) with ⟨v, vm₁, ⟨U', l2, c2, s2⟩, hW₁, X', ⟨g', mk, t, L, e1, e2, hq, h1, hL, h2, h3⟩, st⟩ | ⟨q, vm₁, ⟨U', l2, c2, s2⟩, hW₁, X', ⟨g', mk, t, L, E, ce, e1, e2, hq, hce, hcv, hcl, h1, hL, h2, h3⟩, st⟩
  · dsimp only [Pt.U, Pt.locs, Pt.cells, Pt.slots] at X' e1 e2 h1 h2 h3 st
    subst h1; subst h2; subst h3
    exact Or.inl ⟨v, (T.setVm vm₁).calling g' mk As.toArray, t, U', L, hT, X', hL, e1, e2, hq, st⟩
  · dsimp only [Pt.U, Pt.locs, Pt.cells, Pt.slots] at X' e1 e2 h1 h2 h3 st hcl
    subst h1; subst h2; subst h3
    exact Or.inr ⟨q, (T.setVm vm₁).calling g' mk As.toArray, t, U', L, E, ce, hT, X', hL, e1, e2, hq, hce, hcv, vx_cls hW₁ hcl, st⟩
end
end VXH
theorem vx_ofWH {l : Launch} {y : MethodName} {ws ws' : List Cond} {rm : Room} {Pc : Array Value → State → Prop} {Qc : Array Value → State → Outcome → State → Prop} {XC : String → State → State → Prop} {mc ms : Nat} {free : Addr → Prop} {cc : ByteArray} {maxL : Nat} {ret : Option FieldType} {hh : List (Nat × Nat × Nat × Nat)}
    (hy : plainName y.cls = true) (hw : ws = Cond.codeWith y cc maxL ret hh :: ws')
    (body : ∀ p e s m args below meth c s₁, BodyLoose p l y (headSpec ws rm) cc maxL ret e s m args below meth c s₁ → c.maxLocals = maxL → Pc args s →
      W p l e (headSpec ws rm).room s m args below meth c s.heap [] 0 0 (vx_MQ below Qc XC args s mc ms free) (entryFrame m args maxL)) : vx_Met l y ws rm Pc Qc XC mc ms free := by
  refine MetFree.of_bodyS (code := cc) (maxLocals := maxL) (ret := ret) hy ?_ ?_
  · intro args s m h hn
    obtain ⟨m9, meth, c, hn9, h1, h2, h3, h4, -, h5, h6, -⟩ := Cond.codeWith_spec (atoms_spec (ws := ws) h _ (by rw [hw]; exact List.mem_cons_self))
    cases hn.symm.trans hn9
    exact ⟨meth, c, h1, h2, h3, h4, h5, h6⟩
  · intro p e s m args below meth c s₁ B hml hP _
    have hh0 : s₁.heap = s.heap := by rw [B.state]; rfl
    obtain ⟨t, a1, o, b1, b2, b3⟩ := body p e s m args below meth c s₁ B hml hP s₁ hh0 (Stand.of_body B)
    exact ⟨t, o, a1, b1, b2, b3⟩
/-! ===== END ===== -/
end
section
/-! names, fields -/
def RX0 : String := "NightPorter$Bytes"
def TX0 : u_T := fun k => match k with
  | 0 => ("NightPorter$Bytes", "bytes", "[I", true)
  | _ => ("NightPorter$Bytes", "length", "I", false)
def tyX0 : Nat → FieldType := fun k => match k with
  | 0 => .array .int
  | _ => .int
abbrev wsX00 : List Cond := u_ws RX0 TX0 2
theorem nmX0 : ∀ a, a < 2 → ∀ b, b < 2 → a ≠ b → (TX0 a).2.1 ≠ (TX0 b).2.1 := by decide +kernel
theorem tyX0_ok : ∀ k, k < 2 → parseFieldDescriptor (TX0 k).2.2.1 = some (tyX0 k) := by decide +kernel
abbrev cX0_init : ByteArray := prog_2_method_1_code
def yX0_init : MethodName := ⟨RX0, "<init>", "()V"⟩
abbrev cX0_add : ByteArray := prog_2_method_2_code
def yX0_add : MethodName := ⟨RX0, "add", "(I)V"⟩
abbrev cX0_addFour : ByteArray := prog_2_method_3_code
def yX0_addFour : MethodName := ⟨RX0, "addFour", "(I)V"⟩
abbrev cX0_addText : ByteArray := prog_2_method_4_code
def yX0_addText : MethodName := ⟨RX0, "addText", "(Ljava/lang/String;)V"⟩
abbrev cX0_addMinute : ByteArray := prog_2_method_5_code
def yX0_addMinute : MethodName := ⟨RX0, "addMinute", "(I)V"⟩
abbrev cX0_isName : ByteArray := prog_2_method_6_code
def yX0_isName : MethodName := ⟨RX0, "isName", "()Z"⟩
def RX1 : String := "NightPorter$Guests"
def TX1 : u_T := fun k => match k with
  | 0 => ("NightPorter$Guests", "count", "I", false)
  | 1 => ("NightPorter$Guests", "letters", "[I", true)
  | 2 => ("NightPorter$Guests", "nameLengths", "[I", true)
  | 3 => ("NightPorter$Guests", "generosities", "[I", true)
  | 4 => ("NightPorter$Guests", "barks", "[I", true)
  | 5 => ("NightPorter$Guests", "leftAt", "[I", true)
  | 6 => ("NightPorter$Guests", "soaks", "[I", true)
  | 7 => ("NightPorter$Guests", "walks", "[I", true)
  | _ => ("NightPorter$Guests", "walkedAt", "[I", true)
def tyX1 : Nat → FieldType := fun k => match k with
  | 0 => .int
  | 1 => .array .int
  | 2 => .array .int
  | 3 => .array .int
  | 4 => .array .int
  | 5 => .array .int
  | 6 => .array .int
  | 7 => .array .int
  | _ => .array .int
abbrev wsX10 : List Cond := u_ws RX1 TX1 9
theorem nmX1 : ∀ a, a < 9 → ∀ b, b < 9 → a ≠ b → (TX1 a).2.1 ≠ (TX1 b).2.1 := by decide +kernel
theorem tyX1_ok : ∀ k, k < 9 → parseFieldDescriptor (TX1 k).2.2.1 = some (tyX1 k) := by decide +kernel
abbrev cX1_init : ByteArray := prog_3_method_1_code
def yX1_init : MethodName := ⟨RX1, "<init>", "()V"⟩
abbrev cX1_add : ByteArray := prog_3_method_2_code
def yX1_add : MethodName := ⟨RX1, "add", "(LNightPorter$Bytes;IIII)I"⟩
abbrev cX1_find : ByteArray := prog_3_method_3_code
def yX1_find : MethodName := ⟨RX1, "find", "(LNightPorter$Bytes;II)I"⟩
abbrev cX1_hasLetters : ByteArray := prog_3_method_4_code
def yX1_hasLetters : MethodName := ⟨RX1, "hasLetters", "(ILNightPorter$Bytes;I)Z"⟩
abbrev cX1_letterOf : ByteArray := prog_3_method_5_code
def yX1_letterOf : MethodName := ⟨RX1, "letterOf", "(II)I"⟩
abbrev cX1_isAway : ByteArray := prog_3_method_6_code
def yX1_isAway : MethodName := ⟨RX1, "isAway", "(I)Z"⟩
abbrev cX1_countAway : ByteArray := prog_3_method_7_code
def yX1_countAway : MethodName := ⟨RX1, "countAway", "()I"⟩
abbrev cX1_soakBy : ByteArray := prog_3_method_8_code
def yX1_soakBy : MethodName := ⟨RX1, "soakBy", "(II)V"⟩
abbrev cX1_walkAt : ByteArray := prog_3_method_9_code
def yX1_walkAt : MethodName := ⟨RX1, "walkAt", "(II)I"⟩
abbrev cX1_barksAt : ByteArray := prog_3_method_10_code
def yX1_barksAt : MethodName := ⟨RX1, "barksAt", "(II)Z"⟩
abbrev cX1_noiseAt : ByteArray := prog_3_method_11_code
def yX1_noiseAt : MethodName := ⟨RX1, "noiseAt", "(I)I"⟩
abbrev cX1_copyFrom : ByteArray := prog_3_method_12_code
def yX1_copyFrom : MethodName := ⟨RX1, "copyFrom", "(LNightPorter$Guests;)V"⟩
def RX2 : String := "NightPorter$History"
def TX2 : u_T := fun k => match k with
  | 0 => ("NightPorter$History", "nights", "[LNightPorter$Night;", true)
  | 1 => ("NightPorter$History", "next", "I", false)
  | _ => ("NightPorter$History", "count", "I", false)
def tyX2 : Nat → FieldType := fun k => match k with
  | 0 => .array (.object "NightPorter$Night")
  | 1 => .int
  | _ => .int
abbrev wsX20 : List Cond := u_ws RX2 TX2 3
theorem nmX2 : ∀ a, a < 3 → ∀ b, b < 3 → a ≠ b → (TX2 a).2.1 ≠ (TX2 b).2.1 := by decide +kernel
theorem tyX2_ok : ∀ k, k < 3 → parseFieldDescriptor (TX2 k).2.2.1 = some (tyX2 k) := by decide +kernel
abbrev cX2_init : ByteArray := prog_4_method_1_code
def yX2_init : MethodName := ⟨RX2, "<init>", "()V"⟩
abbrev cX2_remember : ByteArray := prog_4_method_2_code
def yX2_remember : MethodName := ⟨RX2, "remember", "(LNightPorter$Night;)V"⟩
abbrev cX2_takeBack : ByteArray := prog_4_method_3_code
def yX2_takeBack : MethodName := ⟨RX2, "takeBack", "(LNightPorter$Night;)V"⟩
def RX3 : String := "NightPorter$Night"
def TX3 : u_T := fun k => match k with
  | 0 => ("NightPorter$Night", "minute", "I", false)
  | 1 => ("NightPorter$Night", "rain", "I", false)
  | 2 => ("NightPorter$Night", "noiseLimit", "I", false)
  | 3 => ("NightPorter$Night", "noise", "I", false)
  | 4 => ("NightPorter$Night", "complaints", "I", false)
  | 5 => ("NightPorter$Night", "puddle", "I", false)
  | 6 => ("NightPorter$Night", "tips", "I", false)
  | 7 => ("NightPorter$Night", "guests", "LNightPorter$Guests;", true)
  | 8 => ("NightPorter$Night", "umbrellas", "LNightPorter$Umbrellas;", true)
  | _ => ("NightPorter$Night", "register", "LNightPorter$Register;", true)
def tyX3 : Nat → FieldType := fun k => match k with
  | 0 => .int
  | 1 => .int
  | 2 => .int
  | 3 => .int
  | 4 => .int
  | 5 => .int
  | 6 => .int
  | 7 => .object "NightPorter$Guests"
  | 8 => .object "NightPorter$Umbrellas"
  | _ => .object "NightPorter$Register"
abbrev wsX30 : List Cond := u_ws RX3 TX3 10
theorem nmX3 : ∀ a, a < 10 → ∀ b, b < 10 → a ≠ b → (TX3 a).2.1 ≠ (TX3 b).2.1 := by decide +kernel
theorem tyX3_ok : ∀ k, k < 10 → parseFieldDescriptor (TX3 k).2.2.1 = some (tyX3 k) := by decide +kernel
abbrev cX3_init : ByteArray := prog_5_method_1_code
def yX3_init : MethodName := ⟨RX3, "<init>", "()V"⟩
abbrev cX3_clear : ByteArray := prog_5_method_2_code
def yX3_clear : MethodName := ⟨RX3, "clear", "()V"⟩
abbrev cX3_copyFrom : ByteArray := prog_5_method_3_code
def yX3_copyFrom : MethodName := ⟨RX3, "copyFrom", "(LNightPorter$Night;)V"⟩
abbrev cX3_presentYawn : ByteArray := prog_5_method_4_code
def yX3_presentYawn : MethodName := ⟨RX3, "presentYawn", "()I"⟩
abbrev cX3_tipToGive : ByteArray := prog_5_method_5_code
def yX3_tipToGive : MethodName := ⟨RX3, "tipToGive", "(I)I"⟩
abbrev cX3_umbrellaToTake : ByteArray := prog_5_method_6_code
def yX3_umbrellaToTake : MethodName := ⟨RX3, "umbrellaToTake", "(I)I"⟩
abbrev cX3_letLeave : ByteArray := prog_5_method_7_code
def yX3_letLeave : MethodName := ⟨RX3, "letLeave", "(I)V"⟩
abbrev cX3_letReturn : ByteArray := prog_5_method_8_code
def yX3_letReturn : MethodName := ⟨RX3, "letReturn", "(I)I"⟩
abbrev cX3_passOne : ByteArray := prog_5_method_9_code
def yX3_passOne : MethodName := ⟨RX3, "passOne", "()V"⟩
abbrev cX3_soakGuests : ByteArray := prog_5_method_10_code
def yX3_soakGuests : MethodName := ⟨RX3, "soakGuests", "()V"⟩
abbrev cX3_foreseeComplaints : ByteArray := prog_5_method_11_code
def yX3_foreseeComplaints : MethodName := ⟨RX3, "foreseeComplaints", "(I)I"⟩
abbrev cX3_sumOfMinutesAway : ByteArray := prog_5_method_12_code
def yX3_sumOfMinutesAway : MethodName := ⟨RX3, "sumOfMinutesAway", "(II)I"⟩
abbrev cX3_countSuspects : ByteArray := prog_5_method_13_code
def yX3_countSuspects : MethodName := ⟨RX3, "countSuspects", "(II)I"⟩
abbrev cX3_firstSuspect : ByteArray := prog_5_method_14_code
def yX3_firstSuspect : MethodName := ⟨RX3, "firstSuspect", "(II)I"⟩
def RX4 : String := "NightPorter$Parser"
def TX4 : u_T := fun k => match k with
  | 0 => ("NightPorter$Parser", "text", "LNightPorter$Bytes;", true)
  | 1 => ("NightPorter$Parser", "kind", "I", false)
  | 2 => ("NightPorter$Parser", "start", "I", false)
  | 3 => ("NightPorter$Parser", "end", "I", false)
  | _ => ("NightPorter$Parser", "value", "I", false)
def tyX4 : Nat → FieldType := fun k => match k with
  | 0 => .object "NightPorter$Bytes"
  | 1 => .int
  | 2 => .int
  | 3 => .int
  | _ => .int
abbrev wsX40 : List Cond := u_ws RX4 TX4 5
theorem nmX4 : ∀ a, a < 5 → ∀ b, b < 5 → a ≠ b → (TX4 a).2.1 ≠ (TX4 b).2.1 := by decide +kernel
theorem tyX4_ok : ∀ k, k < 5 → parseFieldDescriptor (TX4 k).2.2.1 = some (tyX4 k) := by decide +kernel
abbrev cX4_init : ByteArray := prog_6_method_1_code
def yX4_init : MethodName := ⟨RX4, "<init>", "(LNightPorter$Bytes;)V"⟩
abbrev cX4_readText : ByteArray := prog_6_method_2_code
def yX4_readText : MethodName := ⟨RX4, "readText", "(LNightPorter$Night;)I"⟩
abbrev cX4_readHead : ByteArray := prog_6_method_3_code
def yX4_readHead : MethodName := ⟨RX4, "readHead", "(LNightPorter$Night;)Z"⟩
abbrev cX4_readGuest : ByteArray := prog_6_method_4_code
def yX4_readGuest : MethodName := ⟨RX4, "readGuest", "(LNightPorter$Guests;)Z"⟩
abbrev cX4_readUmbrella : ByteArray := prog_6_method_5_code
def yX4_readUmbrella : MethodName := ⟨RX4, "readUmbrella", "(LNightPorter$Night;)Z"⟩
abbrev cX4_passSemicolon : ByteArray := prog_6_method_6_code
def yX4_passSemicolon : MethodName := ⟨RX4, "passSemicolon", "()Z"⟩
abbrev cX4_isNumber : ByteArray := prog_6_method_7_code
def yX4_isNumber : MethodName := ⟨RX4, "isNumber", "(II)Z"⟩
abbrev cX4_isWord : ByteArray := prog_6_method_8_code
def yX4_isWord : MethodName := ⟨RX4, "isWord", "(Ljava/lang/String;)Z"⟩
abbrev cX4_advance : ByteArray := prog_6_method_9_code
def yX4_advance : MethodName := ⟨RX4, "advance", "()V"⟩
abbrev cX4_takeWord : ByteArray := prog_6_method_10_code
def yX4_takeWord : MethodName := ⟨RX4, "takeWord", "()V"⟩
abbrev cX4_takeNumber : ByteArray := prog_6_method_11_code
def yX4_takeNumber : MethodName := ⟨RX4, "takeNumber", "()V"⟩
def RX5 : String := "NightPorter$Register"
def TX5 : u_T := fun k => match k with
  | 0 => ("NightPorter$Register", "count", "I", false)
  | 1 => ("NightPorter$Register", "minutes", "[I", true)
  | 2 => ("NightPorter$Register", "guests", "[I", true)
  | _ => ("NightPorter$Register", "signs", "[I", true)
def tyX5 : Nat → FieldType := fun k => match k with
  | 0 => .int
  | 1 => .array .int
  | 2 => .array .int
  | _ => .array .int
abbrev wsX50 : List Cond := u_ws RX5 TX5 4
theorem nmX5 : ∀ a, a < 4 → ∀ b, b < 4 → a ≠ b → (TX5 a).2.1 ≠ (TX5 b).2.1 := by decide +kernel
theorem tyX5_ok : ∀ k, k < 4 → parseFieldDescriptor (TX5 k).2.2.1 = some (tyX5 k) := by decide +kernel
abbrev cX5_init : ByteArray := prog_7_method_1_code
def yX5_init : MethodName := ⟨RX5, "<init>", "()V"⟩
abbrev cX5_enter : ByteArray := prog_7_method_2_code
def yX5_enter : MethodName := ⟨RX5, "enter", "(III)V"⟩
abbrev cX5_latestMinute : ByteArray := prog_7_method_3_code
def yX5_latestMinute : MethodName := ⟨RX5, "latestMinute", "()I"⟩
abbrev cX5_wasInAllThrough : ByteArray := prog_7_method_4_code
def yX5_wasInAllThrough : MethodName := ⟨RX5, "wasInAllThrough", "(III)Z"⟩
abbrev cX5_minutesAway : ByteArray := prog_7_method_5_code
def yX5_minutesAway : MethodName := ⟨RX5, "minutesAway", "(IIII)I"⟩
abbrev cX5_writeTo : ByteArray := prog_7_method_6_code
def yX5_writeTo : MethodName := ⟨RX5, "writeTo", "(LNightPorter$Bytes;I)V"⟩
abbrev cX5_copyFrom : ByteArray := prog_7_method_7_code
def yX5_copyFrom : MethodName := ⟨RX5, "copyFrom", "(LNightPorter$Register;)V"⟩
def RX6 : String := "NightPorter$Snapshots"
def TX6 : u_T := fun k => match k with
  | 0 => ("NightPorter$Snapshots", "nights", "[LNightPorter$Night;", true)
  | _ => ("NightPorter$Snapshots", "filled", "[Z", true)
def tyX6 : Nat → FieldType := fun k => match k with
  | 0 => .array (.object "NightPorter$Night")
  | _ => .array .boolean
abbrev wsX60 : List Cond := u_ws RX6 TX6 2
theorem nmX6 : ∀ a, a < 2 → ∀ b, b < 2 → a ≠ b → (TX6 a).2.1 ≠ (TX6 b).2.1 := by decide +kernel
theorem tyX6_ok : ∀ k, k < 2 → parseFieldDescriptor (TX6 k).2.2.1 = some (tyX6 k) := by decide +kernel
abbrev cX6_init : ByteArray := prog_8_method_1_code
def yX6_init : MethodName := ⟨RX6, "<init>", "()V"⟩
abbrev cX6_put : ByteArray := prog_8_method_2_code
def yX6_put : MethodName := ⟨RX6, "put", "(ILNightPorter$Night;)V"⟩
abbrev cX6_empty : ByteArray := prog_8_method_3_code
def yX6_empty : MethodName := ⟨RX6, "empty", "()V"⟩
def RX7 : String := "NightPorter$Umbrellas"
def TX7 : u_T := fun k => match k with
  | 0 => ("NightPorter$Umbrellas", "count", "I", false)
  | 1 => ("NightPorter$Umbrellas", "owners", "[I", true)
  | 2 => ("NightPorter$Umbrellas", "wetnesses", "[I", true)
  | _ => ("NightPorter$Umbrellas", "carriers", "[I", true)
def tyX7 : Nat → FieldType := fun k => match k with
  | 0 => .int
  | 1 => .array .int
  | 2 => .array .int
  | _ => .array .int
abbrev wsX70 : List Cond := u_ws RX7 TX7 4
theorem nmX7 : ∀ a, a < 4 → ∀ b, b < 4 → a ≠ b → (TX7 a).2.1 ≠ (TX7 b).2.1 := by decide +kernel
theorem tyX7_ok : ∀ k, k < 4 → parseFieldDescriptor (TX7 k).2.2.1 = some (tyX7 k) := by decide +kernel
abbrev cX7_init : ByteArray := prog_9_method_1_code
def yX7_init : MethodName := ⟨RX7, "<init>", "()V"⟩
abbrev cX7_add : ByteArray := prog_9_method_2_code
def yX7_add : MethodName := ⟨RX7, "add", "(II)I"⟩
abbrev cX7_stands : ByteArray := prog_9_method_3_code
def yX7_stands : MethodName := ⟨RX7, "stands", "(I)Z"⟩
abbrev cX7_canBeTaken : ByteArray := prog_9_method_4_code
def yX7_canBeTaken : MethodName := ⟨RX7, "canBeTaken", "(I)Z"⟩
abbrev cX7_carriedBy : ByteArray := prog_9_method_5_code
def yX7_carriedBy : MethodName := ⟨RX7, "carriedBy", "(I)I"⟩
abbrev cX7_countInStand : ByteArray := prog_9_method_6_code
def yX7_countInStand : MethodName := ⟨RX7, "countInStand", "()I"⟩
abbrev cX7_countBorrowed : ByteArray := prog_9_method_7_code
def yX7_countBorrowed : MethodName := ⟨RX7, "countBorrowed", "()I"⟩
abbrev cX7_firstOwnUsable : ByteArray := prog_9_method_8_code
def yX7_firstOwnUsable : MethodName := ⟨RX7, "firstOwnUsable", "(I)I"⟩
abbrev cX7_driestUsable : ByteArray := prog_9_method_9_code
def yX7_driestUsable : MethodName := ⟨RX7, "driestUsable", "()I"⟩
abbrev cX7_passOneIn : ByteArray := prog_9_method_10_code
def yX7_passOneIn : MethodName := ⟨RX7, "passOneIn", "(I)I"⟩
abbrev cX7_copyFrom : ByteArray := prog_9_method_11_code
def yX7_copyFrom : MethodName := ⟨RX7, "copyFrom", "(LNightPorter$Umbrellas;)V"⟩
def RX8 : String := "NightPorter"
def TX8 : u_T := fun k => match k with
  | 0 => ("NightPorter", "input", "LNightPorter$Bytes;", true)
  | 1 => ("NightPorter", "written", "LNightPorter$Bytes;", true)
  | 2 => ("NightPorter", "parser", "LNightPorter$Parser;", true)
  | 3 => ("NightPorter", "night", "LNightPorter$Night;", true)
  | 4 => ("NightPorter", "draft", "LNightPorter$Night;", true)
  | 5 => ("NightPorter", "history", "LNightPorter$History;", true)
  | 6 => ("NightPorter", "snapshots", "LNightPorter$Snapshots;", true)
  | _ => ("NightPorter", "foundError", "I", false)
def tyX8 : Nat → FieldType := fun k => match k with
  | 0 => .object "NightPorter$Bytes"
  | 1 => .object "NightPorter$Bytes"
  | 2 => .object "NightPorter$Parser"
  | 3 => .object "NightPorter$Night"
  | 4 => .object "NightPorter$Night"
  | 5 => .object "NightPorter$History"
  | 6 => .object "NightPorter$Snapshots"
  | _ => .int
abbrev wsX80 : List Cond := u_ws RX8 TX8 8
theorem nmX8 : ∀ a, a < 8 → ∀ b, b < 8 → a ≠ b → (TX8 a).2.1 ≠ (TX8 b).2.1 := by decide +kernel
theorem tyX8_ok : ∀ k, k < 8 → parseFieldDescriptor (TX8 k).2.2.1 = some (tyX8 k) := by decide +kernel
abbrev cX8_init : ByteArray := prog_1_method_1_code
def yX8_init : MethodName := ⟨RX8, "<init>", "()V"⟩
abbrev cX8_append : ByteArray := prog_1_method_2_code
def yX8_append : MethodName := ⟨RX8, "append", "(IIIII)I"⟩
abbrev cX8_shorten : ByteArray := prog_1_method_3_code
def yX8_shorten : MethodName := ⟨RX8, "shorten", "(I)I"⟩
abbrev cX8_load : ByteArray := prog_1_method_4_code
def yX8_load : MethodName := ⟨RX8, "load", "()I"⟩
abbrev cX8_hasError : ByteArray := prog_1_method_5_code
def yX8_hasError : MethodName := ⟨RX8, "hasError", "()Z"⟩
abbrev cX8_errorOffset : ByteArray := prog_1_method_6_code
def yX8_errorOffset : MethodName := ⟨RX8, "errorOffset", "()I"⟩
abbrev cX8_minute : ByteArray := prog_1_method_7_code
def yX8_minute : MethodName := ⟨RX8, "minute", "()I"⟩
abbrev cX8_rain : ByteArray := prog_1_method_8_code
def yX8_rain : MethodName := ⟨RX8, "rain", "()I"⟩
abbrev cX8_noiseLimit : ByteArray := prog_1_method_9_code
def yX8_noiseLimit : MethodName := ⟨RX8, "noiseLimit", "()I"⟩
abbrev cX8_noise : ByteArray := prog_1_method_10_code
def yX8_noise : MethodName := ⟨RX8, "noise", "()I"⟩
abbrev cX8_complaints : ByteArray := prog_1_method_11_code
def yX8_complaints : MethodName := ⟨RX8, "complaints", "()I"⟩
abbrev cX8_puddle : ByteArray := prog_1_method_12_code
def yX8_puddle : MethodName := ⟨RX8, "puddle", "()I"⟩
abbrev cX8_yawn : ByteArray := prog_1_method_13_code
def yX8_yawn : MethodName := ⟨RX8, "yawn", "()I"⟩
abbrev cX8_tips : ByteArray := prog_1_method_14_code
def yX8_tips : MethodName := ⟨RX8, "tips", "()I"⟩
abbrev cX8_guestCount : ByteArray := prog_1_method_15_code
def yX8_guestCount : MethodName := ⟨RX8, "guestCount", "()I"⟩
abbrev cX8_nameLength : ByteArray := prog_1_method_16_code
def yX8_nameLength : MethodName := ⟨RX8, "nameLength", "(I)I"⟩
abbrev cX8_nameByte : ByteArray := prog_1_method_17_code
def yX8_nameByte : MethodName := ⟨RX8, "nameByte", "(II)I"⟩
abbrev cX8_guestOfInput : ByteArray := prog_1_method_18_code
def yX8_guestOfInput : MethodName := ⟨RX8, "guestOfInput", "()I"⟩
abbrev cX8_generosity : ByteArray := prog_1_method_19_code
def yX8_generosity : MethodName := ⟨RX8, "generosity", "(I)I"⟩
abbrev cX8_bark : ByteArray := prog_1_method_20_code
def yX8_bark : MethodName := ⟨RX8, "bark", "(I)I"⟩
abbrev cX8_isOut : ByteArray := prog_1_method_21_code
def yX8_isOut : MethodName := ⟨RX8, "isOut", "(I)Z"⟩
abbrev cX8_outSince : ByteArray := prog_1_method_22_code
def yX8_outSince : MethodName := ⟨RX8, "outSince", "(I)I"⟩
abbrev cX8_soak : ByteArray := prog_1_method_23_code
def yX8_soak : MethodName := ⟨RX8, "soak", "(I)I"⟩
abbrev cX8_keysAtDesk : ByteArray := prog_1_method_24_code
def yX8_keysAtDesk : MethodName := ⟨RX8, "keysAtDesk", "()I"⟩
abbrev cX8_wouldBark : ByteArray := prog_1_method_25_code
def yX8_wouldBark : MethodName := ⟨RX8, "wouldBark", "(I)Z"⟩
abbrev cX8_umbrellaCount : ByteArray := prog_1_method_26_code
def yX8_umbrellaCount : MethodName := ⟨RX8, "umbrellaCount", "()I"⟩
abbrev cX8_ownerOf : ByteArray := prog_1_method_27_code
def yX8_ownerOf : MethodName := ⟨RX8, "ownerOf", "(I)I"⟩
abbrev cX8_wetness : ByteArray := prog_1_method_28_code
def yX8_wetness : MethodName := ⟨RX8, "wetness", "(I)I"⟩
abbrev cX8_isInStand : ByteArray := prog_1_method_29_code
def yX8_isInStand : MethodName := ⟨RX8, "isInStand", "(I)Z"⟩
abbrev cX8_isUsable : ByteArray := prog_1_method_30_code
def yX8_isUsable : MethodName := ⟨RX8, "isUsable", "(I)Z"⟩
abbrev cX8_carrierOf : ByteArray := prog_1_method_31_code
def yX8_carrierOf : MethodName := ⟨RX8, "carrierOf", "(I)I"⟩
abbrev cX8_umbrellaOf : ByteArray := prog_1_method_32_code
def yX8_umbrellaOf : MethodName := ⟨RX8, "umbrellaOf", "(I)I"⟩
abbrev cX8_standCount : ByteArray := prog_1_method_33_code
def yX8_standCount : MethodName := ⟨RX8, "standCount", "()I"⟩
abbrev cX8_borrowedCount : ByteArray := prog_1_method_34_code
def yX8_borrowedCount : MethodName := ⟨RX8, "borrowedCount", "()I"⟩
abbrev cX8_entryCount : ByteArray := prog_1_method_35_code
def yX8_entryCount : MethodName := ⟨RX8, "entryCount", "()I"⟩
abbrev cX8_entryMinute : ByteArray := prog_1_method_36_code
def yX8_entryMinute : MethodName := ⟨RX8, "entryMinute", "(I)I"⟩
abbrev cX8_entryGuest : ByteArray := prog_1_method_37_code
def yX8_entryGuest : MethodName := ⟨RX8, "entryGuest", "(I)I"⟩
abbrev cX8_isLeaving : ByteArray := prog_1_method_38_code
def yX8_isLeaving : MethodName := ⟨RX8, "isLeaving", "(I)Z"⟩
abbrev cX8_wasOut : ByteArray := prog_1_method_39_code
def yX8_wasOut : MethodName := ⟨RX8, "wasOut", "(II)Z"⟩
abbrev cX8_hasAlibi : ByteArray := prog_1_method_40_code
def yX8_hasAlibi : MethodName := ⟨RX8, "hasAlibi", "(III)Z"⟩
abbrev cX8_suspects : ByteArray := prog_1_method_41_code
def yX8_suspects : MethodName := ⟨RX8, "suspects", "(II)I"⟩
abbrev cX8_culprit : ByteArray := prog_1_method_42_code
def yX8_culprit : MethodName := ⟨RX8, "culprit", "(II)I"⟩
abbrev cX8_minutesOut : ByteArray := prog_1_method_43_code
def yX8_minutesOut : MethodName := ⟨RX8, "minutesOut", "(I)I"⟩
abbrev cX8_minutesTogether : ByteArray := prog_1_method_44_code
def yX8_minutesTogether : MethodName := ⟨RX8, "minutesTogether", "(II)I"⟩
abbrev cX8_meanMinutesOut : ByteArray := prog_1_method_45_code
def yX8_meanMinutesOut : MethodName := ⟨RX8, "meanMinutesOut", "()D"⟩
abbrev cX8_shareOut : ByteArray := prog_1_method_46_code
def yX8_shareOut : MethodName := ⟨RX8, "shareOut", "()F"⟩
abbrev cX8_umbrellaFor : ByteArray := prog_1_method_47_code
def yX8_umbrellaFor : MethodName := ⟨RX8, "umbrellaFor", "(I)I"⟩
abbrev cX8_tipOf : ByteArray := prog_1_method_48_code
def yX8_tipOf : MethodName := ⟨RX8, "tipOf", "(I)I"⟩
abbrev cX8_complaintsAfter : ByteArray := prog_1_method_49_code
def yX8_complaintsAfter : MethodName := ⟨RX8, "complaintsAfter", "(I)I"⟩
abbrev cX8_addGuest : ByteArray := prog_1_method_50_code
def yX8_addGuest : MethodName := ⟨RX8, "addGuest", "(II)I"⟩
abbrev cX8_addUmbrella : ByteArray := prog_1_method_51_code
def yX8_addUmbrella : MethodName := ⟨RX8, "addUmbrella", "(II)I"⟩
abbrev cX8_leave : ByteArray := prog_1_method_52_code
def yX8_leave : MethodName := ⟨RX8, "leave", "(I)I"⟩
abbrev cX8_comeBack : ByteArray := prog_1_method_53_code
def yX8_comeBack : MethodName := ⟨RX8, "comeBack", "(I)I"⟩
abbrev cX8_passMinutes : ByteArray := prog_1_method_54_code
def yX8_passMinutes : MethodName := ⟨RX8, "passMinutes", "(I)I"⟩
abbrev cX8_walkDog : ByteArray := prog_1_method_55_code
def yX8_walkDog : MethodName := ⟨RX8, "walkDog", "(I)I"⟩
abbrev cX8_setRain : ByteArray := prog_1_method_56_code
def yX8_setRain : MethodName := ⟨RX8, "setRain", "(I)I"⟩
abbrev cX8_setNoiseLimit : ByteArray := prog_1_method_57_code
def yX8_setNoiseLimit : MethodName := ⟨RX8, "setNoiseLimit", "(I)I"⟩
abbrev cX8_undo : ByteArray := prog_1_method_58_code
def yX8_undo : MethodName := ⟨RX8, "undo", "()I"⟩
abbrev cX8_saveSnapshot : ByteArray := prog_1_method_59_code
def yX8_saveSnapshot : MethodName := ⟨RX8, "saveSnapshot", "(I)I"⟩
abbrev cX8_restoreSnapshot : ByteArray := prog_1_method_60_code
def yX8_restoreSnapshot : MethodName := ⟨RX8, "restoreSnapshot", "(I)I"⟩
abbrev cX8_writeEntries : ByteArray := prog_1_method_61_code
def yX8_writeEntries : MethodName := ⟨RX8, "writeEntries", "(I)I"⟩
abbrev cX8_writtenByte : ByteArray := prog_1_method_62_code
def yX8_writtenByte : MethodName := ⟨RX8, "writtenByte", "(I)I"⟩
abbrev cX8_readInput : ByteArray := prog_1_method_63_code
def yX8_readInput : MethodName := ⟨RX8, "readInput", "()V"⟩
abbrev cX8_requireGuest : ByteArray := prog_1_method_64_code
def yX8_requireGuest : MethodName := ⟨RX8, "requireGuest", "(I)V"⟩
abbrev cX8_requireUmbrella : ByteArray := prog_1_method_65_code
def yX8_requireUmbrella : MethodName := ⟨RX8, "requireUmbrella", "(I)V"⟩
abbrev cX8_requireEntry : ByteArray := prog_1_method_66_code
def yX8_requireEntry : MethodName := ⟨RX8, "requireEntry", "(I)V"⟩
abbrev cX8_requireSlot : ByteArray := prog_1_method_67_code
def yX8_requireSlot : MethodName := ⟨RX8, "requireSlot", "(I)V"⟩
abbrev cX8_requirePassed : ByteArray := prog_1_method_68_code
def yX8_requirePassed : MethodName := ⟨RX8, "requirePassed", "(II)V"⟩
abbrev cX8_requireRange : ByteArray := prog_1_method_69_code
def yX8_requireRange : MethodName := ⟨RX8, "requireRange", "(III)V"⟩
abbrev cX8_requireRoomForEntry : ByteArray := prog_1_method_70_code
def yX8_requireRoomForEntry : MethodName := ⟨RX8, "requireRoomForEntry", "()V"⟩
abbrev cX8_isLetter : ByteArray := prog_1_method_71_code
def yX8_isLetter : MethodName := ⟨RX8, "isLetter", "(I)Z"⟩
abbrev cX8_isDigit : ByteArray := prog_1_method_72_code
def yX8_isDigit : MethodName := ⟨RX8, "isDigit", "(I)Z"⟩
abbrev cX8_isBlank : ByteArray := prog_1_method_73_code
def yX8_isBlank : MethodName := ⟨RX8, "isBlank", "(I)Z"⟩
def RJx145de : String := "java/io/Serializable"
def TJx145de : u_T := fun k => match k with
  | _ => ("", "", "", false)
def tyJx145de : Nat → FieldType := fun k => match k with
  | _ => .int
abbrev wsJx145de0 : List Cond := u_ws RJx145de TJx145de 0
theorem nmJx145de : ∀ a, a < 0 → ∀ b, b < 0 → a ≠ b → (TJx145de a).2.1 ≠ (TJx145de b).2.1 := by decide +kernel
theorem tyJx145de_ok : ∀ k, k < 0 → parseFieldDescriptor (TJx145de k).2.2.1 = some (tyJx145de k) := by decide +kernel
def RJ5 : String := "java/lang/AbstractStringBuilder"
def TJ5 : u_T := fun k => match k with
  | _ => ("", "", "", false)
def tyJ5 : Nat → FieldType := fun k => match k with
  | _ => .int
abbrev wsJ50 : List Cond := u_ws RJ5 TJ5 0
theorem nmJ5 : ∀ a, a < 0 → ∀ b, b < 0 → a ≠ b → (TJ5 a).2.1 ≠ (TJ5 b).2.1 := by decide +kernel
theorem tyJ5_ok : ∀ k, k < 0 → parseFieldDescriptor (TJ5 k).2.2.1 = some (tyJ5 k) := by decide +kernel
abbrev cJ5_init_d00df : ByteArray := prog_13_method_2_code
def yJ5_init_d00df : MethodName := ⟨RJ5, "<init>", "(I)V"⟩
abbrev cJ5_init_a7421 : ByteArray := prog_13_method_3_code
def yJ5_init_a7421 : MethodName := ⟨RJ5, "<init>", "(Ljava/lang/String;)V"⟩
abbrev cJ5_length_8abf5 : ByteArray := prog_13_method_6_code
def yJ5_length_8abf5 : MethodName := ⟨RJ5, "length", "()I"⟩
abbrev cJ5_ensureCapacityInternal_d00df : ByteArray := prog_13_method_9_code
def yJ5_ensureCapacityInternal_d00df : MethodName := ⟨RJ5, "ensureCapacityInternal", "(I)V"⟩
abbrev cJ5_newCapacity_0f7a4 : ByteArray := prog_13_method_10_code
def yJ5_newCapacity_0f7a4 : MethodName := ⟨RJ5, "newCapacity", "(I)I"⟩
abbrev cJ5_inflate_da8c8 : ByteArray := prog_13_method_11_code
def yJ5_inflate_da8c8 : MethodName := ⟨RJ5, "inflate", "()V"⟩
abbrev cJ5_append_cf1ce : ByteArray := prog_13_method_22_code
def yJ5_append_cf1ce : MethodName := ⟨RJ5, "append", "(Ljava/lang/String;)Ljava/lang/AbstractStringBuilder;"⟩
abbrev cJ5_appendNull_278bc : ByteArray := prog_13_method_26_code
def yJ5_appendNull_278bc : MethodName := ⟨RJ5, "appendNull", "()Ljava/lang/AbstractStringBuilder;"⟩
abbrev cJ5_append_3fe6f : ByteArray := prog_13_method_31_code
def yJ5_append_3fe6f : MethodName := ⟨RJ5, "append", "(C)Ljava/lang/AbstractStringBuilder;"⟩
abbrev cJ5_append_c97b9 : ByteArray := prog_13_method_32_code
def yJ5_append_c97b9 : MethodName := ⟨RJ5, "append", "(I)Ljava/lang/AbstractStringBuilder;"⟩
abbrev cJ5_getValue_6d5f1 : ByteArray := prog_13_method_64_code
def yJ5_getValue_6d5f1 : MethodName := ⟨RJ5, "getValue", "()[B"⟩
abbrev cJ5_isLatin1_aae02 : ByteArray := prog_13_method_68_code
def yJ5_isLatin1_aae02 : MethodName := ⟨RJ5, "isLatin1", "()Z"⟩
abbrev cJ5_inflateIfNeededFor_a7421 : ByteArray := prog_13_method_71_code
def yJ5_inflateIfNeededFor_a7421 : MethodName := ⟨RJ5, "inflateIfNeededFor", "(Ljava/lang/String;)V"⟩
abbrev cJ5_putStringAt_47b60 : ByteArray := prog_13_method_73_code
def yJ5_putStringAt_47b60 : MethodName := ⟨RJ5, "putStringAt", "(ILjava/lang/String;)V"⟩
def RJx2cfe8 : String := "java/lang/Appendable"
def TJx2cfe8 : u_T := fun k => match k with
  | _ => ("", "", "", false)
def tyJx2cfe8 : Nat → FieldType := fun k => match k with
  | _ => .int
abbrev wsJx2cfe80 : List Cond := u_ws RJx2cfe8 TJx2cfe8 0
theorem nmJx2cfe8 : ∀ a, a < 0 → ∀ b, b < 0 → a ≠ b → (TJx2cfe8 a).2.1 ≠ (TJx2cfe8 b).2.1 := by decide +kernel
theorem tyJx2cfe8_ok : ∀ k, k < 0 → parseFieldDescriptor (TJx2cfe8 k).2.2.1 = some (tyJx2cfe8 k) := by decide +kernel
def RJx9f9b0 : String := "java/lang/CharSequence"
def TJx9f9b0 : u_T := fun k => match k with
  | _ => ("", "", "", false)
def tyJx9f9b0 : Nat → FieldType := fun k => match k with
  | _ => .int
abbrev wsJx9f9b00 : List Cond := u_ws RJx9f9b0 TJx9f9b0 0
theorem nmJx9f9b0 : ∀ a, a < 0 → ∀ b, b < 0 → a ≠ b → (TJx9f9b0 a).2.1 ≠ (TJx9f9b0 b).2.1 := by decide +kernel
theorem tyJx9f9b0_ok : ∀ k, k < 0 → parseFieldDescriptor (TJx9f9b0 k).2.2.1 = some (tyJx9f9b0 k) := by decide +kernel
def RJx8e188 : String := "java/lang/Cloneable"
def TJx8e188 : u_T := fun k => match k with
  | _ => ("", "", "", false)
def tyJx8e188 : Nat → FieldType := fun k => match k with
  | _ => .int
abbrev wsJx8e1880 : List Cond := u_ws RJx8e188 TJx8e188 0
theorem nmJx8e188 : ∀ a, a < 0 → ∀ b, b < 0 → a ≠ b → (TJx8e188 a).2.1 ≠ (TJx8e188 b).2.1 := by decide +kernel
theorem tyJx8e188_ok : ∀ k, k < 0 → parseFieldDescriptor (TJx8e188 k).2.2.1 = some (tyJx8e188 k) := by decide +kernel
def RJxb160c : String := "java/lang/Comparable"
def TJxb160c : u_T := fun k => match k with
  | _ => ("", "", "", false)
def tyJxb160c : Nat → FieldType := fun k => match k with
  | _ => .int
abbrev wsJxb160c0 : List Cond := u_ws RJxb160c TJxb160c 0
theorem nmJxb160c : ∀ a, a < 0 → ∀ b, b < 0 → a ≠ b → (TJxb160c a).2.1 ≠ (TJxb160c b).2.1 := by decide +kernel
theorem tyJxb160c_ok : ∀ k, k < 0 → parseFieldDescriptor (TJxb160c k).2.2.1 = some (tyJxb160c k) := by decide +kernel
def RJ6 : String := "java/lang/Integer"
def TJ6 : u_T := fun k => match k with
  | _ => ("", "", "", false)
def tyJ6 : Nat → FieldType := fun k => match k with
  | _ => .int
abbrev wsJ60 : List Cond := u_ws RJ6 TJ6 0
theorem nmJ6 : ∀ a, a < 0 → ∀ b, b < 0 → a ≠ b → (TJ6 a).2.1 ≠ (TJ6 b).2.1 := by decide +kernel
theorem tyJ6_ok : ∀ k, k < 0 → parseFieldDescriptor (TJ6 k).2.2.1 = some (tyJ6 k) := by decide +kernel
abbrev cJ6_getChars_ba4f3 : ByteArray := prog_22_method_12_code
def yJ6_getChars_ba4f3 : MethodName := ⟨RJ6, "getChars", "(II[B)I"⟩
abbrev cJ6_stringSize_0f7a4 : ByteArray := prog_22_method_13_code
def yJ6_stringSize_0f7a4 : MethodName := ⟨RJ6, "stringSize", "(I)I"⟩
def RJ9 : String := "java/lang/Math"
def TJ9 : u_T := fun k => match k with
  | _ => ("", "", "", false)
def tyJ9 : Nat → FieldType := fun k => match k with
  | _ => .int
abbrev wsJ90 : List Cond := u_ws RJ9 TJ9 0
theorem nmJ9 : ∀ a, a < 0 → ∀ b, b < 0 → a ≠ b → (TJ9 a).2.1 ≠ (TJ9 b).2.1 := by decide +kernel
theorem tyJ9_ok : ∀ k, k < 0 → parseFieldDescriptor (TJ9 k).2.2.1 = some (tyJ9 k) := by decide +kernel
abbrev cJ9_max_7cf53 : ByteArray := prog_23_method_65_code
def yJ9_max_7cf53 : MethodName := ⟨RJ9, "max", "(II)I"⟩
abbrev cJ9_min_7cf53 : ByteArray := prog_23_method_69_code
def yJ9_min_7cf53 : MethodName := ⟨RJ9, "min", "(II)I"⟩
def RJxd2413 : String := "java/lang/Number"
def TJxd2413 : u_T := fun k => match k with
  | _ => ("", "", "", false)
def tyJxd2413 : Nat → FieldType := fun k => match k with
  | _ => .int
abbrev wsJxd24130 : List Cond := u_ws RJxd2413 TJxd2413 0
theorem nmJxd2413 : ∀ a, a < 0 → ∀ b, b < 0 → a ≠ b → (TJxd2413 a).2.1 ≠ (TJxd2413 b).2.1 := by decide +kernel
theorem tyJxd2413_ok : ∀ k, k < 0 → parseFieldDescriptor (TJxd2413 k).2.2.1 = some (tyJxd2413 k) := by decide +kernel
def RJ0 : String := "java/lang/String"
def TJ0 : u_T := fun k => match k with
  | 0 => ("java/lang/String", "value", "[B", true)
  | 1 => ("java/lang/String", "coder", "B", true)
  | 2 => ("java/lang/String", "hash", "I", false)
  | _ => ("java/lang/String", "hashIsZero", "Z", false)
def tyJ0 : Nat → FieldType := fun k => match k with
  | 0 => .array .byte
  | 1 => .byte
  | 2 => .int
  | _ => .boolean
abbrev wsJ00 : List Cond := u_ws RJ0 TJ0 4
theorem nmJ0 : ∀ a, a < 4 → ∀ b, b < 4 → a ≠ b → (TJ0 a).2.1 ≠ (TJ0 b).2.1 := by decide +kernel
theorem tyJ0_ok : ∀ k, k < 4 → parseFieldDescriptor (TJ0 k).2.2.1 = some (tyJ0 k) := by decide +kernel
abbrev cJ0_init_81219 : ByteArray := prog_26_method_53_code
def yJ0_init_81219 : MethodName := ⟨RJ0, "<init>", "(Ljava/lang/StringBuilder;)V"⟩
abbrev cJ0_length_8abf5 : ByteArray := prog_26_method_54_code
def yJ0_length_8abf5 : MethodName := ⟨RJ0, "length", "()I"⟩
abbrev cJ0_charAt_5068e : ByteArray := prog_26_method_56_code
def yJ0_charAt_5068e : MethodName := ⟨RJ0, "charAt", "(I)C"⟩
abbrev cJ0_getBytes_840e7 : ByteArray := prog_26_method_147_code
def yJ0_getBytes_840e7 : MethodName := ⟨RJ0, "getBytes", "([BIB)V"⟩
abbrev cJ0_init_db425 : ByteArray := prog_26_method_150_code
def yJ0_init_db425 : MethodName := ⟨RJ0, "<init>", "(Ljava/lang/AbstractStringBuilder;Ljava/lang/Void;)V"⟩
abbrev cJ0_coder_7d493 : ByteArray := prog_26_method_152_code
def yJ0_coder_7d493 : MethodName := ⟨RJ0, "coder", "()B"⟩
abbrev cJ0_isLatin1_aae02 : ByteArray := prog_26_method_154_code
def yJ0_isLatin1_aae02 : MethodName := ⟨RJ0, "isLatin1", "()Z"⟩
abbrev cJ0_checkIndex_df160 : ByteArray := prog_26_method_155_code
def yJ0_checkIndex_df160 : MethodName := ⟨RJ0, "checkIndex", "(II)V"⟩
abbrev cJ0_checkBoundsOffCount_cabcc : ByteArray := prog_26_method_157_code
def yJ0_checkBoundsOffCount_cabcc : MethodName := ⟨RJ0, "checkBoundsOffCount", "(III)I"⟩
abbrev cJ0_checkBoundsBeginEnd_23922 : ByteArray := prog_26_method_158_code
def yJ0_checkBoundsBeginEnd_23922 : MethodName := ⟨RJ0, "checkBoundsBeginEnd", "(III)V"⟩
def RJ4 : String := "java/lang/StringBuilder"
def TJ4 : u_T := fun k => match k with
  | 0 => ("java/lang/AbstractStringBuilder", "value", "[B", false)
  | 1 => ("java/lang/AbstractStringBuilder", "coder", "B", false)
  | 2 => ("java/lang/AbstractStringBuilder", "maybeLatin1", "Z", false)
  | _ => ("java/lang/AbstractStringBuilder", "count", "I", false)
def tyJ4 : Nat → FieldType := fun k => match k with
  | 0 => .array .byte
  | 1 => .byte
  | 2 => .boolean
  | _ => .int
abbrev wsJ40 : List Cond := u_ws RJ4 TJ4 4
theorem nmJ4 : ∀ a, a < 4 → ∀ b, b < 4 → a ≠ b → (TJ4 a).2.1 ≠ (TJ4 b).2.1 := by decide +kernel
theorem tyJ4_ok : ∀ k, k < 4 → parseFieldDescriptor (TJ4 k).2.2.1 = some (tyJ4 k) := by decide +kernel
abbrev cJ4_init_da8c8 : ByteArray := prog_27_method_1_code
def yJ4_init_da8c8 : MethodName := ⟨RJ4, "<init>", "()V"⟩
abbrev cJ4_init_a7421 : ByteArray := prog_27_method_3_code
def yJ4_init_a7421 : MethodName := ⟨RJ4, "<init>", "(Ljava/lang/String;)V"⟩
abbrev cJ4_append_15ec4 : ByteArray := prog_27_method_7_code
def yJ4_append_15ec4 : MethodName := ⟨RJ4, "append", "(Ljava/lang/String;)Ljava/lang/StringBuilder;"⟩
abbrev cJ4_append_cf468 : ByteArray := prog_27_method_14_code
def yJ4_append_cf468 : MethodName := ⟨RJ4, "append", "(C)Ljava/lang/StringBuilder;"⟩
abbrev cJ4_append_bf812 : ByteArray := prog_27_method_15_code
def yJ4_append_bf812 : MethodName := ⟨RJ4, "append", "(I)Ljava/lang/StringBuilder;"⟩
abbrev cJ4_toString_0e30d : ByteArray := prog_27_method_42_code
def yJ4_toString_0e30d : MethodName := ⟨RJ4, "toString", "()Ljava/lang/String;"⟩
abbrev cJ4_append_cf1ce : ByteArray := prog_27_method_80_code
def yJ4_append_cf1ce : MethodName := ⟨RJ4, "append", "(Ljava/lang/String;)Ljava/lang/AbstractStringBuilder;"⟩
abbrev cJ4_length_8abf5 : ByteArray := prog_27_method_93_code
def yJ4_length_8abf5 : MethodName := ⟨RJ4, "length", "()I"⟩
def RJ1 : String := "java/lang/StringLatin1"
def TJ1 : u_T := fun k => match k with
  | _ => ("", "", "", false)
def tyJ1 : Nat → FieldType := fun k => match k with
  | _ => .int
abbrev wsJ10 : List Cond := u_ws RJ1 TJ1 0
theorem nmJ1 : ∀ a, a < 0 → ∀ b, b < 0 → a ≠ b → (TJ1 a).2.1 ≠ (TJ1 b).2.1 := by decide +kernel
theorem tyJ1_ok : ∀ k, k < 0 → parseFieldDescriptor (TJ1 k).2.2.1 = some (tyJ1 k) := by decide +kernel
abbrev cJ1_charAt_3b067 : ByteArray := prog_28_method_2_code
def yJ1_charAt_3b067 : MethodName := ⟨RJ1, "charAt", "([BI)C"⟩
abbrev cJ1_canEncode_fc78d : ByteArray := prog_28_method_3_code
def yJ1_canEncode_fc78d : MethodName := ⟨RJ1, "canEncode", "(C)Z"⟩
abbrev cJ1_inflate_0e8fd : ByteArray := prog_28_method_50_code
def yJ1_inflate_0e8fd : MethodName := ⟨RJ1, "inflate", "([BI[BII)V"⟩
def RJ2 : String := "java/lang/StringUTF16"
def TJ2 : u_T := fun k => match k with
  | _ => ("", "", "", false)
def tyJ2 : Nat → FieldType := fun k => match k with
  | _ => .int
abbrev wsJ20 : List Cond := u_ws RJ2 TJ2 0
theorem nmJ2 : ∀ a, a < 0 → ∀ b, b < 0 → a ≠ b → (TJ2 a).2.1 ≠ (TJ2 b).2.1 := by decide +kernel
theorem tyJ2_ok : ∀ k, k < 0 → parseFieldDescriptor (TJ2 k).2.2.1 = some (tyJ2 k) := by decide +kernel
abbrev cJ2_newBytesFor_77867 : ByteArray := prog_29_method_2_code
def yJ2_newBytesFor_77867 : MethodName := ⟨RJ2, "newBytesFor", "(I)[B"⟩
abbrev cJ2_newBytesLength_0f7a4 : ByteArray := prog_29_method_3_code
def yJ2_newBytesLength_0f7a4 : MethodName := ⟨RJ2, "newBytesLength", "(I)I"⟩
abbrev cJ2_putChar_b72d1 : ByteArray := prog_29_method_4_code
def yJ2_putChar_b72d1 : MethodName := ⟨RJ2, "putChar", "([BII)V"⟩
abbrev cJ2_getChar_3b067 : ByteArray := prog_29_method_5_code
def yJ2_getChar_3b067 : MethodName := ⟨RJ2, "getChar", "([BI)C"⟩
abbrev cJ2_length_9d52b : ByteArray := prog_29_method_6_code
def yJ2_length_9d52b : MethodName := ⟨RJ2, "length", "([B)I"⟩
abbrev cJ2_coderFromArrayLen_85cad : ByteArray := prog_29_method_15_code
def yJ2_coderFromArrayLen_85cad : MethodName := ⟨RJ2, "coderFromArrayLen", "([BI)B"⟩
abbrev cJ2_compress_39247 : ByteArray := prog_29_method_17_code
def yJ2_compress_39247 : MethodName := ⟨RJ2, "compress", "([BII)[B"⟩
abbrev cJ2_compress_5af95 : ByteArray := prog_29_method_22_code
def yJ2_compress_5af95 : MethodName := ⟨RJ2, "compress", "([BI[BII)I"⟩
abbrev cJ2_putCharSB_b72d1 : ByteArray := prog_29_method_71_code
def yJ2_putCharSB_b72d1 : MethodName := ⟨RJ2, "putCharSB", "([BII)V"⟩
abbrev cJ2_getChars_46870 : ByteArray := prog_29_method_77_code
def yJ2_getChars_46870 : MethodName := ⟨RJ2, "getChars", "(III[B)I"⟩
abbrev cJ2_putCharsAt_cd4e5 : ByteArray := prog_29_method_81_code
def yJ2_putCharsAt_cd4e5 : MethodName := ⟨RJ2, "putCharsAt", "([BICCCC)I"⟩
abbrev cJ2_charAt_3b067 : ByteArray := prog_29_method_83_code
def yJ2_charAt_3b067 : MethodName := ⟨RJ2, "charAt", "([BI)C"⟩
abbrev cJ2_inflate_0e8fd : ByteArray := prog_29_method_86_code
def yJ2_inflate_0e8fd : MethodName := ⟨RJ2, "inflate", "([BI[BII)V"⟩
abbrev cJ2_getChars_ba4f3 : ByteArray := prog_29_method_89_code
def yJ2_getChars_ba4f3 : MethodName := ⟨RJ2, "getChars", "(II[B)I"⟩
abbrev cJ2_checkIndex_2214a : ByteArray := prog_29_method_91_code
def yJ2_checkIndex_2214a : MethodName := ⟨RJ2, "checkIndex", "(I[B)V"⟩
abbrev cJ2_checkBoundsBeginEnd_d044e : ByteArray := prog_29_method_93_code
def yJ2_checkBoundsBeginEnd_d044e : MethodName := ⟨RJ2, "checkBoundsBeginEnd", "(II[B)V"⟩
abbrev cJ2_checkBoundsOffCount_d044e : ByteArray := prog_29_method_94_code
def yJ2_checkBoundsOffCount_d044e : MethodName := ⟨RJ2, "checkBoundsOffCount", "(II[B)V"⟩
def RJ10 : String := "java/lang/System"
def TJ10 : u_T := fun k => match k with
  | _ => ("", "", "", false)
def tyJ10 : Nat → FieldType := fun k => match k with
  | _ => .int
abbrev wsJ100 : List Cond := u_ws RJ10 TJ10 0
theorem nmJ10 : ∀ a, a < 0 → ∀ b, b < 0 → a ≠ b → (TJ10 a).2.1 ≠ (TJ10 b).2.1 := by decide +kernel
theorem tyJ10_ok : ∀ k, k < 0 → parseFieldDescriptor (TJ10 k).2.2.1 = some (tyJ10 k) := by decide +kernel
def RJxfd54e : String := "java/lang/constant/Constable"
def TJxfd54e : u_T := fun k => match k with
  | _ => ("", "", "", false)
def tyJxfd54e : Nat → FieldType := fun k => match k with
  | _ => .int
abbrev wsJxfd54e0 : List Cond := u_ws RJxfd54e TJxfd54e 0
theorem nmJxfd54e : ∀ a, a < 0 → ∀ b, b < 0 → a ≠ b → (TJxfd54e a).2.1 ≠ (TJxfd54e b).2.1 := by decide +kernel
theorem tyJxfd54e_ok : ∀ k, k < 0 → parseFieldDescriptor (TJxfd54e k).2.2.1 = some (tyJxfd54e k) := by decide +kernel
def RJx3cf43 : String := "java/lang/constant/ConstantDesc"
def TJx3cf43 : u_T := fun k => match k with
  | _ => ("", "", "", false)
def tyJx3cf43 : Nat → FieldType := fun k => match k with
  | _ => .int
abbrev wsJx3cf430 : List Cond := u_ws RJx3cf43 TJx3cf43 0
theorem nmJx3cf43 : ∀ a, a < 0 → ∀ b, b < 0 → a ≠ b → (TJx3cf43 a).2.1 ≠ (TJx3cf43 b).2.1 := by decide +kernel
theorem tyJx3cf43_ok : ∀ k, k < 0 → parseFieldDescriptor (TJx3cf43 k).2.2.1 = some (tyJx3cf43 k) := by decide +kernel
def RJ7 : String := "java/util/Arrays"
def TJ7 : u_T := fun k => match k with
  | _ => ("", "", "", false)
def tyJ7 : Nat → FieldType := fun k => match k with
  | _ => .int
abbrev wsJ70 : List Cond := u_ws RJ7 TJ7 0
theorem nmJ7 : ∀ a, a < 0 → ∀ b, b < 0 → a ≠ b → (TJ7 a).2.1 ≠ (TJ7 b).2.1 := by decide +kernel
theorem tyJ7_ok : ∀ k, k < 0 → parseFieldDescriptor (TJ7 k).2.2.1 = some (tyJ7 k) := by decide +kernel
abbrev cJ7_copyOf_9075b : ByteArray := prog_34_method_121_code
def yJ7_copyOf_9075b : MethodName := ⟨RJ7, "copyOf", "([BI)[B"⟩
abbrev cJ7_checkLength_df160 : ByteArray := prog_34_method_131_code
def yJ7_checkLength_df160 : MethodName := ⟨RJ7, "checkLength", "(II)V"⟩
abbrev cJ7_copyOfRange_39247 : ByteArray := prog_34_method_132_code
def yJ7_copyOfRange_39247 : MethodName := ⟨RJ7, "copyOfRange", "([BII)[B"⟩
abbrev cJ7_copyOfRangeByte_39247 : ByteArray := prog_34_method_133_code
def yJ7_copyOfRangeByte_39247 : MethodName := ⟨RJ7, "copyOfRangeByte", "([BII)[B"⟩
def RJ8 : String := "jdk/internal/util/ArraysSupport"
def TJ8 : u_T := fun k => match k with
  | _ => ("", "", "", false)
def tyJ8 : Nat → FieldType := fun k => match k with
  | _ => .int
abbrev wsJ80 : List Cond := u_ws RJ8 TJ8 0
theorem nmJ8 : ∀ a, a < 0 → ∀ b, b < 0 → a ≠ b → (TJ8 a).2.1 ≠ (TJ8 b).2.1 := by decide +kernel
theorem tyJ8_ok : ∀ k, k < 0 → parseFieldDescriptor (TJ8 k).2.2.1 = some (tyJ8 k) := by decide +kernel
abbrev cJ8_newLength_cabcc : ByteArray := prog_36_method_27_code
def yJ8_newLength_cabcc : MethodName := ⟨RJ8, "newLength", "(III)I"⟩
abbrev cJ8_hugeLength_7cf53 : ByteArray := prog_36_method_28_code
def yJ8_hugeLength_7cf53 : MethodName := ⟨RJ8, "hugeLength", "(II)I"⟩
def RJ3 : String := "jdk/internal/util/Preconditions"
def TJ3 : u_T := fun k => match k with
  | _ => ("", "", "", false)
def tyJ3 : Nat → FieldType := fun k => match k with
  | _ => .int
abbrev wsJ30 : List Cond := u_ws RJ3 TJ3 0
theorem nmJ3 : ∀ a, a < 0 → ∀ b, b < 0 → a ≠ b → (TJ3 a).2.1 ≠ (TJ3 b).2.1 := by decide +kernel
theorem tyJ3_ok : ∀ k, k < 0 → parseFieldDescriptor (TJ3 k).2.2.1 = some (tyJ3 k) := by decide +kernel
abbrev cJ3_checkIndex_8e157 : ByteArray := prog_37_method_11_code
def yJ3_checkIndex_8e157 : MethodName := ⟨RJ3, "checkIndex", "(IILjava/util/function/BiFunction;)I"⟩
abbrev cJ3_checkFromToIndex_8c36e : ByteArray := prog_37_method_12_code
def yJ3_checkFromToIndex_8c36e : MethodName := ⟨RJ3, "checkFromToIndex", "(IIILjava/util/function/BiFunction;)I"⟩
abbrev cJ3_checkFromIndexSize_8c36e : ByteArray := prog_37_method_13_code
def yJ3_checkFromIndexSize_8c36e : MethodName := ⟨RJ3, "checkFromIndexSize", "(IIILjava/util/function/BiFunction;)I"⟩
def RL : String := "NightPorterLaw"
abbrev cL_call : ByteArray := method_2_code
def yL_call : MethodName := ⟨RL, "call", "(LNightPorter;IIIIII)I"⟩
abbrev cL_call_ : ByteArray := method_3_code
def yL_call_ : MethodName := ⟨RL, "call", "(LNightPorter;III)I"⟩
abbrev cL_call__ : ByteArray := method_4_code
def yL_call__ : MethodName := ⟨RL, "call", "(LNightPorter;II)I"⟩
abbrev cL_feeds : ByteArray := method_5_code
def yL_feeds : MethodName := ⟨RL, "feeds", "(LNightPorter;Ljava/lang/String;)Z"⟩
abbrev cL_night : ByteArray := method_6_code
def yL_night : MethodName := ⟨RL, "night", "(II)Ljava/lang/String;"⟩
abbrev cL_state : ByteArray := method_7_code
def yL_state : MethodName := ⟨RL, "state", "(LNightPorter;)J"⟩
abbrev cL_register : ByteArray := method_8_code
def yL_register : MethodName := ⟨RL, "register", "(LNightPorter;)Z"⟩
abbrev cL_alibis : ByteArray := method_9_code
def yL_alibis : MethodName := ⟨RL, "alibis", "(LNightPorter;II)Z"⟩
abbrev cL_goes : ByteArray := method_10_code
def yL_goes : MethodName := ⟨RL, "goes", "(LNightPorter;)Z"⟩
abbrev cL_passes : ByteArray := method_11_code
def yL_passes : MethodName := ⟨RL, "passes", "(LNightPorter;I)Z"⟩
abbrev cL_does : ByteArray := method_12_code
def yL_does : MethodName := ⟨RL, "does", "(LNightPorter;II)Z"⟩
abbrev cL_law : ByteArray := code
def yL_law : MethodName := ⟨RL, "law", "([I)Z"⟩
abbrev vwCl : List vw_C := [(RX0, TX0, 2), (RX1, TX1, 9), (RX2, TX2, 3), (RX3, TX3, 10), (RX4, TX4, 5), (RX5, TX5, 4), (RX6, TX6, 2), (RX7, TX7, 4), (RX8, TX8, 8), (RJ0, TJ0, 4), (RJ4, TJ4, 4)]
end
section
theorem dX0_init_0 : decode cX0_init 0 = .ok (.aload_n 0, 1) := by decide +kernel
theorem dX0_init_1 : decode cX0_init 1 = .ok (.invokespecial 3, 3) := by decide +kernel
theorem dX0_init_4 : decode cX0_init 4 = .ok (.aload_n 0, 1) := by decide +kernel
theorem dX0_init_5 : decode cX0_init 5 = .ok (.sipush 600, 3) := by decide +kernel
theorem dX0_init_8 : decode cX0_init 8 = .ok (.newarray .int, 2) := by decide +kernel
theorem dX0_init_10 : decode cX0_init 10 = .ok (.putfield 9, 3) := by decide +kernel
theorem dX0_init_13 : decode cX0_init 13 = .ok (.aload_n 0, 1) := by decide +kernel
theorem dX0_init_14 : decode cX0_init 14 = .ok (.iconst 0, 1) := by decide +kernel
theorem dX0_init_15 : decode cX0_init 15 = .ok (.putfield 15, 3) := by decide +kernel
theorem dX0_init_18 : decode cX0_init 18 = .ok (.return_, 1) := by decide +kernel
theorem dX0_add_0 : decode cX0_add 0 = .ok (.aload_n 0, 1) := by decide +kernel
theorem dX0_add_1 : decode cX0_add 1 = .ok (.getfield 15, 3) := by decide +kernel
theorem dX0_add_4 : decode cX0_add 4 = .ok (.sipush 600, 3) := by decide +kernel
theorem dX0_add_7 : decode cX0_add 7 = .ok (.if_icmp .ge 27, 3) := by decide +kernel
theorem dX0_add_10 : decode cX0_add 10 = .ok (.aload_n 0, 1) := by decide +kernel
theorem dX0_add_11 : decode cX0_add 11 = .ok (.getfield 9, 3) := by decide +kernel
theorem dX0_add_14 : decode cX0_add 14 = .ok (.aload_n 0, 1) := by decide +kernel
theorem dX0_add_15 : decode cX0_add 15 = .ok (.getfield 15, 3) := by decide +kernel
theorem dX0_add_18 : decode cX0_add 18 = .ok (.iload_n 1, 1) := by decide +kernel
theorem dX0_add_19 : decode cX0_add 19 = .ok (.sipush 255, 3) := by decide +kernel
theorem dX0_add_22 : decode cX0_add 22 = .ok (.iand, 1) := by decide +kernel
theorem dX0_add_23 : decode cX0_add 23 = .ok (.iastore, 1) := by decide +kernel
theorem dX0_add_24 : decode cX0_add 24 = .ok (.aload_n 0, 1) := by decide +kernel
theorem dX0_add_25 : decode cX0_add 25 = .ok (.dup, 1) := by decide +kernel
theorem dX0_add_26 : decode cX0_add 26 = .ok (.getfield 15, 3) := by decide +kernel
theorem dX0_add_29 : decode cX0_add 29 = .ok (.iconst 1, 1) := by decide +kernel
theorem dX0_add_30 : decode cX0_add 30 = .ok (.iadd, 1) := by decide +kernel
theorem dX0_add_31 : decode cX0_add 31 = .ok (.putfield 15, 3) := by decide +kernel
theorem dX0_add_34 : decode cX0_add 34 = .ok (.return_, 1) := by decide +kernel
theorem dX0_addFour_0 : decode cX0_addFour 0 = .ok (.aload_n 0, 1) := by decide +kernel
theorem dX0_addFour_1 : decode cX0_addFour 1 = .ok (.iload_n 1, 1) := by decide +kernel
theorem dX0_addFour_2 : decode cX0_addFour 2 = .ok (.bipush 24, 2) := by decide +kernel
theorem dX0_addFour_4 : decode cX0_addFour 4 = .ok (.iushr, 1) := by decide +kernel
theorem dX0_addFour_5 : decode cX0_addFour 5 = .ok (.invokevirtual 19, 3) := by decide +kernel
theorem dX0_addFour_8 : decode cX0_addFour 8 = .ok (.aload_n 0, 1) := by decide +kernel
theorem dX0_addFour_9 : decode cX0_addFour 9 = .ok (.iload_n 1, 1) := by decide +kernel
theorem dX0_addFour_10 : decode cX0_addFour 10 = .ok (.bipush 16, 2) := by decide +kernel
theorem dX0_addFour_12 : decode cX0_addFour 12 = .ok (.iushr, 1) := by decide +kernel
theorem dX0_addFour_13 : decode cX0_addFour 13 = .ok (.invokevirtual 19, 3) := by decide +kernel
theorem dX0_addFour_16 : decode cX0_addFour 16 = .ok (.aload_n 0, 1) := by decide +kernel
theorem dX0_addFour_17 : decode cX0_addFour 17 = .ok (.iload_n 1, 1) := by decide +kernel
theorem dX0_addFour_18 : decode cX0_addFour 18 = .ok (.bipush 8, 2) := by decide +kernel
theorem dX0_addFour_20 : decode cX0_addFour 20 = .ok (.iushr, 1) := by decide +kernel
theorem dX0_addFour_21 : decode cX0_addFour 21 = .ok (.invokevirtual 19, 3) := by decide +kernel
theorem dX0_addFour_24 : decode cX0_addFour 24 = .ok (.aload_n 0, 1) := by decide +kernel
theorem dX0_addFour_25 : decode cX0_addFour 25 = .ok (.iload_n 1, 1) := by decide +kernel
theorem dX0_addFour_26 : decode cX0_addFour 26 = .ok (.invokevirtual 19, 3) := by decide +kernel
theorem dX0_addFour_29 : decode cX0_addFour 29 = .ok (.return_, 1) := by decide +kernel
theorem dX0_addText_0 : decode cX0_addText 0 = .ok (.iconst 0, 1) := by decide +kernel
theorem dX0_addText_1 : decode cX0_addText 1 = .ok (.istore_n 2, 1) := by decide +kernel
theorem dX0_addText_2 : decode cX0_addText 2 = .ok (.iload_n 2, 1) := by decide +kernel
theorem dX0_addText_3 : decode cX0_addText 3 = .ok (.aload_n 1, 1) := by decide +kernel
theorem dX0_addText_4 : decode cX0_addText 4 = .ok (.invokevirtual 23, 3) := by decide +kernel
theorem dX0_addText_7 : decode cX0_addText 7 = .ok (.if_icmp .ge 18, 3) := by decide +kernel
theorem dX0_addText_10 : decode cX0_addText 10 = .ok (.aload_n 0, 1) := by decide +kernel
theorem dX0_addText_11 : decode cX0_addText 11 = .ok (.aload_n 1, 1) := by decide +kernel
theorem dX0_addText_12 : decode cX0_addText 12 = .ok (.iload_n 2, 1) := by decide +kernel
theorem dX0_addText_13 : decode cX0_addText 13 = .ok (.invokevirtual 28, 3) := by decide +kernel
theorem dX0_addText_16 : decode cX0_addText 16 = .ok (.invokevirtual 19, 3) := by decide +kernel
theorem dX0_addText_19 : decode cX0_addText 19 = .ok (.iinc 2 1, 3) := by decide +kernel
theorem dX0_addText_22 : decode cX0_addText 22 = .ok (.goto (-20), 3) := by decide +kernel
theorem dX0_addText_25 : decode cX0_addText 25 = .ok (.return_, 1) := by decide +kernel
theorem dX0_addMinute_0 : decode cX0_addMinute 0 = .ok (.iload_n 1, 1) := by decide +kernel
theorem dX0_addMinute_1 : decode cX0_addMinute 1 = .ok (.bipush 100, 2) := by decide +kernel
theorem dX0_addMinute_3 : decode cX0_addMinute 3 = .ok (.if_icmp .lt 14, 3) := by decide +kernel
theorem dX0_addMinute_6 : decode cX0_addMinute 6 = .ok (.aload_n 0, 1) := by decide +kernel
theorem dX0_addMinute_7 : decode cX0_addMinute 7 = .ok (.bipush 48, 2) := by decide +kernel
theorem dX0_addMinute_9 : decode cX0_addMinute 9 = .ok (.iload_n 1, 1) := by decide +kernel
theorem dX0_addMinute_10 : decode cX0_addMinute 10 = .ok (.bipush 100, 2) := by decide +kernel
theorem dX0_addMinute_12 : decode cX0_addMinute 12 = .ok (.idiv, 1) := by decide +kernel
theorem dX0_addMinute_13 : decode cX0_addMinute 13 = .ok (.iadd, 1) := by decide +kernel
theorem dX0_addMinute_14 : decode cX0_addMinute 14 = .ok (.invokevirtual 19, 3) := by decide +kernel
theorem dX0_addMinute_17 : decode cX0_addMinute 17 = .ok (.iload_n 1, 1) := by decide +kernel
theorem dX0_addMinute_18 : decode cX0_addMinute 18 = .ok (.bipush 10, 2) := by decide +kernel
theorem dX0_addMinute_20 : decode cX0_addMinute 20 = .ok (.if_icmp .lt 17, 3) := by decide +kernel
theorem dX0_addMinute_23 : decode cX0_addMinute 23 = .ok (.aload_n 0, 1) := by decide +kernel
theorem dX0_addMinute_24 : decode cX0_addMinute 24 = .ok (.bipush 48, 2) := by decide +kernel
theorem dX0_addMinute_26 : decode cX0_addMinute 26 = .ok (.iload_n 1, 1) := by decide +kernel
theorem dX0_addMinute_27 : decode cX0_addMinute 27 = .ok (.bipush 10, 2) := by decide +kernel
theorem dX0_addMinute_29 : decode cX0_addMinute 29 = .ok (.idiv, 1) := by decide +kernel
theorem dX0_addMinute_30 : decode cX0_addMinute 30 = .ok (.bipush 10, 2) := by decide +kernel
theorem dX0_addMinute_32 : decode cX0_addMinute 32 = .ok (.irem, 1) := by decide +kernel
theorem dX0_addMinute_33 : decode cX0_addMinute 33 = .ok (.iadd, 1) := by decide +kernel
theorem dX0_addMinute_34 : decode cX0_addMinute 34 = .ok (.invokevirtual 19, 3) := by decide +kernel
theorem dX0_addMinute_37 : decode cX0_addMinute 37 = .ok (.aload_n 0, 1) := by decide +kernel
theorem dX0_addMinute_38 : decode cX0_addMinute 38 = .ok (.bipush 48, 2) := by decide +kernel
theorem dX0_addMinute_40 : decode cX0_addMinute 40 = .ok (.iload_n 1, 1) := by decide +kernel
theorem dX0_addMinute_41 : decode cX0_addMinute 41 = .ok (.bipush 10, 2) := by decide +kernel
theorem dX0_addMinute_43 : decode cX0_addMinute 43 = .ok (.irem, 1) := by decide +kernel
theorem dX0_addMinute_44 : decode cX0_addMinute 44 = .ok (.iadd, 1) := by decide +kernel
theorem dX0_addMinute_45 : decode cX0_addMinute 45 = .ok (.invokevirtual 19, 3) := by decide +kernel
theorem dX0_addMinute_48 : decode cX0_addMinute 48 = .ok (.return_, 1) := by decide +kernel
theorem dX0_isName_0 : decode cX0_isName 0 = .ok (.aload_n 0, 1) := by decide +kernel
theorem dX0_isName_1 : decode cX0_isName 1 = .ok (.getfield 15, 3) := by decide +kernel
theorem dX0_isName_4 : decode cX0_isName 4 = .ok (.iconst 1, 1) := by decide +kernel
theorem dX0_isName_5 : decode cX0_isName 5 = .ok (.if_icmp .lt 11, 3) := by decide +kernel
theorem dX0_isName_8 : decode cX0_isName 8 = .ok (.aload_n 0, 1) := by decide +kernel
theorem dX0_isName_9 : decode cX0_isName 9 = .ok (.getfield 15, 3) := by decide +kernel
theorem dX0_isName_12 : decode cX0_isName 12 = .ok (.iconst 5, 1) := by decide +kernel
theorem dX0_isName_13 : decode cX0_isName 13 = .ok (.if_icmp .le 5, 3) := by decide +kernel
theorem dX0_isName_16 : decode cX0_isName 16 = .ok (.iconst 0, 1) := by decide +kernel
theorem dX0_isName_17 : decode cX0_isName 17 = .ok (.ireturn, 1) := by decide +kernel
theorem dX0_isName_18 : decode cX0_isName 18 = .ok (.iconst 0, 1) := by decide +kernel
theorem dX0_isName_19 : decode cX0_isName 19 = .ok (.istore_n 1, 1) := by decide +kernel
theorem dX0_isName_20 : decode cX0_isName 20 = .ok (.iload_n 1, 1) := by decide +kernel
theorem dX0_isName_21 : decode cX0_isName 21 = .ok (.aload_n 0, 1) := by decide +kernel
theorem dX0_isName_22 : decode cX0_isName 22 = .ok (.getfield 15, 3) := by decide +kernel
theorem dX0_isName_25 : decode cX0_isName 25 = .ok (.if_icmp .ge 23, 3) := by decide +kernel
theorem dX0_isName_28 : decode cX0_isName 28 = .ok (.aload_n 0, 1) := by decide +kernel
theorem dX0_isName_29 : decode cX0_isName 29 = .ok (.getfield 9, 3) := by decide +kernel
theorem dX0_isName_32 : decode cX0_isName 32 = .ok (.iload_n 1, 1) := by decide +kernel
theorem dX0_isName_33 : decode cX0_isName 33 = .ok (.iaload, 1) := by decide +kernel
theorem dX0_isName_34 : decode cX0_isName 34 = .ok (.invokestatic 32, 3) := by decide +kernel
theorem dX0_isName_37 : decode cX0_isName 37 = .ok (.ifCond .ne 5, 3) := by decide +kernel
theorem dX0_isName_40 : decode cX0_isName 40 = .ok (.iconst 0, 1) := by decide +kernel
theorem dX0_isName_41 : decode cX0_isName 41 = .ok (.ireturn, 1) := by decide +kernel
theorem dX0_isName_42 : decode cX0_isName 42 = .ok (.iinc 1 1, 3) := by decide +kernel
theorem dX0_isName_45 : decode cX0_isName 45 = .ok (.goto (-25), 3) := by decide +kernel
theorem dX0_isName_48 : decode cX0_isName 48 = .ok (.iconst 1, 1) := by decide +kernel
theorem dX0_isName_49 : decode cX0_isName 49 = .ok (.ireturn, 1) := by decide +kernel
theorem dX1_init_0 : decode cX1_init 0 = .ok (.aload_n 0, 1) := by decide +kernel
theorem dX1_init_1 : decode cX1_init 1 = .ok (.invokespecial 3, 3) := by decide +kernel
theorem dX1_init_4 : decode cX1_init 4 = .ok (.aload_n 0, 1) := by decide +kernel
theorem dX1_init_5 : decode cX1_init 5 = .ok (.iconst 0, 1) := by decide +kernel
theorem dX1_init_6 : decode cX1_init 6 = .ok (.putfield 9, 3) := by decide +kernel
theorem dX1_init_9 : decode cX1_init 9 = .ok (.aload_n 0, 1) := by decide +kernel
theorem dX1_init_10 : decode cX1_init 10 = .ok (.bipush 50, 2) := by decide +kernel
theorem dX1_init_12 : decode cX1_init 12 = .ok (.newarray .int, 2) := by decide +kernel
theorem dX1_init_14 : decode cX1_init 14 = .ok (.putfield 15, 3) := by decide +kernel
theorem dX1_init_17 : decode cX1_init 17 = .ok (.aload_n 0, 1) := by decide +kernel
theorem dX1_init_18 : decode cX1_init 18 = .ok (.bipush 10, 2) := by decide +kernel
theorem dX1_init_20 : decode cX1_init 20 = .ok (.newarray .int, 2) := by decide +kernel
theorem dX1_init_22 : decode cX1_init 22 = .ok (.putfield 19, 3) := by decide +kernel
theorem dX1_init_25 : decode cX1_init 25 = .ok (.aload_n 0, 1) := by decide +kernel
theorem dX1_init_26 : decode cX1_init 26 = .ok (.bipush 10, 2) := by decide +kernel
theorem dX1_init_28 : decode cX1_init 28 = .ok (.newarray .int, 2) := by decide +kernel
theorem dX1_init_30 : decode cX1_init 30 = .ok (.putfield 22, 3) := by decide +kernel
theorem dX1_init_33 : decode cX1_init 33 = .ok (.aload_n 0, 1) := by decide +kernel
theorem dX1_init_34 : decode cX1_init 34 = .ok (.bipush 10, 2) := by decide +kernel
theorem dX1_init_36 : decode cX1_init 36 = .ok (.newarray .int, 2) := by decide +kernel
theorem dX1_init_38 : decode cX1_init 38 = .ok (.putfield 25, 3) := by decide +kernel
theorem dX1_init_41 : decode cX1_init 41 = .ok (.aload_n 0, 1) := by decide +kernel
theorem dX1_init_42 : decode cX1_init 42 = .ok (.bipush 10, 2) := by decide +kernel
theorem dX1_init_44 : decode cX1_init 44 = .ok (.newarray .int, 2) := by decide +kernel
theorem dX1_init_46 : decode cX1_init 46 = .ok (.putfield 28, 3) := by decide +kernel
theorem dX1_init_49 : decode cX1_init 49 = .ok (.aload_n 0, 1) := by decide +kernel
theorem dX1_init_50 : decode cX1_init 50 = .ok (.bipush 10, 2) := by decide +kernel
theorem dX1_init_52 : decode cX1_init 52 = .ok (.newarray .int, 2) := by decide +kernel
theorem dX1_init_54 : decode cX1_init 54 = .ok (.putfield 31, 3) := by decide +kernel
theorem dX1_init_57 : decode cX1_init 57 = .ok (.aload_n 0, 1) := by decide +kernel
theorem dX1_init_58 : decode cX1_init 58 = .ok (.bipush 10, 2) := by decide +kernel
theorem dX1_init_60 : decode cX1_init 60 = .ok (.newarray .int, 2) := by decide +kernel
theorem dX1_init_62 : decode cX1_init 62 = .ok (.putfield 34, 3) := by decide +kernel
theorem dX1_init_65 : decode cX1_init 65 = .ok (.aload_n 0, 1) := by decide +kernel
theorem dX1_init_66 : decode cX1_init 66 = .ok (.bipush 10, 2) := by decide +kernel
theorem dX1_init_68 : decode cX1_init 68 = .ok (.newarray .int, 2) := by decide +kernel
theorem dX1_init_70 : decode cX1_init 70 = .ok (.putfield 37, 3) := by decide +kernel
theorem dX1_init_73 : decode cX1_init 73 = .ok (.return_, 1) := by decide +kernel
theorem dX1_add_0 : decode cX1_add 0 = .ok (.aload_n 0, 1) := by decide +kernel
theorem dX1_add_1 : decode cX1_add 1 = .ok (.getfield 9, 3) := by decide +kernel
theorem dX1_add_4 : decode cX1_add 4 = .ok (.istore 6, 2) := by decide +kernel
theorem dX1_add_6 : decode cX1_add 6 = .ok (.iconst 0, 1) := by decide +kernel
theorem dX1_add_7 : decode cX1_add 7 = .ok (.istore 7, 2) := by decide +kernel
theorem dX1_add_9 : decode cX1_add 9 = .ok (.iload 7, 2) := by decide +kernel
theorem dX1_add_11 : decode cX1_add 11 = .ok (.iload_n 3, 1) := by decide +kernel
theorem dX1_add_12 : decode cX1_add 12 = .ok (.if_icmp .ge 30, 3) := by decide +kernel
theorem dX1_add_15 : decode cX1_add 15 = .ok (.aload_n 0, 1) := by decide +kernel
theorem dX1_add_16 : decode cX1_add 16 = .ok (.getfield 15, 3) := by decide +kernel
theorem dX1_add_19 : decode cX1_add 19 = .ok (.iload 6, 2) := by decide +kernel
theorem dX1_add_21 : decode cX1_add 21 = .ok (.iconst 5, 1) := by decide +kernel
theorem dX1_add_22 : decode cX1_add 22 = .ok (.imul, 1) := by decide +kernel
theorem dX1_add_23 : decode cX1_add 23 = .ok (.iload 7, 2) := by decide +kernel
theorem dX1_add_25 : decode cX1_add 25 = .ok (.iadd, 1) := by decide +kernel
theorem dX1_add_26 : decode cX1_add 26 = .ok (.aload_n 1, 1) := by decide +kernel
theorem dX1_add_27 : decode cX1_add 27 = .ok (.getfield 40, 3) := by decide +kernel
theorem dX1_add_30 : decode cX1_add 30 = .ok (.iload_n 2, 1) := by decide +kernel
theorem dX1_add_31 : decode cX1_add 31 = .ok (.iload 7, 2) := by decide +kernel
theorem dX1_add_33 : decode cX1_add 33 = .ok (.iadd, 1) := by decide +kernel
theorem dX1_add_34 : decode cX1_add 34 = .ok (.iaload, 1) := by decide +kernel
theorem dX1_add_35 : decode cX1_add 35 = .ok (.iastore, 1) := by decide +kernel
theorem dX1_add_36 : decode cX1_add 36 = .ok (.iinc 7 1, 3) := by decide +kernel
theorem dX1_add_39 : decode cX1_add 39 = .ok (.goto (-30), 3) := by decide +kernel
theorem dX1_add_42 : decode cX1_add 42 = .ok (.aload_n 0, 1) := by decide +kernel
theorem dX1_add_43 : decode cX1_add 43 = .ok (.getfield 19, 3) := by decide +kernel
theorem dX1_add_46 : decode cX1_add 46 = .ok (.iload 6, 2) := by decide +kernel
theorem dX1_add_48 : decode cX1_add 48 = .ok (.iload_n 3, 1) := by decide +kernel
theorem dX1_add_49 : decode cX1_add 49 = .ok (.iastore, 1) := by decide +kernel
theorem dX1_add_50 : decode cX1_add 50 = .ok (.aload_n 0, 1) := by decide +kernel
theorem dX1_add_51 : decode cX1_add 51 = .ok (.getfield 22, 3) := by decide +kernel
theorem dX1_add_54 : decode cX1_add 54 = .ok (.iload 6, 2) := by decide +kernel
theorem dX1_add_56 : decode cX1_add 56 = .ok (.iload 4, 2) := by decide +kernel
theorem dX1_add_58 : decode cX1_add 58 = .ok (.iastore, 1) := by decide +kernel
theorem dX1_add_59 : decode cX1_add 59 = .ok (.aload_n 0, 1) := by decide +kernel
theorem dX1_add_60 : decode cX1_add 60 = .ok (.getfield 25, 3) := by decide +kernel
theorem dX1_add_63 : decode cX1_add 63 = .ok (.iload 6, 2) := by decide +kernel
theorem dX1_add_65 : decode cX1_add 65 = .ok (.iload 5, 2) := by decide +kernel
theorem dX1_add_67 : decode cX1_add 67 = .ok (.iastore, 1) := by decide +kernel
theorem dX1_add_68 : decode cX1_add 68 = .ok (.aload_n 0, 1) := by decide +kernel
theorem dX1_add_69 : decode cX1_add 69 = .ok (.getfield 28, 3) := by decide +kernel
theorem dX1_add_72 : decode cX1_add 72 = .ok (.iload 6, 2) := by decide +kernel
theorem dX1_add_74 : decode cX1_add 74 = .ok (.iconst (-1), 1) := by decide +kernel
theorem dX1_add_75 : decode cX1_add 75 = .ok (.iastore, 1) := by decide +kernel
theorem dX1_add_76 : decode cX1_add 76 = .ok (.aload_n 0, 1) := by decide +kernel
theorem dX1_add_77 : decode cX1_add 77 = .ok (.getfield 31, 3) := by decide +kernel
theorem dX1_add_80 : decode cX1_add 80 = .ok (.iload 6, 2) := by decide +kernel
theorem dX1_add_82 : decode cX1_add 82 = .ok (.iconst 0, 1) := by decide +kernel
theorem dX1_add_83 : decode cX1_add 83 = .ok (.iastore, 1) := by decide +kernel
theorem dX1_add_84 : decode cX1_add 84 = .ok (.aload_n 0, 1) := by decide +kernel
theorem dX1_add_85 : decode cX1_add 85 = .ok (.getfield 34, 3) := by decide +kernel
theorem dX1_add_88 : decode cX1_add 88 = .ok (.iload 6, 2) := by decide +kernel
theorem dX1_add_90 : decode cX1_add 90 = .ok (.iconst 0, 1) := by decide +kernel
theorem dX1_add_91 : decode cX1_add 91 = .ok (.iastore, 1) := by decide +kernel
theorem dX1_add_92 : decode cX1_add 92 = .ok (.aload_n 0, 1) := by decide +kernel
theorem dX1_add_93 : decode cX1_add 93 = .ok (.getfield 37, 3) := by decide +kernel
theorem dX1_add_96 : decode cX1_add 96 = .ok (.iload 6, 2) := by decide +kernel
theorem dX1_add_98 : decode cX1_add 98 = .ok (.iconst 0, 1) := by decide +kernel
theorem dX1_add_99 : decode cX1_add 99 = .ok (.iastore, 1) := by decide +kernel
theorem dX1_add_100 : decode cX1_add 100 = .ok (.aload_n 0, 1) := by decide +kernel
theorem dX1_add_101 : decode cX1_add 101 = .ok (.dup, 1) := by decide +kernel
theorem dX1_add_102 : decode cX1_add 102 = .ok (.getfield 9, 3) := by decide +kernel
theorem dX1_add_105 : decode cX1_add 105 = .ok (.iconst 1, 1) := by decide +kernel
theorem dX1_add_106 : decode cX1_add 106 = .ok (.iadd, 1) := by decide +kernel
theorem dX1_add_107 : decode cX1_add 107 = .ok (.putfield 9, 3) := by decide +kernel
theorem dX1_add_110 : decode cX1_add 110 = .ok (.iload 6, 2) := by decide +kernel
theorem dX1_add_112 : decode cX1_add 112 = .ok (.ireturn, 1) := by decide +kernel
theorem dX1_find_0 : decode cX1_find 0 = .ok (.iconst 0, 1) := by decide +kernel
theorem dX1_find_1 : decode cX1_find 1 = .ok (.istore 4, 2) := by decide +kernel
theorem dX1_find_3 : decode cX1_find 3 = .ok (.iload 4, 2) := by decide +kernel
theorem dX1_find_5 : decode cX1_find 5 = .ok (.aload_n 0, 1) := by decide +kernel
theorem dX1_find_6 : decode cX1_find 6 = .ok (.getfield 9, 3) := by decide +kernel
theorem dX1_find_9 : decode cX1_find 9 = .ok (.if_icmp .ge 34, 3) := by decide +kernel
theorem dX1_find_12 : decode cX1_find 12 = .ok (.aload_n 0, 1) := by decide +kernel
theorem dX1_find_13 : decode cX1_find 13 = .ok (.getfield 19, 3) := by decide +kernel
theorem dX1_find_16 : decode cX1_find 16 = .ok (.iload 4, 2) := by decide +kernel
theorem dX1_find_18 : decode cX1_find 18 = .ok (.iaload, 1) := by decide +kernel
theorem dX1_find_19 : decode cX1_find 19 = .ok (.iload_n 3, 1) := by decide +kernel
theorem dX1_find_20 : decode cX1_find 20 = .ok (.if_icmp .ne 17, 3) := by decide +kernel
theorem dX1_find_23 : decode cX1_find 23 = .ok (.aload_n 0, 1) := by decide +kernel
theorem dX1_find_24 : decode cX1_find 24 = .ok (.iload 4, 2) := by decide +kernel
theorem dX1_find_26 : decode cX1_find 26 = .ok (.aload_n 1, 1) := by decide +kernel
theorem dX1_find_27 : decode cX1_find 27 = .ok (.iload_n 2, 1) := by decide +kernel
theorem dX1_find_28 : decode cX1_find 28 = .ok (.invokevirtual 45, 3) := by decide +kernel
theorem dX1_find_31 : decode cX1_find 31 = .ok (.ifCond .eq 6, 3) := by decide +kernel
theorem dX1_find_34 : decode cX1_find 34 = .ok (.iload 4, 2) := by decide +kernel
theorem dX1_find_36 : decode cX1_find 36 = .ok (.ireturn, 1) := by decide +kernel
theorem dX1_find_37 : decode cX1_find 37 = .ok (.iinc 4 1, 3) := by decide +kernel
theorem dX1_find_40 : decode cX1_find 40 = .ok (.goto (-37), 3) := by decide +kernel
theorem dX1_find_43 : decode cX1_find 43 = .ok (.iconst (-1), 1) := by decide +kernel
theorem dX1_find_44 : decode cX1_find 44 = .ok (.ireturn, 1) := by decide +kernel
theorem dX1_hasLetters_0 : decode cX1_hasLetters 0 = .ok (.iconst 0, 1) := by decide +kernel
theorem dX1_hasLetters_1 : decode cX1_hasLetters 1 = .ok (.istore 4, 2) := by decide +kernel
theorem dX1_hasLetters_3 : decode cX1_hasLetters 3 = .ok (.iload 4, 2) := by decide +kernel
theorem dX1_hasLetters_5 : decode cX1_hasLetters 5 = .ok (.aload_n 0, 1) := by decide +kernel
theorem dX1_hasLetters_6 : decode cX1_hasLetters 6 = .ok (.getfield 19, 3) := by decide +kernel
theorem dX1_hasLetters_9 : decode cX1_hasLetters 9 = .ok (.iload_n 1, 1) := by decide +kernel
theorem dX1_hasLetters_10 : decode cX1_hasLetters 10 = .ok (.iaload, 1) := by decide +kernel
theorem dX1_hasLetters_11 : decode cX1_hasLetters 11 = .ok (.if_icmp .ge 30, 3) := by decide +kernel
theorem dX1_hasLetters_14 : decode cX1_hasLetters 14 = .ok (.aload_n 0, 1) := by decide +kernel
theorem dX1_hasLetters_15 : decode cX1_hasLetters 15 = .ok (.iload_n 1, 1) := by decide +kernel
theorem dX1_hasLetters_16 : decode cX1_hasLetters 16 = .ok (.iload 4, 2) := by decide +kernel
theorem dX1_hasLetters_18 : decode cX1_hasLetters 18 = .ok (.invokevirtual 49, 3) := by decide +kernel
theorem dX1_hasLetters_21 : decode cX1_hasLetters 21 = .ok (.aload_n 2, 1) := by decide +kernel
theorem dX1_hasLetters_22 : decode cX1_hasLetters 22 = .ok (.getfield 40, 3) := by decide +kernel
theorem dX1_hasLetters_25 : decode cX1_hasLetters 25 = .ok (.iload_n 3, 1) := by decide +kernel
theorem dX1_hasLetters_26 : decode cX1_hasLetters 26 = .ok (.iload 4, 2) := by decide +kernel
theorem dX1_hasLetters_28 : decode cX1_hasLetters 28 = .ok (.iadd, 1) := by decide +kernel
theorem dX1_hasLetters_29 : decode cX1_hasLetters 29 = .ok (.iaload, 1) := by decide +kernel
theorem dX1_hasLetters_30 : decode cX1_hasLetters 30 = .ok (.if_icmp .eq 5, 3) := by decide +kernel
theorem dX1_hasLetters_33 : decode cX1_hasLetters 33 = .ok (.iconst 0, 1) := by decide +kernel
theorem dX1_hasLetters_34 : decode cX1_hasLetters 34 = .ok (.ireturn, 1) := by decide +kernel
theorem dX1_hasLetters_35 : decode cX1_hasLetters 35 = .ok (.iinc 4 1, 3) := by decide +kernel
theorem dX1_hasLetters_38 : decode cX1_hasLetters 38 = .ok (.goto (-35), 3) := by decide +kernel
theorem dX1_hasLetters_41 : decode cX1_hasLetters 41 = .ok (.iconst 1, 1) := by decide +kernel
theorem dX1_hasLetters_42 : decode cX1_hasLetters 42 = .ok (.ireturn, 1) := by decide +kernel
theorem dX1_letterOf_0 : decode cX1_letterOf 0 = .ok (.aload_n 0, 1) := by decide +kernel
theorem dX1_letterOf_1 : decode cX1_letterOf 1 = .ok (.getfield 15, 3) := by decide +kernel
theorem dX1_letterOf_4 : decode cX1_letterOf 4 = .ok (.iload_n 1, 1) := by decide +kernel
theorem dX1_letterOf_5 : decode cX1_letterOf 5 = .ok (.iconst 5, 1) := by decide +kernel
theorem dX1_letterOf_6 : decode cX1_letterOf 6 = .ok (.imul, 1) := by decide +kernel
theorem dX1_letterOf_7 : decode cX1_letterOf 7 = .ok (.iload_n 2, 1) := by decide +kernel
theorem dX1_letterOf_8 : decode cX1_letterOf 8 = .ok (.iadd, 1) := by decide +kernel
theorem dX1_letterOf_9 : decode cX1_letterOf 9 = .ok (.iaload, 1) := by decide +kernel
theorem dX1_letterOf_10 : decode cX1_letterOf 10 = .ok (.ireturn, 1) := by decide +kernel
theorem dX1_isAway_0 : decode cX1_isAway 0 = .ok (.aload_n 0, 1) := by decide +kernel
theorem dX1_isAway_1 : decode cX1_isAway 1 = .ok (.getfield 28, 3) := by decide +kernel
theorem dX1_isAway_4 : decode cX1_isAway 4 = .ok (.iload_n 1, 1) := by decide +kernel
theorem dX1_isAway_5 : decode cX1_isAway 5 = .ok (.iaload, 1) := by decide +kernel
theorem dX1_isAway_6 : decode cX1_isAway 6 = .ok (.iconst (-1), 1) := by decide +kernel
theorem dX1_isAway_7 : decode cX1_isAway 7 = .ok (.if_icmp .eq 7, 3) := by decide +kernel
theorem dX1_isAway_10 : decode cX1_isAway 10 = .ok (.iconst 1, 1) := by decide +kernel
theorem dX1_isAway_11 : decode cX1_isAway 11 = .ok (.goto 4, 3) := by decide +kernel
theorem dX1_isAway_14 : decode cX1_isAway 14 = .ok (.iconst 0, 1) := by decide +kernel
theorem dX1_isAway_15 : decode cX1_isAway 15 = .ok (.ireturn, 1) := by decide +kernel
theorem dX1_countAway_0 : decode cX1_countAway 0 = .ok (.iconst 0, 1) := by decide +kernel
theorem dX1_countAway_1 : decode cX1_countAway 1 = .ok (.istore_n 1, 1) := by decide +kernel
theorem dX1_countAway_2 : decode cX1_countAway 2 = .ok (.iconst 0, 1) := by decide +kernel
theorem dX1_countAway_3 : decode cX1_countAway 3 = .ok (.istore_n 2, 1) := by decide +kernel
theorem dX1_countAway_4 : decode cX1_countAway 4 = .ok (.iload_n 2, 1) := by decide +kernel
theorem dX1_countAway_5 : decode cX1_countAway 5 = .ok (.aload_n 0, 1) := by decide +kernel
theorem dX1_countAway_6 : decode cX1_countAway 6 = .ok (.getfield 9, 3) := by decide +kernel
theorem dX1_countAway_9 : decode cX1_countAway 9 = .ok (.if_icmp .ge 20, 3) := by decide +kernel
theorem dX1_countAway_12 : decode cX1_countAway 12 = .ok (.aload_n 0, 1) := by decide +kernel
theorem dX1_countAway_13 : decode cX1_countAway 13 = .ok (.iload_n 2, 1) := by decide +kernel
theorem dX1_countAway_14 : decode cX1_countAway 14 = .ok (.invokevirtual 53, 3) := by decide +kernel
theorem dX1_countAway_17 : decode cX1_countAway 17 = .ok (.ifCond .eq 6, 3) := by decide +kernel
theorem dX1_countAway_20 : decode cX1_countAway 20 = .ok (.iinc 1 1, 3) := by decide +kernel
theorem dX1_countAway_23 : decode cX1_countAway 23 = .ok (.iinc 2 1, 3) := by decide +kernel
theorem dX1_countAway_26 : decode cX1_countAway 26 = .ok (.goto (-22), 3) := by decide +kernel
theorem dX1_countAway_29 : decode cX1_countAway 29 = .ok (.iload_n 1, 1) := by decide +kernel
theorem dX1_countAway_30 : decode cX1_countAway 30 = .ok (.ireturn, 1) := by decide +kernel
theorem dX1_soakBy_0 : decode cX1_soakBy 0 = .ok (.aload_n 0, 1) := by decide +kernel
theorem dX1_soakBy_1 : decode cX1_soakBy 1 = .ok (.getfield 31, 3) := by decide +kernel
theorem dX1_soakBy_4 : decode cX1_soakBy 4 = .ok (.iload_n 1, 1) := by decide +kernel
theorem dX1_soakBy_5 : decode cX1_soakBy 5 = .ok (.sipush 999, 3) := by decide +kernel
theorem dX1_soakBy_8 : decode cX1_soakBy 8 = .ok (.aload_n 0, 1) := by decide +kernel
theorem dX1_soakBy_9 : decode cX1_soakBy 9 = .ok (.getfield 31, 3) := by decide +kernel
theorem dX1_soakBy_12 : decode cX1_soakBy 12 = .ok (.iload_n 1, 1) := by decide +kernel
theorem dX1_soakBy_13 : decode cX1_soakBy 13 = .ok (.iaload, 1) := by decide +kernel
theorem dX1_soakBy_14 : decode cX1_soakBy 14 = .ok (.iload_n 2, 1) := by decide +kernel
theorem dX1_soakBy_15 : decode cX1_soakBy 15 = .ok (.iadd, 1) := by decide +kernel
theorem dX1_soakBy_16 : decode cX1_soakBy 16 = .ok (.invokestatic 57, 3) := by decide +kernel
theorem dX1_soakBy_19 : decode cX1_soakBy 19 = .ok (.iastore, 1) := by decide +kernel
theorem dX1_soakBy_20 : decode cX1_soakBy 20 = .ok (.return_, 1) := by decide +kernel
theorem dX1_walkAt_0 : decode cX1_walkAt 0 = .ok (.aload_n 0, 1) := by decide +kernel
theorem dX1_walkAt_1 : decode cX1_walkAt 1 = .ok (.getfield 34, 3) := by decide +kernel
theorem dX1_walkAt_4 : decode cX1_walkAt 4 = .ok (.iload_n 1, 1) := by decide +kernel
theorem dX1_walkAt_5 : decode cX1_walkAt 5 = .ok (.dup2, 1) := by decide +kernel
theorem dX1_walkAt_6 : decode cX1_walkAt 6 = .ok (.iaload, 1) := by decide +kernel
theorem dX1_walkAt_7 : decode cX1_walkAt 7 = .ok (.iconst 1, 1) := by decide +kernel
theorem dX1_walkAt_8 : decode cX1_walkAt 8 = .ok (.iadd, 1) := by decide +kernel
theorem dX1_walkAt_9 : decode cX1_walkAt 9 = .ok (.iastore, 1) := by decide +kernel
theorem dX1_walkAt_10 : decode cX1_walkAt 10 = .ok (.aload_n 0, 1) := by decide +kernel
theorem dX1_walkAt_11 : decode cX1_walkAt 11 = .ok (.getfield 37, 3) := by decide +kernel
theorem dX1_walkAt_14 : decode cX1_walkAt 14 = .ok (.iload_n 1, 1) := by decide +kernel
theorem dX1_walkAt_15 : decode cX1_walkAt 15 = .ok (.iload_n 2, 1) := by decide +kernel
theorem dX1_walkAt_16 : decode cX1_walkAt 16 = .ok (.iastore, 1) := by decide +kernel
theorem dX1_walkAt_17 : decode cX1_walkAt 17 = .ok (.aload_n 0, 1) := by decide +kernel
theorem dX1_walkAt_18 : decode cX1_walkAt 18 = .ok (.getfield 34, 3) := by decide +kernel
theorem dX1_walkAt_21 : decode cX1_walkAt 21 = .ok (.iload_n 1, 1) := by decide +kernel
theorem dX1_walkAt_22 : decode cX1_walkAt 22 = .ok (.iaload, 1) := by decide +kernel
theorem dX1_walkAt_23 : decode cX1_walkAt 23 = .ok (.ireturn, 1) := by decide +kernel
theorem dX1_barksAt_0 : decode cX1_barksAt 0 = .ok (.aload_n 0, 1) := by decide +kernel
theorem dX1_barksAt_1 : decode cX1_barksAt 1 = .ok (.getfield 25, 3) := by decide +kernel
theorem dX1_barksAt_4 : decode cX1_barksAt 4 = .ok (.iload_n 1, 1) := by decide +kernel
theorem dX1_barksAt_5 : decode cX1_barksAt 5 = .ok (.iaload, 1) := by decide +kernel
theorem dX1_barksAt_6 : decode cX1_barksAt 6 = .ok (.ifCond .eq 11, 3) := by decide +kernel
theorem dX1_barksAt_9 : decode cX1_barksAt 9 = .ok (.aload_n 0, 1) := by decide +kernel
theorem dX1_barksAt_10 : decode cX1_barksAt 10 = .ok (.iload_n 1, 1) := by decide +kernel
theorem dX1_barksAt_11 : decode cX1_barksAt 11 = .ok (.invokevirtual 53, 3) := by decide +kernel
theorem dX1_barksAt_14 : decode cX1_barksAt 14 = .ok (.ifCond .ne 5, 3) := by decide +kernel
theorem dX1_barksAt_17 : decode cX1_barksAt 17 = .ok (.iconst 0, 1) := by decide +kernel
theorem dX1_barksAt_18 : decode cX1_barksAt 18 = .ok (.ireturn, 1) := by decide +kernel
theorem dX1_barksAt_19 : decode cX1_barksAt 19 = .ok (.aload_n 0, 1) := by decide +kernel
theorem dX1_barksAt_20 : decode cX1_barksAt 20 = .ok (.getfield 34, 3) := by decide +kernel
theorem dX1_barksAt_23 : decode cX1_barksAt 23 = .ok (.iload_n 1, 1) := by decide +kernel
theorem dX1_barksAt_24 : decode cX1_barksAt 24 = .ok (.iaload, 1) := by decide +kernel
theorem dX1_barksAt_25 : decode cX1_barksAt 25 = .ok (.ifCond .le 20, 3) := by decide +kernel
theorem dX1_barksAt_28 : decode cX1_barksAt 28 = .ok (.iload_n 2, 1) := by decide +kernel
theorem dX1_barksAt_29 : decode cX1_barksAt 29 = .ok (.aload_n 0, 1) := by decide +kernel
theorem dX1_barksAt_30 : decode cX1_barksAt 30 = .ok (.getfield 37, 3) := by decide +kernel
theorem dX1_barksAt_33 : decode cX1_barksAt 33 = .ok (.iload_n 1, 1) := by decide +kernel
theorem dX1_barksAt_34 : decode cX1_barksAt 34 = .ok (.iaload, 1) := by decide +kernel
theorem dX1_barksAt_35 : decode cX1_barksAt 35 = .ok (.isub, 1) := by decide +kernel
theorem dX1_barksAt_36 : decode cX1_barksAt 36 = .ok (.bipush 60, 2) := by decide +kernel
theorem dX1_barksAt_38 : decode cX1_barksAt 38 = .ok (.if_icmp .ge 7, 3) := by decide +kernel
theorem dX1_barksAt_41 : decode cX1_barksAt 41 = .ok (.iconst 1, 1) := by decide +kernel
theorem dX1_barksAt_42 : decode cX1_barksAt 42 = .ok (.goto 4, 3) := by decide +kernel
theorem dX1_barksAt_45 : decode cX1_barksAt 45 = .ok (.iconst 0, 1) := by decide +kernel
theorem dX1_barksAt_46 : decode cX1_barksAt 46 = .ok (.istore_n 3, 1) := by decide +kernel
theorem dX1_barksAt_47 : decode cX1_barksAt 47 = .ok (.iload_n 2, 1) := by decide +kernel
theorem dX1_barksAt_48 : decode cX1_barksAt 48 = .ok (.aload_n 0, 1) := by decide +kernel
theorem dX1_barksAt_49 : decode cX1_barksAt 49 = .ok (.getfield 28, 3) := by decide +kernel
theorem dX1_barksAt_52 : decode cX1_barksAt 52 = .ok (.iload_n 1, 1) := by decide +kernel
theorem dX1_barksAt_53 : decode cX1_barksAt 53 = .ok (.iaload, 1) := by decide +kernel
theorem dX1_barksAt_54 : decode cX1_barksAt 54 = .ok (.isub, 1) := by decide +kernel
theorem dX1_barksAt_55 : decode cX1_barksAt 55 = .ok (.bipush 10, 2) := by decide +kernel
theorem dX1_barksAt_57 : decode cX1_barksAt 57 = .ok (.if_icmp .le 11, 3) := by decide +kernel
theorem dX1_barksAt_60 : decode cX1_barksAt 60 = .ok (.iload_n 3, 1) := by decide +kernel
theorem dX1_barksAt_61 : decode cX1_barksAt 61 = .ok (.ifCond .ne 7, 3) := by decide +kernel
theorem dX1_barksAt_64 : decode cX1_barksAt 64 = .ok (.iconst 1, 1) := by decide +kernel
theorem dX1_barksAt_65 : decode cX1_barksAt 65 = .ok (.goto 4, 3) := by decide +kernel
theorem dX1_barksAt_68 : decode cX1_barksAt 68 = .ok (.iconst 0, 1) := by decide +kernel
theorem dX1_barksAt_69 : decode cX1_barksAt 69 = .ok (.ireturn, 1) := by decide +kernel
theorem dX1_noiseAt_0 : decode cX1_noiseAt 0 = .ok (.iconst 0, 1) := by decide +kernel
theorem dX1_noiseAt_1 : decode cX1_noiseAt 1 = .ok (.istore_n 2, 1) := by decide +kernel
theorem dX1_noiseAt_2 : decode cX1_noiseAt 2 = .ok (.iconst 0, 1) := by decide +kernel
theorem dX1_noiseAt_3 : decode cX1_noiseAt 3 = .ok (.istore_n 3, 1) := by decide +kernel
theorem dX1_noiseAt_4 : decode cX1_noiseAt 4 = .ok (.iload_n 3, 1) := by decide +kernel
theorem dX1_noiseAt_5 : decode cX1_noiseAt 5 = .ok (.aload_n 0, 1) := by decide +kernel
theorem dX1_noiseAt_6 : decode cX1_noiseAt 6 = .ok (.getfield 9, 3) := by decide +kernel
theorem dX1_noiseAt_9 : decode cX1_noiseAt 9 = .ok (.if_icmp .ge 27, 3) := by decide +kernel
theorem dX1_noiseAt_12 : decode cX1_noiseAt 12 = .ok (.aload_n 0, 1) := by decide +kernel
theorem dX1_noiseAt_13 : decode cX1_noiseAt 13 = .ok (.iload_n 3, 1) := by decide +kernel
theorem dX1_noiseAt_14 : decode cX1_noiseAt 14 = .ok (.iload_n 1, 1) := by decide +kernel
theorem dX1_noiseAt_15 : decode cX1_noiseAt 15 = .ok (.invokevirtual 62, 3) := by decide +kernel
theorem dX1_noiseAt_18 : decode cX1_noiseAt 18 = .ok (.ifCond .eq 12, 3) := by decide +kernel
theorem dX1_noiseAt_21 : decode cX1_noiseAt 21 = .ok (.iload_n 2, 1) := by decide +kernel
theorem dX1_noiseAt_22 : decode cX1_noiseAt 22 = .ok (.aload_n 0, 1) := by decide +kernel
theorem dX1_noiseAt_23 : decode cX1_noiseAt 23 = .ok (.getfield 25, 3) := by decide +kernel
theorem dX1_noiseAt_26 : decode cX1_noiseAt 26 = .ok (.iload_n 3, 1) := by decide +kernel
theorem dX1_noiseAt_27 : decode cX1_noiseAt 27 = .ok (.iaload, 1) := by decide +kernel
theorem dX1_noiseAt_28 : decode cX1_noiseAt 28 = .ok (.iadd, 1) := by decide +kernel
theorem dX1_noiseAt_29 : decode cX1_noiseAt 29 = .ok (.istore_n 2, 1) := by decide +kernel
theorem dX1_noiseAt_30 : decode cX1_noiseAt 30 = .ok (.iinc 3 1, 3) := by decide +kernel
theorem dX1_noiseAt_33 : decode cX1_noiseAt 33 = .ok (.goto (-29), 3) := by decide +kernel
theorem dX1_noiseAt_36 : decode cX1_noiseAt 36 = .ok (.iload_n 2, 1) := by decide +kernel
theorem dX1_noiseAt_37 : decode cX1_noiseAt 37 = .ok (.ireturn, 1) := by decide +kernel
theorem dX1_copyFrom_0 : decode cX1_copyFrom 0 = .ok (.aload_n 0, 1) := by decide +kernel
theorem dX1_copyFrom_1 : decode cX1_copyFrom 1 = .ok (.aload_n 1, 1) := by decide +kernel
theorem dX1_copyFrom_2 : decode cX1_copyFrom 2 = .ok (.getfield 9, 3) := by decide +kernel
theorem dX1_copyFrom_5 : decode cX1_copyFrom 5 = .ok (.putfield 9, 3) := by decide +kernel
theorem dX1_copyFrom_8 : decode cX1_copyFrom 8 = .ok (.aload_n 1, 1) := by decide +kernel
theorem dX1_copyFrom_9 : decode cX1_copyFrom 9 = .ok (.getfield 15, 3) := by decide +kernel
theorem dX1_copyFrom_12 : decode cX1_copyFrom 12 = .ok (.iconst 0, 1) := by decide +kernel
theorem dX1_copyFrom_13 : decode cX1_copyFrom 13 = .ok (.aload_n 0, 1) := by decide +kernel
theorem dX1_copyFrom_14 : decode cX1_copyFrom 14 = .ok (.getfield 15, 3) := by decide +kernel
theorem dX1_copyFrom_17 : decode cX1_copyFrom 17 = .ok (.iconst 0, 1) := by decide +kernel
theorem dX1_copyFrom_18 : decode cX1_copyFrom 18 = .ok (.aload_n 0, 1) := by decide +kernel
theorem dX1_copyFrom_19 : decode cX1_copyFrom 19 = .ok (.getfield 15, 3) := by decide +kernel
theorem dX1_copyFrom_22 : decode cX1_copyFrom 22 = .ok (.arraylength, 1) := by decide +kernel
theorem dX1_copyFrom_23 : decode cX1_copyFrom 23 = .ok (.invokestatic 66, 3) := by decide +kernel
theorem dX1_copyFrom_26 : decode cX1_copyFrom 26 = .ok (.aload_n 1, 1) := by decide +kernel
theorem dX1_copyFrom_27 : decode cX1_copyFrom 27 = .ok (.getfield 19, 3) := by decide +kernel
theorem dX1_copyFrom_30 : decode cX1_copyFrom 30 = .ok (.iconst 0, 1) := by decide +kernel
theorem dX1_copyFrom_31 : decode cX1_copyFrom 31 = .ok (.aload_n 0, 1) := by decide +kernel
theorem dX1_copyFrom_32 : decode cX1_copyFrom 32 = .ok (.getfield 19, 3) := by decide +kernel
theorem dX1_copyFrom_35 : decode cX1_copyFrom 35 = .ok (.iconst 0, 1) := by decide +kernel
theorem dX1_copyFrom_36 : decode cX1_copyFrom 36 = .ok (.bipush 10, 2) := by decide +kernel
theorem dX1_copyFrom_38 : decode cX1_copyFrom 38 = .ok (.invokestatic 66, 3) := by decide +kernel
theorem dX1_copyFrom_41 : decode cX1_copyFrom 41 = .ok (.aload_n 1, 1) := by decide +kernel
theorem dX1_copyFrom_42 : decode cX1_copyFrom 42 = .ok (.getfield 22, 3) := by decide +kernel
theorem dX1_copyFrom_45 : decode cX1_copyFrom 45 = .ok (.iconst 0, 1) := by decide +kernel
theorem dX1_copyFrom_46 : decode cX1_copyFrom 46 = .ok (.aload_n 0, 1) := by decide +kernel
theorem dX1_copyFrom_47 : decode cX1_copyFrom 47 = .ok (.getfield 22, 3) := by decide +kernel
theorem dX1_copyFrom_50 : decode cX1_copyFrom 50 = .ok (.iconst 0, 1) := by decide +kernel
theorem dX1_copyFrom_51 : decode cX1_copyFrom 51 = .ok (.bipush 10, 2) := by decide +kernel
theorem dX1_copyFrom_53 : decode cX1_copyFrom 53 = .ok (.invokestatic 66, 3) := by decide +kernel
theorem dX1_copyFrom_56 : decode cX1_copyFrom 56 = .ok (.aload_n 1, 1) := by decide +kernel
theorem dX1_copyFrom_57 : decode cX1_copyFrom 57 = .ok (.getfield 25, 3) := by decide +kernel
theorem dX1_copyFrom_60 : decode cX1_copyFrom 60 = .ok (.iconst 0, 1) := by decide +kernel
theorem dX1_copyFrom_61 : decode cX1_copyFrom 61 = .ok (.aload_n 0, 1) := by decide +kernel
theorem dX1_copyFrom_62 : decode cX1_copyFrom 62 = .ok (.getfield 25, 3) := by decide +kernel
theorem dX1_copyFrom_65 : decode cX1_copyFrom 65 = .ok (.iconst 0, 1) := by decide +kernel
theorem dX1_copyFrom_66 : decode cX1_copyFrom 66 = .ok (.bipush 10, 2) := by decide +kernel
theorem dX1_copyFrom_68 : decode cX1_copyFrom 68 = .ok (.invokestatic 66, 3) := by decide +kernel
theorem dX1_copyFrom_71 : decode cX1_copyFrom 71 = .ok (.aload_n 1, 1) := by decide +kernel
theorem dX1_copyFrom_72 : decode cX1_copyFrom 72 = .ok (.getfield 28, 3) := by decide +kernel
theorem dX1_copyFrom_75 : decode cX1_copyFrom 75 = .ok (.iconst 0, 1) := by decide +kernel
theorem dX1_copyFrom_76 : decode cX1_copyFrom 76 = .ok (.aload_n 0, 1) := by decide +kernel
theorem dX1_copyFrom_77 : decode cX1_copyFrom 77 = .ok (.getfield 28, 3) := by decide +kernel
theorem dX1_copyFrom_80 : decode cX1_copyFrom 80 = .ok (.iconst 0, 1) := by decide +kernel
theorem dX1_copyFrom_81 : decode cX1_copyFrom 81 = .ok (.bipush 10, 2) := by decide +kernel
theorem dX1_copyFrom_83 : decode cX1_copyFrom 83 = .ok (.invokestatic 66, 3) := by decide +kernel
theorem dX1_copyFrom_86 : decode cX1_copyFrom 86 = .ok (.aload_n 1, 1) := by decide +kernel
theorem dX1_copyFrom_87 : decode cX1_copyFrom 87 = .ok (.getfield 31, 3) := by decide +kernel
theorem dX1_copyFrom_90 : decode cX1_copyFrom 90 = .ok (.iconst 0, 1) := by decide +kernel
theorem dX1_copyFrom_91 : decode cX1_copyFrom 91 = .ok (.aload_n 0, 1) := by decide +kernel
theorem dX1_copyFrom_92 : decode cX1_copyFrom 92 = .ok (.getfield 31, 3) := by decide +kernel
theorem dX1_copyFrom_95 : decode cX1_copyFrom 95 = .ok (.iconst 0, 1) := by decide +kernel
theorem dX1_copyFrom_96 : decode cX1_copyFrom 96 = .ok (.bipush 10, 2) := by decide +kernel
theorem dX1_copyFrom_98 : decode cX1_copyFrom 98 = .ok (.invokestatic 66, 3) := by decide +kernel
theorem dX1_copyFrom_101 : decode cX1_copyFrom 101 = .ok (.aload_n 1, 1) := by decide +kernel
theorem dX1_copyFrom_102 : decode cX1_copyFrom 102 = .ok (.getfield 34, 3) := by decide +kernel
theorem dX1_copyFrom_105 : decode cX1_copyFrom 105 = .ok (.iconst 0, 1) := by decide +kernel
theorem dX1_copyFrom_106 : decode cX1_copyFrom 106 = .ok (.aload_n 0, 1) := by decide +kernel
theorem dX1_copyFrom_107 : decode cX1_copyFrom 107 = .ok (.getfield 34, 3) := by decide +kernel
theorem dX1_copyFrom_110 : decode cX1_copyFrom 110 = .ok (.iconst 0, 1) := by decide +kernel
theorem dX1_copyFrom_111 : decode cX1_copyFrom 111 = .ok (.bipush 10, 2) := by decide +kernel
theorem dX1_copyFrom_113 : decode cX1_copyFrom 113 = .ok (.invokestatic 66, 3) := by decide +kernel
theorem dX1_copyFrom_116 : decode cX1_copyFrom 116 = .ok (.aload_n 1, 1) := by decide +kernel
theorem dX1_copyFrom_117 : decode cX1_copyFrom 117 = .ok (.getfield 37, 3) := by decide +kernel
theorem dX1_copyFrom_120 : decode cX1_copyFrom 120 = .ok (.iconst 0, 1) := by decide +kernel
theorem dX1_copyFrom_121 : decode cX1_copyFrom 121 = .ok (.aload_n 0, 1) := by decide +kernel
theorem dX1_copyFrom_122 : decode cX1_copyFrom 122 = .ok (.getfield 37, 3) := by decide +kernel
theorem dX1_copyFrom_125 : decode cX1_copyFrom 125 = .ok (.iconst 0, 1) := by decide +kernel
theorem dX1_copyFrom_126 : decode cX1_copyFrom 126 = .ok (.bipush 10, 2) := by decide +kernel
theorem dX1_copyFrom_128 : decode cX1_copyFrom 128 = .ok (.invokestatic 66, 3) := by decide +kernel
theorem dX1_copyFrom_131 : decode cX1_copyFrom 131 = .ok (.return_, 1) := by decide +kernel
theorem dX2_init_0 : decode cX2_init 0 = .ok (.aload_n 0, 1) := by decide +kernel
theorem dX2_init_1 : decode cX2_init 1 = .ok (.invokespecial 3, 3) := by decide +kernel
theorem dX2_init_4 : decode cX2_init 4 = .ok (.aload_n 0, 1) := by decide +kernel
theorem dX2_init_5 : decode cX2_init 5 = .ok (.bipush 8, 2) := by decide +kernel
theorem dX2_init_7 : decode cX2_init 7 = .ok (.anewarray 9, 3) := by decide +kernel
theorem dX2_init_10 : decode cX2_init 10 = .ok (.putfield 11, 3) := by decide +kernel
theorem dX2_init_13 : decode cX2_init 13 = .ok (.aload_n 0, 1) := by decide +kernel
theorem dX2_init_14 : decode cX2_init 14 = .ok (.iconst 0, 1) := by decide +kernel
theorem dX2_init_15 : decode cX2_init 15 = .ok (.putfield 17, 3) := by decide +kernel
theorem dX2_init_18 : decode cX2_init 18 = .ok (.aload_n 0, 1) := by decide +kernel
theorem dX2_init_19 : decode cX2_init 19 = .ok (.iconst 0, 1) := by decide +kernel
theorem dX2_init_20 : decode cX2_init 20 = .ok (.putfield 21, 3) := by decide +kernel
theorem dX2_init_23 : decode cX2_init 23 = .ok (.iconst 0, 1) := by decide +kernel
theorem dX2_init_24 : decode cX2_init 24 = .ok (.istore_n 1, 1) := by decide +kernel
theorem dX2_init_25 : decode cX2_init 25 = .ok (.iload_n 1, 1) := by decide +kernel
theorem dX2_init_26 : decode cX2_init 26 = .ok (.bipush 8, 2) := by decide +kernel
theorem dX2_init_28 : decode cX2_init 28 = .ok (.if_icmp .ge 22, 3) := by decide +kernel
theorem dX2_init_31 : decode cX2_init 31 = .ok (.aload_n 0, 1) := by decide +kernel
theorem dX2_init_32 : decode cX2_init 32 = .ok (.getfield 11, 3) := by decide +kernel
theorem dX2_init_35 : decode cX2_init 35 = .ok (.iload_n 1, 1) := by decide +kernel
theorem dX2_init_36 : decode cX2_init 36 = .ok (.new 9, 3) := by decide +kernel
theorem dX2_init_39 : decode cX2_init 39 = .ok (.dup, 1) := by decide +kernel
theorem dX2_init_40 : decode cX2_init 40 = .ok (.invokespecial 24, 3) := by decide +kernel
theorem dX2_init_43 : decode cX2_init 43 = .ok (.aastore, 1) := by decide +kernel
theorem dX2_init_44 : decode cX2_init 44 = .ok (.iinc 1 1, 3) := by decide +kernel
theorem dX2_init_47 : decode cX2_init 47 = .ok (.goto (-22), 3) := by decide +kernel
theorem dX2_init_50 : decode cX2_init 50 = .ok (.return_, 1) := by decide +kernel
theorem dX2_remember_0 : decode cX2_remember 0 = .ok (.aload_n 0, 1) := by decide +kernel
theorem dX2_remember_1 : decode cX2_remember 1 = .ok (.getfield 11, 3) := by decide +kernel
theorem dX2_remember_4 : decode cX2_remember 4 = .ok (.aload_n 0, 1) := by decide +kernel
theorem dX2_remember_5 : decode cX2_remember 5 = .ok (.getfield 17, 3) := by decide +kernel
theorem dX2_remember_8 : decode cX2_remember 8 = .ok (.aaload, 1) := by decide +kernel
theorem dX2_remember_9 : decode cX2_remember 9 = .ok (.aload_n 1, 1) := by decide +kernel
theorem dX2_remember_10 : decode cX2_remember 10 = .ok (.invokevirtual 25, 3) := by decide +kernel
theorem dX2_remember_13 : decode cX2_remember 13 = .ok (.aload_n 0, 1) := by decide +kernel
theorem dX2_remember_14 : decode cX2_remember 14 = .ok (.aload_n 0, 1) := by decide +kernel
theorem dX2_remember_15 : decode cX2_remember 15 = .ok (.getfield 17, 3) := by decide +kernel
theorem dX2_remember_18 : decode cX2_remember 18 = .ok (.iconst 1, 1) := by decide +kernel
theorem dX2_remember_19 : decode cX2_remember 19 = .ok (.iadd, 1) := by decide +kernel
theorem dX2_remember_20 : decode cX2_remember 20 = .ok (.bipush 8, 2) := by decide +kernel
theorem dX2_remember_22 : decode cX2_remember 22 = .ok (.irem, 1) := by decide +kernel
theorem dX2_remember_23 : decode cX2_remember 23 = .ok (.putfield 17, 3) := by decide +kernel
theorem dX2_remember_26 : decode cX2_remember 26 = .ok (.aload_n 0, 1) := by decide +kernel
theorem dX2_remember_27 : decode cX2_remember 27 = .ok (.bipush 8, 2) := by decide +kernel
theorem dX2_remember_29 : decode cX2_remember 29 = .ok (.aload_n 0, 1) := by decide +kernel
theorem dX2_remember_30 : decode cX2_remember 30 = .ok (.getfield 21, 3) := by decide +kernel
theorem dX2_remember_33 : decode cX2_remember 33 = .ok (.iconst 1, 1) := by decide +kernel
theorem dX2_remember_34 : decode cX2_remember 34 = .ok (.iadd, 1) := by decide +kernel
theorem dX2_remember_35 : decode cX2_remember 35 = .ok (.invokestatic 29, 3) := by decide +kernel
theorem dX2_remember_38 : decode cX2_remember 38 = .ok (.putfield 21, 3) := by decide +kernel
theorem dX2_remember_41 : decode cX2_remember 41 = .ok (.return_, 1) := by decide +kernel
theorem dX2_takeBack_0 : decode cX2_takeBack 0 = .ok (.aload_n 0, 1) := by decide +kernel
theorem dX2_takeBack_1 : decode cX2_takeBack 1 = .ok (.aload_n 0, 1) := by decide +kernel
theorem dX2_takeBack_2 : decode cX2_takeBack 2 = .ok (.getfield 17, 3) := by decide +kernel
theorem dX2_takeBack_5 : decode cX2_takeBack 5 = .ok (.bipush 8, 2) := by decide +kernel
theorem dX2_takeBack_7 : decode cX2_takeBack 7 = .ok (.iadd, 1) := by decide +kernel
theorem dX2_takeBack_8 : decode cX2_takeBack 8 = .ok (.iconst 1, 1) := by decide +kernel
theorem dX2_takeBack_9 : decode cX2_takeBack 9 = .ok (.isub, 1) := by decide +kernel
theorem dX2_takeBack_10 : decode cX2_takeBack 10 = .ok (.bipush 8, 2) := by decide +kernel
theorem dX2_takeBack_12 : decode cX2_takeBack 12 = .ok (.irem, 1) := by decide +kernel
theorem dX2_takeBack_13 : decode cX2_takeBack 13 = .ok (.putfield 17, 3) := by decide +kernel
theorem dX2_takeBack_16 : decode cX2_takeBack 16 = .ok (.aload_n 0, 1) := by decide +kernel
theorem dX2_takeBack_17 : decode cX2_takeBack 17 = .ok (.dup, 1) := by decide +kernel
theorem dX2_takeBack_18 : decode cX2_takeBack 18 = .ok (.getfield 21, 3) := by decide +kernel
theorem dX2_takeBack_21 : decode cX2_takeBack 21 = .ok (.iconst 1, 1) := by decide +kernel
theorem dX2_takeBack_22 : decode cX2_takeBack 22 = .ok (.isub, 1) := by decide +kernel
theorem dX2_takeBack_23 : decode cX2_takeBack 23 = .ok (.putfield 21, 3) := by decide +kernel
theorem dX2_takeBack_26 : decode cX2_takeBack 26 = .ok (.aload_n 1, 1) := by decide +kernel
theorem dX2_takeBack_27 : decode cX2_takeBack 27 = .ok (.aload_n 0, 1) := by decide +kernel
theorem dX2_takeBack_28 : decode cX2_takeBack 28 = .ok (.getfield 11, 3) := by decide +kernel
theorem dX2_takeBack_31 : decode cX2_takeBack 31 = .ok (.aload_n 0, 1) := by decide +kernel
theorem dX2_takeBack_32 : decode cX2_takeBack 32 = .ok (.getfield 17, 3) := by decide +kernel
theorem dX2_takeBack_35 : decode cX2_takeBack 35 = .ok (.aaload, 1) := by decide +kernel
theorem dX2_takeBack_36 : decode cX2_takeBack 36 = .ok (.invokevirtual 25, 3) := by decide +kernel
theorem dX2_takeBack_39 : decode cX2_takeBack 39 = .ok (.return_, 1) := by decide +kernel
theorem dX3_init_0 : decode cX3_init 0 = .ok (.aload_n 0, 1) := by decide +kernel
theorem dX3_init_1 : decode cX3_init 1 = .ok (.invokespecial 3, 3) := by decide +kernel
theorem dX3_init_4 : decode cX3_init 4 = .ok (.aload_n 0, 1) := by decide +kernel
theorem dX3_init_5 : decode cX3_init 5 = .ok (.iconst 0, 1) := by decide +kernel
theorem dX3_init_6 : decode cX3_init 6 = .ok (.putfield 9, 3) := by decide +kernel
theorem dX3_init_9 : decode cX3_init 9 = .ok (.aload_n 0, 1) := by decide +kernel
theorem dX3_init_10 : decode cX3_init 10 = .ok (.iconst 0, 1) := by decide +kernel
theorem dX3_init_11 : decode cX3_init 11 = .ok (.putfield 15, 3) := by decide +kernel
theorem dX3_init_14 : decode cX3_init 14 = .ok (.aload_n 0, 1) := by decide +kernel
theorem dX3_init_15 : decode cX3_init 15 = .ok (.iconst 0, 1) := by decide +kernel
theorem dX3_init_16 : decode cX3_init 16 = .ok (.putfield 18, 3) := by decide +kernel
theorem dX3_init_19 : decode cX3_init 19 = .ok (.aload_n 0, 1) := by decide +kernel
theorem dX3_init_20 : decode cX3_init 20 = .ok (.iconst 0, 1) := by decide +kernel
theorem dX3_init_21 : decode cX3_init 21 = .ok (.putfield 21, 3) := by decide +kernel
theorem dX3_init_24 : decode cX3_init 24 = .ok (.aload_n 0, 1) := by decide +kernel
theorem dX3_init_25 : decode cX3_init 25 = .ok (.iconst 0, 1) := by decide +kernel
theorem dX3_init_26 : decode cX3_init 26 = .ok (.putfield 24, 3) := by decide +kernel
theorem dX3_init_29 : decode cX3_init 29 = .ok (.aload_n 0, 1) := by decide +kernel
theorem dX3_init_30 : decode cX3_init 30 = .ok (.iconst 0, 1) := by decide +kernel
theorem dX3_init_31 : decode cX3_init 31 = .ok (.putfield 27, 3) := by decide +kernel
theorem dX3_init_34 : decode cX3_init 34 = .ok (.aload_n 0, 1) := by decide +kernel
theorem dX3_init_35 : decode cX3_init 35 = .ok (.iconst 0, 1) := by decide +kernel
theorem dX3_init_36 : decode cX3_init 36 = .ok (.putfield 30, 3) := by decide +kernel
theorem dX3_init_39 : decode cX3_init 39 = .ok (.aload_n 0, 1) := by decide +kernel
theorem dX3_init_40 : decode cX3_init 40 = .ok (.new 33, 3) := by decide +kernel
theorem dX3_init_43 : decode cX3_init 43 = .ok (.dup, 1) := by decide +kernel
theorem dX3_init_44 : decode cX3_init 44 = .ok (.invokespecial 35, 3) := by decide +kernel
theorem dX3_init_47 : decode cX3_init 47 = .ok (.putfield 36, 3) := by decide +kernel
theorem dX3_init_50 : decode cX3_init 50 = .ok (.aload_n 0, 1) := by decide +kernel
theorem dX3_init_51 : decode cX3_init 51 = .ok (.new 40, 3) := by decide +kernel
theorem dX3_init_54 : decode cX3_init 54 = .ok (.dup, 1) := by decide +kernel
theorem dX3_init_55 : decode cX3_init 55 = .ok (.invokespecial 42, 3) := by decide +kernel
theorem dX3_init_58 : decode cX3_init 58 = .ok (.putfield 43, 3) := by decide +kernel
theorem dX3_init_61 : decode cX3_init 61 = .ok (.aload_n 0, 1) := by decide +kernel
theorem dX3_init_62 : decode cX3_init 62 = .ok (.new 47, 3) := by decide +kernel
theorem dX3_init_65 : decode cX3_init 65 = .ok (.dup, 1) := by decide +kernel
theorem dX3_init_66 : decode cX3_init 66 = .ok (.invokespecial 49, 3) := by decide +kernel
theorem dX3_init_69 : decode cX3_init 69 = .ok (.putfield 50, 3) := by decide +kernel
theorem dX3_init_72 : decode cX3_init 72 = .ok (.return_, 1) := by decide +kernel
theorem dX3_clear_0 : decode cX3_clear 0 = .ok (.aload_n 0, 1) := by decide +kernel
theorem dX3_clear_1 : decode cX3_clear 1 = .ok (.iconst 0, 1) := by decide +kernel
theorem dX3_clear_2 : decode cX3_clear 2 = .ok (.putfield 9, 3) := by decide +kernel
theorem dX3_clear_5 : decode cX3_clear 5 = .ok (.aload_n 0, 1) := by decide +kernel
theorem dX3_clear_6 : decode cX3_clear 6 = .ok (.iconst 0, 1) := by decide +kernel
theorem dX3_clear_7 : decode cX3_clear 7 = .ok (.putfield 15, 3) := by decide +kernel
theorem dX3_clear_10 : decode cX3_clear 10 = .ok (.aload_n 0, 1) := by decide +kernel
theorem dX3_clear_11 : decode cX3_clear 11 = .ok (.iconst 0, 1) := by decide +kernel
theorem dX3_clear_12 : decode cX3_clear 12 = .ok (.putfield 18, 3) := by decide +kernel
theorem dX3_clear_15 : decode cX3_clear 15 = .ok (.aload_n 0, 1) := by decide +kernel
theorem dX3_clear_16 : decode cX3_clear 16 = .ok (.iconst 0, 1) := by decide +kernel
theorem dX3_clear_17 : decode cX3_clear 17 = .ok (.putfield 21, 3) := by decide +kernel
theorem dX3_clear_20 : decode cX3_clear 20 = .ok (.aload_n 0, 1) := by decide +kernel
theorem dX3_clear_21 : decode cX3_clear 21 = .ok (.iconst 0, 1) := by decide +kernel
theorem dX3_clear_22 : decode cX3_clear 22 = .ok (.putfield 24, 3) := by decide +kernel
theorem dX3_clear_25 : decode cX3_clear 25 = .ok (.aload_n 0, 1) := by decide +kernel
theorem dX3_clear_26 : decode cX3_clear 26 = .ok (.iconst 0, 1) := by decide +kernel
theorem dX3_clear_27 : decode cX3_clear 27 = .ok (.putfield 27, 3) := by decide +kernel
theorem dX3_clear_30 : decode cX3_clear 30 = .ok (.aload_n 0, 1) := by decide +kernel
theorem dX3_clear_31 : decode cX3_clear 31 = .ok (.iconst 0, 1) := by decide +kernel
theorem dX3_clear_32 : decode cX3_clear 32 = .ok (.putfield 30, 3) := by decide +kernel
theorem dX3_clear_35 : decode cX3_clear 35 = .ok (.aload_n 0, 1) := by decide +kernel
theorem dX3_clear_36 : decode cX3_clear 36 = .ok (.getfield 36, 3) := by decide +kernel
theorem dX3_clear_39 : decode cX3_clear 39 = .ok (.iconst 0, 1) := by decide +kernel
theorem dX3_clear_40 : decode cX3_clear 40 = .ok (.putfield 54, 3) := by decide +kernel
theorem dX3_clear_43 : decode cX3_clear 43 = .ok (.aload_n 0, 1) := by decide +kernel
theorem dX3_clear_44 : decode cX3_clear 44 = .ok (.getfield 43, 3) := by decide +kernel
theorem dX3_clear_47 : decode cX3_clear 47 = .ok (.iconst 0, 1) := by decide +kernel
theorem dX3_clear_48 : decode cX3_clear 48 = .ok (.putfield 57, 3) := by decide +kernel
theorem dX3_clear_51 : decode cX3_clear 51 = .ok (.aload_n 0, 1) := by decide +kernel
theorem dX3_clear_52 : decode cX3_clear 52 = .ok (.getfield 50, 3) := by decide +kernel
theorem dX3_clear_55 : decode cX3_clear 55 = .ok (.iconst 0, 1) := by decide +kernel
theorem dX3_clear_56 : decode cX3_clear 56 = .ok (.putfield 58, 3) := by decide +kernel
theorem dX3_clear_59 : decode cX3_clear 59 = .ok (.return_, 1) := by decide +kernel
theorem dX3_copyFrom_0 : decode cX3_copyFrom 0 = .ok (.aload_n 0, 1) := by decide +kernel
theorem dX3_copyFrom_1 : decode cX3_copyFrom 1 = .ok (.aload_n 1, 1) := by decide +kernel
theorem dX3_copyFrom_2 : decode cX3_copyFrom 2 = .ok (.getfield 9, 3) := by decide +kernel
theorem dX3_copyFrom_5 : decode cX3_copyFrom 5 = .ok (.putfield 9, 3) := by decide +kernel
theorem dX3_copyFrom_8 : decode cX3_copyFrom 8 = .ok (.aload_n 0, 1) := by decide +kernel
theorem dX3_copyFrom_9 : decode cX3_copyFrom 9 = .ok (.aload_n 1, 1) := by decide +kernel
theorem dX3_copyFrom_10 : decode cX3_copyFrom 10 = .ok (.getfield 15, 3) := by decide +kernel
theorem dX3_copyFrom_13 : decode cX3_copyFrom 13 = .ok (.putfield 15, 3) := by decide +kernel
theorem dX3_copyFrom_16 : decode cX3_copyFrom 16 = .ok (.aload_n 0, 1) := by decide +kernel
theorem dX3_copyFrom_17 : decode cX3_copyFrom 17 = .ok (.aload_n 1, 1) := by decide +kernel
theorem dX3_copyFrom_18 : decode cX3_copyFrom 18 = .ok (.getfield 18, 3) := by decide +kernel
theorem dX3_copyFrom_21 : decode cX3_copyFrom 21 = .ok (.putfield 18, 3) := by decide +kernel
theorem dX3_copyFrom_24 : decode cX3_copyFrom 24 = .ok (.aload_n 0, 1) := by decide +kernel
theorem dX3_copyFrom_25 : decode cX3_copyFrom 25 = .ok (.aload_n 1, 1) := by decide +kernel
theorem dX3_copyFrom_26 : decode cX3_copyFrom 26 = .ok (.getfield 21, 3) := by decide +kernel
theorem dX3_copyFrom_29 : decode cX3_copyFrom 29 = .ok (.putfield 21, 3) := by decide +kernel
theorem dX3_copyFrom_32 : decode cX3_copyFrom 32 = .ok (.aload_n 0, 1) := by decide +kernel
theorem dX3_copyFrom_33 : decode cX3_copyFrom 33 = .ok (.aload_n 1, 1) := by decide +kernel
theorem dX3_copyFrom_34 : decode cX3_copyFrom 34 = .ok (.getfield 24, 3) := by decide +kernel
theorem dX3_copyFrom_37 : decode cX3_copyFrom 37 = .ok (.putfield 24, 3) := by decide +kernel
theorem dX3_copyFrom_40 : decode cX3_copyFrom 40 = .ok (.aload_n 0, 1) := by decide +kernel
theorem dX3_copyFrom_41 : decode cX3_copyFrom 41 = .ok (.aload_n 1, 1) := by decide +kernel
theorem dX3_copyFrom_42 : decode cX3_copyFrom 42 = .ok (.getfield 27, 3) := by decide +kernel
theorem dX3_copyFrom_45 : decode cX3_copyFrom 45 = .ok (.putfield 27, 3) := by decide +kernel
theorem dX3_copyFrom_48 : decode cX3_copyFrom 48 = .ok (.aload_n 0, 1) := by decide +kernel
theorem dX3_copyFrom_49 : decode cX3_copyFrom 49 = .ok (.aload_n 1, 1) := by decide +kernel
theorem dX3_copyFrom_50 : decode cX3_copyFrom 50 = .ok (.getfield 30, 3) := by decide +kernel
theorem dX3_copyFrom_53 : decode cX3_copyFrom 53 = .ok (.putfield 30, 3) := by decide +kernel
theorem dX3_copyFrom_56 : decode cX3_copyFrom 56 = .ok (.aload_n 0, 1) := by decide +kernel
theorem dX3_copyFrom_57 : decode cX3_copyFrom 57 = .ok (.getfield 36, 3) := by decide +kernel
theorem dX3_copyFrom_60 : decode cX3_copyFrom 60 = .ok (.aload_n 1, 1) := by decide +kernel
theorem dX3_copyFrom_61 : decode cX3_copyFrom 61 = .ok (.getfield 36, 3) := by decide +kernel
theorem dX3_copyFrom_64 : decode cX3_copyFrom 64 = .ok (.invokevirtual 59, 3) := by decide +kernel
theorem dX3_copyFrom_67 : decode cX3_copyFrom 67 = .ok (.aload_n 0, 1) := by decide +kernel
theorem dX3_copyFrom_68 : decode cX3_copyFrom 68 = .ok (.getfield 43, 3) := by decide +kernel
theorem dX3_copyFrom_71 : decode cX3_copyFrom 71 = .ok (.aload_n 1, 1) := by decide +kernel
theorem dX3_copyFrom_72 : decode cX3_copyFrom 72 = .ok (.getfield 43, 3) := by decide +kernel
theorem dX3_copyFrom_75 : decode cX3_copyFrom 75 = .ok (.invokevirtual 63, 3) := by decide +kernel
theorem dX3_copyFrom_78 : decode cX3_copyFrom 78 = .ok (.aload_n 0, 1) := by decide +kernel
theorem dX3_copyFrom_79 : decode cX3_copyFrom 79 = .ok (.getfield 50, 3) := by decide +kernel
theorem dX3_copyFrom_82 : decode cX3_copyFrom 82 = .ok (.aload_n 1, 1) := by decide +kernel
theorem dX3_copyFrom_83 : decode cX3_copyFrom 83 = .ok (.getfield 50, 3) := by decide +kernel
theorem dX3_copyFrom_86 : decode cX3_copyFrom 86 = .ok (.invokevirtual 66, 3) := by decide +kernel
theorem dX3_copyFrom_89 : decode cX3_copyFrom 89 = .ok (.return_, 1) := by decide +kernel
theorem dX3_presentYawn_0 : decode cX3_presentYawn 0 = .ok (.bipush 9, 2) := by decide +kernel
theorem dX3_presentYawn_2 : decode cX3_presentYawn 2 = .ok (.aload_n 0, 1) := by decide +kernel
theorem dX3_presentYawn_3 : decode cX3_presentYawn 3 = .ok (.getfield 9, 3) := by decide +kernel
theorem dX3_presentYawn_6 : decode cX3_presentYawn 6 = .ok (.aload_n 0, 1) := by decide +kernel
theorem dX3_presentYawn_7 : decode cX3_presentYawn 7 = .ok (.getfield 50, 3) := by decide +kernel
theorem dX3_presentYawn_10 : decode cX3_presentYawn 10 = .ok (.invokevirtual 69, 3) := by decide +kernel
theorem dX3_presentYawn_13 : decode cX3_presentYawn 13 = .ok (.isub, 1) := by decide +kernel
theorem dX3_presentYawn_14 : decode cX3_presentYawn 14 = .ok (.bipush 30, 2) := by decide +kernel
theorem dX3_presentYawn_16 : decode cX3_presentYawn 16 = .ok (.idiv, 1) := by decide +kernel
theorem dX3_presentYawn_17 : decode cX3_presentYawn 17 = .ok (.invokestatic 73, 3) := by decide +kernel
theorem dX3_presentYawn_20 : decode cX3_presentYawn 20 = .ok (.ireturn, 1) := by decide +kernel
theorem dX3_tipToGive_0 : decode cX3_tipToGive 0 = .ok (.aload_n 0, 1) := by decide +kernel
theorem dX3_tipToGive_1 : decode cX3_tipToGive 1 = .ok (.getfield 36, 3) := by decide +kernel
theorem dX3_tipToGive_4 : decode cX3_tipToGive 4 = .ok (.getfield 79, 3) := by decide +kernel
theorem dX3_tipToGive_7 : decode cX3_tipToGive 7 = .ok (.iload_n 1, 1) := by decide +kernel
theorem dX3_tipToGive_8 : decode cX3_tipToGive 8 = .ok (.iaload, 1) := by decide +kernel
theorem dX3_tipToGive_9 : decode cX3_tipToGive 9 = .ok (.ifCond .eq 7, 3) := by decide +kernel
theorem dX3_tipToGive_12 : decode cX3_tipToGive 12 = .ok (.iconst 1, 1) := by decide +kernel
theorem dX3_tipToGive_13 : decode cX3_tipToGive 13 = .ok (.goto 4, 3) := by decide +kernel
theorem dX3_tipToGive_16 : decode cX3_tipToGive 16 = .ok (.iconst 0, 1) := by decide +kernel
theorem dX3_tipToGive_17 : decode cX3_tipToGive 17 = .ok (.istore_n 2, 1) := by decide +kernel
theorem dX3_tipToGive_18 : decode cX3_tipToGive 18 = .ok (.iconst 0, 1) := by decide +kernel
theorem dX3_tipToGive_19 : decode cX3_tipToGive 19 = .ok (.aload_n 0, 1) := by decide +kernel
theorem dX3_tipToGive_20 : decode cX3_tipToGive 20 = .ok (.getfield 36, 3) := by decide +kernel
theorem dX3_tipToGive_23 : decode cX3_tipToGive 23 = .ok (.getfield 83, 3) := by decide +kernel
theorem dX3_tipToGive_26 : decode cX3_tipToGive 26 = .ok (.iload_n 1, 1) := by decide +kernel
theorem dX3_tipToGive_27 : decode cX3_tipToGive 27 = .ok (.iaload, 1) := by decide +kernel
theorem dX3_tipToGive_28 : decode cX3_tipToGive 28 = .ok (.aload_n 0, 1) := by decide +kernel
theorem dX3_tipToGive_29 : decode cX3_tipToGive 29 = .ok (.invokevirtual 86, 3) := by decide +kernel
theorem dX3_tipToGive_32 : decode cX3_tipToGive 32 = .ok (.isub, 1) := by decide +kernel
theorem dX3_tipToGive_33 : decode cX3_tipToGive 33 = .ok (.iload_n 2, 1) := by decide +kernel
theorem dX3_tipToGive_34 : decode cX3_tipToGive 34 = .ok (.isub, 1) := by decide +kernel
theorem dX3_tipToGive_35 : decode cX3_tipToGive 35 = .ok (.invokestatic 89, 3) := by decide +kernel
theorem dX3_tipToGive_38 : decode cX3_tipToGive 38 = .ok (.ireturn, 1) := by decide +kernel
theorem dX3_umbrellaToTake_0 : decode cX3_umbrellaToTake 0 = .ok (.aload_n 0, 1) := by decide +kernel
theorem dX3_umbrellaToTake_1 : decode cX3_umbrellaToTake 1 = .ok (.getfield 15, 3) := by decide +kernel
theorem dX3_umbrellaToTake_4 : decode cX3_umbrellaToTake 4 = .ok (.ifCond .ne 5, 3) := by decide +kernel
theorem dX3_umbrellaToTake_7 : decode cX3_umbrellaToTake 7 = .ok (.iconst (-1), 1) := by decide +kernel
theorem dX3_umbrellaToTake_8 : decode cX3_umbrellaToTake 8 = .ok (.ireturn, 1) := by decide +kernel
theorem dX3_umbrellaToTake_9 : decode cX3_umbrellaToTake 9 = .ok (.aload_n 0, 1) := by decide +kernel
theorem dX3_umbrellaToTake_10 : decode cX3_umbrellaToTake 10 = .ok (.getfield 43, 3) := by decide +kernel
theorem dX3_umbrellaToTake_13 : decode cX3_umbrellaToTake 13 = .ok (.iload_n 1, 1) := by decide +kernel
theorem dX3_umbrellaToTake_14 : decode cX3_umbrellaToTake 14 = .ok (.invokevirtual 92, 3) := by decide +kernel
theorem dX3_umbrellaToTake_17 : decode cX3_umbrellaToTake 17 = .ok (.istore_n 2, 1) := by decide +kernel
theorem dX3_umbrellaToTake_18 : decode cX3_umbrellaToTake 18 = .ok (.iload_n 2, 1) := by decide +kernel
theorem dX3_umbrellaToTake_19 : decode cX3_umbrellaToTake 19 = .ok (.iconst (-1), 1) := by decide +kernel
theorem dX3_umbrellaToTake_20 : decode cX3_umbrellaToTake 20 = .ok (.if_icmp .eq 7, 3) := by decide +kernel
theorem dX3_umbrellaToTake_23 : decode cX3_umbrellaToTake 23 = .ok (.iload_n 2, 1) := by decide +kernel
theorem dX3_umbrellaToTake_24 : decode cX3_umbrellaToTake 24 = .ok (.goto 10, 3) := by decide +kernel
theorem dX3_umbrellaToTake_27 : decode cX3_umbrellaToTake 27 = .ok (.aload_n 0, 1) := by decide +kernel
theorem dX3_umbrellaToTake_28 : decode cX3_umbrellaToTake 28 = .ok (.getfield 43, 3) := by decide +kernel
theorem dX3_umbrellaToTake_31 : decode cX3_umbrellaToTake 31 = .ok (.invokevirtual 96, 3) := by decide +kernel
theorem dX3_umbrellaToTake_34 : decode cX3_umbrellaToTake 34 = .ok (.ireturn, 1) := by decide +kernel
theorem dX3_letLeave_0 : decode cX3_letLeave 0 = .ok (.aload_n 0, 1) := by decide +kernel
theorem dX3_letLeave_1 : decode cX3_letLeave 1 = .ok (.iload_n 1, 1) := by decide +kernel
theorem dX3_letLeave_2 : decode cX3_letLeave 2 = .ok (.invokevirtual 99, 3) := by decide +kernel
theorem dX3_letLeave_5 : decode cX3_letLeave 5 = .ok (.istore_n 2, 1) := by decide +kernel
theorem dX3_letLeave_6 : decode cX3_letLeave 6 = .ok (.iload_n 2, 1) := by decide +kernel
theorem dX3_letLeave_7 : decode cX3_letLeave 7 = .ok (.iconst (-1), 1) := by decide +kernel
theorem dX3_letLeave_8 : decode cX3_letLeave 8 = .ok (.if_icmp .eq 13, 3) := by decide +kernel
theorem dX3_letLeave_11 : decode cX3_letLeave 11 = .ok (.aload_n 0, 1) := by decide +kernel
theorem dX3_letLeave_12 : decode cX3_letLeave 12 = .ok (.getfield 43, 3) := by decide +kernel
theorem dX3_letLeave_15 : decode cX3_letLeave 15 = .ok (.getfield 102, 3) := by decide +kernel
theorem dX3_letLeave_18 : decode cX3_letLeave 18 = .ok (.iload_n 2, 1) := by decide +kernel
theorem dX3_letLeave_19 : decode cX3_letLeave 19 = .ok (.iload_n 1, 1) := by decide +kernel
theorem dX3_letLeave_20 : decode cX3_letLeave 20 = .ok (.iastore, 1) := by decide +kernel
theorem dX3_letLeave_21 : decode cX3_letLeave 21 = .ok (.aload_n 0, 1) := by decide +kernel
theorem dX3_letLeave_22 : decode cX3_letLeave 22 = .ok (.getfield 36, 3) := by decide +kernel
theorem dX3_letLeave_25 : decode cX3_letLeave 25 = .ok (.getfield 79, 3) := by decide +kernel
theorem dX3_letLeave_28 : decode cX3_letLeave 28 = .ok (.iload_n 1, 1) := by decide +kernel
theorem dX3_letLeave_29 : decode cX3_letLeave 29 = .ok (.iconst 0, 1) := by decide +kernel
theorem dX3_letLeave_30 : decode cX3_letLeave 30 = .ok (.iastore, 1) := by decide +kernel
theorem dX3_letLeave_31 : decode cX3_letLeave 31 = .ok (.aload_n 0, 1) := by decide +kernel
theorem dX3_letLeave_32 : decode cX3_letLeave 32 = .ok (.getfield 36, 3) := by decide +kernel
theorem dX3_letLeave_35 : decode cX3_letLeave 35 = .ok (.getfield 105, 3) := by decide +kernel
theorem dX3_letLeave_38 : decode cX3_letLeave 38 = .ok (.iload_n 1, 1) := by decide +kernel
theorem dX3_letLeave_39 : decode cX3_letLeave 39 = .ok (.aload_n 0, 1) := by decide +kernel
theorem dX3_letLeave_40 : decode cX3_letLeave 40 = .ok (.getfield 9, 3) := by decide +kernel
theorem dX3_letLeave_43 : decode cX3_letLeave 43 = .ok (.iastore, 1) := by decide +kernel
theorem dX3_letLeave_44 : decode cX3_letLeave 44 = .ok (.aload_n 0, 1) := by decide +kernel
theorem dX3_letLeave_45 : decode cX3_letLeave 45 = .ok (.getfield 50, 3) := by decide +kernel
theorem dX3_letLeave_48 : decode cX3_letLeave 48 = .ok (.aload_n 0, 1) := by decide +kernel
theorem dX3_letLeave_49 : decode cX3_letLeave 49 = .ok (.getfield 9, 3) := by decide +kernel
theorem dX3_letLeave_52 : decode cX3_letLeave 52 = .ok (.iload_n 1, 1) := by decide +kernel
theorem dX3_letLeave_53 : decode cX3_letLeave 53 = .ok (.bipush 45, 2) := by decide +kernel
theorem dX3_letLeave_55 : decode cX3_letLeave 55 = .ok (.invokevirtual 108, 3) := by decide +kernel
theorem dX3_letLeave_58 : decode cX3_letLeave 58 = .ok (.return_, 1) := by decide +kernel
theorem dX3_letReturn_0 : decode cX3_letReturn 0 = .ok (.aload_n 0, 1) := by decide +kernel
theorem dX3_letReturn_1 : decode cX3_letReturn 1 = .ok (.iload_n 1, 1) := by decide +kernel
theorem dX3_letReturn_2 : decode cX3_letReturn 2 = .ok (.invokevirtual 112, 3) := by decide +kernel
theorem dX3_letReturn_5 : decode cX3_letReturn 5 = .ok (.istore_n 2, 1) := by decide +kernel
theorem dX3_letReturn_6 : decode cX3_letReturn 6 = .ok (.aload_n 0, 1) := by decide +kernel
theorem dX3_letReturn_7 : decode cX3_letReturn 7 = .ok (.getfield 43, 3) := by decide +kernel
theorem dX3_letReturn_10 : decode cX3_letReturn 10 = .ok (.iload_n 1, 1) := by decide +kernel
theorem dX3_letReturn_11 : decode cX3_letReturn 11 = .ok (.invokevirtual 115, 3) := by decide +kernel
theorem dX3_letReturn_14 : decode cX3_letReturn 14 = .ok (.istore_n 3, 1) := by decide +kernel
theorem dX3_letReturn_15 : decode cX3_letReturn 15 = .ok (.iload_n 3, 1) := by decide +kernel
theorem dX3_letReturn_16 : decode cX3_letReturn 16 = .ok (.iconst (-1), 1) := by decide +kernel
theorem dX3_letReturn_17 : decode cX3_letReturn 17 = .ok (.if_icmp .eq 13, 3) := by decide +kernel
theorem dX3_letReturn_20 : decode cX3_letReturn 20 = .ok (.aload_n 0, 1) := by decide +kernel
theorem dX3_letReturn_21 : decode cX3_letReturn 21 = .ok (.getfield 43, 3) := by decide +kernel
theorem dX3_letReturn_24 : decode cX3_letReturn 24 = .ok (.getfield 102, 3) := by decide +kernel
theorem dX3_letReturn_27 : decode cX3_letReturn 27 = .ok (.iload_n 3, 1) := by decide +kernel
theorem dX3_letReturn_28 : decode cX3_letReturn 28 = .ok (.iconst (-1), 1) := by decide +kernel
theorem dX3_letReturn_29 : decode cX3_letReturn 29 = .ok (.iastore, 1) := by decide +kernel
theorem dX3_letReturn_30 : decode cX3_letReturn 30 = .ok (.aload_n 0, 1) := by decide +kernel
theorem dX3_letReturn_31 : decode cX3_letReturn 31 = .ok (.getfield 36, 3) := by decide +kernel
theorem dX3_letReturn_34 : decode cX3_letReturn 34 = .ok (.getfield 105, 3) := by decide +kernel
theorem dX3_letReturn_37 : decode cX3_letReturn 37 = .ok (.iload_n 1, 1) := by decide +kernel
theorem dX3_letReturn_38 : decode cX3_letReturn 38 = .ok (.iconst (-1), 1) := by decide +kernel
theorem dX3_letReturn_39 : decode cX3_letReturn 39 = .ok (.iastore, 1) := by decide +kernel
theorem dX3_letReturn_40 : decode cX3_letReturn 40 = .ok (.aload_n 0, 1) := by decide +kernel
theorem dX3_letReturn_41 : decode cX3_letReturn 41 = .ok (.dup, 1) := by decide +kernel
theorem dX3_letReturn_42 : decode cX3_letReturn 42 = .ok (.getfield 30, 3) := by decide +kernel
theorem dX3_letReturn_45 : decode cX3_letReturn 45 = .ok (.iload_n 2, 1) := by decide +kernel
theorem dX3_letReturn_46 : decode cX3_letReturn 46 = .ok (.iadd, 1) := by decide +kernel
theorem dX3_letReturn_47 : decode cX3_letReturn 47 = .ok (.putfield 30, 3) := by decide +kernel
theorem dX3_letReturn_50 : decode cX3_letReturn 50 = .ok (.aload_n 0, 1) := by decide +kernel
theorem dX3_letReturn_51 : decode cX3_letReturn 51 = .ok (.getfield 50, 3) := by decide +kernel
theorem dX3_letReturn_54 : decode cX3_letReturn 54 = .ok (.aload_n 0, 1) := by decide +kernel
theorem dX3_letReturn_55 : decode cX3_letReturn 55 = .ok (.getfield 9, 3) := by decide +kernel
theorem dX3_letReturn_58 : decode cX3_letReturn 58 = .ok (.iload_n 1, 1) := by decide +kernel
theorem dX3_letReturn_59 : decode cX3_letReturn 59 = .ok (.bipush 43, 2) := by decide +kernel
theorem dX3_letReturn_61 : decode cX3_letReturn 61 = .ok (.invokevirtual 108, 3) := by decide +kernel
theorem dX3_letReturn_64 : decode cX3_letReturn 64 = .ok (.iload_n 2, 1) := by decide +kernel
theorem dX3_letReturn_65 : decode cX3_letReturn 65 = .ok (.ireturn, 1) := by decide +kernel
theorem dX3_passOne_0 : decode cX3_passOne 0 = .ok (.aload_n 0, 1) := by decide +kernel
theorem dX3_passOne_1 : decode cX3_passOne 1 = .ok (.dup, 1) := by decide +kernel
theorem dX3_passOne_2 : decode cX3_passOne 2 = .ok (.getfield 9, 3) := by decide +kernel
theorem dX3_passOne_5 : decode cX3_passOne 5 = .ok (.iconst 1, 1) := by decide +kernel
theorem dX3_passOne_6 : decode cX3_passOne 6 = .ok (.iadd, 1) := by decide +kernel
theorem dX3_passOne_7 : decode cX3_passOne 7 = .ok (.putfield 9, 3) := by decide +kernel
theorem dX3_passOne_10 : decode cX3_passOne 10 = .ok (.aload_n 0, 1) := by decide +kernel
theorem dX3_passOne_11 : decode cX3_passOne 11 = .ok (.dup, 1) := by decide +kernel
theorem dX3_passOne_12 : decode cX3_passOne 12 = .ok (.getfield 27, 3) := by decide +kernel
theorem dX3_passOne_15 : decode cX3_passOne 15 = .ok (.aload_n 0, 1) := by decide +kernel
theorem dX3_passOne_16 : decode cX3_passOne 16 = .ok (.getfield 43, 3) := by decide +kernel
theorem dX3_passOne_19 : decode cX3_passOne 19 = .ok (.aload_n 0, 1) := by decide +kernel
theorem dX3_passOne_20 : decode cX3_passOne 20 = .ok (.getfield 15, 3) := by decide +kernel
theorem dX3_passOne_23 : decode cX3_passOne 23 = .ok (.invokevirtual 118, 3) := by decide +kernel
theorem dX3_passOne_26 : decode cX3_passOne 26 = .ok (.iadd, 1) := by decide +kernel
theorem dX3_passOne_27 : decode cX3_passOne 27 = .ok (.putfield 27, 3) := by decide +kernel
theorem dX3_passOne_30 : decode cX3_passOne 30 = .ok (.aload_n 0, 1) := by decide +kernel
theorem dX3_passOne_31 : decode cX3_passOne 31 = .ok (.invokevirtual 121, 3) := by decide +kernel
theorem dX3_passOne_34 : decode cX3_passOne 34 = .ok (.aload_n 0, 1) := by decide +kernel
theorem dX3_passOne_35 : decode cX3_passOne 35 = .ok (.dup, 1) := by decide +kernel
theorem dX3_passOne_36 : decode cX3_passOne 36 = .ok (.getfield 21, 3) := by decide +kernel
theorem dX3_passOne_39 : decode cX3_passOne 39 = .ok (.aload_n 0, 1) := by decide +kernel
theorem dX3_passOne_40 : decode cX3_passOne 40 = .ok (.getfield 36, 3) := by decide +kernel
theorem dX3_passOne_43 : decode cX3_passOne 43 = .ok (.aload_n 0, 1) := by decide +kernel
theorem dX3_passOne_44 : decode cX3_passOne 44 = .ok (.getfield 9, 3) := by decide +kernel
theorem dX3_passOne_47 : decode cX3_passOne 47 = .ok (.invokevirtual 124, 3) := by decide +kernel
theorem dX3_passOne_50 : decode cX3_passOne 50 = .ok (.iadd, 1) := by decide +kernel
theorem dX3_passOne_51 : decode cX3_passOne 51 = .ok (.putfield 21, 3) := by decide +kernel
theorem dX3_passOne_54 : decode cX3_passOne 54 = .ok (.aload_n 0, 1) := by decide +kernel
theorem dX3_passOne_55 : decode cX3_passOne 55 = .ok (.getfield 9, 3) := by decide +kernel
theorem dX3_passOne_58 : decode cX3_passOne 58 = .ok (.bipush 60, 2) := by decide +kernel
theorem dX3_passOne_60 : decode cX3_passOne 60 = .ok (.irem, 1) := by decide +kernel
theorem dX3_passOne_61 : decode cX3_passOne 61 = .ok (.ifCond .ne 29, 3) := by decide +kernel
theorem dX3_passOne_64 : decode cX3_passOne 64 = .ok (.aload_n 0, 1) := by decide +kernel
theorem dX3_passOne_65 : decode cX3_passOne 65 = .ok (.getfield 21, 3) := by decide +kernel
theorem dX3_passOne_68 : decode cX3_passOne 68 = .ok (.aload_n 0, 1) := by decide +kernel
theorem dX3_passOne_69 : decode cX3_passOne 69 = .ok (.getfield 18, 3) := by decide +kernel
theorem dX3_passOne_72 : decode cX3_passOne 72 = .ok (.if_icmp .le 13, 3) := by decide +kernel
theorem dX3_passOne_75 : decode cX3_passOne 75 = .ok (.aload_n 0, 1) := by decide +kernel
theorem dX3_passOne_76 : decode cX3_passOne 76 = .ok (.dup, 1) := by decide +kernel
theorem dX3_passOne_77 : decode cX3_passOne 77 = .ok (.getfield 24, 3) := by decide +kernel
theorem dX3_passOne_80 : decode cX3_passOne 80 = .ok (.iconst 1, 1) := by decide +kernel
theorem dX3_passOne_81 : decode cX3_passOne 81 = .ok (.iadd, 1) := by decide +kernel
theorem dX3_passOne_82 : decode cX3_passOne 82 = .ok (.putfield 24, 3) := by decide +kernel
theorem dX3_passOne_85 : decode cX3_passOne 85 = .ok (.aload_n 0, 1) := by decide +kernel
theorem dX3_passOne_86 : decode cX3_passOne 86 = .ok (.iconst 0, 1) := by decide +kernel
theorem dX3_passOne_87 : decode cX3_passOne 87 = .ok (.putfield 21, 3) := by decide +kernel
theorem dX3_passOne_90 : decode cX3_passOne 90 = .ok (.return_, 1) := by decide +kernel
theorem dX3_soakGuests_0 : decode cX3_soakGuests 0 = .ok (.iconst 0, 1) := by decide +kernel
theorem dX3_soakGuests_1 : decode cX3_soakGuests 1 = .ok (.istore_n 1, 1) := by decide +kernel
theorem dX3_soakGuests_2 : decode cX3_soakGuests 2 = .ok (.iload_n 1, 1) := by decide +kernel
theorem dX3_soakGuests_3 : decode cX3_soakGuests 3 = .ok (.aload_n 0, 1) := by decide +kernel
theorem dX3_soakGuests_4 : decode cX3_soakGuests 4 = .ok (.getfield 36, 3) := by decide +kernel
theorem dX3_soakGuests_7 : decode cX3_soakGuests 7 = .ok (.getfield 54, 3) := by decide +kernel
theorem dX3_soakGuests_10 : decode cX3_soakGuests 10 = .ok (.if_icmp .ge 44, 3) := by decide +kernel
theorem dX3_soakGuests_13 : decode cX3_soakGuests 13 = .ok (.aload_n 0, 1) := by decide +kernel
theorem dX3_soakGuests_14 : decode cX3_soakGuests 14 = .ok (.getfield 36, 3) := by decide +kernel
theorem dX3_soakGuests_17 : decode cX3_soakGuests 17 = .ok (.iload_n 1, 1) := by decide +kernel
theorem dX3_soakGuests_18 : decode cX3_soakGuests 18 = .ok (.invokevirtual 127, 3) := by decide +kernel
theorem dX3_soakGuests_21 : decode cX3_soakGuests 21 = .ok (.ifCond .eq 27, 3) := by decide +kernel
theorem dX3_soakGuests_24 : decode cX3_soakGuests 24 = .ok (.aload_n 0, 1) := by decide +kernel
theorem dX3_soakGuests_25 : decode cX3_soakGuests 25 = .ok (.getfield 43, 3) := by decide +kernel
theorem dX3_soakGuests_28 : decode cX3_soakGuests 28 = .ok (.iload_n 1, 1) := by decide +kernel
theorem dX3_soakGuests_29 : decode cX3_soakGuests 29 = .ok (.invokevirtual 115, 3) := by decide +kernel
theorem dX3_soakGuests_32 : decode cX3_soakGuests 32 = .ok (.iconst (-1), 1) := by decide +kernel
theorem dX3_soakGuests_33 : decode cX3_soakGuests 33 = .ok (.if_icmp .ne 15, 3) := by decide +kernel
theorem dX3_soakGuests_36 : decode cX3_soakGuests 36 = .ok (.aload_n 0, 1) := by decide +kernel
theorem dX3_soakGuests_37 : decode cX3_soakGuests 37 = .ok (.getfield 36, 3) := by decide +kernel
theorem dX3_soakGuests_40 : decode cX3_soakGuests 40 = .ok (.iload_n 1, 1) := by decide +kernel
theorem dX3_soakGuests_41 : decode cX3_soakGuests 41 = .ok (.aload_n 0, 1) := by decide +kernel
theorem dX3_soakGuests_42 : decode cX3_soakGuests 42 = .ok (.getfield 15, 3) := by decide +kernel
theorem dX3_soakGuests_45 : decode cX3_soakGuests 45 = .ok (.invokevirtual 131, 3) := by decide +kernel
theorem dX3_soakGuests_48 : decode cX3_soakGuests 48 = .ok (.iinc 1 1, 3) := by decide +kernel
theorem dX3_soakGuests_51 : decode cX3_soakGuests 51 = .ok (.goto (-49), 3) := by decide +kernel
theorem dX3_soakGuests_54 : decode cX3_soakGuests 54 = .ok (.return_, 1) := by decide +kernel
theorem dX3_foreseeComplaints_0 : decode cX3_foreseeComplaints 0 = .ok (.aload_n 0, 1) := by decide +kernel
theorem dX3_foreseeComplaints_1 : decode cX3_foreseeComplaints 1 = .ok (.getfield 24, 3) := by decide +kernel
theorem dX3_foreseeComplaints_4 : decode cX3_foreseeComplaints 4 = .ok (.istore_n 2, 1) := by decide +kernel
theorem dX3_foreseeComplaints_5 : decode cX3_foreseeComplaints 5 = .ok (.aload_n 0, 1) := by decide +kernel
theorem dX3_foreseeComplaints_6 : decode cX3_foreseeComplaints 6 = .ok (.getfield 21, 3) := by decide +kernel
theorem dX3_foreseeComplaints_9 : decode cX3_foreseeComplaints 9 = .ok (.istore_n 3, 1) := by decide +kernel
theorem dX3_foreseeComplaints_10 : decode cX3_foreseeComplaints 10 = .ok (.iconst 1, 1) := by decide +kernel
theorem dX3_foreseeComplaints_11 : decode cX3_foreseeComplaints 11 = .ok (.istore 4, 2) := by decide +kernel
theorem dX3_foreseeComplaints_13 : decode cX3_foreseeComplaints 13 = .ok (.iload 4, 2) := by decide +kernel
theorem dX3_foreseeComplaints_15 : decode cX3_foreseeComplaints 15 = .ok (.iload_n 1, 1) := by decide +kernel
theorem dX3_foreseeComplaints_16 : decode cX3_foreseeComplaints 16 = .ok (.if_icmp .gt 52, 3) := by decide +kernel
theorem dX3_foreseeComplaints_19 : decode cX3_foreseeComplaints 19 = .ok (.iload_n 3, 1) := by decide +kernel
theorem dX3_foreseeComplaints_20 : decode cX3_foreseeComplaints 20 = .ok (.aload_n 0, 1) := by decide +kernel
theorem dX3_foreseeComplaints_21 : decode cX3_foreseeComplaints 21 = .ok (.getfield 36, 3) := by decide +kernel
theorem dX3_foreseeComplaints_24 : decode cX3_foreseeComplaints 24 = .ok (.aload_n 0, 1) := by decide +kernel
theorem dX3_foreseeComplaints_25 : decode cX3_foreseeComplaints 25 = .ok (.getfield 9, 3) := by decide +kernel
theorem dX3_foreseeComplaints_28 : decode cX3_foreseeComplaints 28 = .ok (.iload 4, 2) := by decide +kernel
theorem dX3_foreseeComplaints_30 : decode cX3_foreseeComplaints 30 = .ok (.iadd, 1) := by decide +kernel
theorem dX3_foreseeComplaints_31 : decode cX3_foreseeComplaints 31 = .ok (.invokevirtual 124, 3) := by decide +kernel
theorem dX3_foreseeComplaints_34 : decode cX3_foreseeComplaints 34 = .ok (.iadd, 1) := by decide +kernel
theorem dX3_foreseeComplaints_35 : decode cX3_foreseeComplaints 35 = .ok (.istore_n 3, 1) := by decide +kernel
theorem dX3_foreseeComplaints_36 : decode cX3_foreseeComplaints 36 = .ok (.aload_n 0, 1) := by decide +kernel
theorem dX3_foreseeComplaints_37 : decode cX3_foreseeComplaints 37 = .ok (.getfield 9, 3) := by decide +kernel
theorem dX3_foreseeComplaints_40 : decode cX3_foreseeComplaints 40 = .ok (.iload 4, 2) := by decide +kernel
theorem dX3_foreseeComplaints_42 : decode cX3_foreseeComplaints 42 = .ok (.iadd, 1) := by decide +kernel
theorem dX3_foreseeComplaints_43 : decode cX3_foreseeComplaints 43 = .ok (.bipush 60, 2) := by decide +kernel
theorem dX3_foreseeComplaints_45 : decode cX3_foreseeComplaints 45 = .ok (.irem, 1) := by decide +kernel
theorem dX3_foreseeComplaints_46 : decode cX3_foreseeComplaints 46 = .ok (.ifCond .ne 16, 3) := by decide +kernel
theorem dX3_foreseeComplaints_49 : decode cX3_foreseeComplaints 49 = .ok (.iload_n 3, 1) := by decide +kernel
theorem dX3_foreseeComplaints_50 : decode cX3_foreseeComplaints 50 = .ok (.aload_n 0, 1) := by decide +kernel
theorem dX3_foreseeComplaints_51 : decode cX3_foreseeComplaints 51 = .ok (.getfield 18, 3) := by decide +kernel
theorem dX3_foreseeComplaints_54 : decode cX3_foreseeComplaints 54 = .ok (.if_icmp .le 6, 3) := by decide +kernel
theorem dX3_foreseeComplaints_57 : decode cX3_foreseeComplaints 57 = .ok (.iinc 2 1, 3) := by decide +kernel
theorem dX3_foreseeComplaints_60 : decode cX3_foreseeComplaints 60 = .ok (.iconst 0, 1) := by decide +kernel
theorem dX3_foreseeComplaints_61 : decode cX3_foreseeComplaints 61 = .ok (.istore_n 3, 1) := by decide +kernel
theorem dX3_foreseeComplaints_62 : decode cX3_foreseeComplaints 62 = .ok (.iinc 4 1, 3) := by decide +kernel
theorem dX3_foreseeComplaints_65 : decode cX3_foreseeComplaints 65 = .ok (.goto (-52), 3) := by decide +kernel
theorem dX3_foreseeComplaints_68 : decode cX3_foreseeComplaints 68 = .ok (.iload_n 2, 1) := by decide +kernel
theorem dX3_foreseeComplaints_69 : decode cX3_foreseeComplaints 69 = .ok (.ireturn, 1) := by decide +kernel
theorem dX3_sumOfMinutesAway_0 : decode cX3_sumOfMinutesAway 0 = .ok (.aload_n 0, 1) := by decide +kernel
theorem dX3_sumOfMinutesAway_1 : decode cX3_sumOfMinutesAway 1 = .ok (.getfield 50, 3) := by decide +kernel
theorem dX3_sumOfMinutesAway_4 : decode cX3_sumOfMinutesAway 4 = .ok (.iload_n 1, 1) := by decide +kernel
theorem dX3_sumOfMinutesAway_5 : decode cX3_sumOfMinutesAway 5 = .ok (.iload_n 2, 1) := by decide +kernel
theorem dX3_sumOfMinutesAway_6 : decode cX3_sumOfMinutesAway 6 = .ok (.iconst 0, 1) := by decide +kernel
theorem dX3_sumOfMinutesAway_7 : decode cX3_sumOfMinutesAway 7 = .ok (.aload_n 0, 1) := by decide +kernel
theorem dX3_sumOfMinutesAway_8 : decode cX3_sumOfMinutesAway 8 = .ok (.getfield 9, 3) := by decide +kernel
theorem dX3_sumOfMinutesAway_11 : decode cX3_sumOfMinutesAway 11 = .ok (.invokevirtual 135, 3) := by decide +kernel
theorem dX3_sumOfMinutesAway_14 : decode cX3_sumOfMinutesAway 14 = .ok (.ireturn, 1) := by decide +kernel
theorem dX3_countSuspects_0 : decode cX3_countSuspects 0 = .ok (.iconst 0, 1) := by decide +kernel
theorem dX3_countSuspects_1 : decode cX3_countSuspects 1 = .ok (.istore_n 3, 1) := by decide +kernel
theorem dX3_countSuspects_2 : decode cX3_countSuspects 2 = .ok (.iconst 0, 1) := by decide +kernel
theorem dX3_countSuspects_3 : decode cX3_countSuspects 3 = .ok (.istore 4, 2) := by decide +kernel
theorem dX3_countSuspects_5 : decode cX3_countSuspects 5 = .ok (.iload 4, 2) := by decide +kernel
theorem dX3_countSuspects_7 : decode cX3_countSuspects 7 = .ok (.aload_n 0, 1) := by decide +kernel
theorem dX3_countSuspects_8 : decode cX3_countSuspects 8 = .ok (.getfield 36, 3) := by decide +kernel
theorem dX3_countSuspects_11 : decode cX3_countSuspects 11 = .ok (.getfield 54, 3) := by decide +kernel
theorem dX3_countSuspects_14 : decode cX3_countSuspects 14 = .ok (.if_icmp .ge 26, 3) := by decide +kernel
theorem dX3_countSuspects_17 : decode cX3_countSuspects 17 = .ok (.aload_n 0, 1) := by decide +kernel
theorem dX3_countSuspects_18 : decode cX3_countSuspects 18 = .ok (.getfield 50, 3) := by decide +kernel
theorem dX3_countSuspects_21 : decode cX3_countSuspects 21 = .ok (.iload 4, 2) := by decide +kernel
theorem dX3_countSuspects_23 : decode cX3_countSuspects 23 = .ok (.iload_n 1, 1) := by decide +kernel
theorem dX3_countSuspects_24 : decode cX3_countSuspects 24 = .ok (.iload_n 2, 1) := by decide +kernel
theorem dX3_countSuspects_25 : decode cX3_countSuspects 25 = .ok (.invokevirtual 139, 3) := by decide +kernel
theorem dX3_countSuspects_28 : decode cX3_countSuspects 28 = .ok (.ifCond .ne 6, 3) := by decide +kernel
theorem dX3_countSuspects_31 : decode cX3_countSuspects 31 = .ok (.iinc 3 1, 3) := by decide +kernel
theorem dX3_countSuspects_34 : decode cX3_countSuspects 34 = .ok (.iinc 4 1, 3) := by decide +kernel
theorem dX3_countSuspects_37 : decode cX3_countSuspects 37 = .ok (.goto (-32), 3) := by decide +kernel
theorem dX3_countSuspects_40 : decode cX3_countSuspects 40 = .ok (.iload_n 3, 1) := by decide +kernel
theorem dX3_countSuspects_41 : decode cX3_countSuspects 41 = .ok (.ireturn, 1) := by decide +kernel
theorem dX3_firstSuspect_0 : decode cX3_firstSuspect 0 = .ok (.iconst 0, 1) := by decide +kernel
theorem dX3_firstSuspect_1 : decode cX3_firstSuspect 1 = .ok (.istore_n 3, 1) := by decide +kernel
theorem dX3_firstSuspect_2 : decode cX3_firstSuspect 2 = .ok (.iload_n 3, 1) := by decide +kernel
theorem dX3_firstSuspect_3 : decode cX3_firstSuspect 3 = .ok (.aload_n 0, 1) := by decide +kernel
theorem dX3_firstSuspect_4 : decode cX3_firstSuspect 4 = .ok (.getfield 36, 3) := by decide +kernel
theorem dX3_firstSuspect_7 : decode cX3_firstSuspect 7 = .ok (.getfield 54, 3) := by decide +kernel
theorem dX3_firstSuspect_10 : decode cX3_firstSuspect 10 = .ok (.if_icmp .ge 24, 3) := by decide +kernel
theorem dX3_firstSuspect_13 : decode cX3_firstSuspect 13 = .ok (.aload_n 0, 1) := by decide +kernel
theorem dX3_firstSuspect_14 : decode cX3_firstSuspect 14 = .ok (.getfield 50, 3) := by decide +kernel
theorem dX3_firstSuspect_17 : decode cX3_firstSuspect 17 = .ok (.iload_n 3, 1) := by decide +kernel
theorem dX3_firstSuspect_18 : decode cX3_firstSuspect 18 = .ok (.iload_n 1, 1) := by decide +kernel
theorem dX3_firstSuspect_19 : decode cX3_firstSuspect 19 = .ok (.iload_n 2, 1) := by decide +kernel
theorem dX3_firstSuspect_20 : decode cX3_firstSuspect 20 = .ok (.invokevirtual 139, 3) := by decide +kernel
theorem dX3_firstSuspect_23 : decode cX3_firstSuspect 23 = .ok (.ifCond .ne 5, 3) := by decide +kernel
theorem dX3_firstSuspect_26 : decode cX3_firstSuspect 26 = .ok (.iload_n 3, 1) := by decide +kernel
theorem dX3_firstSuspect_27 : decode cX3_firstSuspect 27 = .ok (.ireturn, 1) := by decide +kernel
theorem dX3_firstSuspect_28 : decode cX3_firstSuspect 28 = .ok (.iinc 3 1, 3) := by decide +kernel
theorem dX3_firstSuspect_31 : decode cX3_firstSuspect 31 = .ok (.goto (-29), 3) := by decide +kernel
theorem dX3_firstSuspect_34 : decode cX3_firstSuspect 34 = .ok (.iconst (-1), 1) := by decide +kernel
theorem dX3_firstSuspect_35 : decode cX3_firstSuspect 35 = .ok (.ireturn, 1) := by decide +kernel
theorem dX4_init_0 : decode cX4_init 0 = .ok (.aload_n 0, 1) := by decide +kernel
theorem dX4_init_1 : decode cX4_init 1 = .ok (.invokespecial 3, 3) := by decide +kernel
theorem dX4_init_4 : decode cX4_init 4 = .ok (.aload_n 0, 1) := by decide +kernel
theorem dX4_init_5 : decode cX4_init 5 = .ok (.iconst 0, 1) := by decide +kernel
theorem dX4_init_6 : decode cX4_init 6 = .ok (.putfield 11, 3) := by decide +kernel
theorem dX4_init_9 : decode cX4_init 9 = .ok (.aload_n 0, 1) := by decide +kernel
theorem dX4_init_10 : decode cX4_init 10 = .ok (.iconst 0, 1) := by decide +kernel
theorem dX4_init_11 : decode cX4_init 11 = .ok (.putfield 15, 3) := by decide +kernel
theorem dX4_init_14 : decode cX4_init 14 = .ok (.aload_n 0, 1) := by decide +kernel
theorem dX4_init_15 : decode cX4_init 15 = .ok (.iconst 0, 1) := by decide +kernel
theorem dX4_init_16 : decode cX4_init 16 = .ok (.putfield 18, 3) := by decide +kernel
theorem dX4_init_19 : decode cX4_init 19 = .ok (.aload_n 0, 1) := by decide +kernel
theorem dX4_init_20 : decode cX4_init 20 = .ok (.iconst 0, 1) := by decide +kernel
theorem dX4_init_21 : decode cX4_init 21 = .ok (.putfield 21, 3) := by decide +kernel
theorem dX4_init_24 : decode cX4_init 24 = .ok (.aload_n 0, 1) := by decide +kernel
theorem dX4_init_25 : decode cX4_init 25 = .ok (.aload_n 1, 1) := by decide +kernel
theorem dX4_init_26 : decode cX4_init 26 = .ok (.putfield 24, 3) := by decide +kernel
theorem dX4_init_29 : decode cX4_init 29 = .ok (.return_, 1) := by decide +kernel
theorem dX4_readText_0 : decode cX4_readText 0 = .ok (.aload_n 1, 1) := by decide +kernel
theorem dX4_readText_1 : decode cX4_readText 1 = .ok (.invokevirtual 28, 3) := by decide +kernel
theorem dX4_readText_4 : decode cX4_readText 4 = .ok (.aload_n 0, 1) := by decide +kernel
theorem dX4_readText_5 : decode cX4_readText 5 = .ok (.iconst 0, 1) := by decide +kernel
theorem dX4_readText_6 : decode cX4_readText 6 = .ok (.putfield 18, 3) := by decide +kernel
theorem dX4_readText_9 : decode cX4_readText 9 = .ok (.aload_n 0, 1) := by decide +kernel
theorem dX4_readText_10 : decode cX4_readText 10 = .ok (.invokevirtual 33, 3) := by decide +kernel
theorem dX4_readText_13 : decode cX4_readText 13 = .ok (.aload_n 0, 1) := by decide +kernel
theorem dX4_readText_14 : decode cX4_readText 14 = .ok (.aload_n 1, 1) := by decide +kernel
theorem dX4_readText_15 : decode cX4_readText 15 = .ok (.invokevirtual 36, 3) := by decide +kernel
theorem dX4_readText_18 : decode cX4_readText 18 = .ok (.ifCond .eq 14, 3) := by decide +kernel
theorem dX4_readText_21 : decode cX4_readText 21 = .ok (.aload_n 0, 1) := by decide +kernel
theorem dX4_readText_22 : decode cX4_readText 22 = .ok (.invokevirtual 40, 3) := by decide +kernel
theorem dX4_readText_25 : decode cX4_readText 25 = .ok (.ifCond .eq 7, 3) := by decide +kernel
theorem dX4_readText_28 : decode cX4_readText 28 = .ok (.iconst 1, 1) := by decide +kernel
theorem dX4_readText_29 : decode cX4_readText 29 = .ok (.goto 4, 3) := by decide +kernel
theorem dX4_readText_32 : decode cX4_readText 32 = .ok (.iconst 0, 1) := by decide +kernel
theorem dX4_readText_33 : decode cX4_readText 33 = .ok (.istore_n 2, 1) := by decide +kernel
theorem dX4_readText_34 : decode cX4_readText 34 = .ok (.iconst 0, 1) := by decide +kernel
theorem dX4_readText_35 : decode cX4_readText 35 = .ok (.istore_n 3, 1) := by decide +kernel
theorem dX4_readText_36 : decode cX4_readText 36 = .ok (.iload_n 3, 1) := by decide +kernel
theorem dX4_readText_37 : decode cX4_readText 37 = .ok (.bipush 10, 2) := by decide +kernel
theorem dX4_readText_39 : decode cX4_readText 39 = .ok (.if_icmp .ge 46, 3) := by decide +kernel
theorem dX4_readText_42 : decode cX4_readText 42 = .ok (.iload_n 2, 1) := by decide +kernel
theorem dX4_readText_43 : decode cX4_readText 43 = .ok (.ifCond .eq 42, 3) := by decide +kernel
theorem dX4_readText_46 : decode cX4_readText 46 = .ok (.aload_n 0, 1) := by decide +kernel
theorem dX4_readText_47 : decode cX4_readText 47 = .ok (.ldc 44, 2) := by decide +kernel
theorem dX4_readText_49 : decode cX4_readText 49 = .ok (.invokevirtual 46, 3) := by decide +kernel
theorem dX4_readText_52 : decode cX4_readText 52 = .ok (.ifCond .eq 33, 3) := by decide +kernel
theorem dX4_readText_55 : decode cX4_readText 55 = .ok (.aload_n 0, 1) := by decide +kernel
theorem dX4_readText_56 : decode cX4_readText 56 = .ok (.aload_n 1, 1) := by decide +kernel
theorem dX4_readText_57 : decode cX4_readText 57 = .ok (.getfield 50, 3) := by decide +kernel
theorem dX4_readText_60 : decode cX4_readText 60 = .ok (.invokevirtual 54, 3) := by decide +kernel
theorem dX4_readText_63 : decode cX4_readText 63 = .ok (.ifCond .eq 14, 3) := by decide +kernel
theorem dX4_readText_66 : decode cX4_readText 66 = .ok (.aload_n 0, 1) := by decide +kernel
theorem dX4_readText_67 : decode cX4_readText 67 = .ok (.invokevirtual 40, 3) := by decide +kernel
theorem dX4_readText_70 : decode cX4_readText 70 = .ok (.ifCond .eq 7, 3) := by decide +kernel
theorem dX4_readText_73 : decode cX4_readText 73 = .ok (.iconst 1, 1) := by decide +kernel
theorem dX4_readText_74 : decode cX4_readText 74 = .ok (.goto 4, 3) := by decide +kernel
theorem dX4_readText_77 : decode cX4_readText 77 = .ok (.iconst 0, 1) := by decide +kernel
theorem dX4_readText_78 : decode cX4_readText 78 = .ok (.istore_n 2, 1) := by decide +kernel
theorem dX4_readText_79 : decode cX4_readText 79 = .ok (.iinc 3 1, 3) := by decide +kernel
theorem dX4_readText_82 : decode cX4_readText 82 = .ok (.goto (-46), 3) := by decide +kernel
theorem dX4_readText_85 : decode cX4_readText 85 = .ok (.iconst 0, 1) := by decide +kernel
theorem dX4_readText_86 : decode cX4_readText 86 = .ok (.istore_n 3, 1) := by decide +kernel
theorem dX4_readText_87 : decode cX4_readText 87 = .ok (.iload_n 3, 1) := by decide +kernel
theorem dX4_readText_88 : decode cX4_readText 88 = .ok (.bipush 12, 2) := by decide +kernel
theorem dX4_readText_90 : decode cX4_readText 90 = .ok (.if_icmp .ge 43, 3) := by decide +kernel
theorem dX4_readText_93 : decode cX4_readText 93 = .ok (.iload_n 2, 1) := by decide +kernel
theorem dX4_readText_94 : decode cX4_readText 94 = .ok (.ifCond .eq 39, 3) := by decide +kernel
theorem dX4_readText_97 : decode cX4_readText 97 = .ok (.aload_n 0, 1) := by decide +kernel
theorem dX4_readText_98 : decode cX4_readText 98 = .ok (.ldc 58, 2) := by decide +kernel
theorem dX4_readText_100 : decode cX4_readText 100 = .ok (.invokevirtual 46, 3) := by decide +kernel
theorem dX4_readText_103 : decode cX4_readText 103 = .ok (.ifCond .eq 30, 3) := by decide +kernel
theorem dX4_readText_106 : decode cX4_readText 106 = .ok (.aload_n 0, 1) := by decide +kernel
theorem dX4_readText_107 : decode cX4_readText 107 = .ok (.aload_n 1, 1) := by decide +kernel
theorem dX4_readText_108 : decode cX4_readText 108 = .ok (.invokevirtual 60, 3) := by decide +kernel
theorem dX4_readText_111 : decode cX4_readText 111 = .ok (.ifCond .eq 14, 3) := by decide +kernel
theorem dX4_readText_114 : decode cX4_readText 114 = .ok (.aload_n 0, 1) := by decide +kernel
theorem dX4_readText_115 : decode cX4_readText 115 = .ok (.invokevirtual 40, 3) := by decide +kernel
theorem dX4_readText_118 : decode cX4_readText 118 = .ok (.ifCond .eq 7, 3) := by decide +kernel
theorem dX4_readText_121 : decode cX4_readText 121 = .ok (.iconst 1, 1) := by decide +kernel
theorem dX4_readText_122 : decode cX4_readText 122 = .ok (.goto 4, 3) := by decide +kernel
theorem dX4_readText_125 : decode cX4_readText 125 = .ok (.iconst 0, 1) := by decide +kernel
theorem dX4_readText_126 : decode cX4_readText 126 = .ok (.istore_n 2, 1) := by decide +kernel
theorem dX4_readText_127 : decode cX4_readText 127 = .ok (.iinc 3 1, 3) := by decide +kernel
theorem dX4_readText_130 : decode cX4_readText 130 = .ok (.goto (-43), 3) := by decide +kernel
theorem dX4_readText_133 : decode cX4_readText 133 = .ok (.iload_n 2, 1) := by decide +kernel
theorem dX4_readText_134 : decode cX4_readText 134 = .ok (.ifCond .eq 14, 3) := by decide +kernel
theorem dX4_readText_137 : decode cX4_readText 137 = .ok (.aload_n 0, 1) := by decide +kernel
theorem dX4_readText_138 : decode cX4_readText 138 = .ok (.getfield 11, 3) := by decide +kernel
theorem dX4_readText_141 : decode cX4_readText 141 = .ok (.ifCond .ne 7, 3) := by decide +kernel
theorem dX4_readText_144 : decode cX4_readText 144 = .ok (.iconst (-1), 1) := by decide +kernel
theorem dX4_readText_145 : decode cX4_readText 145 = .ok (.goto 7, 3) := by decide +kernel
theorem dX4_readText_148 : decode cX4_readText 148 = .ok (.aload_n 0, 1) := by decide +kernel
theorem dX4_readText_149 : decode cX4_readText 149 = .ok (.getfield 15, 3) := by decide +kernel
theorem dX4_readText_152 : decode cX4_readText 152 = .ok (.ireturn, 1) := by decide +kernel
theorem dX4_readHead_0 : decode cX4_readHead 0 = .ok (.aload_n 0, 1) := by decide +kernel
theorem dX4_readHead_1 : decode cX4_readHead 1 = .ok (.ldc 63, 2) := by decide +kernel
theorem dX4_readHead_3 : decode cX4_readHead 3 = .ok (.invokevirtual 46, 3) := by decide +kernel
theorem dX4_readHead_6 : decode cX4_readHead 6 = .ok (.ifCond .ne 5, 3) := by decide +kernel
theorem dX4_readHead_9 : decode cX4_readHead 9 = .ok (.iconst 0, 1) := by decide +kernel
theorem dX4_readHead_10 : decode cX4_readHead 10 = .ok (.ireturn, 1) := by decide +kernel
theorem dX4_readHead_11 : decode cX4_readHead 11 = .ok (.aload_n 0, 1) := by decide +kernel
theorem dX4_readHead_12 : decode cX4_readHead 12 = .ok (.invokevirtual 33, 3) := by decide +kernel
theorem dX4_readHead_15 : decode cX4_readHead 15 = .ok (.aload_n 0, 1) := by decide +kernel
theorem dX4_readHead_16 : decode cX4_readHead 16 = .ok (.iconst 0, 1) := by decide +kernel
theorem dX4_readHead_17 : decode cX4_readHead 17 = .ok (.bipush 9, 2) := by decide +kernel
theorem dX4_readHead_19 : decode cX4_readHead 19 = .ok (.invokevirtual 65, 3) := by decide +kernel
theorem dX4_readHead_22 : decode cX4_readHead 22 = .ok (.ifCond .ne 5, 3) := by decide +kernel
theorem dX4_readHead_25 : decode cX4_readHead 25 = .ok (.iconst 0, 1) := by decide +kernel
theorem dX4_readHead_26 : decode cX4_readHead 26 = .ok (.ireturn, 1) := by decide +kernel
theorem dX4_readHead_27 : decode cX4_readHead 27 = .ok (.aload_n 1, 1) := by decide +kernel
theorem dX4_readHead_28 : decode cX4_readHead 28 = .ok (.aload_n 0, 1) := by decide +kernel
theorem dX4_readHead_29 : decode cX4_readHead 29 = .ok (.getfield 21, 3) := by decide +kernel
theorem dX4_readHead_32 : decode cX4_readHead 32 = .ok (.putfield 69, 3) := by decide +kernel
theorem dX4_readHead_35 : decode cX4_readHead 35 = .ok (.aload_n 0, 1) := by decide +kernel
theorem dX4_readHead_36 : decode cX4_readHead 36 = .ok (.invokevirtual 33, 3) := by decide +kernel
theorem dX4_readHead_39 : decode cX4_readHead 39 = .ok (.aload_n 0, 1) := by decide +kernel
theorem dX4_readHead_40 : decode cX4_readHead 40 = .ok (.iconst 0, 1) := by decide +kernel
theorem dX4_readHead_41 : decode cX4_readHead 41 = .ok (.sipush 999, 3) := by decide +kernel
theorem dX4_readHead_44 : decode cX4_readHead 44 = .ok (.invokevirtual 65, 3) := by decide +kernel
theorem dX4_readHead_47 : decode cX4_readHead 47 = .ok (.ifCond .ne 5, 3) := by decide +kernel
theorem dX4_readHead_50 : decode cX4_readHead 50 = .ok (.iconst 0, 1) := by decide +kernel
theorem dX4_readHead_51 : decode cX4_readHead 51 = .ok (.ireturn, 1) := by decide +kernel
theorem dX4_readHead_52 : decode cX4_readHead 52 = .ok (.aload_n 1, 1) := by decide +kernel
theorem dX4_readHead_53 : decode cX4_readHead 53 = .ok (.aload_n 0, 1) := by decide +kernel
theorem dX4_readHead_54 : decode cX4_readHead 54 = .ok (.getfield 21, 3) := by decide +kernel
theorem dX4_readHead_57 : decode cX4_readHead 57 = .ok (.putfield 72, 3) := by decide +kernel
theorem dX4_readHead_60 : decode cX4_readHead 60 = .ok (.aload_n 0, 1) := by decide +kernel
theorem dX4_readHead_61 : decode cX4_readHead 61 = .ok (.invokevirtual 33, 3) := by decide +kernel
theorem dX4_readHead_64 : decode cX4_readHead 64 = .ok (.iconst 1, 1) := by decide +kernel
theorem dX4_readHead_65 : decode cX4_readHead 65 = .ok (.ireturn, 1) := by decide +kernel
theorem dX4_readGuest_0 : decode cX4_readGuest 0 = .ok (.aload_n 0, 1) := by decide +kernel
theorem dX4_readGuest_1 : decode cX4_readGuest 1 = .ok (.invokevirtual 33, 3) := by decide +kernel
theorem dX4_readGuest_4 : decode cX4_readGuest 4 = .ok (.aload_n 0, 1) := by decide +kernel
theorem dX4_readGuest_5 : decode cX4_readGuest 5 = .ok (.getfield 15, 3) := by decide +kernel
theorem dX4_readGuest_8 : decode cX4_readGuest 8 = .ok (.istore_n 2, 1) := by decide +kernel
theorem dX4_readGuest_9 : decode cX4_readGuest 9 = .ok (.aload_n 0, 1) := by decide +kernel
theorem dX4_readGuest_10 : decode cX4_readGuest 10 = .ok (.getfield 18, 3) := by decide +kernel
theorem dX4_readGuest_13 : decode cX4_readGuest 13 = .ok (.aload_n 0, 1) := by decide +kernel
theorem dX4_readGuest_14 : decode cX4_readGuest 14 = .ok (.getfield 15, 3) := by decide +kernel
theorem dX4_readGuest_17 : decode cX4_readGuest 17 = .ok (.isub, 1) := by decide +kernel
theorem dX4_readGuest_18 : decode cX4_readGuest 18 = .ok (.istore_n 3, 1) := by decide +kernel
theorem dX4_readGuest_19 : decode cX4_readGuest 19 = .ok (.aload_n 0, 1) := by decide +kernel
theorem dX4_readGuest_20 : decode cX4_readGuest 20 = .ok (.getfield 11, 3) := by decide +kernel
theorem dX4_readGuest_23 : decode cX4_readGuest 23 = .ok (.iconst 1, 1) := by decide +kernel
theorem dX4_readGuest_24 : decode cX4_readGuest 24 = .ok (.if_icmp .ne 25, 3) := by decide +kernel
theorem dX4_readGuest_27 : decode cX4_readGuest 27 = .ok (.iload_n 3, 1) := by decide +kernel
theorem dX4_readGuest_28 : decode cX4_readGuest 28 = .ok (.iconst 5, 1) := by decide +kernel
theorem dX4_readGuest_29 : decode cX4_readGuest 29 = .ok (.if_icmp .gt 20, 3) := by decide +kernel
theorem dX4_readGuest_32 : decode cX4_readGuest 32 = .ok (.aload_n 1, 1) := by decide +kernel
theorem dX4_readGuest_33 : decode cX4_readGuest 33 = .ok (.aload_n 0, 1) := by decide +kernel
theorem dX4_readGuest_34 : decode cX4_readGuest 34 = .ok (.getfield 24, 3) := by decide +kernel
theorem dX4_readGuest_37 : decode cX4_readGuest 37 = .ok (.aload_n 0, 1) := by decide +kernel
theorem dX4_readGuest_38 : decode cX4_readGuest 38 = .ok (.getfield 15, 3) := by decide +kernel
theorem dX4_readGuest_41 : decode cX4_readGuest 41 = .ok (.iload_n 3, 1) := by decide +kernel
theorem dX4_readGuest_42 : decode cX4_readGuest 42 = .ok (.invokevirtual 75, 3) := by decide +kernel
theorem dX4_readGuest_45 : decode cX4_readGuest 45 = .ok (.iconst (-1), 1) := by decide +kernel
theorem dX4_readGuest_46 : decode cX4_readGuest 46 = .ok (.if_icmp .eq 5, 3) := by decide +kernel
theorem dX4_readGuest_49 : decode cX4_readGuest 49 = .ok (.iconst 0, 1) := by decide +kernel
theorem dX4_readGuest_50 : decode cX4_readGuest 50 = .ok (.ireturn, 1) := by decide +kernel
theorem dX4_readGuest_51 : decode cX4_readGuest 51 = .ok (.aload_n 0, 1) := by decide +kernel
theorem dX4_readGuest_52 : decode cX4_readGuest 52 = .ok (.invokevirtual 33, 3) := by decide +kernel
theorem dX4_readGuest_55 : decode cX4_readGuest 55 = .ok (.aload_n 0, 1) := by decide +kernel
theorem dX4_readGuest_56 : decode cX4_readGuest 56 = .ok (.iconst 0, 1) := by decide +kernel
theorem dX4_readGuest_57 : decode cX4_readGuest 57 = .ok (.bipush 9, 2) := by decide +kernel
theorem dX4_readGuest_59 : decode cX4_readGuest 59 = .ok (.invokevirtual 65, 3) := by decide +kernel
theorem dX4_readGuest_62 : decode cX4_readGuest 62 = .ok (.ifCond .ne 5, 3) := by decide +kernel
theorem dX4_readGuest_65 : decode cX4_readGuest 65 = .ok (.iconst 0, 1) := by decide +kernel
theorem dX4_readGuest_66 : decode cX4_readGuest 66 = .ok (.ireturn, 1) := by decide +kernel
theorem dX4_readGuest_67 : decode cX4_readGuest 67 = .ok (.aload_n 0, 1) := by decide +kernel
theorem dX4_readGuest_68 : decode cX4_readGuest 68 = .ok (.getfield 21, 3) := by decide +kernel
theorem dX4_readGuest_71 : decode cX4_readGuest 71 = .ok (.istore 4, 2) := by decide +kernel
theorem dX4_readGuest_73 : decode cX4_readGuest 73 = .ok (.iconst 0, 1) := by decide +kernel
theorem dX4_readGuest_74 : decode cX4_readGuest 74 = .ok (.istore 5, 2) := by decide +kernel
theorem dX4_readGuest_76 : decode cX4_readGuest 76 = .ok (.aload_n 0, 1) := by decide +kernel
theorem dX4_readGuest_77 : decode cX4_readGuest 77 = .ok (.invokevirtual 33, 3) := by decide +kernel
theorem dX4_readGuest_80 : decode cX4_readGuest 80 = .ok (.aload_n 0, 1) := by decide +kernel
theorem dX4_readGuest_81 : decode cX4_readGuest 81 = .ok (.ldc 81, 2) := by decide +kernel
theorem dX4_readGuest_83 : decode cX4_readGuest 83 = .ok (.invokevirtual 46, 3) := by decide +kernel
theorem dX4_readGuest_86 : decode cX4_readGuest 86 = .ok (.ifCond .eq 29, 3) := by decide +kernel
theorem dX4_readGuest_89 : decode cX4_readGuest 89 = .ok (.aload_n 0, 1) := by decide +kernel
theorem dX4_readGuest_90 : decode cX4_readGuest 90 = .ok (.invokevirtual 33, 3) := by decide +kernel
theorem dX4_readGuest_93 : decode cX4_readGuest 93 = .ok (.aload_n 0, 1) := by decide +kernel
theorem dX4_readGuest_94 : decode cX4_readGuest 94 = .ok (.iconst 1, 1) := by decide +kernel
theorem dX4_readGuest_95 : decode cX4_readGuest 95 = .ok (.bipush 9, 2) := by decide +kernel
theorem dX4_readGuest_97 : decode cX4_readGuest 97 = .ok (.invokevirtual 65, 3) := by decide +kernel
theorem dX4_readGuest_100 : decode cX4_readGuest 100 = .ok (.ifCond .ne 5, 3) := by decide +kernel
theorem dX4_readGuest_103 : decode cX4_readGuest 103 = .ok (.iconst 0, 1) := by decide +kernel
theorem dX4_readGuest_104 : decode cX4_readGuest 104 = .ok (.ireturn, 1) := by decide +kernel
theorem dX4_readGuest_105 : decode cX4_readGuest 105 = .ok (.aload_n 0, 1) := by decide +kernel
theorem dX4_readGuest_106 : decode cX4_readGuest 106 = .ok (.getfield 21, 3) := by decide +kernel
theorem dX4_readGuest_109 : decode cX4_readGuest 109 = .ok (.istore 5, 2) := by decide +kernel
theorem dX4_readGuest_111 : decode cX4_readGuest 111 = .ok (.aload_n 0, 1) := by decide +kernel
theorem dX4_readGuest_112 : decode cX4_readGuest 112 = .ok (.invokevirtual 33, 3) := by decide +kernel
theorem dX4_readGuest_115 : decode cX4_readGuest 115 = .ok (.aload_n 1, 1) := by decide +kernel
theorem dX4_readGuest_116 : decode cX4_readGuest 116 = .ok (.aload_n 0, 1) := by decide +kernel
theorem dX4_readGuest_117 : decode cX4_readGuest 117 = .ok (.getfield 24, 3) := by decide +kernel
theorem dX4_readGuest_120 : decode cX4_readGuest 120 = .ok (.iload_n 2, 1) := by decide +kernel
theorem dX4_readGuest_121 : decode cX4_readGuest 121 = .ok (.iload_n 3, 1) := by decide +kernel
theorem dX4_readGuest_122 : decode cX4_readGuest 122 = .ok (.iload 4, 2) := by decide +kernel
theorem dX4_readGuest_124 : decode cX4_readGuest 124 = .ok (.iload 5, 2) := by decide +kernel
theorem dX4_readGuest_126 : decode cX4_readGuest 126 = .ok (.invokevirtual 83, 3) := by decide +kernel
theorem dX4_readGuest_129 : decode cX4_readGuest 129 = .ok (.pop, 1) := by decide +kernel
theorem dX4_readGuest_130 : decode cX4_readGuest 130 = .ok (.iconst 1, 1) := by decide +kernel
theorem dX4_readGuest_131 : decode cX4_readGuest 131 = .ok (.ireturn, 1) := by decide +kernel
theorem dX4_readUmbrella_0 : decode cX4_readUmbrella 0 = .ok (.aload_n 0, 1) := by decide +kernel
theorem dX4_readUmbrella_1 : decode cX4_readUmbrella 1 = .ok (.invokevirtual 33, 3) := by decide +kernel
theorem dX4_readUmbrella_4 : decode cX4_readUmbrella 4 = .ok (.aload_n 0, 1) := by decide +kernel
theorem dX4_readUmbrella_5 : decode cX4_readUmbrella 5 = .ok (.getfield 11, 3) := by decide +kernel
theorem dX4_readUmbrella_8 : decode cX4_readUmbrella 8 = .ok (.iconst 1, 1) := by decide +kernel
theorem dX4_readUmbrella_9 : decode cX4_readUmbrella 9 = .ok (.if_icmp .ne 30, 3) := by decide +kernel
theorem dX4_readUmbrella_12 : decode cX4_readUmbrella 12 = .ok (.aload_n 1, 1) := by decide +kernel
theorem dX4_readUmbrella_13 : decode cX4_readUmbrella 13 = .ok (.getfield 50, 3) := by decide +kernel
theorem dX4_readUmbrella_16 : decode cX4_readUmbrella 16 = .ok (.aload_n 0, 1) := by decide +kernel
theorem dX4_readUmbrella_17 : decode cX4_readUmbrella 17 = .ok (.getfield 24, 3) := by decide +kernel
theorem dX4_readUmbrella_20 : decode cX4_readUmbrella 20 = .ok (.aload_n 0, 1) := by decide +kernel
theorem dX4_readUmbrella_21 : decode cX4_readUmbrella 21 = .ok (.getfield 15, 3) := by decide +kernel
theorem dX4_readUmbrella_24 : decode cX4_readUmbrella 24 = .ok (.aload_n 0, 1) := by decide +kernel
theorem dX4_readUmbrella_25 : decode cX4_readUmbrella 25 = .ok (.getfield 18, 3) := by decide +kernel
theorem dX4_readUmbrella_28 : decode cX4_readUmbrella 28 = .ok (.aload_n 0, 1) := by decide +kernel
theorem dX4_readUmbrella_29 : decode cX4_readUmbrella 29 = .ok (.getfield 15, 3) := by decide +kernel
theorem dX4_readUmbrella_32 : decode cX4_readUmbrella 32 = .ok (.isub, 1) := by decide +kernel
theorem dX4_readUmbrella_33 : decode cX4_readUmbrella 33 = .ok (.invokevirtual 75, 3) := by decide +kernel
theorem dX4_readUmbrella_36 : decode cX4_readUmbrella 36 = .ok (.goto 4, 3) := by decide +kernel
theorem dX4_readUmbrella_39 : decode cX4_readUmbrella 39 = .ok (.iconst (-1), 1) := by decide +kernel
theorem dX4_readUmbrella_40 : decode cX4_readUmbrella 40 = .ok (.istore_n 2, 1) := by decide +kernel
theorem dX4_readUmbrella_41 : decode cX4_readUmbrella 41 = .ok (.iload_n 2, 1) := by decide +kernel
theorem dX4_readUmbrella_42 : decode cX4_readUmbrella 42 = .ok (.iconst (-1), 1) := by decide +kernel
theorem dX4_readUmbrella_43 : decode cX4_readUmbrella 43 = .ok (.if_icmp .ne 5, 3) := by decide +kernel
theorem dX4_readUmbrella_46 : decode cX4_readUmbrella 46 = .ok (.iconst 0, 1) := by decide +kernel
theorem dX4_readUmbrella_47 : decode cX4_readUmbrella 47 = .ok (.ireturn, 1) := by decide +kernel
theorem dX4_readUmbrella_48 : decode cX4_readUmbrella 48 = .ok (.aload_n 0, 1) := by decide +kernel
theorem dX4_readUmbrella_49 : decode cX4_readUmbrella 49 = .ok (.invokevirtual 33, 3) := by decide +kernel
theorem dX4_readUmbrella_52 : decode cX4_readUmbrella 52 = .ok (.aload_n 0, 1) := by decide +kernel
theorem dX4_readUmbrella_53 : decode cX4_readUmbrella 53 = .ok (.iconst 0, 1) := by decide +kernel
theorem dX4_readUmbrella_54 : decode cX4_readUmbrella 54 = .ok (.bipush 99, 2) := by decide +kernel
theorem dX4_readUmbrella_56 : decode cX4_readUmbrella 56 = .ok (.invokevirtual 65, 3) := by decide +kernel
theorem dX4_readUmbrella_59 : decode cX4_readUmbrella 59 = .ok (.ifCond .ne 5, 3) := by decide +kernel
theorem dX4_readUmbrella_62 : decode cX4_readUmbrella 62 = .ok (.iconst 0, 1) := by decide +kernel
theorem dX4_readUmbrella_63 : decode cX4_readUmbrella 63 = .ok (.ireturn, 1) := by decide +kernel
theorem dX4_readUmbrella_64 : decode cX4_readUmbrella 64 = .ok (.aload_n 1, 1) := by decide +kernel
theorem dX4_readUmbrella_65 : decode cX4_readUmbrella 65 = .ok (.getfield 87, 3) := by decide +kernel
theorem dX4_readUmbrella_68 : decode cX4_readUmbrella 68 = .ok (.iload_n 2, 1) := by decide +kernel
theorem dX4_readUmbrella_69 : decode cX4_readUmbrella 69 = .ok (.aload_n 0, 1) := by decide +kernel
theorem dX4_readUmbrella_70 : decode cX4_readUmbrella 70 = .ok (.getfield 21, 3) := by decide +kernel
theorem dX4_readUmbrella_73 : decode cX4_readUmbrella 73 = .ok (.invokevirtual 91, 3) := by decide +kernel
theorem dX4_readUmbrella_76 : decode cX4_readUmbrella 76 = .ok (.pop, 1) := by decide +kernel
theorem dX4_readUmbrella_77 : decode cX4_readUmbrella 77 = .ok (.aload_n 0, 1) := by decide +kernel
theorem dX4_readUmbrella_78 : decode cX4_readUmbrella 78 = .ok (.invokevirtual 33, 3) := by decide +kernel
theorem dX4_readUmbrella_81 : decode cX4_readUmbrella 81 = .ok (.iconst 1, 1) := by decide +kernel
theorem dX4_readUmbrella_82 : decode cX4_readUmbrella 82 = .ok (.ireturn, 1) := by decide +kernel
theorem dX4_passSemicolon_0 : decode cX4_passSemicolon 0 = .ok (.aload_n 0, 1) := by decide +kernel
theorem dX4_passSemicolon_1 : decode cX4_passSemicolon 1 = .ok (.getfield 11, 3) := by decide +kernel
theorem dX4_passSemicolon_4 : decode cX4_passSemicolon 4 = .ok (.iconst 3, 1) := by decide +kernel
theorem dX4_passSemicolon_5 : decode cX4_passSemicolon 5 = .ok (.if_icmp .eq 5, 3) := by decide +kernel
theorem dX4_passSemicolon_8 : decode cX4_passSemicolon 8 = .ok (.iconst 0, 1) := by decide +kernel
theorem dX4_passSemicolon_9 : decode cX4_passSemicolon 9 = .ok (.ireturn, 1) := by decide +kernel
theorem dX4_passSemicolon_10 : decode cX4_passSemicolon 10 = .ok (.aload_n 0, 1) := by decide +kernel
theorem dX4_passSemicolon_11 : decode cX4_passSemicolon 11 = .ok (.invokevirtual 33, 3) := by decide +kernel
theorem dX4_passSemicolon_14 : decode cX4_passSemicolon 14 = .ok (.iconst 1, 1) := by decide +kernel
theorem dX4_passSemicolon_15 : decode cX4_passSemicolon 15 = .ok (.ireturn, 1) := by decide +kernel
theorem dX4_isNumber_0 : decode cX4_isNumber 0 = .ok (.aload_n 0, 1) := by decide +kernel
theorem dX4_isNumber_1 : decode cX4_isNumber 1 = .ok (.getfield 11, 3) := by decide +kernel
theorem dX4_isNumber_4 : decode cX4_isNumber 4 = .ok (.iconst 2, 1) := by decide +kernel
theorem dX4_isNumber_5 : decode cX4_isNumber 5 = .ok (.if_icmp .ne 23, 3) := by decide +kernel
theorem dX4_isNumber_8 : decode cX4_isNumber 8 = .ok (.aload_n 0, 1) := by decide +kernel
theorem dX4_isNumber_9 : decode cX4_isNumber 9 = .ok (.getfield 21, 3) := by decide +kernel
theorem dX4_isNumber_12 : decode cX4_isNumber 12 = .ok (.iload_n 1, 1) := by decide +kernel
theorem dX4_isNumber_13 : decode cX4_isNumber 13 = .ok (.if_icmp .lt 15, 3) := by decide +kernel
theorem dX4_isNumber_16 : decode cX4_isNumber 16 = .ok (.aload_n 0, 1) := by decide +kernel
theorem dX4_isNumber_17 : decode cX4_isNumber 17 = .ok (.getfield 21, 3) := by decide +kernel
theorem dX4_isNumber_20 : decode cX4_isNumber 20 = .ok (.iload_n 2, 1) := by decide +kernel
theorem dX4_isNumber_21 : decode cX4_isNumber 21 = .ok (.if_icmp .gt 7, 3) := by decide +kernel
theorem dX4_isNumber_24 : decode cX4_isNumber 24 = .ok (.iconst 1, 1) := by decide +kernel
theorem dX4_isNumber_25 : decode cX4_isNumber 25 = .ok (.goto 4, 3) := by decide +kernel
theorem dX4_isNumber_28 : decode cX4_isNumber 28 = .ok (.iconst 0, 1) := by decide +kernel
theorem dX4_isNumber_29 : decode cX4_isNumber 29 = .ok (.ireturn, 1) := by decide +kernel
theorem dX4_isWord_0 : decode cX4_isWord 0 = .ok (.aload_n 0, 1) := by decide +kernel
theorem dX4_isWord_1 : decode cX4_isWord 1 = .ok (.getfield 11, 3) := by decide +kernel
theorem dX4_isWord_4 : decode cX4_isWord 4 = .ok (.iconst 1, 1) := by decide +kernel
theorem dX4_isWord_5 : decode cX4_isWord 5 = .ok (.if_icmp .ne 19, 3) := by decide +kernel
theorem dX4_isWord_8 : decode cX4_isWord 8 = .ok (.aload_n 0, 1) := by decide +kernel
theorem dX4_isWord_9 : decode cX4_isWord 9 = .ok (.getfield 18, 3) := by decide +kernel
theorem dX4_isWord_12 : decode cX4_isWord 12 = .ok (.aload_n 0, 1) := by decide +kernel
theorem dX4_isWord_13 : decode cX4_isWord 13 = .ok (.getfield 15, 3) := by decide +kernel
theorem dX4_isWord_16 : decode cX4_isWord 16 = .ok (.isub, 1) := by decide +kernel
theorem dX4_isWord_17 : decode cX4_isWord 17 = .ok (.aload_n 1, 1) := by decide +kernel
theorem dX4_isWord_18 : decode cX4_isWord 18 = .ok (.invokevirtual 96, 3) := by decide +kernel
theorem dX4_isWord_21 : decode cX4_isWord 21 = .ok (.if_icmp .eq 5, 3) := by decide +kernel
theorem dX4_isWord_24 : decode cX4_isWord 24 = .ok (.iconst 0, 1) := by decide +kernel
theorem dX4_isWord_25 : decode cX4_isWord 25 = .ok (.ireturn, 1) := by decide +kernel
theorem dX4_isWord_26 : decode cX4_isWord 26 = .ok (.iconst 0, 1) := by decide +kernel
theorem dX4_isWord_27 : decode cX4_isWord 27 = .ok (.istore_n 2, 1) := by decide +kernel
theorem dX4_isWord_28 : decode cX4_isWord 28 = .ok (.iload_n 2, 1) := by decide +kernel
theorem dX4_isWord_29 : decode cX4_isWord 29 = .ok (.aload_n 1, 1) := by decide +kernel
theorem dX4_isWord_30 : decode cX4_isWord 30 = .ok (.invokevirtual 96, 3) := by decide +kernel
theorem dX4_isWord_33 : decode cX4_isWord 33 = .ok (.if_icmp .ge 33, 3) := by decide +kernel
theorem dX4_isWord_36 : decode cX4_isWord 36 = .ok (.aload_n 0, 1) := by decide +kernel
theorem dX4_isWord_37 : decode cX4_isWord 37 = .ok (.getfield 24, 3) := by decide +kernel
theorem dX4_isWord_40 : decode cX4_isWord 40 = .ok (.getfield 102, 3) := by decide +kernel
theorem dX4_isWord_43 : decode cX4_isWord 43 = .ok (.aload_n 0, 1) := by decide +kernel
theorem dX4_isWord_44 : decode cX4_isWord 44 = .ok (.getfield 15, 3) := by decide +kernel
theorem dX4_isWord_47 : decode cX4_isWord 47 = .ok (.iload_n 2, 1) := by decide +kernel
theorem dX4_isWord_48 : decode cX4_isWord 48 = .ok (.iadd, 1) := by decide +kernel
theorem dX4_isWord_49 : decode cX4_isWord 49 = .ok (.iaload, 1) := by decide +kernel
theorem dX4_isWord_50 : decode cX4_isWord 50 = .ok (.aload_n 1, 1) := by decide +kernel
theorem dX4_isWord_51 : decode cX4_isWord 51 = .ok (.iload_n 2, 1) := by decide +kernel
theorem dX4_isWord_52 : decode cX4_isWord 52 = .ok (.invokevirtual 108, 3) := by decide +kernel
theorem dX4_isWord_55 : decode cX4_isWord 55 = .ok (.if_icmp .eq 5, 3) := by decide +kernel
theorem dX4_isWord_58 : decode cX4_isWord 58 = .ok (.iconst 0, 1) := by decide +kernel
theorem dX4_isWord_59 : decode cX4_isWord 59 = .ok (.ireturn, 1) := by decide +kernel
theorem dX4_isWord_60 : decode cX4_isWord 60 = .ok (.iinc 2 1, 3) := by decide +kernel
theorem dX4_isWord_63 : decode cX4_isWord 63 = .ok (.goto (-35), 3) := by decide +kernel
theorem dX4_isWord_66 : decode cX4_isWord 66 = .ok (.iconst 1, 1) := by decide +kernel
theorem dX4_isWord_67 : decode cX4_isWord 67 = .ok (.ireturn, 1) := by decide +kernel
theorem dX4_advance_0 : decode cX4_advance 0 = .ok (.aload_n 0, 1) := by decide +kernel
theorem dX4_advance_1 : decode cX4_advance 1 = .ok (.aload_n 0, 1) := by decide +kernel
theorem dX4_advance_2 : decode cX4_advance 2 = .ok (.getfield 18, 3) := by decide +kernel
theorem dX4_advance_5 : decode cX4_advance 5 = .ok (.putfield 15, 3) := by decide +kernel
theorem dX4_advance_8 : decode cX4_advance 8 = .ok (.aload_n 0, 1) := by decide +kernel
theorem dX4_advance_9 : decode cX4_advance 9 = .ok (.getfield 15, 3) := by decide +kernel
theorem dX4_advance_12 : decode cX4_advance 12 = .ok (.aload_n 0, 1) := by decide +kernel
theorem dX4_advance_13 : decode cX4_advance 13 = .ok (.getfield 24, 3) := by decide +kernel
theorem dX4_advance_16 : decode cX4_advance 16 = .ok (.getfield 112, 3) := by decide +kernel
theorem dX4_advance_19 : decode cX4_advance 19 = .ok (.if_icmp .ge 34, 3) := by decide +kernel
theorem dX4_advance_22 : decode cX4_advance 22 = .ok (.aload_n 0, 1) := by decide +kernel
theorem dX4_advance_23 : decode cX4_advance 23 = .ok (.getfield 24, 3) := by decide +kernel
theorem dX4_advance_26 : decode cX4_advance 26 = .ok (.getfield 102, 3) := by decide +kernel
theorem dX4_advance_29 : decode cX4_advance 29 = .ok (.aload_n 0, 1) := by decide +kernel
theorem dX4_advance_30 : decode cX4_advance 30 = .ok (.getfield 15, 3) := by decide +kernel
theorem dX4_advance_33 : decode cX4_advance 33 = .ok (.iaload, 1) := by decide +kernel
theorem dX4_advance_34 : decode cX4_advance 34 = .ok (.invokestatic 114, 3) := by decide +kernel
theorem dX4_advance_37 : decode cX4_advance 37 = .ok (.ifCond .eq 16, 3) := by decide +kernel
theorem dX4_advance_40 : decode cX4_advance 40 = .ok (.aload_n 0, 1) := by decide +kernel
theorem dX4_advance_41 : decode cX4_advance 41 = .ok (.dup, 1) := by decide +kernel
theorem dX4_advance_42 : decode cX4_advance 42 = .ok (.getfield 15, 3) := by decide +kernel
theorem dX4_advance_45 : decode cX4_advance 45 = .ok (.iconst 1, 1) := by decide +kernel
theorem dX4_advance_46 : decode cX4_advance 46 = .ok (.iadd, 1) := by decide +kernel
theorem dX4_advance_47 : decode cX4_advance 47 = .ok (.putfield 15, 3) := by decide +kernel
theorem dX4_advance_50 : decode cX4_advance 50 = .ok (.goto (-42), 3) := by decide +kernel
theorem dX4_advance_53 : decode cX4_advance 53 = .ok (.aload_n 0, 1) := by decide +kernel
theorem dX4_advance_54 : decode cX4_advance 54 = .ok (.aload_n 0, 1) := by decide +kernel
theorem dX4_advance_55 : decode cX4_advance 55 = .ok (.getfield 15, 3) := by decide +kernel
theorem dX4_advance_58 : decode cX4_advance 58 = .ok (.putfield 18, 3) := by decide +kernel
theorem dX4_advance_61 : decode cX4_advance 61 = .ok (.aload_n 0, 1) := by decide +kernel
theorem dX4_advance_62 : decode cX4_advance 62 = .ok (.getfield 15, 3) := by decide +kernel
theorem dX4_advance_65 : decode cX4_advance 65 = .ok (.aload_n 0, 1) := by decide +kernel
theorem dX4_advance_66 : decode cX4_advance 66 = .ok (.getfield 24, 3) := by decide +kernel
theorem dX4_advance_69 : decode cX4_advance 69 = .ok (.getfield 112, 3) := by decide +kernel
theorem dX4_advance_72 : decode cX4_advance 72 = .ok (.if_icmp .lt 11, 3) := by decide +kernel
theorem dX4_advance_75 : decode cX4_advance 75 = .ok (.aload_n 0, 1) := by decide +kernel
theorem dX4_advance_76 : decode cX4_advance 76 = .ok (.iconst 0, 1) := by decide +kernel
theorem dX4_advance_77 : decode cX4_advance 77 = .ok (.putfield 11, 3) := by decide +kernel
theorem dX4_advance_80 : decode cX4_advance 80 = .ok (.goto 89, 3) := by decide +kernel
theorem dX4_advance_83 : decode cX4_advance 83 = .ok (.aload_n 0, 1) := by decide +kernel
theorem dX4_advance_84 : decode cX4_advance 84 = .ok (.getfield 24, 3) := by decide +kernel
theorem dX4_advance_87 : decode cX4_advance 87 = .ok (.getfield 102, 3) := by decide +kernel
theorem dX4_advance_90 : decode cX4_advance 90 = .ok (.aload_n 0, 1) := by decide +kernel
theorem dX4_advance_91 : decode cX4_advance 91 = .ok (.getfield 15, 3) := by decide +kernel
theorem dX4_advance_94 : decode cX4_advance 94 = .ok (.iaload, 1) := by decide +kernel
theorem dX4_advance_95 : decode cX4_advance 95 = .ok (.invokestatic 118, 3) := by decide +kernel
theorem dX4_advance_98 : decode cX4_advance 98 = .ok (.ifCond .eq 10, 3) := by decide +kernel
theorem dX4_advance_101 : decode cX4_advance 101 = .ok (.aload_n 0, 1) := by decide +kernel
theorem dX4_advance_102 : decode cX4_advance 102 = .ok (.invokevirtual 121, 3) := by decide +kernel
theorem dX4_advance_105 : decode cX4_advance 105 = .ok (.goto 64, 3) := by decide +kernel
theorem dX4_advance_108 : decode cX4_advance 108 = .ok (.aload_n 0, 1) := by decide +kernel
theorem dX4_advance_109 : decode cX4_advance 109 = .ok (.getfield 24, 3) := by decide +kernel
theorem dX4_advance_112 : decode cX4_advance 112 = .ok (.getfield 102, 3) := by decide +kernel
theorem dX4_advance_115 : decode cX4_advance 115 = .ok (.aload_n 0, 1) := by decide +kernel
theorem dX4_advance_116 : decode cX4_advance 116 = .ok (.getfield 15, 3) := by decide +kernel
theorem dX4_advance_119 : decode cX4_advance 119 = .ok (.iaload, 1) := by decide +kernel
theorem dX4_advance_120 : decode cX4_advance 120 = .ok (.invokestatic 124, 3) := by decide +kernel
theorem dX4_advance_123 : decode cX4_advance 123 = .ok (.ifCond .eq 10, 3) := by decide +kernel
theorem dX4_advance_126 : decode cX4_advance 126 = .ok (.aload_n 0, 1) := by decide +kernel
theorem dX4_advance_127 : decode cX4_advance 127 = .ok (.invokevirtual 127, 3) := by decide +kernel
theorem dX4_advance_130 : decode cX4_advance 130 = .ok (.goto 39, 3) := by decide +kernel
theorem dX4_advance_133 : decode cX4_advance 133 = .ok (.aload_n 0, 1) := by decide +kernel
theorem dX4_advance_134 : decode cX4_advance 134 = .ok (.aload_n 0, 1) := by decide +kernel
theorem dX4_advance_135 : decode cX4_advance 135 = .ok (.getfield 24, 3) := by decide +kernel
theorem dX4_advance_138 : decode cX4_advance 138 = .ok (.getfield 102, 3) := by decide +kernel
theorem dX4_advance_141 : decode cX4_advance 141 = .ok (.aload_n 0, 1) := by decide +kernel
theorem dX4_advance_142 : decode cX4_advance 142 = .ok (.getfield 15, 3) := by decide +kernel
theorem dX4_advance_145 : decode cX4_advance 145 = .ok (.iaload, 1) := by decide +kernel
theorem dX4_advance_146 : decode cX4_advance 146 = .ok (.bipush 59, 2) := by decide +kernel
theorem dX4_advance_148 : decode cX4_advance 148 = .ok (.if_icmp .ne 7, 3) := by decide +kernel
theorem dX4_advance_151 : decode cX4_advance 151 = .ok (.iconst 3, 1) := by decide +kernel
theorem dX4_advance_152 : decode cX4_advance 152 = .ok (.goto 4, 3) := by decide +kernel
theorem dX4_advance_155 : decode cX4_advance 155 = .ok (.iconst 4, 1) := by decide +kernel
theorem dX4_advance_156 : decode cX4_advance 156 = .ok (.putfield 11, 3) := by decide +kernel
theorem dX4_advance_159 : decode cX4_advance 159 = .ok (.aload_n 0, 1) := by decide +kernel
theorem dX4_advance_160 : decode cX4_advance 160 = .ok (.aload_n 0, 1) := by decide +kernel
theorem dX4_advance_161 : decode cX4_advance 161 = .ok (.getfield 15, 3) := by decide +kernel
theorem dX4_advance_164 : decode cX4_advance 164 = .ok (.iconst 1, 1) := by decide +kernel
theorem dX4_advance_165 : decode cX4_advance 165 = .ok (.iadd, 1) := by decide +kernel
theorem dX4_advance_166 : decode cX4_advance 166 = .ok (.putfield 18, 3) := by decide +kernel
theorem dX4_advance_169 : decode cX4_advance 169 = .ok (.return_, 1) := by decide +kernel
theorem dX4_takeWord_0 : decode cX4_takeWord 0 = .ok (.aload_n 0, 1) := by decide +kernel
theorem dX4_takeWord_1 : decode cX4_takeWord 1 = .ok (.getfield 18, 3) := by decide +kernel
theorem dX4_takeWord_4 : decode cX4_takeWord 4 = .ok (.aload_n 0, 1) := by decide +kernel
theorem dX4_takeWord_5 : decode cX4_takeWord 5 = .ok (.getfield 24, 3) := by decide +kernel
theorem dX4_takeWord_8 : decode cX4_takeWord 8 = .ok (.getfield 112, 3) := by decide +kernel
theorem dX4_takeWord_11 : decode cX4_takeWord 11 = .ok (.if_icmp .ge 34, 3) := by decide +kernel
theorem dX4_takeWord_14 : decode cX4_takeWord 14 = .ok (.aload_n 0, 1) := by decide +kernel
theorem dX4_takeWord_15 : decode cX4_takeWord 15 = .ok (.getfield 24, 3) := by decide +kernel
theorem dX4_takeWord_18 : decode cX4_takeWord 18 = .ok (.getfield 102, 3) := by decide +kernel
theorem dX4_takeWord_21 : decode cX4_takeWord 21 = .ok (.aload_n 0, 1) := by decide +kernel
theorem dX4_takeWord_22 : decode cX4_takeWord 22 = .ok (.getfield 18, 3) := by decide +kernel
theorem dX4_takeWord_25 : decode cX4_takeWord 25 = .ok (.iaload, 1) := by decide +kernel
theorem dX4_takeWord_26 : decode cX4_takeWord 26 = .ok (.invokestatic 118, 3) := by decide +kernel
theorem dX4_takeWord_29 : decode cX4_takeWord 29 = .ok (.ifCond .eq 16, 3) := by decide +kernel
theorem dX4_takeWord_32 : decode cX4_takeWord 32 = .ok (.aload_n 0, 1) := by decide +kernel
theorem dX4_takeWord_33 : decode cX4_takeWord 33 = .ok (.dup, 1) := by decide +kernel
theorem dX4_takeWord_34 : decode cX4_takeWord 34 = .ok (.getfield 18, 3) := by decide +kernel
theorem dX4_takeWord_37 : decode cX4_takeWord 37 = .ok (.iconst 1, 1) := by decide +kernel
theorem dX4_takeWord_38 : decode cX4_takeWord 38 = .ok (.iadd, 1) := by decide +kernel
theorem dX4_takeWord_39 : decode cX4_takeWord 39 = .ok (.putfield 18, 3) := by decide +kernel
theorem dX4_takeWord_42 : decode cX4_takeWord 42 = .ok (.goto (-42), 3) := by decide +kernel
theorem dX4_takeWord_45 : decode cX4_takeWord 45 = .ok (.aload_n 0, 1) := by decide +kernel
theorem dX4_takeWord_46 : decode cX4_takeWord 46 = .ok (.iconst 1, 1) := by decide +kernel
theorem dX4_takeWord_47 : decode cX4_takeWord 47 = .ok (.putfield 11, 3) := by decide +kernel
theorem dX4_takeWord_50 : decode cX4_takeWord 50 = .ok (.return_, 1) := by decide +kernel
theorem dX4_takeNumber_0 : decode cX4_takeNumber 0 = .ok (.aload_n 0, 1) := by decide +kernel
theorem dX4_takeNumber_1 : decode cX4_takeNumber 1 = .ok (.iconst 0, 1) := by decide +kernel
theorem dX4_takeNumber_2 : decode cX4_takeNumber 2 = .ok (.putfield 21, 3) := by decide +kernel
theorem dX4_takeNumber_5 : decode cX4_takeNumber 5 = .ok (.aload_n 0, 1) := by decide +kernel
theorem dX4_takeNumber_6 : decode cX4_takeNumber 6 = .ok (.getfield 18, 3) := by decide +kernel
theorem dX4_takeNumber_9 : decode cX4_takeNumber 9 = .ok (.aload_n 0, 1) := by decide +kernel
theorem dX4_takeNumber_10 : decode cX4_takeNumber 10 = .ok (.getfield 24, 3) := by decide +kernel
theorem dX4_takeNumber_13 : decode cX4_takeNumber 13 = .ok (.getfield 112, 3) := by decide +kernel
theorem dX4_takeNumber_16 : decode cX4_takeNumber 16 = .ok (.if_icmp .ge 61, 3) := by decide +kernel
theorem dX4_takeNumber_19 : decode cX4_takeNumber 19 = .ok (.aload_n 0, 1) := by decide +kernel
theorem dX4_takeNumber_20 : decode cX4_takeNumber 20 = .ok (.getfield 24, 3) := by decide +kernel
theorem dX4_takeNumber_23 : decode cX4_takeNumber 23 = .ok (.getfield 102, 3) := by decide +kernel
theorem dX4_takeNumber_26 : decode cX4_takeNumber 26 = .ok (.aload_n 0, 1) := by decide +kernel
theorem dX4_takeNumber_27 : decode cX4_takeNumber 27 = .ok (.getfield 18, 3) := by decide +kernel
theorem dX4_takeNumber_30 : decode cX4_takeNumber 30 = .ok (.iaload, 1) := by decide +kernel
theorem dX4_takeNumber_31 : decode cX4_takeNumber 31 = .ok (.invokestatic 124, 3) := by decide +kernel
theorem dX4_takeNumber_34 : decode cX4_takeNumber 34 = .ok (.ifCond .eq 43, 3) := by decide +kernel
theorem dX4_takeNumber_37 : decode cX4_takeNumber 37 = .ok (.aload_n 0, 1) := by decide +kernel
theorem dX4_takeNumber_38 : decode cX4_takeNumber 38 = .ok (.aload_n 0, 1) := by decide +kernel
theorem dX4_takeNumber_39 : decode cX4_takeNumber 39 = .ok (.getfield 21, 3) := by decide +kernel
theorem dX4_takeNumber_42 : decode cX4_takeNumber 42 = .ok (.bipush 10, 2) := by decide +kernel
theorem dX4_takeNumber_44 : decode cX4_takeNumber 44 = .ok (.imul, 1) := by decide +kernel
theorem dX4_takeNumber_45 : decode cX4_takeNumber 45 = .ok (.aload_n 0, 1) := by decide +kernel
theorem dX4_takeNumber_46 : decode cX4_takeNumber 46 = .ok (.getfield 24, 3) := by decide +kernel
theorem dX4_takeNumber_49 : decode cX4_takeNumber 49 = .ok (.getfield 102, 3) := by decide +kernel
theorem dX4_takeNumber_52 : decode cX4_takeNumber 52 = .ok (.aload_n 0, 1) := by decide +kernel
theorem dX4_takeNumber_53 : decode cX4_takeNumber 53 = .ok (.getfield 18, 3) := by decide +kernel
theorem dX4_takeNumber_56 : decode cX4_takeNumber 56 = .ok (.iaload, 1) := by decide +kernel
theorem dX4_takeNumber_57 : decode cX4_takeNumber 57 = .ok (.iadd, 1) := by decide +kernel
theorem dX4_takeNumber_58 : decode cX4_takeNumber 58 = .ok (.bipush 48, 2) := by decide +kernel
theorem dX4_takeNumber_60 : decode cX4_takeNumber 60 = .ok (.isub, 1) := by decide +kernel
theorem dX4_takeNumber_61 : decode cX4_takeNumber 61 = .ok (.putfield 21, 3) := by decide +kernel
theorem dX4_takeNumber_64 : decode cX4_takeNumber 64 = .ok (.aload_n 0, 1) := by decide +kernel
theorem dX4_takeNumber_65 : decode cX4_takeNumber 65 = .ok (.dup, 1) := by decide +kernel
theorem dX4_takeNumber_66 : decode cX4_takeNumber 66 = .ok (.getfield 18, 3) := by decide +kernel
theorem dX4_takeNumber_69 : decode cX4_takeNumber 69 = .ok (.iconst 1, 1) := by decide +kernel
theorem dX4_takeNumber_70 : decode cX4_takeNumber 70 = .ok (.iadd, 1) := by decide +kernel
theorem dX4_takeNumber_71 : decode cX4_takeNumber 71 = .ok (.putfield 18, 3) := by decide +kernel
theorem dX4_takeNumber_74 : decode cX4_takeNumber 74 = .ok (.goto (-69), 3) := by decide +kernel
theorem dX4_takeNumber_77 : decode cX4_takeNumber 77 = .ok (.aload_n 0, 1) := by decide +kernel
theorem dX4_takeNumber_78 : decode cX4_takeNumber 78 = .ok (.aload_n 0, 1) := by decide +kernel
theorem dX4_takeNumber_79 : decode cX4_takeNumber 79 = .ok (.getfield 18, 3) := by decide +kernel
theorem dX4_takeNumber_82 : decode cX4_takeNumber 82 = .ok (.aload_n 0, 1) := by decide +kernel
theorem dX4_takeNumber_83 : decode cX4_takeNumber 83 = .ok (.getfield 15, 3) := by decide +kernel
theorem dX4_takeNumber_86 : decode cX4_takeNumber 86 = .ok (.isub, 1) := by decide +kernel
theorem dX4_takeNumber_87 : decode cX4_takeNumber 87 = .ok (.iconst 3, 1) := by decide +kernel
theorem dX4_takeNumber_88 : decode cX4_takeNumber 88 = .ok (.if_icmp .le 7, 3) := by decide +kernel
theorem dX4_takeNumber_91 : decode cX4_takeNumber 91 = .ok (.iconst 4, 1) := by decide +kernel
theorem dX4_takeNumber_92 : decode cX4_takeNumber 92 = .ok (.goto 4, 3) := by decide +kernel
theorem dX4_takeNumber_95 : decode cX4_takeNumber 95 = .ok (.iconst 2, 1) := by decide +kernel
theorem dX4_takeNumber_96 : decode cX4_takeNumber 96 = .ok (.putfield 11, 3) := by decide +kernel
theorem dX4_takeNumber_99 : decode cX4_takeNumber 99 = .ok (.return_, 1) := by decide +kernel
theorem dX5_init_0 : decode cX5_init 0 = .ok (.aload_n 0, 1) := by decide +kernel
theorem dX5_init_1 : decode cX5_init 1 = .ok (.invokespecial 3, 3) := by decide +kernel
theorem dX5_init_4 : decode cX5_init 4 = .ok (.aload_n 0, 1) := by decide +kernel
theorem dX5_init_5 : decode cX5_init 5 = .ok (.iconst 0, 1) := by decide +kernel
theorem dX5_init_6 : decode cX5_init 6 = .ok (.putfield 9, 3) := by decide +kernel
theorem dX5_init_9 : decode cX5_init 9 = .ok (.aload_n 0, 1) := by decide +kernel
theorem dX5_init_10 : decode cX5_init 10 = .ok (.bipush 60, 2) := by decide +kernel
theorem dX5_init_12 : decode cX5_init 12 = .ok (.newarray .int, 2) := by decide +kernel
theorem dX5_init_14 : decode cX5_init 14 = .ok (.putfield 15, 3) := by decide +kernel
theorem dX5_init_17 : decode cX5_init 17 = .ok (.aload_n 0, 1) := by decide +kernel
theorem dX5_init_18 : decode cX5_init 18 = .ok (.bipush 60, 2) := by decide +kernel
theorem dX5_init_20 : decode cX5_init 20 = .ok (.newarray .int, 2) := by decide +kernel
theorem dX5_init_22 : decode cX5_init 22 = .ok (.putfield 19, 3) := by decide +kernel
theorem dX5_init_25 : decode cX5_init 25 = .ok (.aload_n 0, 1) := by decide +kernel
theorem dX5_init_26 : decode cX5_init 26 = .ok (.bipush 60, 2) := by decide +kernel
theorem dX5_init_28 : decode cX5_init 28 = .ok (.newarray .int, 2) := by decide +kernel
theorem dX5_init_30 : decode cX5_init 30 = .ok (.putfield 22, 3) := by decide +kernel
theorem dX5_init_33 : decode cX5_init 33 = .ok (.return_, 1) := by decide +kernel
theorem dX5_enter_0 : decode cX5_enter 0 = .ok (.aload_n 0, 1) := by decide +kernel
theorem dX5_enter_1 : decode cX5_enter 1 = .ok (.getfield 15, 3) := by decide +kernel
theorem dX5_enter_4 : decode cX5_enter 4 = .ok (.aload_n 0, 1) := by decide +kernel
theorem dX5_enter_5 : decode cX5_enter 5 = .ok (.getfield 9, 3) := by decide +kernel
theorem dX5_enter_8 : decode cX5_enter 8 = .ok (.iload_n 1, 1) := by decide +kernel
theorem dX5_enter_9 : decode cX5_enter 9 = .ok (.iastore, 1) := by decide +kernel
theorem dX5_enter_10 : decode cX5_enter 10 = .ok (.aload_n 0, 1) := by decide +kernel
theorem dX5_enter_11 : decode cX5_enter 11 = .ok (.getfield 19, 3) := by decide +kernel
theorem dX5_enter_14 : decode cX5_enter 14 = .ok (.aload_n 0, 1) := by decide +kernel
theorem dX5_enter_15 : decode cX5_enter 15 = .ok (.getfield 9, 3) := by decide +kernel
theorem dX5_enter_18 : decode cX5_enter 18 = .ok (.iload_n 2, 1) := by decide +kernel
theorem dX5_enter_19 : decode cX5_enter 19 = .ok (.iastore, 1) := by decide +kernel
theorem dX5_enter_20 : decode cX5_enter 20 = .ok (.aload_n 0, 1) := by decide +kernel
theorem dX5_enter_21 : decode cX5_enter 21 = .ok (.getfield 22, 3) := by decide +kernel
theorem dX5_enter_24 : decode cX5_enter 24 = .ok (.aload_n 0, 1) := by decide +kernel
theorem dX5_enter_25 : decode cX5_enter 25 = .ok (.getfield 9, 3) := by decide +kernel
theorem dX5_enter_28 : decode cX5_enter 28 = .ok (.iload_n 3, 1) := by decide +kernel
theorem dX5_enter_29 : decode cX5_enter 29 = .ok (.iastore, 1) := by decide +kernel
theorem dX5_enter_30 : decode cX5_enter 30 = .ok (.aload_n 0, 1) := by decide +kernel
theorem dX5_enter_31 : decode cX5_enter 31 = .ok (.dup, 1) := by decide +kernel
theorem dX5_enter_32 : decode cX5_enter 32 = .ok (.getfield 9, 3) := by decide +kernel
theorem dX5_enter_35 : decode cX5_enter 35 = .ok (.iconst 1, 1) := by decide +kernel
theorem dX5_enter_36 : decode cX5_enter 36 = .ok (.iadd, 1) := by decide +kernel
theorem dX5_enter_37 : decode cX5_enter 37 = .ok (.putfield 9, 3) := by decide +kernel
theorem dX5_enter_40 : decode cX5_enter 40 = .ok (.return_, 1) := by decide +kernel
theorem dX5_latestMinute_0 : decode cX5_latestMinute 0 = .ok (.aload_n 0, 1) := by decide +kernel
theorem dX5_latestMinute_1 : decode cX5_latestMinute 1 = .ok (.getfield 9, 3) := by decide +kernel
theorem dX5_latestMinute_4 : decode cX5_latestMinute 4 = .ok (.ifCond .ne 7, 3) := by decide +kernel
theorem dX5_latestMinute_7 : decode cX5_latestMinute 7 = .ok (.iconst 0, 1) := by decide +kernel
theorem dX5_latestMinute_8 : decode cX5_latestMinute 8 = .ok (.goto 14, 3) := by decide +kernel
theorem dX5_latestMinute_11 : decode cX5_latestMinute 11 = .ok (.aload_n 0, 1) := by decide +kernel
theorem dX5_latestMinute_12 : decode cX5_latestMinute 12 = .ok (.getfield 15, 3) := by decide +kernel
theorem dX5_latestMinute_15 : decode cX5_latestMinute 15 = .ok (.aload_n 0, 1) := by decide +kernel
theorem dX5_latestMinute_16 : decode cX5_latestMinute 16 = .ok (.getfield 9, 3) := by decide +kernel
theorem dX5_latestMinute_19 : decode cX5_latestMinute 19 = .ok (.iconst 1, 1) := by decide +kernel
theorem dX5_latestMinute_20 : decode cX5_latestMinute 20 = .ok (.isub, 1) := by decide +kernel
theorem dX5_latestMinute_21 : decode cX5_latestMinute 21 = .ok (.iaload, 1) := by decide +kernel
theorem dX5_latestMinute_22 : decode cX5_latestMinute 22 = .ok (.ireturn, 1) := by decide +kernel
theorem dX5_wasInAllThrough_0 : decode cX5_wasInAllThrough 0 = .ok (.aload_n 0, 1) := by decide +kernel
theorem dX5_wasInAllThrough_1 : decode cX5_wasInAllThrough 1 = .ok (.iload_n 1, 1) := by decide +kernel
theorem dX5_wasInAllThrough_2 : decode cX5_wasInAllThrough 2 = .ok (.iload_n 1, 1) := by decide +kernel
theorem dX5_wasInAllThrough_3 : decode cX5_wasInAllThrough 3 = .ok (.iload_n 2, 1) := by decide +kernel
theorem dX5_wasInAllThrough_4 : decode cX5_wasInAllThrough 4 = .ok (.iload_n 3, 1) := by decide +kernel
theorem dX5_wasInAllThrough_5 : decode cX5_wasInAllThrough 5 = .ok (.iconst 1, 1) := by decide +kernel
theorem dX5_wasInAllThrough_6 : decode cX5_wasInAllThrough 6 = .ok (.iadd, 1) := by decide +kernel
theorem dX5_wasInAllThrough_7 : decode cX5_wasInAllThrough 7 = .ok (.invokevirtual 25, 3) := by decide +kernel
theorem dX5_wasInAllThrough_10 : decode cX5_wasInAllThrough 10 = .ok (.ifCond .ne 7, 3) := by decide +kernel
theorem dX5_wasInAllThrough_13 : decode cX5_wasInAllThrough 13 = .ok (.iconst 1, 1) := by decide +kernel
theorem dX5_wasInAllThrough_14 : decode cX5_wasInAllThrough 14 = .ok (.goto 4, 3) := by decide +kernel
theorem dX5_wasInAllThrough_17 : decode cX5_wasInAllThrough 17 = .ok (.iconst 0, 1) := by decide +kernel
theorem dX5_wasInAllThrough_18 : decode cX5_wasInAllThrough 18 = .ok (.ireturn, 1) := by decide +kernel
theorem dX5_minutesAway_0 : decode cX5_minutesAway 0 = .ok (.iconst 0, 1) := by decide +kernel
theorem dX5_minutesAway_1 : decode cX5_minutesAway 1 = .ok (.istore 5, 2) := by decide +kernel
theorem dX5_minutesAway_3 : decode cX5_minutesAway 3 = .ok (.iload_n 3, 1) := by decide +kernel
theorem dX5_minutesAway_4 : decode cX5_minutesAway 4 = .ok (.istore 6, 2) := by decide +kernel
theorem dX5_minutesAway_6 : decode cX5_minutesAway 6 = .ok (.iconst 0, 1) := by decide +kernel
theorem dX5_minutesAway_7 : decode cX5_minutesAway 7 = .ok (.istore 7, 2) := by decide +kernel
theorem dX5_minutesAway_9 : decode cX5_minutesAway 9 = .ok (.iconst 0, 1) := by decide +kernel
theorem dX5_minutesAway_10 : decode cX5_minutesAway 10 = .ok (.istore 8, 2) := by decide +kernel
theorem dX5_minutesAway_12 : decode cX5_minutesAway 12 = .ok (.iconst 0, 1) := by decide +kernel
theorem dX5_minutesAway_13 : decode cX5_minutesAway 13 = .ok (.istore 9, 2) := by decide +kernel
theorem dX5_minutesAway_15 : decode cX5_minutesAway 15 = .ok (.iload 9, 2) := by decide +kernel
theorem dX5_minutesAway_17 : decode cX5_minutesAway 17 = .ok (.aload_n 0, 1) := by decide +kernel
theorem dX5_minutesAway_18 : decode cX5_minutesAway 18 = .ok (.getfield 9, 3) := by decide +kernel
theorem dX5_minutesAway_21 : decode cX5_minutesAway 21 = .ok (.if_icmp .ge 110, 3) := by decide +kernel
theorem dX5_minutesAway_24 : decode cX5_minutesAway 24 = .ok (.iload_n 3, 1) := by decide +kernel
theorem dX5_minutesAway_25 : decode cX5_minutesAway 25 = .ok (.iload 4, 2) := by decide +kernel
theorem dX5_minutesAway_27 : decode cX5_minutesAway 27 = .ok (.aload_n 0, 1) := by decide +kernel
theorem dX5_minutesAway_28 : decode cX5_minutesAway 28 = .ok (.getfield 15, 3) := by decide +kernel
theorem dX5_minutesAway_31 : decode cX5_minutesAway 31 = .ok (.iload 9, 2) := by decide +kernel
theorem dX5_minutesAway_33 : decode cX5_minutesAway 33 = .ok (.iaload, 1) := by decide +kernel
theorem dX5_minutesAway_34 : decode cX5_minutesAway 34 = .ok (.invokestatic 29, 3) := by decide +kernel
theorem dX5_minutesAway_37 : decode cX5_minutesAway 37 = .ok (.invokestatic 35, 3) := by decide +kernel
theorem dX5_minutesAway_40 : decode cX5_minutesAway 40 = .ok (.istore 10, 2) := by decide +kernel
theorem dX5_minutesAway_42 : decode cX5_minutesAway 42 = .ok (.iload 7, 2) := by decide +kernel
theorem dX5_minutesAway_44 : decode cX5_minutesAway 44 = .ok (.ifCond .eq 18, 3) := by decide +kernel
theorem dX5_minutesAway_47 : decode cX5_minutesAway 47 = .ok (.iload 8, 2) := by decide +kernel
theorem dX5_minutesAway_49 : decode cX5_minutesAway 49 = .ok (.ifCond .eq 13, 3) := by decide +kernel
theorem dX5_minutesAway_52 : decode cX5_minutesAway 52 = .ok (.iload 5, 2) := by decide +kernel
theorem dX5_minutesAway_54 : decode cX5_minutesAway 54 = .ok (.iload 10, 2) := by decide +kernel
theorem dX5_minutesAway_56 : decode cX5_minutesAway 56 = .ok (.iload 6, 2) := by decide +kernel
theorem dX5_minutesAway_58 : decode cX5_minutesAway 58 = .ok (.isub, 1) := by decide +kernel
theorem dX5_minutesAway_59 : decode cX5_minutesAway 59 = .ok (.iadd, 1) := by decide +kernel
theorem dX5_minutesAway_60 : decode cX5_minutesAway 60 = .ok (.istore 5, 2) := by decide +kernel
theorem dX5_minutesAway_62 : decode cX5_minutesAway 62 = .ok (.iload 10, 2) := by decide +kernel
theorem dX5_minutesAway_64 : decode cX5_minutesAway 64 = .ok (.istore 6, 2) := by decide +kernel
theorem dX5_minutesAway_66 : decode cX5_minutesAway 66 = .ok (.aload_n 0, 1) := by decide +kernel
theorem dX5_minutesAway_67 : decode cX5_minutesAway 67 = .ok (.getfield 22, 3) := by decide +kernel
theorem dX5_minutesAway_70 : decode cX5_minutesAway 70 = .ok (.iload 9, 2) := by decide +kernel
theorem dX5_minutesAway_72 : decode cX5_minutesAway 72 = .ok (.iaload, 1) := by decide +kernel
theorem dX5_minutesAway_73 : decode cX5_minutesAway 73 = .ok (.bipush 45, 2) := by decide +kernel
theorem dX5_minutesAway_75 : decode cX5_minutesAway 75 = .ok (.if_icmp .ne 7, 3) := by decide +kernel
theorem dX5_minutesAway_78 : decode cX5_minutesAway 78 = .ok (.iconst 1, 1) := by decide +kernel
theorem dX5_minutesAway_79 : decode cX5_minutesAway 79 = .ok (.goto 4, 3) := by decide +kernel
theorem dX5_minutesAway_82 : decode cX5_minutesAway 82 = .ok (.iconst 0, 1) := by decide +kernel
theorem dX5_minutesAway_83 : decode cX5_minutesAway 83 = .ok (.istore 11, 2) := by decide +kernel
theorem dX5_minutesAway_85 : decode cX5_minutesAway 85 = .ok (.aload_n 0, 1) := by decide +kernel
theorem dX5_minutesAway_86 : decode cX5_minutesAway 86 = .ok (.getfield 19, 3) := by decide +kernel
theorem dX5_minutesAway_89 : decode cX5_minutesAway 89 = .ok (.iload 9, 2) := by decide +kernel
theorem dX5_minutesAway_91 : decode cX5_minutesAway 91 = .ok (.iaload, 1) := by decide +kernel
theorem dX5_minutesAway_92 : decode cX5_minutesAway 92 = .ok (.iload_n 1, 1) := by decide +kernel
theorem dX5_minutesAway_93 : decode cX5_minutesAway 93 = .ok (.if_icmp .ne 8, 3) := by decide +kernel
theorem dX5_minutesAway_96 : decode cX5_minutesAway 96 = .ok (.iload 11, 2) := by decide +kernel
theorem dX5_minutesAway_98 : decode cX5_minutesAway 98 = .ok (.goto 5, 3) := by decide +kernel
theorem dX5_minutesAway_101 : decode cX5_minutesAway 101 = .ok (.iload 7, 2) := by decide +kernel
theorem dX5_minutesAway_103 : decode cX5_minutesAway 103 = .ok (.istore 7, 2) := by decide +kernel
theorem dX5_minutesAway_105 : decode cX5_minutesAway 105 = .ok (.aload_n 0, 1) := by decide +kernel
theorem dX5_minutesAway_106 : decode cX5_minutesAway 106 = .ok (.getfield 19, 3) := by decide +kernel
theorem dX5_minutesAway_109 : decode cX5_minutesAway 109 = .ok (.iload 9, 2) := by decide +kernel
theorem dX5_minutesAway_111 : decode cX5_minutesAway 111 = .ok (.iaload, 1) := by decide +kernel
theorem dX5_minutesAway_112 : decode cX5_minutesAway 112 = .ok (.iload_n 2, 1) := by decide +kernel
theorem dX5_minutesAway_113 : decode cX5_minutesAway 113 = .ok (.if_icmp .ne 8, 3) := by decide +kernel
theorem dX5_minutesAway_116 : decode cX5_minutesAway 116 = .ok (.iload 11, 2) := by decide +kernel
theorem dX5_minutesAway_118 : decode cX5_minutesAway 118 = .ok (.goto 5, 3) := by decide +kernel
theorem dX5_minutesAway_121 : decode cX5_minutesAway 121 = .ok (.iload 8, 2) := by decide +kernel
theorem dX5_minutesAway_123 : decode cX5_minutesAway 123 = .ok (.istore 8, 2) := by decide +kernel
theorem dX5_minutesAway_125 : decode cX5_minutesAway 125 = .ok (.iinc 9 1, 3) := by decide +kernel
theorem dX5_minutesAway_128 : decode cX5_minutesAway 128 = .ok (.goto (-113), 3) := by decide +kernel
theorem dX5_minutesAway_131 : decode cX5_minutesAway 131 = .ok (.iload 7, 2) := by decide +kernel
theorem dX5_minutesAway_133 : decode cX5_minutesAway 133 = .ok (.ifCond .eq 19, 3) := by decide +kernel
theorem dX5_minutesAway_136 : decode cX5_minutesAway 136 = .ok (.iload 8, 2) := by decide +kernel
theorem dX5_minutesAway_138 : decode cX5_minutesAway 138 = .ok (.ifCond .eq 14, 3) := by decide +kernel
theorem dX5_minutesAway_141 : decode cX5_minutesAway 141 = .ok (.iload 5, 2) := by decide +kernel
theorem dX5_minutesAway_143 : decode cX5_minutesAway 143 = .ok (.iload 4, 2) := by decide +kernel
theorem dX5_minutesAway_145 : decode cX5_minutesAway 145 = .ok (.iadd, 1) := by decide +kernel
theorem dX5_minutesAway_146 : decode cX5_minutesAway 146 = .ok (.iload 6, 2) := by decide +kernel
theorem dX5_minutesAway_148 : decode cX5_minutesAway 148 = .ok (.isub, 1) := by decide +kernel
theorem dX5_minutesAway_149 : decode cX5_minutesAway 149 = .ok (.goto 5, 3) := by decide +kernel
theorem dX5_minutesAway_152 : decode cX5_minutesAway 152 = .ok (.iload 5, 2) := by decide +kernel
theorem dX5_minutesAway_154 : decode cX5_minutesAway 154 = .ok (.ireturn, 1) := by decide +kernel
theorem dX5_writeTo_0 : decode cX5_writeTo 0 = .ok (.iconst 0, 1) := by decide +kernel
theorem dX5_writeTo_1 : decode cX5_writeTo 1 = .ok (.istore_n 3, 1) := by decide +kernel
theorem dX5_writeTo_2 : decode cX5_writeTo 2 = .ok (.iload_n 3, 1) := by decide +kernel
theorem dX5_writeTo_3 : decode cX5_writeTo 3 = .ok (.aload_n 0, 1) := by decide +kernel
theorem dX5_writeTo_4 : decode cX5_writeTo 4 = .ok (.getfield 9, 3) := by decide +kernel
theorem dX5_writeTo_7 : decode cX5_writeTo 7 = .ok (.if_icmp .ge 45, 3) := by decide +kernel
theorem dX5_writeTo_10 : decode cX5_writeTo 10 = .ok (.aload_n 0, 1) := by decide +kernel
theorem dX5_writeTo_11 : decode cX5_writeTo 11 = .ok (.getfield 19, 3) := by decide +kernel
theorem dX5_writeTo_14 : decode cX5_writeTo 14 = .ok (.iload_n 3, 1) := by decide +kernel
theorem dX5_writeTo_15 : decode cX5_writeTo 15 = .ok (.iaload, 1) := by decide +kernel
theorem dX5_writeTo_16 : decode cX5_writeTo 16 = .ok (.iload_n 2, 1) := by decide +kernel
theorem dX5_writeTo_17 : decode cX5_writeTo 17 = .ok (.if_icmp .ne 29, 3) := by decide +kernel
theorem dX5_writeTo_20 : decode cX5_writeTo 20 = .ok (.aload_n 1, 1) := by decide +kernel
theorem dX5_writeTo_21 : decode cX5_writeTo 21 = .ok (.aload_n 0, 1) := by decide +kernel
theorem dX5_writeTo_22 : decode cX5_writeTo 22 = .ok (.getfield 22, 3) := by decide +kernel
theorem dX5_writeTo_25 : decode cX5_writeTo 25 = .ok (.iload_n 3, 1) := by decide +kernel
theorem dX5_writeTo_26 : decode cX5_writeTo 26 = .ok (.iaload, 1) := by decide +kernel
theorem dX5_writeTo_27 : decode cX5_writeTo 27 = .ok (.invokevirtual 38, 3) := by decide +kernel
theorem dX5_writeTo_30 : decode cX5_writeTo 30 = .ok (.aload_n 1, 1) := by decide +kernel
theorem dX5_writeTo_31 : decode cX5_writeTo 31 = .ok (.aload_n 0, 1) := by decide +kernel
theorem dX5_writeTo_32 : decode cX5_writeTo 32 = .ok (.getfield 15, 3) := by decide +kernel
theorem dX5_writeTo_35 : decode cX5_writeTo 35 = .ok (.iload_n 3, 1) := by decide +kernel
theorem dX5_writeTo_36 : decode cX5_writeTo 36 = .ok (.iaload, 1) := by decide +kernel
theorem dX5_writeTo_37 : decode cX5_writeTo 37 = .ok (.invokevirtual 44, 3) := by decide +kernel
theorem dX5_writeTo_40 : decode cX5_writeTo 40 = .ok (.aload_n 1, 1) := by decide +kernel
theorem dX5_writeTo_41 : decode cX5_writeTo 41 = .ok (.bipush 10, 2) := by decide +kernel
theorem dX5_writeTo_43 : decode cX5_writeTo 43 = .ok (.invokevirtual 38, 3) := by decide +kernel
theorem dX5_writeTo_46 : decode cX5_writeTo 46 = .ok (.iinc 3 1, 3) := by decide +kernel
theorem dX5_writeTo_49 : decode cX5_writeTo 49 = .ok (.goto (-47), 3) := by decide +kernel
theorem dX5_writeTo_52 : decode cX5_writeTo 52 = .ok (.return_, 1) := by decide +kernel
theorem dX5_copyFrom_0 : decode cX5_copyFrom 0 = .ok (.aload_n 0, 1) := by decide +kernel
theorem dX5_copyFrom_1 : decode cX5_copyFrom 1 = .ok (.aload_n 1, 1) := by decide +kernel
theorem dX5_copyFrom_2 : decode cX5_copyFrom 2 = .ok (.getfield 9, 3) := by decide +kernel
theorem dX5_copyFrom_5 : decode cX5_copyFrom 5 = .ok (.putfield 9, 3) := by decide +kernel
theorem dX5_copyFrom_8 : decode cX5_copyFrom 8 = .ok (.aload_n 1, 1) := by decide +kernel
theorem dX5_copyFrom_9 : decode cX5_copyFrom 9 = .ok (.getfield 15, 3) := by decide +kernel
theorem dX5_copyFrom_12 : decode cX5_copyFrom 12 = .ok (.iconst 0, 1) := by decide +kernel
theorem dX5_copyFrom_13 : decode cX5_copyFrom 13 = .ok (.aload_n 0, 1) := by decide +kernel
theorem dX5_copyFrom_14 : decode cX5_copyFrom 14 = .ok (.getfield 15, 3) := by decide +kernel
theorem dX5_copyFrom_17 : decode cX5_copyFrom 17 = .ok (.iconst 0, 1) := by decide +kernel
theorem dX5_copyFrom_18 : decode cX5_copyFrom 18 = .ok (.bipush 60, 2) := by decide +kernel
theorem dX5_copyFrom_20 : decode cX5_copyFrom 20 = .ok (.invokestatic 47, 3) := by decide +kernel
theorem dX5_copyFrom_23 : decode cX5_copyFrom 23 = .ok (.aload_n 1, 1) := by decide +kernel
theorem dX5_copyFrom_24 : decode cX5_copyFrom 24 = .ok (.getfield 19, 3) := by decide +kernel
theorem dX5_copyFrom_27 : decode cX5_copyFrom 27 = .ok (.iconst 0, 1) := by decide +kernel
theorem dX5_copyFrom_28 : decode cX5_copyFrom 28 = .ok (.aload_n 0, 1) := by decide +kernel
theorem dX5_copyFrom_29 : decode cX5_copyFrom 29 = .ok (.getfield 19, 3) := by decide +kernel
theorem dX5_copyFrom_32 : decode cX5_copyFrom 32 = .ok (.iconst 0, 1) := by decide +kernel
theorem dX5_copyFrom_33 : decode cX5_copyFrom 33 = .ok (.bipush 60, 2) := by decide +kernel
theorem dX5_copyFrom_35 : decode cX5_copyFrom 35 = .ok (.invokestatic 47, 3) := by decide +kernel
theorem dX5_copyFrom_38 : decode cX5_copyFrom 38 = .ok (.aload_n 1, 1) := by decide +kernel
theorem dX5_copyFrom_39 : decode cX5_copyFrom 39 = .ok (.getfield 22, 3) := by decide +kernel
theorem dX5_copyFrom_42 : decode cX5_copyFrom 42 = .ok (.iconst 0, 1) := by decide +kernel
theorem dX5_copyFrom_43 : decode cX5_copyFrom 43 = .ok (.aload_n 0, 1) := by decide +kernel
theorem dX5_copyFrom_44 : decode cX5_copyFrom 44 = .ok (.getfield 22, 3) := by decide +kernel
theorem dX5_copyFrom_47 : decode cX5_copyFrom 47 = .ok (.iconst 0, 1) := by decide +kernel
theorem dX5_copyFrom_48 : decode cX5_copyFrom 48 = .ok (.bipush 60, 2) := by decide +kernel
theorem dX5_copyFrom_50 : decode cX5_copyFrom 50 = .ok (.invokestatic 47, 3) := by decide +kernel
theorem dX5_copyFrom_53 : decode cX5_copyFrom 53 = .ok (.return_, 1) := by decide +kernel
theorem dX6_init_0 : decode cX6_init 0 = .ok (.aload_n 0, 1) := by decide +kernel
theorem dX6_init_1 : decode cX6_init 1 = .ok (.invokespecial 3, 3) := by decide +kernel
theorem dX6_init_4 : decode cX6_init 4 = .ok (.aload_n 0, 1) := by decide +kernel
theorem dX6_init_5 : decode cX6_init 5 = .ok (.iconst 2, 1) := by decide +kernel
theorem dX6_init_6 : decode cX6_init 6 = .ok (.anewarray 9, 3) := by decide +kernel
theorem dX6_init_9 : decode cX6_init 9 = .ok (.putfield 11, 3) := by decide +kernel
theorem dX6_init_12 : decode cX6_init 12 = .ok (.aload_n 0, 1) := by decide +kernel
theorem dX6_init_13 : decode cX6_init 13 = .ok (.iconst 2, 1) := by decide +kernel
theorem dX6_init_14 : decode cX6_init 14 = .ok (.newarray .boolean, 2) := by decide +kernel
theorem dX6_init_16 : decode cX6_init 16 = .ok (.putfield 17, 3) := by decide +kernel
theorem dX6_init_19 : decode cX6_init 19 = .ok (.iconst 0, 1) := by decide +kernel
theorem dX6_init_20 : decode cX6_init 20 = .ok (.istore_n 1, 1) := by decide +kernel
theorem dX6_init_21 : decode cX6_init 21 = .ok (.iload_n 1, 1) := by decide +kernel
theorem dX6_init_22 : decode cX6_init 22 = .ok (.iconst 2, 1) := by decide +kernel
theorem dX6_init_23 : decode cX6_init 23 = .ok (.if_icmp .ge 22, 3) := by decide +kernel
theorem dX6_init_26 : decode cX6_init 26 = .ok (.aload_n 0, 1) := by decide +kernel
theorem dX6_init_27 : decode cX6_init 27 = .ok (.getfield 11, 3) := by decide +kernel
theorem dX6_init_30 : decode cX6_init 30 = .ok (.iload_n 1, 1) := by decide +kernel
theorem dX6_init_31 : decode cX6_init 31 = .ok (.new 9, 3) := by decide +kernel
theorem dX6_init_34 : decode cX6_init 34 = .ok (.dup, 1) := by decide +kernel
theorem dX6_init_35 : decode cX6_init 35 = .ok (.invokespecial 21, 3) := by decide +kernel
theorem dX6_init_38 : decode cX6_init 38 = .ok (.aastore, 1) := by decide +kernel
theorem dX6_init_39 : decode cX6_init 39 = .ok (.iinc 1 1, 3) := by decide +kernel
theorem dX6_init_42 : decode cX6_init 42 = .ok (.goto (-21), 3) := by decide +kernel
theorem dX6_init_45 : decode cX6_init 45 = .ok (.return_, 1) := by decide +kernel
theorem dX6_put_0 : decode cX6_put 0 = .ok (.aload_n 0, 1) := by decide +kernel
theorem dX6_put_1 : decode cX6_put 1 = .ok (.getfield 11, 3) := by decide +kernel
theorem dX6_put_4 : decode cX6_put 4 = .ok (.iload_n 1, 1) := by decide +kernel
theorem dX6_put_5 : decode cX6_put 5 = .ok (.aaload, 1) := by decide +kernel
theorem dX6_put_6 : decode cX6_put 6 = .ok (.aload_n 2, 1) := by decide +kernel
theorem dX6_put_7 : decode cX6_put 7 = .ok (.invokevirtual 22, 3) := by decide +kernel
theorem dX6_put_10 : decode cX6_put 10 = .ok (.aload_n 0, 1) := by decide +kernel
theorem dX6_put_11 : decode cX6_put 11 = .ok (.getfield 17, 3) := by decide +kernel
theorem dX6_put_14 : decode cX6_put 14 = .ok (.iload_n 1, 1) := by decide +kernel
theorem dX6_put_15 : decode cX6_put 15 = .ok (.iconst 1, 1) := by decide +kernel
theorem dX6_put_16 : decode cX6_put 16 = .ok (.bastore, 1) := by decide +kernel
theorem dX6_put_17 : decode cX6_put 17 = .ok (.return_, 1) := by decide +kernel
theorem dX6_empty_0 : decode cX6_empty 0 = .ok (.iconst 0, 1) := by decide +kernel
theorem dX6_empty_1 : decode cX6_empty 1 = .ok (.istore_n 1, 1) := by decide +kernel
theorem dX6_empty_2 : decode cX6_empty 2 = .ok (.iload_n 1, 1) := by decide +kernel
theorem dX6_empty_3 : decode cX6_empty 3 = .ok (.iconst 2, 1) := by decide +kernel
theorem dX6_empty_4 : decode cX6_empty 4 = .ok (.if_icmp .ge 16, 3) := by decide +kernel
theorem dX6_empty_7 : decode cX6_empty 7 = .ok (.aload_n 0, 1) := by decide +kernel
theorem dX6_empty_8 : decode cX6_empty 8 = .ok (.getfield 17, 3) := by decide +kernel
theorem dX6_empty_11 : decode cX6_empty 11 = .ok (.iload_n 1, 1) := by decide +kernel
theorem dX6_empty_12 : decode cX6_empty 12 = .ok (.iconst 0, 1) := by decide +kernel
theorem dX6_empty_13 : decode cX6_empty 13 = .ok (.bastore, 1) := by decide +kernel
theorem dX6_empty_14 : decode cX6_empty 14 = .ok (.iinc 1 1, 3) := by decide +kernel
theorem dX6_empty_17 : decode cX6_empty 17 = .ok (.goto (-15), 3) := by decide +kernel
theorem dX6_empty_20 : decode cX6_empty 20 = .ok (.return_, 1) := by decide +kernel
theorem dX7_init_0 : decode cX7_init 0 = .ok (.aload_n 0, 1) := by decide +kernel
theorem dX7_init_1 : decode cX7_init 1 = .ok (.invokespecial 3, 3) := by decide +kernel
theorem dX7_init_4 : decode cX7_init 4 = .ok (.aload_n 0, 1) := by decide +kernel
theorem dX7_init_5 : decode cX7_init 5 = .ok (.iconst 0, 1) := by decide +kernel
theorem dX7_init_6 : decode cX7_init 6 = .ok (.putfield 9, 3) := by decide +kernel
theorem dX7_init_9 : decode cX7_init 9 = .ok (.aload_n 0, 1) := by decide +kernel
theorem dX7_init_10 : decode cX7_init 10 = .ok (.bipush 12, 2) := by decide +kernel
theorem dX7_init_12 : decode cX7_init 12 = .ok (.newarray .int, 2) := by decide +kernel
theorem dX7_init_14 : decode cX7_init 14 = .ok (.putfield 15, 3) := by decide +kernel
theorem dX7_init_17 : decode cX7_init 17 = .ok (.aload_n 0, 1) := by decide +kernel
theorem dX7_init_18 : decode cX7_init 18 = .ok (.bipush 12, 2) := by decide +kernel
theorem dX7_init_20 : decode cX7_init 20 = .ok (.newarray .int, 2) := by decide +kernel
theorem dX7_init_22 : decode cX7_init 22 = .ok (.putfield 19, 3) := by decide +kernel
theorem dX7_init_25 : decode cX7_init 25 = .ok (.aload_n 0, 1) := by decide +kernel
theorem dX7_init_26 : decode cX7_init 26 = .ok (.bipush 12, 2) := by decide +kernel
theorem dX7_init_28 : decode cX7_init 28 = .ok (.newarray .int, 2) := by decide +kernel
theorem dX7_init_30 : decode cX7_init 30 = .ok (.putfield 22, 3) := by decide +kernel
theorem dX7_init_33 : decode cX7_init 33 = .ok (.return_, 1) := by decide +kernel
theorem dX7_add_0 : decode cX7_add 0 = .ok (.aload_n 0, 1) := by decide +kernel
theorem dX7_add_1 : decode cX7_add 1 = .ok (.getfield 9, 3) := by decide +kernel
theorem dX7_add_4 : decode cX7_add 4 = .ok (.istore_n 3, 1) := by decide +kernel
theorem dX7_add_5 : decode cX7_add 5 = .ok (.aload_n 0, 1) := by decide +kernel
theorem dX7_add_6 : decode cX7_add 6 = .ok (.getfield 15, 3) := by decide +kernel
theorem dX7_add_9 : decode cX7_add 9 = .ok (.iload_n 3, 1) := by decide +kernel
theorem dX7_add_10 : decode cX7_add 10 = .ok (.iload_n 1, 1) := by decide +kernel
theorem dX7_add_11 : decode cX7_add 11 = .ok (.iastore, 1) := by decide +kernel
theorem dX7_add_12 : decode cX7_add 12 = .ok (.aload_n 0, 1) := by decide +kernel
theorem dX7_add_13 : decode cX7_add 13 = .ok (.getfield 19, 3) := by decide +kernel
theorem dX7_add_16 : decode cX7_add 16 = .ok (.iload_n 3, 1) := by decide +kernel
theorem dX7_add_17 : decode cX7_add 17 = .ok (.iload_n 2, 1) := by decide +kernel
theorem dX7_add_18 : decode cX7_add 18 = .ok (.iastore, 1) := by decide +kernel
theorem dX7_add_19 : decode cX7_add 19 = .ok (.aload_n 0, 1) := by decide +kernel
theorem dX7_add_20 : decode cX7_add 20 = .ok (.getfield 22, 3) := by decide +kernel
theorem dX7_add_23 : decode cX7_add 23 = .ok (.iload_n 3, 1) := by decide +kernel
theorem dX7_add_24 : decode cX7_add 24 = .ok (.iconst (-1), 1) := by decide +kernel
theorem dX7_add_25 : decode cX7_add 25 = .ok (.iastore, 1) := by decide +kernel
theorem dX7_add_26 : decode cX7_add 26 = .ok (.aload_n 0, 1) := by decide +kernel
theorem dX7_add_27 : decode cX7_add 27 = .ok (.dup, 1) := by decide +kernel
theorem dX7_add_28 : decode cX7_add 28 = .ok (.getfield 9, 3) := by decide +kernel
theorem dX7_add_31 : decode cX7_add 31 = .ok (.iconst 1, 1) := by decide +kernel
theorem dX7_add_32 : decode cX7_add 32 = .ok (.iadd, 1) := by decide +kernel
theorem dX7_add_33 : decode cX7_add 33 = .ok (.putfield 9, 3) := by decide +kernel
theorem dX7_add_36 : decode cX7_add 36 = .ok (.iload_n 3, 1) := by decide +kernel
theorem dX7_add_37 : decode cX7_add 37 = .ok (.ireturn, 1) := by decide +kernel
theorem dX7_stands_0 : decode cX7_stands 0 = .ok (.aload_n 0, 1) := by decide +kernel
theorem dX7_stands_1 : decode cX7_stands 1 = .ok (.getfield 22, 3) := by decide +kernel
theorem dX7_stands_4 : decode cX7_stands 4 = .ok (.iload_n 1, 1) := by decide +kernel
theorem dX7_stands_5 : decode cX7_stands 5 = .ok (.iaload, 1) := by decide +kernel
theorem dX7_stands_6 : decode cX7_stands 6 = .ok (.iconst (-1), 1) := by decide +kernel
theorem dX7_stands_7 : decode cX7_stands 7 = .ok (.if_icmp .ne 7, 3) := by decide +kernel
theorem dX7_stands_10 : decode cX7_stands 10 = .ok (.iconst 1, 1) := by decide +kernel
theorem dX7_stands_11 : decode cX7_stands 11 = .ok (.goto 4, 3) := by decide +kernel
theorem dX7_stands_14 : decode cX7_stands 14 = .ok (.iconst 0, 1) := by decide +kernel
theorem dX7_stands_15 : decode cX7_stands 15 = .ok (.ireturn, 1) := by decide +kernel
theorem dX7_canBeTaken_0 : decode cX7_canBeTaken 0 = .ok (.aload_n 0, 1) := by decide +kernel
theorem dX7_canBeTaken_1 : decode cX7_canBeTaken 1 = .ok (.iload_n 1, 1) := by decide +kernel
theorem dX7_canBeTaken_2 : decode cX7_canBeTaken 2 = .ok (.invokevirtual 25, 3) := by decide +kernel
theorem dX7_canBeTaken_5 : decode cX7_canBeTaken 5 = .ok (.ifCond .eq 18, 3) := by decide +kernel
theorem dX7_canBeTaken_8 : decode cX7_canBeTaken 8 = .ok (.aload_n 0, 1) := by decide +kernel
theorem dX7_canBeTaken_9 : decode cX7_canBeTaken 9 = .ok (.getfield 19, 3) := by decide +kernel
theorem dX7_canBeTaken_12 : decode cX7_canBeTaken 12 = .ok (.iload_n 1, 1) := by decide +kernel
theorem dX7_canBeTaken_13 : decode cX7_canBeTaken 13 = .ok (.iaload, 1) := by decide +kernel
theorem dX7_canBeTaken_14 : decode cX7_canBeTaken 14 = .ok (.bipush 50, 2) := by decide +kernel
theorem dX7_canBeTaken_16 : decode cX7_canBeTaken 16 = .ok (.if_icmp .gt 7, 3) := by decide +kernel
theorem dX7_canBeTaken_19 : decode cX7_canBeTaken 19 = .ok (.iconst 1, 1) := by decide +kernel
theorem dX7_canBeTaken_20 : decode cX7_canBeTaken 20 = .ok (.goto 4, 3) := by decide +kernel
theorem dX7_canBeTaken_23 : decode cX7_canBeTaken 23 = .ok (.iconst 0, 1) := by decide +kernel
theorem dX7_canBeTaken_24 : decode cX7_canBeTaken 24 = .ok (.ireturn, 1) := by decide +kernel
theorem dX7_carriedBy_0 : decode cX7_carriedBy 0 = .ok (.iconst 0, 1) := by decide +kernel
theorem dX7_carriedBy_1 : decode cX7_carriedBy 1 = .ok (.istore_n 2, 1) := by decide +kernel
theorem dX7_carriedBy_2 : decode cX7_carriedBy 2 = .ok (.iload_n 2, 1) := by decide +kernel
theorem dX7_carriedBy_3 : decode cX7_carriedBy 3 = .ok (.aload_n 0, 1) := by decide +kernel
theorem dX7_carriedBy_4 : decode cX7_carriedBy 4 = .ok (.getfield 9, 3) := by decide +kernel
theorem dX7_carriedBy_7 : decode cX7_carriedBy 7 = .ok (.if_icmp .ge 21, 3) := by decide +kernel
theorem dX7_carriedBy_10 : decode cX7_carriedBy 10 = .ok (.aload_n 0, 1) := by decide +kernel
theorem dX7_carriedBy_11 : decode cX7_carriedBy 11 = .ok (.getfield 22, 3) := by decide +kernel
theorem dX7_carriedBy_14 : decode cX7_carriedBy 14 = .ok (.iload_n 2, 1) := by decide +kernel
theorem dX7_carriedBy_15 : decode cX7_carriedBy 15 = .ok (.iaload, 1) := by decide +kernel
theorem dX7_carriedBy_16 : decode cX7_carriedBy 16 = .ok (.iload_n 1, 1) := by decide +kernel
theorem dX7_carriedBy_17 : decode cX7_carriedBy 17 = .ok (.if_icmp .ne 5, 3) := by decide +kernel
theorem dX7_carriedBy_20 : decode cX7_carriedBy 20 = .ok (.iload_n 2, 1) := by decide +kernel
theorem dX7_carriedBy_21 : decode cX7_carriedBy 21 = .ok (.ireturn, 1) := by decide +kernel
theorem dX7_carriedBy_22 : decode cX7_carriedBy 22 = .ok (.iinc 2 1, 3) := by decide +kernel
theorem dX7_carriedBy_25 : decode cX7_carriedBy 25 = .ok (.goto (-23), 3) := by decide +kernel
theorem dX7_carriedBy_28 : decode cX7_carriedBy 28 = .ok (.iconst (-1), 1) := by decide +kernel
theorem dX7_carriedBy_29 : decode cX7_carriedBy 29 = .ok (.ireturn, 1) := by decide +kernel
theorem dX7_countInStand_0 : decode cX7_countInStand 0 = .ok (.iconst 0, 1) := by decide +kernel
theorem dX7_countInStand_1 : decode cX7_countInStand 1 = .ok (.istore_n 1, 1) := by decide +kernel
theorem dX7_countInStand_2 : decode cX7_countInStand 2 = .ok (.iconst 0, 1) := by decide +kernel
theorem dX7_countInStand_3 : decode cX7_countInStand 3 = .ok (.istore_n 2, 1) := by decide +kernel
theorem dX7_countInStand_4 : decode cX7_countInStand 4 = .ok (.iload_n 2, 1) := by decide +kernel
theorem dX7_countInStand_5 : decode cX7_countInStand 5 = .ok (.aload_n 0, 1) := by decide +kernel
theorem dX7_countInStand_6 : decode cX7_countInStand 6 = .ok (.getfield 9, 3) := by decide +kernel
theorem dX7_countInStand_9 : decode cX7_countInStand 9 = .ok (.if_icmp .ge 20, 3) := by decide +kernel
theorem dX7_countInStand_12 : decode cX7_countInStand 12 = .ok (.aload_n 0, 1) := by decide +kernel
theorem dX7_countInStand_13 : decode cX7_countInStand 13 = .ok (.iload_n 2, 1) := by decide +kernel
theorem dX7_countInStand_14 : decode cX7_countInStand 14 = .ok (.invokevirtual 25, 3) := by decide +kernel
theorem dX7_countInStand_17 : decode cX7_countInStand 17 = .ok (.ifCond .eq 6, 3) := by decide +kernel
theorem dX7_countInStand_20 : decode cX7_countInStand 20 = .ok (.iinc 1 1, 3) := by decide +kernel
theorem dX7_countInStand_23 : decode cX7_countInStand 23 = .ok (.iinc 2 1, 3) := by decide +kernel
theorem dX7_countInStand_26 : decode cX7_countInStand 26 = .ok (.goto (-22), 3) := by decide +kernel
theorem dX7_countInStand_29 : decode cX7_countInStand 29 = .ok (.iload_n 1, 1) := by decide +kernel
theorem dX7_countInStand_30 : decode cX7_countInStand 30 = .ok (.ireturn, 1) := by decide +kernel
theorem dX7_countBorrowed_0 : decode cX7_countBorrowed 0 = .ok (.iconst 0, 1) := by decide +kernel
theorem dX7_countBorrowed_1 : decode cX7_countBorrowed 1 = .ok (.istore_n 1, 1) := by decide +kernel
theorem dX7_countBorrowed_2 : decode cX7_countBorrowed 2 = .ok (.iconst 0, 1) := by decide +kernel
theorem dX7_countBorrowed_3 : decode cX7_countBorrowed 3 = .ok (.istore_n 2, 1) := by decide +kernel
theorem dX7_countBorrowed_4 : decode cX7_countBorrowed 4 = .ok (.iload_n 2, 1) := by decide +kernel
theorem dX7_countBorrowed_5 : decode cX7_countBorrowed 5 = .ok (.aload_n 0, 1) := by decide +kernel
theorem dX7_countBorrowed_6 : decode cX7_countBorrowed 6 = .ok (.getfield 9, 3) := by decide +kernel
theorem dX7_countBorrowed_9 : decode cX7_countBorrowed 9 = .ok (.if_icmp .ge 35, 3) := by decide +kernel
theorem dX7_countBorrowed_12 : decode cX7_countBorrowed 12 = .ok (.aload_n 0, 1) := by decide +kernel
theorem dX7_countBorrowed_13 : decode cX7_countBorrowed 13 = .ok (.iload_n 2, 1) := by decide +kernel
theorem dX7_countBorrowed_14 : decode cX7_countBorrowed 14 = .ok (.invokevirtual 25, 3) := by decide +kernel
theorem dX7_countBorrowed_17 : decode cX7_countBorrowed 17 = .ok (.ifCond .ne 21, 3) := by decide +kernel
theorem dX7_countBorrowed_20 : decode cX7_countBorrowed 20 = .ok (.aload_n 0, 1) := by decide +kernel
theorem dX7_countBorrowed_21 : decode cX7_countBorrowed 21 = .ok (.getfield 22, 3) := by decide +kernel
theorem dX7_countBorrowed_24 : decode cX7_countBorrowed 24 = .ok (.iload_n 2, 1) := by decide +kernel
theorem dX7_countBorrowed_25 : decode cX7_countBorrowed 25 = .ok (.iaload, 1) := by decide +kernel
theorem dX7_countBorrowed_26 : decode cX7_countBorrowed 26 = .ok (.aload_n 0, 1) := by decide +kernel
theorem dX7_countBorrowed_27 : decode cX7_countBorrowed 27 = .ok (.getfield 15, 3) := by decide +kernel
theorem dX7_countBorrowed_30 : decode cX7_countBorrowed 30 = .ok (.iload_n 2, 1) := by decide +kernel
theorem dX7_countBorrowed_31 : decode cX7_countBorrowed 31 = .ok (.iaload, 1) := by decide +kernel
theorem dX7_countBorrowed_32 : decode cX7_countBorrowed 32 = .ok (.if_icmp .eq 6, 3) := by decide +kernel
theorem dX7_countBorrowed_35 : decode cX7_countBorrowed 35 = .ok (.iinc 1 1, 3) := by decide +kernel
theorem dX7_countBorrowed_38 : decode cX7_countBorrowed 38 = .ok (.iinc 2 1, 3) := by decide +kernel
theorem dX7_countBorrowed_41 : decode cX7_countBorrowed 41 = .ok (.goto (-37), 3) := by decide +kernel
theorem dX7_countBorrowed_44 : decode cX7_countBorrowed 44 = .ok (.iload_n 1, 1) := by decide +kernel
theorem dX7_countBorrowed_45 : decode cX7_countBorrowed 45 = .ok (.ireturn, 1) := by decide +kernel
theorem dX7_firstOwnUsable_0 : decode cX7_firstOwnUsable 0 = .ok (.iconst 0, 1) := by decide +kernel
theorem dX7_firstOwnUsable_1 : decode cX7_firstOwnUsable 1 = .ok (.istore_n 2, 1) := by decide +kernel
theorem dX7_firstOwnUsable_2 : decode cX7_firstOwnUsable 2 = .ok (.iload_n 2, 1) := by decide +kernel
theorem dX7_firstOwnUsable_3 : decode cX7_firstOwnUsable 3 = .ok (.aload_n 0, 1) := by decide +kernel
theorem dX7_firstOwnUsable_4 : decode cX7_firstOwnUsable 4 = .ok (.getfield 9, 3) := by decide +kernel
theorem dX7_firstOwnUsable_7 : decode cX7_firstOwnUsable 7 = .ok (.if_icmp .ge 29, 3) := by decide +kernel
theorem dX7_firstOwnUsable_10 : decode cX7_firstOwnUsable 10 = .ok (.aload_n 0, 1) := by decide +kernel
theorem dX7_firstOwnUsable_11 : decode cX7_firstOwnUsable 11 = .ok (.getfield 15, 3) := by decide +kernel
theorem dX7_firstOwnUsable_14 : decode cX7_firstOwnUsable 14 = .ok (.iload_n 2, 1) := by decide +kernel
theorem dX7_firstOwnUsable_15 : decode cX7_firstOwnUsable 15 = .ok (.iaload, 1) := by decide +kernel
theorem dX7_firstOwnUsable_16 : decode cX7_firstOwnUsable 16 = .ok (.iload_n 1, 1) := by decide +kernel
theorem dX7_firstOwnUsable_17 : decode cX7_firstOwnUsable 17 = .ok (.if_icmp .ne 13, 3) := by decide +kernel
theorem dX7_firstOwnUsable_20 : decode cX7_firstOwnUsable 20 = .ok (.aload_n 0, 1) := by decide +kernel
theorem dX7_firstOwnUsable_21 : decode cX7_firstOwnUsable 21 = .ok (.iload_n 2, 1) := by decide +kernel
theorem dX7_firstOwnUsable_22 : decode cX7_firstOwnUsable 22 = .ok (.invokevirtual 29, 3) := by decide +kernel
theorem dX7_firstOwnUsable_25 : decode cX7_firstOwnUsable 25 = .ok (.ifCond .eq 5, 3) := by decide +kernel
theorem dX7_firstOwnUsable_28 : decode cX7_firstOwnUsable 28 = .ok (.iload_n 2, 1) := by decide +kernel
theorem dX7_firstOwnUsable_29 : decode cX7_firstOwnUsable 29 = .ok (.ireturn, 1) := by decide +kernel
theorem dX7_firstOwnUsable_30 : decode cX7_firstOwnUsable 30 = .ok (.iinc 2 1, 3) := by decide +kernel
theorem dX7_firstOwnUsable_33 : decode cX7_firstOwnUsable 33 = .ok (.goto (-31), 3) := by decide +kernel
theorem dX7_firstOwnUsable_36 : decode cX7_firstOwnUsable 36 = .ok (.iconst (-1), 1) := by decide +kernel
theorem dX7_firstOwnUsable_37 : decode cX7_firstOwnUsable 37 = .ok (.ireturn, 1) := by decide +kernel
theorem dX7_driestUsable_0 : decode cX7_driestUsable 0 = .ok (.iconst (-1), 1) := by decide +kernel
theorem dX7_driestUsable_1 : decode cX7_driestUsable 1 = .ok (.istore_n 1, 1) := by decide +kernel
theorem dX7_driestUsable_2 : decode cX7_driestUsable 2 = .ok (.bipush 100, 2) := by decide +kernel
theorem dX7_driestUsable_4 : decode cX7_driestUsable 4 = .ok (.istore_n 2, 1) := by decide +kernel
theorem dX7_driestUsable_5 : decode cX7_driestUsable 5 = .ok (.iconst 0, 1) := by decide +kernel
theorem dX7_driestUsable_6 : decode cX7_driestUsable 6 = .ok (.istore_n 3, 1) := by decide +kernel
theorem dX7_driestUsable_7 : decode cX7_driestUsable 7 = .ok (.iload_n 3, 1) := by decide +kernel
theorem dX7_driestUsable_8 : decode cX7_driestUsable 8 = .ok (.aload_n 0, 1) := by decide +kernel
theorem dX7_driestUsable_9 : decode cX7_driestUsable 9 = .ok (.getfield 9, 3) := by decide +kernel
theorem dX7_driestUsable_12 : decode cX7_driestUsable 12 = .ok (.if_icmp .ge 36, 3) := by decide +kernel
theorem dX7_driestUsable_15 : decode cX7_driestUsable 15 = .ok (.aload_n 0, 1) := by decide +kernel
theorem dX7_driestUsable_16 : decode cX7_driestUsable 16 = .ok (.iload_n 3, 1) := by decide +kernel
theorem dX7_driestUsable_17 : decode cX7_driestUsable 17 = .ok (.invokevirtual 29, 3) := by decide +kernel
theorem dX7_driestUsable_20 : decode cX7_driestUsable 20 = .ok (.ifCond .eq 22, 3) := by decide +kernel
theorem dX7_driestUsable_23 : decode cX7_driestUsable 23 = .ok (.aload_n 0, 1) := by decide +kernel
theorem dX7_driestUsable_24 : decode cX7_driestUsable 24 = .ok (.getfield 19, 3) := by decide +kernel
theorem dX7_driestUsable_27 : decode cX7_driestUsable 27 = .ok (.iload_n 3, 1) := by decide +kernel
theorem dX7_driestUsable_28 : decode cX7_driestUsable 28 = .ok (.iaload, 1) := by decide +kernel
theorem dX7_driestUsable_29 : decode cX7_driestUsable 29 = .ok (.iload_n 2, 1) := by decide +kernel
theorem dX7_driestUsable_30 : decode cX7_driestUsable 30 = .ok (.if_icmp .ge 12, 3) := by decide +kernel
theorem dX7_driestUsable_33 : decode cX7_driestUsable 33 = .ok (.iload_n 3, 1) := by decide +kernel
theorem dX7_driestUsable_34 : decode cX7_driestUsable 34 = .ok (.istore_n 1, 1) := by decide +kernel
theorem dX7_driestUsable_35 : decode cX7_driestUsable 35 = .ok (.aload_n 0, 1) := by decide +kernel
theorem dX7_driestUsable_36 : decode cX7_driestUsable 36 = .ok (.getfield 19, 3) := by decide +kernel
theorem dX7_driestUsable_39 : decode cX7_driestUsable 39 = .ok (.iload_n 3, 1) := by decide +kernel
theorem dX7_driestUsable_40 : decode cX7_driestUsable 40 = .ok (.iaload, 1) := by decide +kernel
theorem dX7_driestUsable_41 : decode cX7_driestUsable 41 = .ok (.istore_n 2, 1) := by decide +kernel
theorem dX7_driestUsable_42 : decode cX7_driestUsable 42 = .ok (.iinc 3 1, 3) := by decide +kernel
theorem dX7_driestUsable_45 : decode cX7_driestUsable 45 = .ok (.goto (-38), 3) := by decide +kernel
theorem dX7_driestUsable_48 : decode cX7_driestUsable 48 = .ok (.iload_n 1, 1) := by decide +kernel
theorem dX7_driestUsable_49 : decode cX7_driestUsable 49 = .ok (.ireturn, 1) := by decide +kernel
theorem dX7_passOneIn_0 : decode cX7_passOneIn 0 = .ok (.iconst 0, 1) := by decide +kernel
theorem dX7_passOneIn_1 : decode cX7_passOneIn 1 = .ok (.istore_n 2, 1) := by decide +kernel
theorem dX7_passOneIn_2 : decode cX7_passOneIn 2 = .ok (.iconst 0, 1) := by decide +kernel
theorem dX7_passOneIn_3 : decode cX7_passOneIn 3 = .ok (.istore_n 3, 1) := by decide +kernel
theorem dX7_passOneIn_4 : decode cX7_passOneIn 4 = .ok (.iload_n 3, 1) := by decide +kernel
theorem dX7_passOneIn_5 : decode cX7_passOneIn 5 = .ok (.aload_n 0, 1) := by decide +kernel
theorem dX7_passOneIn_6 : decode cX7_passOneIn 6 = .ok (.getfield 9, 3) := by decide +kernel
theorem dX7_passOneIn_9 : decode cX7_passOneIn 9 = .ok (.if_icmp .ge 61, 3) := by decide +kernel
theorem dX7_passOneIn_12 : decode cX7_passOneIn 12 = .ok (.aload_n 0, 1) := by decide +kernel
theorem dX7_passOneIn_13 : decode cX7_passOneIn 13 = .ok (.iload_n 3, 1) := by decide +kernel
theorem dX7_passOneIn_14 : decode cX7_passOneIn 14 = .ok (.invokevirtual 25, 3) := by decide +kernel
theorem dX7_passOneIn_17 : decode cX7_passOneIn 17 = .ok (.ifCond .ne 25, 3) := by decide +kernel
theorem dX7_passOneIn_20 : decode cX7_passOneIn 20 = .ok (.aload_n 0, 1) := by decide +kernel
theorem dX7_passOneIn_21 : decode cX7_passOneIn 21 = .ok (.getfield 19, 3) := by decide +kernel
theorem dX7_passOneIn_24 : decode cX7_passOneIn 24 = .ok (.iload_n 3, 1) := by decide +kernel
theorem dX7_passOneIn_25 : decode cX7_passOneIn 25 = .ok (.bipush 99, 2) := by decide +kernel
theorem dX7_passOneIn_27 : decode cX7_passOneIn 27 = .ok (.aload_n 0, 1) := by decide +kernel
theorem dX7_passOneIn_28 : decode cX7_passOneIn 28 = .ok (.getfield 19, 3) := by decide +kernel
theorem dX7_passOneIn_31 : decode cX7_passOneIn 31 = .ok (.iload_n 3, 1) := by decide +kernel
theorem dX7_passOneIn_32 : decode cX7_passOneIn 32 = .ok (.iaload, 1) := by decide +kernel
theorem dX7_passOneIn_33 : decode cX7_passOneIn 33 = .ok (.iload_n 1, 1) := by decide +kernel
theorem dX7_passOneIn_34 : decode cX7_passOneIn 34 = .ok (.iadd, 1) := by decide +kernel
theorem dX7_passOneIn_35 : decode cX7_passOneIn 35 = .ok (.invokestatic 32, 3) := by decide +kernel
theorem dX7_passOneIn_38 : decode cX7_passOneIn 38 = .ok (.iastore, 1) := by decide +kernel
theorem dX7_passOneIn_39 : decode cX7_passOneIn 39 = .ok (.goto 25, 3) := by decide +kernel
theorem dX7_passOneIn_42 : decode cX7_passOneIn 42 = .ok (.aload_n 0, 1) := by decide +kernel
theorem dX7_passOneIn_43 : decode cX7_passOneIn 43 = .ok (.getfield 19, 3) := by decide +kernel
theorem dX7_passOneIn_46 : decode cX7_passOneIn 46 = .ok (.iload_n 3, 1) := by decide +kernel
theorem dX7_passOneIn_47 : decode cX7_passOneIn 47 = .ok (.iaload, 1) := by decide +kernel
theorem dX7_passOneIn_48 : decode cX7_passOneIn 48 = .ok (.ifCond .le 16, 3) := by decide +kernel
theorem dX7_passOneIn_51 : decode cX7_passOneIn 51 = .ok (.aload_n 0, 1) := by decide +kernel
theorem dX7_passOneIn_52 : decode cX7_passOneIn 52 = .ok (.getfield 19, 3) := by decide +kernel
theorem dX7_passOneIn_55 : decode cX7_passOneIn 55 = .ok (.iload_n 3, 1) := by decide +kernel
theorem dX7_passOneIn_56 : decode cX7_passOneIn 56 = .ok (.dup2, 1) := by decide +kernel
theorem dX7_passOneIn_57 : decode cX7_passOneIn 57 = .ok (.iaload, 1) := by decide +kernel
theorem dX7_passOneIn_58 : decode cX7_passOneIn 58 = .ok (.iconst 1, 1) := by decide +kernel
theorem dX7_passOneIn_59 : decode cX7_passOneIn 59 = .ok (.isub, 1) := by decide +kernel
theorem dX7_passOneIn_60 : decode cX7_passOneIn 60 = .ok (.iastore, 1) := by decide +kernel
theorem dX7_passOneIn_61 : decode cX7_passOneIn 61 = .ok (.iinc 2 1, 3) := by decide +kernel
theorem dX7_passOneIn_64 : decode cX7_passOneIn 64 = .ok (.iinc 3 1, 3) := by decide +kernel
theorem dX7_passOneIn_67 : decode cX7_passOneIn 67 = .ok (.goto (-63), 3) := by decide +kernel
theorem dX7_passOneIn_70 : decode cX7_passOneIn 70 = .ok (.iload_n 2, 1) := by decide +kernel
theorem dX7_passOneIn_71 : decode cX7_passOneIn 71 = .ok (.ireturn, 1) := by decide +kernel
theorem dX7_copyFrom_0 : decode cX7_copyFrom 0 = .ok (.aload_n 0, 1) := by decide +kernel
theorem dX7_copyFrom_1 : decode cX7_copyFrom 1 = .ok (.aload_n 1, 1) := by decide +kernel
theorem dX7_copyFrom_2 : decode cX7_copyFrom 2 = .ok (.getfield 9, 3) := by decide +kernel
theorem dX7_copyFrom_5 : decode cX7_copyFrom 5 = .ok (.putfield 9, 3) := by decide +kernel
theorem dX7_copyFrom_8 : decode cX7_copyFrom 8 = .ok (.aload_n 1, 1) := by decide +kernel
theorem dX7_copyFrom_9 : decode cX7_copyFrom 9 = .ok (.getfield 15, 3) := by decide +kernel
theorem dX7_copyFrom_12 : decode cX7_copyFrom 12 = .ok (.iconst 0, 1) := by decide +kernel
theorem dX7_copyFrom_13 : decode cX7_copyFrom 13 = .ok (.aload_n 0, 1) := by decide +kernel
theorem dX7_copyFrom_14 : decode cX7_copyFrom 14 = .ok (.getfield 15, 3) := by decide +kernel
theorem dX7_copyFrom_17 : decode cX7_copyFrom 17 = .ok (.iconst 0, 1) := by decide +kernel
theorem dX7_copyFrom_18 : decode cX7_copyFrom 18 = .ok (.bipush 12, 2) := by decide +kernel
theorem dX7_copyFrom_20 : decode cX7_copyFrom 20 = .ok (.invokestatic 38, 3) := by decide +kernel
theorem dX7_copyFrom_23 : decode cX7_copyFrom 23 = .ok (.aload_n 1, 1) := by decide +kernel
theorem dX7_copyFrom_24 : decode cX7_copyFrom 24 = .ok (.getfield 19, 3) := by decide +kernel
theorem dX7_copyFrom_27 : decode cX7_copyFrom 27 = .ok (.iconst 0, 1) := by decide +kernel
theorem dX7_copyFrom_28 : decode cX7_copyFrom 28 = .ok (.aload_n 0, 1) := by decide +kernel
theorem dX7_copyFrom_29 : decode cX7_copyFrom 29 = .ok (.getfield 19, 3) := by decide +kernel
theorem dX7_copyFrom_32 : decode cX7_copyFrom 32 = .ok (.iconst 0, 1) := by decide +kernel
theorem dX7_copyFrom_33 : decode cX7_copyFrom 33 = .ok (.bipush 12, 2) := by decide +kernel
theorem dX7_copyFrom_35 : decode cX7_copyFrom 35 = .ok (.invokestatic 38, 3) := by decide +kernel
theorem dX7_copyFrom_38 : decode cX7_copyFrom 38 = .ok (.aload_n 1, 1) := by decide +kernel
theorem dX7_copyFrom_39 : decode cX7_copyFrom 39 = .ok (.getfield 22, 3) := by decide +kernel
theorem dX7_copyFrom_42 : decode cX7_copyFrom 42 = .ok (.iconst 0, 1) := by decide +kernel
theorem dX7_copyFrom_43 : decode cX7_copyFrom 43 = .ok (.aload_n 0, 1) := by decide +kernel
theorem dX7_copyFrom_44 : decode cX7_copyFrom 44 = .ok (.getfield 22, 3) := by decide +kernel
theorem dX7_copyFrom_47 : decode cX7_copyFrom 47 = .ok (.iconst 0, 1) := by decide +kernel
theorem dX7_copyFrom_48 : decode cX7_copyFrom 48 = .ok (.bipush 12, 2) := by decide +kernel
theorem dX7_copyFrom_50 : decode cX7_copyFrom 50 = .ok (.invokestatic 38, 3) := by decide +kernel
theorem dX7_copyFrom_53 : decode cX7_copyFrom 53 = .ok (.return_, 1) := by decide +kernel
theorem dX8_init_0 : decode cX8_init 0 = .ok (.aload_n 0, 1) := by decide +kernel
theorem dX8_init_1 : decode cX8_init 1 = .ok (.invokespecial 1, 3) := by decide +kernel
theorem dX8_init_4 : decode cX8_init 4 = .ok (.aload_n 0, 1) := by decide +kernel
theorem dX8_init_5 : decode cX8_init 5 = .ok (.new 7, 3) := by decide +kernel
theorem dX8_init_8 : decode cX8_init 8 = .ok (.dup, 1) := by decide +kernel
theorem dX8_init_9 : decode cX8_init 9 = .ok (.invokespecial 9, 3) := by decide +kernel
theorem dX8_init_12 : decode cX8_init 12 = .ok (.putfield 10, 3) := by decide +kernel
theorem dX8_init_15 : decode cX8_init 15 = .ok (.aload_n 0, 1) := by decide +kernel
theorem dX8_init_16 : decode cX8_init 16 = .ok (.new 7, 3) := by decide +kernel
theorem dX8_init_19 : decode cX8_init 19 = .ok (.dup, 1) := by decide +kernel
theorem dX8_init_20 : decode cX8_init 20 = .ok (.invokespecial 9, 3) := by decide +kernel
theorem dX8_init_23 : decode cX8_init 23 = .ok (.putfield 16, 3) := by decide +kernel
theorem dX8_init_26 : decode cX8_init 26 = .ok (.aload_n 0, 1) := by decide +kernel
theorem dX8_init_27 : decode cX8_init 27 = .ok (.new 19, 3) := by decide +kernel
theorem dX8_init_30 : decode cX8_init 30 = .ok (.dup, 1) := by decide +kernel
theorem dX8_init_31 : decode cX8_init 31 = .ok (.aload_n 0, 1) := by decide +kernel
theorem dX8_init_32 : decode cX8_init 32 = .ok (.getfield 10, 3) := by decide +kernel
theorem dX8_init_35 : decode cX8_init 35 = .ok (.invokespecial 21, 3) := by decide +kernel
theorem dX8_init_38 : decode cX8_init 38 = .ok (.putfield 24, 3) := by decide +kernel
theorem dX8_init_41 : decode cX8_init 41 = .ok (.aload_n 0, 1) := by decide +kernel
theorem dX8_init_42 : decode cX8_init 42 = .ok (.new 28, 3) := by decide +kernel
theorem dX8_init_45 : decode cX8_init 45 = .ok (.dup, 1) := by decide +kernel
theorem dX8_init_46 : decode cX8_init 46 = .ok (.invokespecial 30, 3) := by decide +kernel
theorem dX8_init_49 : decode cX8_init 49 = .ok (.putfield 31, 3) := by decide +kernel
theorem dX8_init_52 : decode cX8_init 52 = .ok (.aload_n 0, 1) := by decide +kernel
theorem dX8_init_53 : decode cX8_init 53 = .ok (.new 28, 3) := by decide +kernel
theorem dX8_init_56 : decode cX8_init 56 = .ok (.dup, 1) := by decide +kernel
theorem dX8_init_57 : decode cX8_init 57 = .ok (.invokespecial 30, 3) := by decide +kernel
theorem dX8_init_60 : decode cX8_init 60 = .ok (.putfield 35, 3) := by decide +kernel
theorem dX8_init_63 : decode cX8_init 63 = .ok (.aload_n 0, 1) := by decide +kernel
theorem dX8_init_64 : decode cX8_init 64 = .ok (.new 38, 3) := by decide +kernel
theorem dX8_init_67 : decode cX8_init 67 = .ok (.dup, 1) := by decide +kernel
theorem dX8_init_68 : decode cX8_init 68 = .ok (.invokespecial 40, 3) := by decide +kernel
theorem dX8_init_71 : decode cX8_init 71 = .ok (.putfield 41, 3) := by decide +kernel
theorem dX8_init_74 : decode cX8_init 74 = .ok (.aload_n 0, 1) := by decide +kernel
theorem dX8_init_75 : decode cX8_init 75 = .ok (.new 45, 3) := by decide +kernel
theorem dX8_init_78 : decode cX8_init 78 = .ok (.dup, 1) := by decide +kernel
theorem dX8_init_79 : decode cX8_init 79 = .ok (.invokespecial 47, 3) := by decide +kernel
theorem dX8_init_82 : decode cX8_init 82 = .ok (.putfield 48, 3) := by decide +kernel
theorem dX8_init_85 : decode cX8_init 85 = .ok (.aload_n 0, 1) := by decide +kernel
theorem dX8_init_86 : decode cX8_init 86 = .ok (.iconst (-1), 1) := by decide +kernel
theorem dX8_init_87 : decode cX8_init 87 = .ok (.putfield 52, 3) := by decide +kernel
theorem dX8_init_90 : decode cX8_init 90 = .ok (.aload_n 0, 1) := by decide +kernel
theorem dX8_init_91 : decode cX8_init 91 = .ok (.getfield 10, 3) := by decide +kernel
theorem dX8_init_94 : decode cX8_init 94 = .ok (.ldc 56, 2) := by decide +kernel
theorem dX8_init_96 : decode cX8_init 96 = .ok (.invokevirtual 58, 3) := by decide +kernel
theorem dX8_init_99 : decode cX8_init 99 = .ok (.aload_n 0, 1) := by decide +kernel
theorem dX8_init_100 : decode cX8_init 100 = .ok (.invokevirtual 62, 3) := by decide +kernel
theorem dX8_init_103 : decode cX8_init 103 = .ok (.return_, 1) := by decide +kernel
theorem dX8_append_0 : decode cX8_append 0 = .ok (.aload_n 0, 1) := by decide +kernel
theorem dX8_append_1 : decode cX8_append 1 = .ok (.getfield 10, 3) := by decide +kernel
theorem dX8_append_4 : decode cX8_append 4 = .ok (.getfield 65, 3) := by decide +kernel
theorem dX8_append_7 : decode cX8_append 7 = .ok (.sipush 580, 3) := by decide +kernel
theorem dX8_append_10 : decode cX8_append 10 = .ok (.if_icmp .le 13, 3) := by decide +kernel
theorem dX8_append_13 : decode cX8_append 13 = .ok (.new 68, 3) := by decide +kernel
theorem dX8_append_16 : decode cX8_append 16 = .ok (.dup, 1) := by decide +kernel
theorem dX8_append_17 : decode cX8_append 17 = .ok (.ldc 70, 2) := by decide +kernel
theorem dX8_append_19 : decode cX8_append 19 = .ok (.invokespecial 72, 3) := by decide +kernel
theorem dX8_append_22 : decode cX8_append 22 = .ok (.athrow, 1) := by decide +kernel
theorem dX8_append_23 : decode cX8_append 23 = .ok (.aload_n 0, 1) := by decide +kernel
theorem dX8_append_24 : decode cX8_append 24 = .ok (.getfield 10, 3) := by decide +kernel
theorem dX8_append_27 : decode cX8_append 27 = .ok (.iload_n 1, 1) := by decide +kernel
theorem dX8_append_28 : decode cX8_append 28 = .ok (.invokevirtual 74, 3) := by decide +kernel
theorem dX8_append_31 : decode cX8_append 31 = .ok (.aload_n 0, 1) := by decide +kernel
theorem dX8_append_32 : decode cX8_append 32 = .ok (.getfield 10, 3) := by decide +kernel
theorem dX8_append_35 : decode cX8_append 35 = .ok (.iload_n 2, 1) := by decide +kernel
theorem dX8_append_36 : decode cX8_append 36 = .ok (.invokevirtual 74, 3) := by decide +kernel
theorem dX8_append_39 : decode cX8_append 39 = .ok (.aload_n 0, 1) := by decide +kernel
theorem dX8_append_40 : decode cX8_append 40 = .ok (.getfield 10, 3) := by decide +kernel
theorem dX8_append_43 : decode cX8_append 43 = .ok (.iload_n 3, 1) := by decide +kernel
theorem dX8_append_44 : decode cX8_append 44 = .ok (.invokevirtual 74, 3) := by decide +kernel
theorem dX8_append_47 : decode cX8_append 47 = .ok (.aload_n 0, 1) := by decide +kernel
theorem dX8_append_48 : decode cX8_append 48 = .ok (.getfield 10, 3) := by decide +kernel
theorem dX8_append_51 : decode cX8_append 51 = .ok (.iload 4, 2) := by decide +kernel
theorem dX8_append_53 : decode cX8_append 53 = .ok (.invokevirtual 74, 3) := by decide +kernel
theorem dX8_append_56 : decode cX8_append 56 = .ok (.aload_n 0, 1) := by decide +kernel
theorem dX8_append_57 : decode cX8_append 57 = .ok (.getfield 10, 3) := by decide +kernel
theorem dX8_append_60 : decode cX8_append 60 = .ok (.iload 5, 2) := by decide +kernel
theorem dX8_append_62 : decode cX8_append 62 = .ok (.invokevirtual 74, 3) := by decide +kernel
theorem dX8_append_65 : decode cX8_append 65 = .ok (.aload_n 0, 1) := by decide +kernel
theorem dX8_append_66 : decode cX8_append 66 = .ok (.getfield 10, 3) := by decide +kernel
theorem dX8_append_69 : decode cX8_append 69 = .ok (.getfield 65, 3) := by decide +kernel
theorem dX8_append_72 : decode cX8_append 72 = .ok (.ireturn, 1) := by decide +kernel
theorem dX8_shorten_0 : decode cX8_shorten 0 = .ok (.iload_n 1, 1) := by decide +kernel
theorem dX8_shorten_1 : decode cX8_shorten 1 = .ok (.ifCond .lt 14, 3) := by decide +kernel
theorem dX8_shorten_4 : decode cX8_shorten 4 = .ok (.iload_n 1, 1) := by decide +kernel
theorem dX8_shorten_5 : decode cX8_shorten 5 = .ok (.aload_n 0, 1) := by decide +kernel
theorem dX8_shorten_6 : decode cX8_shorten 6 = .ok (.getfield 10, 3) := by decide +kernel
theorem dX8_shorten_9 : decode cX8_shorten 9 = .ok (.getfield 65, 3) := by decide +kernel
theorem dX8_shorten_12 : decode cX8_shorten 12 = .ok (.if_icmp .le 13, 3) := by decide +kernel
theorem dX8_shorten_15 : decode cX8_shorten 15 = .ok (.new 78, 3) := by decide +kernel
theorem dX8_shorten_18 : decode cX8_shorten 18 = .ok (.dup, 1) := by decide +kernel
theorem dX8_shorten_19 : decode cX8_shorten 19 = .ok (.ldc 80, 2) := by decide +kernel
theorem dX8_shorten_21 : decode cX8_shorten 21 = .ok (.invokespecial 82, 3) := by decide +kernel
theorem dX8_shorten_24 : decode cX8_shorten 24 = .ok (.athrow, 1) := by decide +kernel
theorem dX8_shorten_25 : decode cX8_shorten 25 = .ok (.aload_n 0, 1) := by decide +kernel
theorem dX8_shorten_26 : decode cX8_shorten 26 = .ok (.getfield 10, 3) := by decide +kernel
theorem dX8_shorten_29 : decode cX8_shorten 29 = .ok (.iload_n 1, 1) := by decide +kernel
theorem dX8_shorten_30 : decode cX8_shorten 30 = .ok (.putfield 65, 3) := by decide +kernel
theorem dX8_shorten_33 : decode cX8_shorten 33 = .ok (.iload_n 1, 1) := by decide +kernel
theorem dX8_shorten_34 : decode cX8_shorten 34 = .ok (.ireturn, 1) := by decide +kernel
theorem dX8_load_0 : decode cX8_load 0 = .ok (.aload_n 0, 1) := by decide +kernel
theorem dX8_load_1 : decode cX8_load 1 = .ok (.invokevirtual 62, 3) := by decide +kernel
theorem dX8_load_4 : decode cX8_load 4 = .ok (.aload_n 0, 1) := by decide +kernel
theorem dX8_load_5 : decode cX8_load 5 = .ok (.getfield 52, 3) := by decide +kernel
theorem dX8_load_8 : decode cX8_load 8 = .ok (.iconst (-1), 1) := by decide +kernel
theorem dX8_load_9 : decode cX8_load 9 = .ok (.if_icmp .eq 13, 3) := by decide +kernel
theorem dX8_load_12 : decode cX8_load 12 = .ok (.new 78, 3) := by decide +kernel
theorem dX8_load_15 : decode cX8_load 15 = .ok (.dup, 1) := by decide +kernel
theorem dX8_load_16 : decode cX8_load 16 = .ok (.ldc 83, 2) := by decide +kernel
theorem dX8_load_18 : decode cX8_load 18 = .ok (.invokespecial 82, 3) := by decide +kernel
theorem dX8_load_21 : decode cX8_load 21 = .ok (.athrow, 1) := by decide +kernel
theorem dX8_load_22 : decode cX8_load 22 = .ok (.aload_n 0, 1) := by decide +kernel
theorem dX8_load_23 : decode cX8_load 23 = .ok (.getfield 31, 3) := by decide +kernel
theorem dX8_load_26 : decode cX8_load 26 = .ok (.getfield 85, 3) := by decide +kernel
theorem dX8_load_29 : decode cX8_load 29 = .ok (.getfield 89, 3) := by decide +kernel
theorem dX8_load_32 : decode cX8_load 32 = .ok (.ireturn, 1) := by decide +kernel
theorem dX8_hasError_0 : decode cX8_hasError 0 = .ok (.aload_n 0, 1) := by decide +kernel
theorem dX8_hasError_1 : decode cX8_hasError 1 = .ok (.getfield 52, 3) := by decide +kernel
theorem dX8_hasError_4 : decode cX8_hasError 4 = .ok (.iconst (-1), 1) := by decide +kernel
theorem dX8_hasError_5 : decode cX8_hasError 5 = .ok (.if_icmp .eq 7, 3) := by decide +kernel
theorem dX8_hasError_8 : decode cX8_hasError 8 = .ok (.iconst 1, 1) := by decide +kernel
theorem dX8_hasError_9 : decode cX8_hasError 9 = .ok (.goto 4, 3) := by decide +kernel
theorem dX8_hasError_12 : decode cX8_hasError 12 = .ok (.iconst 0, 1) := by decide +kernel
theorem dX8_hasError_13 : decode cX8_hasError 13 = .ok (.ireturn, 1) := by decide +kernel
theorem dX8_errorOffset_0 : decode cX8_errorOffset 0 = .ok (.aload_n 0, 1) := by decide +kernel
theorem dX8_errorOffset_1 : decode cX8_errorOffset 1 = .ok (.getfield 52, 3) := by decide +kernel
theorem dX8_errorOffset_4 : decode cX8_errorOffset 4 = .ok (.iconst (-1), 1) := by decide +kernel
theorem dX8_errorOffset_5 : decode cX8_errorOffset 5 = .ok (.if_icmp .ne 13, 3) := by decide +kernel
theorem dX8_errorOffset_8 : decode cX8_errorOffset 8 = .ok (.new 94, 3) := by decide +kernel
theorem dX8_errorOffset_11 : decode cX8_errorOffset 11 = .ok (.dup, 1) := by decide +kernel
theorem dX8_errorOffset_12 : decode cX8_errorOffset 12 = .ok (.ldc 96, 2) := by decide +kernel
theorem dX8_errorOffset_14 : decode cX8_errorOffset 14 = .ok (.invokespecial 98, 3) := by decide +kernel
theorem dX8_errorOffset_17 : decode cX8_errorOffset 17 = .ok (.athrow, 1) := by decide +kernel
theorem dX8_errorOffset_18 : decode cX8_errorOffset 18 = .ok (.aload_n 0, 1) := by decide +kernel
theorem dX8_errorOffset_19 : decode cX8_errorOffset 19 = .ok (.getfield 52, 3) := by decide +kernel
theorem dX8_errorOffset_22 : decode cX8_errorOffset 22 = .ok (.ireturn, 1) := by decide +kernel
theorem dX8_minute_0 : decode cX8_minute 0 = .ok (.aload_n 0, 1) := by decide +kernel
theorem dX8_minute_1 : decode cX8_minute 1 = .ok (.getfield 31, 3) := by decide +kernel
theorem dX8_minute_4 : decode cX8_minute 4 = .ok (.getfield 99, 3) := by decide +kernel
theorem dX8_minute_7 : decode cX8_minute 7 = .ok (.ireturn, 1) := by decide +kernel
theorem dX8_rain_0 : decode cX8_rain 0 = .ok (.aload_n 0, 1) := by decide +kernel
theorem dX8_rain_1 : decode cX8_rain 1 = .ok (.getfield 31, 3) := by decide +kernel
theorem dX8_rain_4 : decode cX8_rain 4 = .ok (.getfield 102, 3) := by decide +kernel
theorem dX8_rain_7 : decode cX8_rain 7 = .ok (.ireturn, 1) := by decide +kernel
theorem dX8_noiseLimit_0 : decode cX8_noiseLimit 0 = .ok (.aload_n 0, 1) := by decide +kernel
theorem dX8_noiseLimit_1 : decode cX8_noiseLimit 1 = .ok (.getfield 31, 3) := by decide +kernel
theorem dX8_noiseLimit_4 : decode cX8_noiseLimit 4 = .ok (.getfield 105, 3) := by decide +kernel
theorem dX8_noiseLimit_7 : decode cX8_noiseLimit 7 = .ok (.ireturn, 1) := by decide +kernel
theorem dX8_noise_0 : decode cX8_noise 0 = .ok (.aload_n 0, 1) := by decide +kernel
theorem dX8_noise_1 : decode cX8_noise 1 = .ok (.getfield 31, 3) := by decide +kernel
theorem dX8_noise_4 : decode cX8_noise 4 = .ok (.getfield 108, 3) := by decide +kernel
theorem dX8_noise_7 : decode cX8_noise 7 = .ok (.ireturn, 1) := by decide +kernel
theorem dX8_complaints_0 : decode cX8_complaints 0 = .ok (.aload_n 0, 1) := by decide +kernel
theorem dX8_complaints_1 : decode cX8_complaints 1 = .ok (.getfield 31, 3) := by decide +kernel
theorem dX8_complaints_4 : decode cX8_complaints 4 = .ok (.getfield 111, 3) := by decide +kernel
theorem dX8_complaints_7 : decode cX8_complaints 7 = .ok (.ireturn, 1) := by decide +kernel
theorem dX8_puddle_0 : decode cX8_puddle 0 = .ok (.aload_n 0, 1) := by decide +kernel
theorem dX8_puddle_1 : decode cX8_puddle 1 = .ok (.getfield 31, 3) := by decide +kernel
theorem dX8_puddle_4 : decode cX8_puddle 4 = .ok (.getfield 114, 3) := by decide +kernel
theorem dX8_puddle_7 : decode cX8_puddle 7 = .ok (.ireturn, 1) := by decide +kernel
theorem dX8_yawn_0 : decode cX8_yawn 0 = .ok (.aload_n 0, 1) := by decide +kernel
theorem dX8_yawn_1 : decode cX8_yawn 1 = .ok (.getfield 31, 3) := by decide +kernel
theorem dX8_yawn_4 : decode cX8_yawn 4 = .ok (.invokevirtual 117, 3) := by decide +kernel
theorem dX8_yawn_7 : decode cX8_yawn 7 = .ok (.ireturn, 1) := by decide +kernel
theorem dX8_tips_0 : decode cX8_tips 0 = .ok (.aload_n 0, 1) := by decide +kernel
theorem dX8_tips_1 : decode cX8_tips 1 = .ok (.getfield 31, 3) := by decide +kernel
theorem dX8_tips_4 : decode cX8_tips 4 = .ok (.getfield 121, 3) := by decide +kernel
theorem dX8_tips_7 : decode cX8_tips 7 = .ok (.ireturn, 1) := by decide +kernel
theorem dX8_guestCount_0 : decode cX8_guestCount 0 = .ok (.aload_n 0, 1) := by decide +kernel
theorem dX8_guestCount_1 : decode cX8_guestCount 1 = .ok (.getfield 31, 3) := by decide +kernel
theorem dX8_guestCount_4 : decode cX8_guestCount 4 = .ok (.getfield 85, 3) := by decide +kernel
theorem dX8_guestCount_7 : decode cX8_guestCount 7 = .ok (.getfield 89, 3) := by decide +kernel
theorem dX8_guestCount_10 : decode cX8_guestCount 10 = .ok (.ireturn, 1) := by decide +kernel
theorem dX8_nameLength_0 : decode cX8_nameLength 0 = .ok (.aload_n 0, 1) := by decide +kernel
theorem dX8_nameLength_1 : decode cX8_nameLength 1 = .ok (.iload_n 1, 1) := by decide +kernel
theorem dX8_nameLength_2 : decode cX8_nameLength 2 = .ok (.invokevirtual 124, 3) := by decide +kernel
theorem dX8_nameLength_5 : decode cX8_nameLength 5 = .ok (.aload_n 0, 1) := by decide +kernel
theorem dX8_nameLength_6 : decode cX8_nameLength 6 = .ok (.getfield 31, 3) := by decide +kernel
theorem dX8_nameLength_9 : decode cX8_nameLength 9 = .ok (.getfield 85, 3) := by decide +kernel
theorem dX8_nameLength_12 : decode cX8_nameLength 12 = .ok (.getfield 127, 3) := by decide +kernel
theorem dX8_nameLength_15 : decode cX8_nameLength 15 = .ok (.iload_n 1, 1) := by decide +kernel
theorem dX8_nameLength_16 : decode cX8_nameLength 16 = .ok (.iaload, 1) := by decide +kernel
theorem dX8_nameLength_17 : decode cX8_nameLength 17 = .ok (.ireturn, 1) := by decide +kernel
theorem dX8_nameByte_0 : decode cX8_nameByte 0 = .ok (.aload_n 0, 1) := by decide +kernel
theorem dX8_nameByte_1 : decode cX8_nameByte 1 = .ok (.iload_n 1, 1) := by decide +kernel
theorem dX8_nameByte_2 : decode cX8_nameByte 2 = .ok (.invokevirtual 124, 3) := by decide +kernel
theorem dX8_nameByte_5 : decode cX8_nameByte 5 = .ok (.iload_n 2, 1) := by decide +kernel
theorem dX8_nameByte_6 : decode cX8_nameByte 6 = .ok (.ifCond .lt 19, 3) := by decide +kernel
theorem dX8_nameByte_9 : decode cX8_nameByte 9 = .ok (.iload_n 2, 1) := by decide +kernel
theorem dX8_nameByte_10 : decode cX8_nameByte 10 = .ok (.aload_n 0, 1) := by decide +kernel
theorem dX8_nameByte_11 : decode cX8_nameByte 11 = .ok (.getfield 31, 3) := by decide +kernel
theorem dX8_nameByte_14 : decode cX8_nameByte 14 = .ok (.getfield 85, 3) := by decide +kernel
theorem dX8_nameByte_17 : decode cX8_nameByte 17 = .ok (.getfield 127, 3) := by decide +kernel
theorem dX8_nameByte_20 : decode cX8_nameByte 20 = .ok (.iload_n 1, 1) := by decide +kernel
theorem dX8_nameByte_21 : decode cX8_nameByte 21 = .ok (.iaload, 1) := by decide +kernel
theorem dX8_nameByte_22 : decode cX8_nameByte 22 = .ok (.if_icmp .lt 13, 3) := by decide +kernel
theorem dX8_nameByte_25 : decode cX8_nameByte 25 = .ok (.new 131, 3) := by decide +kernel
theorem dX8_nameByte_28 : decode cX8_nameByte 28 = .ok (.dup, 1) := by decide +kernel
theorem dX8_nameByte_29 : decode cX8_nameByte 29 = .ok (.ldc 133, 2) := by decide +kernel
theorem dX8_nameByte_31 : decode cX8_nameByte 31 = .ok (.invokespecial 135, 3) := by decide +kernel
theorem dX8_nameByte_34 : decode cX8_nameByte 34 = .ok (.athrow, 1) := by decide +kernel
theorem dX8_nameByte_35 : decode cX8_nameByte 35 = .ok (.aload_n 0, 1) := by decide +kernel
theorem dX8_nameByte_36 : decode cX8_nameByte 36 = .ok (.getfield 31, 3) := by decide +kernel
theorem dX8_nameByte_39 : decode cX8_nameByte 39 = .ok (.getfield 85, 3) := by decide +kernel
theorem dX8_nameByte_42 : decode cX8_nameByte 42 = .ok (.iload_n 1, 1) := by decide +kernel
theorem dX8_nameByte_43 : decode cX8_nameByte 43 = .ok (.iload_n 2, 1) := by decide +kernel
theorem dX8_nameByte_44 : decode cX8_nameByte 44 = .ok (.invokevirtual 136, 3) := by decide +kernel
theorem dX8_nameByte_47 : decode cX8_nameByte 47 = .ok (.ireturn, 1) := by decide +kernel
theorem dX8_guestOfInput_0 : decode cX8_guestOfInput 0 = .ok (.aload_n 0, 1) := by decide +kernel
theorem dX8_guestOfInput_1 : decode cX8_guestOfInput 1 = .ok (.getfield 31, 3) := by decide +kernel
theorem dX8_guestOfInput_4 : decode cX8_guestOfInput 4 = .ok (.getfield 85, 3) := by decide +kernel
theorem dX8_guestOfInput_7 : decode cX8_guestOfInput 7 = .ok (.aload_n 0, 1) := by decide +kernel
theorem dX8_guestOfInput_8 : decode cX8_guestOfInput 8 = .ok (.getfield 10, 3) := by decide +kernel
theorem dX8_guestOfInput_11 : decode cX8_guestOfInput 11 = .ok (.iconst 0, 1) := by decide +kernel
theorem dX8_guestOfInput_12 : decode cX8_guestOfInput 12 = .ok (.aload_n 0, 1) := by decide +kernel
theorem dX8_guestOfInput_13 : decode cX8_guestOfInput 13 = .ok (.getfield 10, 3) := by decide +kernel
theorem dX8_guestOfInput_16 : decode cX8_guestOfInput 16 = .ok (.getfield 65, 3) := by decide +kernel
theorem dX8_guestOfInput_19 : decode cX8_guestOfInput 19 = .ok (.invokevirtual 140, 3) := by decide +kernel
theorem dX8_guestOfInput_22 : decode cX8_guestOfInput 22 = .ok (.istore_n 1, 1) := by decide +kernel
theorem dX8_guestOfInput_23 : decode cX8_guestOfInput 23 = .ok (.iload_n 1, 1) := by decide +kernel
theorem dX8_guestOfInput_24 : decode cX8_guestOfInput 24 = .ok (.iconst (-1), 1) := by decide +kernel
theorem dX8_guestOfInput_25 : decode cX8_guestOfInput 25 = .ok (.if_icmp .ne 13, 3) := by decide +kernel
theorem dX8_guestOfInput_28 : decode cX8_guestOfInput 28 = .ok (.new 94, 3) := by decide +kernel
theorem dX8_guestOfInput_31 : decode cX8_guestOfInput 31 = .ok (.dup, 1) := by decide +kernel
theorem dX8_guestOfInput_32 : decode cX8_guestOfInput 32 = .ok (.ldc 144, 2) := by decide +kernel
theorem dX8_guestOfInput_34 : decode cX8_guestOfInput 34 = .ok (.invokespecial 98, 3) := by decide +kernel
theorem dX8_guestOfInput_37 : decode cX8_guestOfInput 37 = .ok (.athrow, 1) := by decide +kernel
theorem dX8_guestOfInput_38 : decode cX8_guestOfInput 38 = .ok (.iload_n 1, 1) := by decide +kernel
theorem dX8_guestOfInput_39 : decode cX8_guestOfInput 39 = .ok (.ireturn, 1) := by decide +kernel
theorem dX8_generosity_0 : decode cX8_generosity 0 = .ok (.aload_n 0, 1) := by decide +kernel
theorem dX8_generosity_1 : decode cX8_generosity 1 = .ok (.iload_n 1, 1) := by decide +kernel
theorem dX8_generosity_2 : decode cX8_generosity 2 = .ok (.invokevirtual 124, 3) := by decide +kernel
theorem dX8_generosity_5 : decode cX8_generosity 5 = .ok (.aload_n 0, 1) := by decide +kernel
theorem dX8_generosity_6 : decode cX8_generosity 6 = .ok (.getfield 31, 3) := by decide +kernel
theorem dX8_generosity_9 : decode cX8_generosity 9 = .ok (.getfield 85, 3) := by decide +kernel
theorem dX8_generosity_12 : decode cX8_generosity 12 = .ok (.getfield 146, 3) := by decide +kernel
theorem dX8_generosity_15 : decode cX8_generosity 15 = .ok (.iload_n 1, 1) := by decide +kernel
theorem dX8_generosity_16 : decode cX8_generosity 16 = .ok (.iaload, 1) := by decide +kernel
theorem dX8_generosity_17 : decode cX8_generosity 17 = .ok (.ireturn, 1) := by decide +kernel
theorem dX8_bark_0 : decode cX8_bark 0 = .ok (.aload_n 0, 1) := by decide +kernel
theorem dX8_bark_1 : decode cX8_bark 1 = .ok (.iload_n 1, 1) := by decide +kernel
theorem dX8_bark_2 : decode cX8_bark 2 = .ok (.invokevirtual 124, 3) := by decide +kernel
theorem dX8_bark_5 : decode cX8_bark 5 = .ok (.aload_n 0, 1) := by decide +kernel
theorem dX8_bark_6 : decode cX8_bark 6 = .ok (.getfield 31, 3) := by decide +kernel
theorem dX8_bark_9 : decode cX8_bark 9 = .ok (.getfield 85, 3) := by decide +kernel
theorem dX8_bark_12 : decode cX8_bark 12 = .ok (.getfield 149, 3) := by decide +kernel
theorem dX8_bark_15 : decode cX8_bark 15 = .ok (.iload_n 1, 1) := by decide +kernel
theorem dX8_bark_16 : decode cX8_bark 16 = .ok (.iaload, 1) := by decide +kernel
theorem dX8_bark_17 : decode cX8_bark 17 = .ok (.ireturn, 1) := by decide +kernel
theorem dX8_isOut_0 : decode cX8_isOut 0 = .ok (.aload_n 0, 1) := by decide +kernel
theorem dX8_isOut_1 : decode cX8_isOut 1 = .ok (.iload_n 1, 1) := by decide +kernel
theorem dX8_isOut_2 : decode cX8_isOut 2 = .ok (.invokevirtual 124, 3) := by decide +kernel
theorem dX8_isOut_5 : decode cX8_isOut 5 = .ok (.aload_n 0, 1) := by decide +kernel
theorem dX8_isOut_6 : decode cX8_isOut 6 = .ok (.getfield 31, 3) := by decide +kernel
theorem dX8_isOut_9 : decode cX8_isOut 9 = .ok (.getfield 85, 3) := by decide +kernel
theorem dX8_isOut_12 : decode cX8_isOut 12 = .ok (.iload_n 1, 1) := by decide +kernel
theorem dX8_isOut_13 : decode cX8_isOut 13 = .ok (.invokevirtual 152, 3) := by decide +kernel
theorem dX8_isOut_16 : decode cX8_isOut 16 = .ok (.ireturn, 1) := by decide +kernel
theorem dX8_outSince_0 : decode cX8_outSince 0 = .ok (.aload_n 0, 1) := by decide +kernel
theorem dX8_outSince_1 : decode cX8_outSince 1 = .ok (.iload_n 1, 1) := by decide +kernel
theorem dX8_outSince_2 : decode cX8_outSince 2 = .ok (.invokevirtual 124, 3) := by decide +kernel
theorem dX8_outSince_5 : decode cX8_outSince 5 = .ok (.aload_n 0, 1) := by decide +kernel
theorem dX8_outSince_6 : decode cX8_outSince 6 = .ok (.getfield 31, 3) := by decide +kernel
theorem dX8_outSince_9 : decode cX8_outSince 9 = .ok (.getfield 85, 3) := by decide +kernel
theorem dX8_outSince_12 : decode cX8_outSince 12 = .ok (.iload_n 1, 1) := by decide +kernel
theorem dX8_outSince_13 : decode cX8_outSince 13 = .ok (.invokevirtual 152, 3) := by decide +kernel
theorem dX8_outSince_16 : decode cX8_outSince 16 = .ok (.ifCond .ne 13, 3) := by decide +kernel
theorem dX8_outSince_19 : decode cX8_outSince 19 = .ok (.new 94, 3) := by decide +kernel
theorem dX8_outSince_22 : decode cX8_outSince 22 = .ok (.dup, 1) := by decide +kernel
theorem dX8_outSince_23 : decode cX8_outSince 23 = .ok (.ldc 156, 2) := by decide +kernel
theorem dX8_outSince_25 : decode cX8_outSince 25 = .ok (.invokespecial 98, 3) := by decide +kernel
theorem dX8_outSince_28 : decode cX8_outSince 28 = .ok (.athrow, 1) := by decide +kernel
theorem dX8_outSince_29 : decode cX8_outSince 29 = .ok (.aload_n 0, 1) := by decide +kernel
theorem dX8_outSince_30 : decode cX8_outSince 30 = .ok (.getfield 31, 3) := by decide +kernel
theorem dX8_outSince_33 : decode cX8_outSince 33 = .ok (.getfield 85, 3) := by decide +kernel
theorem dX8_outSince_36 : decode cX8_outSince 36 = .ok (.getfield 158, 3) := by decide +kernel
theorem dX8_outSince_39 : decode cX8_outSince 39 = .ok (.iload_n 1, 1) := by decide +kernel
theorem dX8_outSince_40 : decode cX8_outSince 40 = .ok (.iaload, 1) := by decide +kernel
theorem dX8_outSince_41 : decode cX8_outSince 41 = .ok (.ireturn, 1) := by decide +kernel
theorem dX8_soak_0 : decode cX8_soak 0 = .ok (.aload_n 0, 1) := by decide +kernel
theorem dX8_soak_1 : decode cX8_soak 1 = .ok (.iload_n 1, 1) := by decide +kernel
theorem dX8_soak_2 : decode cX8_soak 2 = .ok (.invokevirtual 124, 3) := by decide +kernel
theorem dX8_soak_5 : decode cX8_soak 5 = .ok (.aload_n 0, 1) := by decide +kernel
theorem dX8_soak_6 : decode cX8_soak 6 = .ok (.getfield 31, 3) := by decide +kernel
theorem dX8_soak_9 : decode cX8_soak 9 = .ok (.getfield 85, 3) := by decide +kernel
theorem dX8_soak_12 : decode cX8_soak 12 = .ok (.getfield 161, 3) := by decide +kernel
theorem dX8_soak_15 : decode cX8_soak 15 = .ok (.iload_n 1, 1) := by decide +kernel
theorem dX8_soak_16 : decode cX8_soak 16 = .ok (.iaload, 1) := by decide +kernel
theorem dX8_soak_17 : decode cX8_soak 17 = .ok (.ireturn, 1) := by decide +kernel
theorem dX8_keysAtDesk_0 : decode cX8_keysAtDesk 0 = .ok (.aload_n 0, 1) := by decide +kernel
theorem dX8_keysAtDesk_1 : decode cX8_keysAtDesk 1 = .ok (.getfield 31, 3) := by decide +kernel
theorem dX8_keysAtDesk_4 : decode cX8_keysAtDesk 4 = .ok (.getfield 85, 3) := by decide +kernel
theorem dX8_keysAtDesk_7 : decode cX8_keysAtDesk 7 = .ok (.invokevirtual 164, 3) := by decide +kernel
theorem dX8_keysAtDesk_10 : decode cX8_keysAtDesk 10 = .ok (.ireturn, 1) := by decide +kernel
theorem dX8_wouldBark_0 : decode cX8_wouldBark 0 = .ok (.aload_n 0, 1) := by decide +kernel
theorem dX8_wouldBark_1 : decode cX8_wouldBark 1 = .ok (.iload_n 1, 1) := by decide +kernel
theorem dX8_wouldBark_2 : decode cX8_wouldBark 2 = .ok (.invokevirtual 124, 3) := by decide +kernel
theorem dX8_wouldBark_5 : decode cX8_wouldBark 5 = .ok (.aload_n 0, 1) := by decide +kernel
theorem dX8_wouldBark_6 : decode cX8_wouldBark 6 = .ok (.getfield 31, 3) := by decide +kernel
theorem dX8_wouldBark_9 : decode cX8_wouldBark 9 = .ok (.getfield 85, 3) := by decide +kernel
theorem dX8_wouldBark_12 : decode cX8_wouldBark 12 = .ok (.iload_n 1, 1) := by decide +kernel
theorem dX8_wouldBark_13 : decode cX8_wouldBark 13 = .ok (.aload_n 0, 1) := by decide +kernel
theorem dX8_wouldBark_14 : decode cX8_wouldBark 14 = .ok (.getfield 31, 3) := by decide +kernel
theorem dX8_wouldBark_17 : decode cX8_wouldBark 17 = .ok (.getfield 99, 3) := by decide +kernel
theorem dX8_wouldBark_20 : decode cX8_wouldBark 20 = .ok (.iconst 1, 1) := by decide +kernel
theorem dX8_wouldBark_21 : decode cX8_wouldBark 21 = .ok (.iadd, 1) := by decide +kernel
theorem dX8_wouldBark_22 : decode cX8_wouldBark 22 = .ok (.invokevirtual 167, 3) := by decide +kernel
theorem dX8_wouldBark_25 : decode cX8_wouldBark 25 = .ok (.ireturn, 1) := by decide +kernel
theorem dX8_umbrellaCount_0 : decode cX8_umbrellaCount 0 = .ok (.aload_n 0, 1) := by decide +kernel
theorem dX8_umbrellaCount_1 : decode cX8_umbrellaCount 1 = .ok (.getfield 31, 3) := by decide +kernel
theorem dX8_umbrellaCount_4 : decode cX8_umbrellaCount 4 = .ok (.getfield 171, 3) := by decide +kernel
theorem dX8_umbrellaCount_7 : decode cX8_umbrellaCount 7 = .ok (.getfield 175, 3) := by decide +kernel
theorem dX8_umbrellaCount_10 : decode cX8_umbrellaCount 10 = .ok (.ireturn, 1) := by decide +kernel
theorem dX8_ownerOf_0 : decode cX8_ownerOf 0 = .ok (.aload_n 0, 1) := by decide +kernel
theorem dX8_ownerOf_1 : decode cX8_ownerOf 1 = .ok (.iload_n 1, 1) := by decide +kernel
theorem dX8_ownerOf_2 : decode cX8_ownerOf 2 = .ok (.invokevirtual 178, 3) := by decide +kernel
theorem dX8_ownerOf_5 : decode cX8_ownerOf 5 = .ok (.aload_n 0, 1) := by decide +kernel
theorem dX8_ownerOf_6 : decode cX8_ownerOf 6 = .ok (.getfield 31, 3) := by decide +kernel
theorem dX8_ownerOf_9 : decode cX8_ownerOf 9 = .ok (.getfield 171, 3) := by decide +kernel
theorem dX8_ownerOf_12 : decode cX8_ownerOf 12 = .ok (.getfield 181, 3) := by decide +kernel
theorem dX8_ownerOf_15 : decode cX8_ownerOf 15 = .ok (.iload_n 1, 1) := by decide +kernel
theorem dX8_ownerOf_16 : decode cX8_ownerOf 16 = .ok (.iaload, 1) := by decide +kernel
theorem dX8_ownerOf_17 : decode cX8_ownerOf 17 = .ok (.ireturn, 1) := by decide +kernel
theorem dX8_wetness_0 : decode cX8_wetness 0 = .ok (.aload_n 0, 1) := by decide +kernel
theorem dX8_wetness_1 : decode cX8_wetness 1 = .ok (.iload_n 1, 1) := by decide +kernel
theorem dX8_wetness_2 : decode cX8_wetness 2 = .ok (.invokevirtual 178, 3) := by decide +kernel
theorem dX8_wetness_5 : decode cX8_wetness 5 = .ok (.aload_n 0, 1) := by decide +kernel
theorem dX8_wetness_6 : decode cX8_wetness 6 = .ok (.getfield 31, 3) := by decide +kernel
theorem dX8_wetness_9 : decode cX8_wetness 9 = .ok (.getfield 171, 3) := by decide +kernel
theorem dX8_wetness_12 : decode cX8_wetness 12 = .ok (.getfield 184, 3) := by decide +kernel
theorem dX8_wetness_15 : decode cX8_wetness 15 = .ok (.iload_n 1, 1) := by decide +kernel
theorem dX8_wetness_16 : decode cX8_wetness 16 = .ok (.iaload, 1) := by decide +kernel
theorem dX8_wetness_17 : decode cX8_wetness 17 = .ok (.ireturn, 1) := by decide +kernel
theorem dX8_isInStand_0 : decode cX8_isInStand 0 = .ok (.aload_n 0, 1) := by decide +kernel
theorem dX8_isInStand_1 : decode cX8_isInStand 1 = .ok (.iload_n 1, 1) := by decide +kernel
theorem dX8_isInStand_2 : decode cX8_isInStand 2 = .ok (.invokevirtual 178, 3) := by decide +kernel
theorem dX8_isInStand_5 : decode cX8_isInStand 5 = .ok (.aload_n 0, 1) := by decide +kernel
theorem dX8_isInStand_6 : decode cX8_isInStand 6 = .ok (.getfield 31, 3) := by decide +kernel
theorem dX8_isInStand_9 : decode cX8_isInStand 9 = .ok (.getfield 171, 3) := by decide +kernel
theorem dX8_isInStand_12 : decode cX8_isInStand 12 = .ok (.iload_n 1, 1) := by decide +kernel
theorem dX8_isInStand_13 : decode cX8_isInStand 13 = .ok (.invokevirtual 187, 3) := by decide +kernel
theorem dX8_isInStand_16 : decode cX8_isInStand 16 = .ok (.ireturn, 1) := by decide +kernel
theorem dX8_isUsable_0 : decode cX8_isUsable 0 = .ok (.aload_n 0, 1) := by decide +kernel
theorem dX8_isUsable_1 : decode cX8_isUsable 1 = .ok (.iload_n 1, 1) := by decide +kernel
theorem dX8_isUsable_2 : decode cX8_isUsable 2 = .ok (.invokevirtual 178, 3) := by decide +kernel
theorem dX8_isUsable_5 : decode cX8_isUsable 5 = .ok (.aload_n 0, 1) := by decide +kernel
theorem dX8_isUsable_6 : decode cX8_isUsable 6 = .ok (.getfield 31, 3) := by decide +kernel
theorem dX8_isUsable_9 : decode cX8_isUsable 9 = .ok (.getfield 171, 3) := by decide +kernel
theorem dX8_isUsable_12 : decode cX8_isUsable 12 = .ok (.iload_n 1, 1) := by decide +kernel
theorem dX8_isUsable_13 : decode cX8_isUsable 13 = .ok (.invokevirtual 190, 3) := by decide +kernel
theorem dX8_isUsable_16 : decode cX8_isUsable 16 = .ok (.ireturn, 1) := by decide +kernel
theorem dX8_carrierOf_0 : decode cX8_carrierOf 0 = .ok (.aload_n 0, 1) := by decide +kernel
theorem dX8_carrierOf_1 : decode cX8_carrierOf 1 = .ok (.iload_n 1, 1) := by decide +kernel
theorem dX8_carrierOf_2 : decode cX8_carrierOf 2 = .ok (.invokevirtual 178, 3) := by decide +kernel
theorem dX8_carrierOf_5 : decode cX8_carrierOf 5 = .ok (.aload_n 0, 1) := by decide +kernel
theorem dX8_carrierOf_6 : decode cX8_carrierOf 6 = .ok (.getfield 31, 3) := by decide +kernel
theorem dX8_carrierOf_9 : decode cX8_carrierOf 9 = .ok (.getfield 171, 3) := by decide +kernel
theorem dX8_carrierOf_12 : decode cX8_carrierOf 12 = .ok (.iload_n 1, 1) := by decide +kernel
theorem dX8_carrierOf_13 : decode cX8_carrierOf 13 = .ok (.invokevirtual 187, 3) := by decide +kernel
theorem dX8_carrierOf_16 : decode cX8_carrierOf 16 = .ok (.ifCond .eq 13, 3) := by decide +kernel
theorem dX8_carrierOf_19 : decode cX8_carrierOf 19 = .ok (.new 94, 3) := by decide +kernel
theorem dX8_carrierOf_22 : decode cX8_carrierOf 22 = .ok (.dup, 1) := by decide +kernel
theorem dX8_carrierOf_23 : decode cX8_carrierOf 23 = .ok (.ldc 193, 2) := by decide +kernel
theorem dX8_carrierOf_25 : decode cX8_carrierOf 25 = .ok (.invokespecial 98, 3) := by decide +kernel
theorem dX8_carrierOf_28 : decode cX8_carrierOf 28 = .ok (.athrow, 1) := by decide +kernel
theorem dX8_carrierOf_29 : decode cX8_carrierOf 29 = .ok (.aload_n 0, 1) := by decide +kernel
theorem dX8_carrierOf_30 : decode cX8_carrierOf 30 = .ok (.getfield 31, 3) := by decide +kernel
theorem dX8_carrierOf_33 : decode cX8_carrierOf 33 = .ok (.getfield 171, 3) := by decide +kernel
theorem dX8_carrierOf_36 : decode cX8_carrierOf 36 = .ok (.getfield 195, 3) := by decide +kernel
theorem dX8_carrierOf_39 : decode cX8_carrierOf 39 = .ok (.iload_n 1, 1) := by decide +kernel
theorem dX8_carrierOf_40 : decode cX8_carrierOf 40 = .ok (.iaload, 1) := by decide +kernel
theorem dX8_carrierOf_41 : decode cX8_carrierOf 41 = .ok (.ireturn, 1) := by decide +kernel
theorem dX8_umbrellaOf_0 : decode cX8_umbrellaOf 0 = .ok (.aload_n 0, 1) := by decide +kernel
theorem dX8_umbrellaOf_1 : decode cX8_umbrellaOf 1 = .ok (.iload_n 1, 1) := by decide +kernel
theorem dX8_umbrellaOf_2 : decode cX8_umbrellaOf 2 = .ok (.invokevirtual 124, 3) := by decide +kernel
theorem dX8_umbrellaOf_5 : decode cX8_umbrellaOf 5 = .ok (.aload_n 0, 1) := by decide +kernel
theorem dX8_umbrellaOf_6 : decode cX8_umbrellaOf 6 = .ok (.getfield 31, 3) := by decide +kernel
theorem dX8_umbrellaOf_9 : decode cX8_umbrellaOf 9 = .ok (.getfield 171, 3) := by decide +kernel
theorem dX8_umbrellaOf_12 : decode cX8_umbrellaOf 12 = .ok (.iload_n 1, 1) := by decide +kernel
theorem dX8_umbrellaOf_13 : decode cX8_umbrellaOf 13 = .ok (.invokevirtual 198, 3) := by decide +kernel
theorem dX8_umbrellaOf_16 : decode cX8_umbrellaOf 16 = .ok (.istore_n 2, 1) := by decide +kernel
theorem dX8_umbrellaOf_17 : decode cX8_umbrellaOf 17 = .ok (.iload_n 2, 1) := by decide +kernel
theorem dX8_umbrellaOf_18 : decode cX8_umbrellaOf 18 = .ok (.iconst (-1), 1) := by decide +kernel
theorem dX8_umbrellaOf_19 : decode cX8_umbrellaOf 19 = .ok (.if_icmp .ne 13, 3) := by decide +kernel
theorem dX8_umbrellaOf_22 : decode cX8_umbrellaOf 22 = .ok (.new 94, 3) := by decide +kernel
theorem dX8_umbrellaOf_25 : decode cX8_umbrellaOf 25 = .ok (.dup, 1) := by decide +kernel
theorem dX8_umbrellaOf_26 : decode cX8_umbrellaOf 26 = .ok (.ldc 202, 2) := by decide +kernel
theorem dX8_umbrellaOf_28 : decode cX8_umbrellaOf 28 = .ok (.invokespecial 98, 3) := by decide +kernel
theorem dX8_umbrellaOf_31 : decode cX8_umbrellaOf 31 = .ok (.athrow, 1) := by decide +kernel
theorem dX8_umbrellaOf_32 : decode cX8_umbrellaOf 32 = .ok (.iload_n 2, 1) := by decide +kernel
theorem dX8_umbrellaOf_33 : decode cX8_umbrellaOf 33 = .ok (.ireturn, 1) := by decide +kernel
theorem dX8_standCount_0 : decode cX8_standCount 0 = .ok (.aload_n 0, 1) := by decide +kernel
theorem dX8_standCount_1 : decode cX8_standCount 1 = .ok (.getfield 31, 3) := by decide +kernel
theorem dX8_standCount_4 : decode cX8_standCount 4 = .ok (.getfield 171, 3) := by decide +kernel
theorem dX8_standCount_7 : decode cX8_standCount 7 = .ok (.invokevirtual 204, 3) := by decide +kernel
theorem dX8_standCount_10 : decode cX8_standCount 10 = .ok (.ireturn, 1) := by decide +kernel
theorem dX8_borrowedCount_0 : decode cX8_borrowedCount 0 = .ok (.aload_n 0, 1) := by decide +kernel
theorem dX8_borrowedCount_1 : decode cX8_borrowedCount 1 = .ok (.getfield 31, 3) := by decide +kernel
theorem dX8_borrowedCount_4 : decode cX8_borrowedCount 4 = .ok (.getfield 171, 3) := by decide +kernel
theorem dX8_borrowedCount_7 : decode cX8_borrowedCount 7 = .ok (.invokevirtual 207, 3) := by decide +kernel
theorem dX8_borrowedCount_10 : decode cX8_borrowedCount 10 = .ok (.ireturn, 1) := by decide +kernel
theorem dX8_entryCount_0 : decode cX8_entryCount 0 = .ok (.aload_n 0, 1) := by decide +kernel
theorem dX8_entryCount_1 : decode cX8_entryCount 1 = .ok (.getfield 31, 3) := by decide +kernel
theorem dX8_entryCount_4 : decode cX8_entryCount 4 = .ok (.getfield 210, 3) := by decide +kernel
theorem dX8_entryCount_7 : decode cX8_entryCount 7 = .ok (.getfield 214, 3) := by decide +kernel
theorem dX8_entryCount_10 : decode cX8_entryCount 10 = .ok (.ireturn, 1) := by decide +kernel
theorem dX8_entryMinute_0 : decode cX8_entryMinute 0 = .ok (.aload_n 0, 1) := by decide +kernel
theorem dX8_entryMinute_1 : decode cX8_entryMinute 1 = .ok (.iload_n 1, 1) := by decide +kernel
theorem dX8_entryMinute_2 : decode cX8_entryMinute 2 = .ok (.invokevirtual 217, 3) := by decide +kernel
theorem dX8_entryMinute_5 : decode cX8_entryMinute 5 = .ok (.aload_n 0, 1) := by decide +kernel
theorem dX8_entryMinute_6 : decode cX8_entryMinute 6 = .ok (.getfield 31, 3) := by decide +kernel
theorem dX8_entryMinute_9 : decode cX8_entryMinute 9 = .ok (.getfield 210, 3) := by decide +kernel
theorem dX8_entryMinute_12 : decode cX8_entryMinute 12 = .ok (.getfield 220, 3) := by decide +kernel
theorem dX8_entryMinute_15 : decode cX8_entryMinute 15 = .ok (.iload_n 1, 1) := by decide +kernel
theorem dX8_entryMinute_16 : decode cX8_entryMinute 16 = .ok (.iaload, 1) := by decide +kernel
theorem dX8_entryMinute_17 : decode cX8_entryMinute 17 = .ok (.ireturn, 1) := by decide +kernel
theorem dX8_entryGuest_0 : decode cX8_entryGuest 0 = .ok (.aload_n 0, 1) := by decide +kernel
theorem dX8_entryGuest_1 : decode cX8_entryGuest 1 = .ok (.iload_n 1, 1) := by decide +kernel
theorem dX8_entryGuest_2 : decode cX8_entryGuest 2 = .ok (.invokevirtual 217, 3) := by decide +kernel
theorem dX8_entryGuest_5 : decode cX8_entryGuest 5 = .ok (.aload_n 0, 1) := by decide +kernel
theorem dX8_entryGuest_6 : decode cX8_entryGuest 6 = .ok (.getfield 31, 3) := by decide +kernel
theorem dX8_entryGuest_9 : decode cX8_entryGuest 9 = .ok (.getfield 210, 3) := by decide +kernel
theorem dX8_entryGuest_12 : decode cX8_entryGuest 12 = .ok (.getfield 223, 3) := by decide +kernel
theorem dX8_entryGuest_15 : decode cX8_entryGuest 15 = .ok (.iload_n 1, 1) := by decide +kernel
theorem dX8_entryGuest_16 : decode cX8_entryGuest 16 = .ok (.iaload, 1) := by decide +kernel
theorem dX8_entryGuest_17 : decode cX8_entryGuest 17 = .ok (.ireturn, 1) := by decide +kernel
theorem dX8_isLeaving_0 : decode cX8_isLeaving 0 = .ok (.aload_n 0, 1) := by decide +kernel
theorem dX8_isLeaving_1 : decode cX8_isLeaving 1 = .ok (.iload_n 1, 1) := by decide +kernel
theorem dX8_isLeaving_2 : decode cX8_isLeaving 2 = .ok (.invokevirtual 217, 3) := by decide +kernel
theorem dX8_isLeaving_5 : decode cX8_isLeaving 5 = .ok (.aload_n 0, 1) := by decide +kernel
theorem dX8_isLeaving_6 : decode cX8_isLeaving 6 = .ok (.getfield 31, 3) := by decide +kernel
theorem dX8_isLeaving_9 : decode cX8_isLeaving 9 = .ok (.getfield 210, 3) := by decide +kernel
theorem dX8_isLeaving_12 : decode cX8_isLeaving 12 = .ok (.getfield 225, 3) := by decide +kernel
theorem dX8_isLeaving_15 : decode cX8_isLeaving 15 = .ok (.iload_n 1, 1) := by decide +kernel
theorem dX8_isLeaving_16 : decode cX8_isLeaving 16 = .ok (.iaload, 1) := by decide +kernel
theorem dX8_isLeaving_17 : decode cX8_isLeaving 17 = .ok (.bipush 45, 2) := by decide +kernel
theorem dX8_isLeaving_19 : decode cX8_isLeaving 19 = .ok (.if_icmp .ne 7, 3) := by decide +kernel
theorem dX8_isLeaving_22 : decode cX8_isLeaving 22 = .ok (.iconst 1, 1) := by decide +kernel
theorem dX8_isLeaving_23 : decode cX8_isLeaving 23 = .ok (.goto 4, 3) := by decide +kernel
theorem dX8_isLeaving_26 : decode cX8_isLeaving 26 = .ok (.iconst 0, 1) := by decide +kernel
theorem dX8_isLeaving_27 : decode cX8_isLeaving 27 = .ok (.ireturn, 1) := by decide +kernel
theorem dX8_wasOut_0 : decode cX8_wasOut 0 = .ok (.aload_n 0, 1) := by decide +kernel
theorem dX8_wasOut_1 : decode cX8_wasOut 1 = .ok (.iload_n 1, 1) := by decide +kernel
theorem dX8_wasOut_2 : decode cX8_wasOut 2 = .ok (.invokevirtual 124, 3) := by decide +kernel
theorem dX8_wasOut_5 : decode cX8_wasOut 5 = .ok (.aload_n 0, 1) := by decide +kernel
theorem dX8_wasOut_6 : decode cX8_wasOut 6 = .ok (.iload_n 2, 1) := by decide +kernel
theorem dX8_wasOut_7 : decode cX8_wasOut 7 = .ok (.iload_n 2, 1) := by decide +kernel
theorem dX8_wasOut_8 : decode cX8_wasOut 8 = .ok (.invokevirtual 228, 3) := by decide +kernel
theorem dX8_wasOut_11 : decode cX8_wasOut 11 = .ok (.aload_n 0, 1) := by decide +kernel
theorem dX8_wasOut_12 : decode cX8_wasOut 12 = .ok (.getfield 31, 3) := by decide +kernel
theorem dX8_wasOut_15 : decode cX8_wasOut 15 = .ok (.getfield 210, 3) := by decide +kernel
theorem dX8_wasOut_18 : decode cX8_wasOut 18 = .ok (.iload_n 1, 1) := by decide +kernel
theorem dX8_wasOut_19 : decode cX8_wasOut 19 = .ok (.iload_n 2, 1) := by decide +kernel
theorem dX8_wasOut_20 : decode cX8_wasOut 20 = .ok (.iload_n 2, 1) := by decide +kernel
theorem dX8_wasOut_21 : decode cX8_wasOut 21 = .ok (.invokevirtual 232, 3) := by decide +kernel
theorem dX8_wasOut_24 : decode cX8_wasOut 24 = .ok (.ifCond .ne 7, 3) := by decide +kernel
theorem dX8_wasOut_27 : decode cX8_wasOut 27 = .ok (.iconst 1, 1) := by decide +kernel
theorem dX8_wasOut_28 : decode cX8_wasOut 28 = .ok (.goto 4, 3) := by decide +kernel
theorem dX8_wasOut_31 : decode cX8_wasOut 31 = .ok (.iconst 0, 1) := by decide +kernel
theorem dX8_wasOut_32 : decode cX8_wasOut 32 = .ok (.ireturn, 1) := by decide +kernel
theorem dX8_hasAlibi_0 : decode cX8_hasAlibi 0 = .ok (.aload_n 0, 1) := by decide +kernel
theorem dX8_hasAlibi_1 : decode cX8_hasAlibi 1 = .ok (.iload_n 1, 1) := by decide +kernel
theorem dX8_hasAlibi_2 : decode cX8_hasAlibi 2 = .ok (.invokevirtual 124, 3) := by decide +kernel
theorem dX8_hasAlibi_5 : decode cX8_hasAlibi 5 = .ok (.aload_n 0, 1) := by decide +kernel
theorem dX8_hasAlibi_6 : decode cX8_hasAlibi 6 = .ok (.iload_n 2, 1) := by decide +kernel
theorem dX8_hasAlibi_7 : decode cX8_hasAlibi 7 = .ok (.iload_n 3, 1) := by decide +kernel
theorem dX8_hasAlibi_8 : decode cX8_hasAlibi 8 = .ok (.invokevirtual 228, 3) := by decide +kernel
theorem dX8_hasAlibi_11 : decode cX8_hasAlibi 11 = .ok (.aload_n 0, 1) := by decide +kernel
theorem dX8_hasAlibi_12 : decode cX8_hasAlibi 12 = .ok (.getfield 31, 3) := by decide +kernel
theorem dX8_hasAlibi_15 : decode cX8_hasAlibi 15 = .ok (.getfield 210, 3) := by decide +kernel
theorem dX8_hasAlibi_18 : decode cX8_hasAlibi 18 = .ok (.iload_n 1, 1) := by decide +kernel
theorem dX8_hasAlibi_19 : decode cX8_hasAlibi 19 = .ok (.iload_n 2, 1) := by decide +kernel
theorem dX8_hasAlibi_20 : decode cX8_hasAlibi 20 = .ok (.iload_n 3, 1) := by decide +kernel
theorem dX8_hasAlibi_21 : decode cX8_hasAlibi 21 = .ok (.invokevirtual 232, 3) := by decide +kernel
theorem dX8_hasAlibi_24 : decode cX8_hasAlibi 24 = .ok (.ireturn, 1) := by decide +kernel
theorem dX8_suspects_0 : decode cX8_suspects 0 = .ok (.aload_n 0, 1) := by decide +kernel
theorem dX8_suspects_1 : decode cX8_suspects 1 = .ok (.iload_n 1, 1) := by decide +kernel
theorem dX8_suspects_2 : decode cX8_suspects 2 = .ok (.iload_n 2, 1) := by decide +kernel
theorem dX8_suspects_3 : decode cX8_suspects 3 = .ok (.invokevirtual 228, 3) := by decide +kernel
theorem dX8_suspects_6 : decode cX8_suspects 6 = .ok (.aload_n 0, 1) := by decide +kernel
theorem dX8_suspects_7 : decode cX8_suspects 7 = .ok (.getfield 31, 3) := by decide +kernel
theorem dX8_suspects_10 : decode cX8_suspects 10 = .ok (.iload_n 1, 1) := by decide +kernel
theorem dX8_suspects_11 : decode cX8_suspects 11 = .ok (.iload_n 2, 1) := by decide +kernel
theorem dX8_suspects_12 : decode cX8_suspects 12 = .ok (.invokevirtual 236, 3) := by decide +kernel
theorem dX8_suspects_15 : decode cX8_suspects 15 = .ok (.ireturn, 1) := by decide +kernel
theorem dX8_culprit_0 : decode cX8_culprit 0 = .ok (.aload_n 0, 1) := by decide +kernel
theorem dX8_culprit_1 : decode cX8_culprit 1 = .ok (.iload_n 1, 1) := by decide +kernel
theorem dX8_culprit_2 : decode cX8_culprit 2 = .ok (.iload_n 2, 1) := by decide +kernel
theorem dX8_culprit_3 : decode cX8_culprit 3 = .ok (.invokevirtual 228, 3) := by decide +kernel
theorem dX8_culprit_6 : decode cX8_culprit 6 = .ok (.aload_n 0, 1) := by decide +kernel
theorem dX8_culprit_7 : decode cX8_culprit 7 = .ok (.getfield 31, 3) := by decide +kernel
theorem dX8_culprit_10 : decode cX8_culprit 10 = .ok (.iload_n 1, 1) := by decide +kernel
theorem dX8_culprit_11 : decode cX8_culprit 11 = .ok (.iload_n 2, 1) := by decide +kernel
theorem dX8_culprit_12 : decode cX8_culprit 12 = .ok (.invokevirtual 236, 3) := by decide +kernel
theorem dX8_culprit_15 : decode cX8_culprit 15 = .ok (.iconst 1, 1) := by decide +kernel
theorem dX8_culprit_16 : decode cX8_culprit 16 = .ok (.if_icmp .eq 13, 3) := by decide +kernel
theorem dX8_culprit_19 : decode cX8_culprit 19 = .ok (.new 94, 3) := by decide +kernel
theorem dX8_culprit_22 : decode cX8_culprit 22 = .ok (.dup, 1) := by decide +kernel
theorem dX8_culprit_23 : decode cX8_culprit 23 = .ok (.ldc 239, 2) := by decide +kernel
theorem dX8_culprit_25 : decode cX8_culprit 25 = .ok (.invokespecial 98, 3) := by decide +kernel
theorem dX8_culprit_28 : decode cX8_culprit 28 = .ok (.athrow, 1) := by decide +kernel
theorem dX8_culprit_29 : decode cX8_culprit 29 = .ok (.aload_n 0, 1) := by decide +kernel
theorem dX8_culprit_30 : decode cX8_culprit 30 = .ok (.getfield 31, 3) := by decide +kernel
theorem dX8_culprit_33 : decode cX8_culprit 33 = .ok (.iload_n 1, 1) := by decide +kernel
theorem dX8_culprit_34 : decode cX8_culprit 34 = .ok (.iload_n 2, 1) := by decide +kernel
theorem dX8_culprit_35 : decode cX8_culprit 35 = .ok (.invokevirtual 241, 3) := by decide +kernel
theorem dX8_culprit_38 : decode cX8_culprit 38 = .ok (.ireturn, 1) := by decide +kernel
theorem dX8_minutesOut_0 : decode cX8_minutesOut 0 = .ok (.aload_n 0, 1) := by decide +kernel
theorem dX8_minutesOut_1 : decode cX8_minutesOut 1 = .ok (.iload_n 1, 1) := by decide +kernel
theorem dX8_minutesOut_2 : decode cX8_minutesOut 2 = .ok (.invokevirtual 124, 3) := by decide +kernel
theorem dX8_minutesOut_5 : decode cX8_minutesOut 5 = .ok (.aload_n 0, 1) := by decide +kernel
theorem dX8_minutesOut_6 : decode cX8_minutesOut 6 = .ok (.getfield 31, 3) := by decide +kernel
theorem dX8_minutesOut_9 : decode cX8_minutesOut 9 = .ok (.iload_n 1, 1) := by decide +kernel
theorem dX8_minutesOut_10 : decode cX8_minutesOut 10 = .ok (.iload_n 1, 1) := by decide +kernel
theorem dX8_minutesOut_11 : decode cX8_minutesOut 11 = .ok (.invokevirtual 244, 3) := by decide +kernel
theorem dX8_minutesOut_14 : decode cX8_minutesOut 14 = .ok (.ireturn, 1) := by decide +kernel
theorem dX8_minutesTogether_0 : decode cX8_minutesTogether 0 = .ok (.aload_n 0, 1) := by decide +kernel
theorem dX8_minutesTogether_1 : decode cX8_minutesTogether 1 = .ok (.iload_n 1, 1) := by decide +kernel
theorem dX8_minutesTogether_2 : decode cX8_minutesTogether 2 = .ok (.invokevirtual 124, 3) := by decide +kernel
theorem dX8_minutesTogether_5 : decode cX8_minutesTogether 5 = .ok (.aload_n 0, 1) := by decide +kernel
theorem dX8_minutesTogether_6 : decode cX8_minutesTogether 6 = .ok (.iload_n 2, 1) := by decide +kernel
theorem dX8_minutesTogether_7 : decode cX8_minutesTogether 7 = .ok (.invokevirtual 124, 3) := by decide +kernel
theorem dX8_minutesTogether_10 : decode cX8_minutesTogether 10 = .ok (.aload_n 0, 1) := by decide +kernel
theorem dX8_minutesTogether_11 : decode cX8_minutesTogether 11 = .ok (.getfield 31, 3) := by decide +kernel
theorem dX8_minutesTogether_14 : decode cX8_minutesTogether 14 = .ok (.iload_n 1, 1) := by decide +kernel
theorem dX8_minutesTogether_15 : decode cX8_minutesTogether 15 = .ok (.iload_n 2, 1) := by decide +kernel
theorem dX8_minutesTogether_16 : decode cX8_minutesTogether 16 = .ok (.invokevirtual 244, 3) := by decide +kernel
theorem dX8_minutesTogether_19 : decode cX8_minutesTogether 19 = .ok (.ireturn, 1) := by decide +kernel
theorem dX8_meanMinutesOut_0 : decode cX8_meanMinutesOut 0 = .ok (.aload_n 0, 1) := by decide +kernel
theorem dX8_meanMinutesOut_1 : decode cX8_meanMinutesOut 1 = .ok (.getfield 31, 3) := by decide +kernel
theorem dX8_meanMinutesOut_4 : decode cX8_meanMinutesOut 4 = .ok (.getfield 85, 3) := by decide +kernel
theorem dX8_meanMinutesOut_7 : decode cX8_meanMinutesOut 7 = .ok (.getfield 89, 3) := by decide +kernel
theorem dX8_meanMinutesOut_10 : decode cX8_meanMinutesOut 10 = .ok (.istore_n 1, 1) := by decide +kernel
theorem dX8_meanMinutesOut_11 : decode cX8_meanMinutesOut 11 = .ok (.iload_n 1, 1) := by decide +kernel
theorem dX8_meanMinutesOut_12 : decode cX8_meanMinutesOut 12 = .ok (.ifCond .ne 5, 3) := by decide +kernel
theorem dX8_meanMinutesOut_15 : decode cX8_meanMinutesOut 15 = .ok (.dconst 0, 1) := by decide +kernel
theorem dX8_meanMinutesOut_16 : decode cX8_meanMinutesOut 16 = .ok (.dreturn, 1) := by decide +kernel
theorem dX8_meanMinutesOut_17 : decode cX8_meanMinutesOut 17 = .ok (.iconst 0, 1) := by decide +kernel
theorem dX8_meanMinutesOut_18 : decode cX8_meanMinutesOut 18 = .ok (.istore_n 2, 1) := by decide +kernel
theorem dX8_meanMinutesOut_19 : decode cX8_meanMinutesOut 19 = .ok (.iconst 0, 1) := by decide +kernel
theorem dX8_meanMinutesOut_20 : decode cX8_meanMinutesOut 20 = .ok (.istore_n 3, 1) := by decide +kernel
theorem dX8_meanMinutesOut_21 : decode cX8_meanMinutesOut 21 = .ok (.iload_n 3, 1) := by decide +kernel
theorem dX8_meanMinutesOut_22 : decode cX8_meanMinutesOut 22 = .ok (.iload_n 1, 1) := by decide +kernel
theorem dX8_meanMinutesOut_23 : decode cX8_meanMinutesOut 23 = .ok (.if_icmp .ge 21, 3) := by decide +kernel
theorem dX8_meanMinutesOut_26 : decode cX8_meanMinutesOut 26 = .ok (.iload_n 2, 1) := by decide +kernel
theorem dX8_meanMinutesOut_27 : decode cX8_meanMinutesOut 27 = .ok (.aload_n 0, 1) := by decide +kernel
theorem dX8_meanMinutesOut_28 : decode cX8_meanMinutesOut 28 = .ok (.getfield 31, 3) := by decide +kernel
theorem dX8_meanMinutesOut_31 : decode cX8_meanMinutesOut 31 = .ok (.iload_n 3, 1) := by decide +kernel
theorem dX8_meanMinutesOut_32 : decode cX8_meanMinutesOut 32 = .ok (.iload_n 3, 1) := by decide +kernel
theorem dX8_meanMinutesOut_33 : decode cX8_meanMinutesOut 33 = .ok (.invokevirtual 244, 3) := by decide +kernel
theorem dX8_meanMinutesOut_36 : decode cX8_meanMinutesOut 36 = .ok (.iadd, 1) := by decide +kernel
theorem dX8_meanMinutesOut_37 : decode cX8_meanMinutesOut 37 = .ok (.istore_n 2, 1) := by decide +kernel
theorem dX8_meanMinutesOut_38 : decode cX8_meanMinutesOut 38 = .ok (.iinc 3 1, 3) := by decide +kernel
theorem dX8_meanMinutesOut_41 : decode cX8_meanMinutesOut 41 = .ok (.goto (-20), 3) := by decide +kernel
theorem dX8_meanMinutesOut_44 : decode cX8_meanMinutesOut 44 = .ok (.iload_n 2, 1) := by decide +kernel
theorem dX8_meanMinutesOut_45 : decode cX8_meanMinutesOut 45 = .ok (.i2d, 1) := by decide +kernel
theorem dX8_meanMinutesOut_46 : decode cX8_meanMinutesOut 46 = .ok (.iload_n 1, 1) := by decide +kernel
theorem dX8_meanMinutesOut_47 : decode cX8_meanMinutesOut 47 = .ok (.i2d, 1) := by decide +kernel
theorem dX8_meanMinutesOut_48 : decode cX8_meanMinutesOut 48 = .ok (.ddiv, 1) := by decide +kernel
theorem dX8_meanMinutesOut_49 : decode cX8_meanMinutesOut 49 = .ok (.dreturn, 1) := by decide +kernel
theorem dX8_shareOut_0 : decode cX8_shareOut 0 = .ok (.aload_n 0, 1) := by decide +kernel
theorem dX8_shareOut_1 : decode cX8_shareOut 1 = .ok (.getfield 31, 3) := by decide +kernel
theorem dX8_shareOut_4 : decode cX8_shareOut 4 = .ok (.getfield 85, 3) := by decide +kernel
theorem dX8_shareOut_7 : decode cX8_shareOut 7 = .ok (.getfield 89, 3) := by decide +kernel
theorem dX8_shareOut_10 : decode cX8_shareOut 10 = .ok (.istore_n 1, 1) := by decide +kernel
theorem dX8_shareOut_11 : decode cX8_shareOut 11 = .ok (.iload_n 1, 1) := by decide +kernel
theorem dX8_shareOut_12 : decode cX8_shareOut 12 = .ok (.ifCond .ne 5, 3) := by decide +kernel
theorem dX8_shareOut_15 : decode cX8_shareOut 15 = .ok (.fconst 0, 1) := by decide +kernel
theorem dX8_shareOut_16 : decode cX8_shareOut 16 = .ok (.freturn, 1) := by decide +kernel
theorem dX8_shareOut_17 : decode cX8_shareOut 17 = .ok (.aload_n 0, 1) := by decide +kernel
theorem dX8_shareOut_18 : decode cX8_shareOut 18 = .ok (.getfield 31, 3) := by decide +kernel
theorem dX8_shareOut_21 : decode cX8_shareOut 21 = .ok (.getfield 85, 3) := by decide +kernel
theorem dX8_shareOut_24 : decode cX8_shareOut 24 = .ok (.invokevirtual 164, 3) := by decide +kernel
theorem dX8_shareOut_27 : decode cX8_shareOut 27 = .ok (.i2f, 1) := by decide +kernel
theorem dX8_shareOut_28 : decode cX8_shareOut 28 = .ok (.iload_n 1, 1) := by decide +kernel
theorem dX8_shareOut_29 : decode cX8_shareOut 29 = .ok (.i2f, 1) := by decide +kernel
theorem dX8_shareOut_30 : decode cX8_shareOut 30 = .ok (.fdiv, 1) := by decide +kernel
theorem dX8_shareOut_31 : decode cX8_shareOut 31 = .ok (.freturn, 1) := by decide +kernel
theorem dX8_umbrellaFor_0 : decode cX8_umbrellaFor 0 = .ok (.aload_n 0, 1) := by decide +kernel
theorem dX8_umbrellaFor_1 : decode cX8_umbrellaFor 1 = .ok (.iload_n 1, 1) := by decide +kernel
theorem dX8_umbrellaFor_2 : decode cX8_umbrellaFor 2 = .ok (.invokevirtual 124, 3) := by decide +kernel
theorem dX8_umbrellaFor_5 : decode cX8_umbrellaFor 5 = .ok (.aload_n 0, 1) := by decide +kernel
theorem dX8_umbrellaFor_6 : decode cX8_umbrellaFor 6 = .ok (.getfield 31, 3) := by decide +kernel
theorem dX8_umbrellaFor_9 : decode cX8_umbrellaFor 9 = .ok (.getfield 85, 3) := by decide +kernel
theorem dX8_umbrellaFor_12 : decode cX8_umbrellaFor 12 = .ok (.iload_n 1, 1) := by decide +kernel
theorem dX8_umbrellaFor_13 : decode cX8_umbrellaFor 13 = .ok (.invokevirtual 152, 3) := by decide +kernel
theorem dX8_umbrellaFor_16 : decode cX8_umbrellaFor 16 = .ok (.ifCond .eq 13, 3) := by decide +kernel
theorem dX8_umbrellaFor_19 : decode cX8_umbrellaFor 19 = .ok (.new 68, 3) := by decide +kernel
theorem dX8_umbrellaFor_22 : decode cX8_umbrellaFor 22 = .ok (.dup, 1) := by decide +kernel
theorem dX8_umbrellaFor_23 : decode cX8_umbrellaFor 23 = .ok (.ldc 247, 2) := by decide +kernel
theorem dX8_umbrellaFor_25 : decode cX8_umbrellaFor 25 = .ok (.invokespecial 72, 3) := by decide +kernel
theorem dX8_umbrellaFor_28 : decode cX8_umbrellaFor 28 = .ok (.athrow, 1) := by decide +kernel
theorem dX8_umbrellaFor_29 : decode cX8_umbrellaFor 29 = .ok (.aload_n 0, 1) := by decide +kernel
theorem dX8_umbrellaFor_30 : decode cX8_umbrellaFor 30 = .ok (.getfield 31, 3) := by decide +kernel
theorem dX8_umbrellaFor_33 : decode cX8_umbrellaFor 33 = .ok (.iload_n 1, 1) := by decide +kernel
theorem dX8_umbrellaFor_34 : decode cX8_umbrellaFor 34 = .ok (.invokevirtual 249, 3) := by decide +kernel
theorem dX8_umbrellaFor_37 : decode cX8_umbrellaFor 37 = .ok (.istore_n 2, 1) := by decide +kernel
theorem dX8_umbrellaFor_38 : decode cX8_umbrellaFor 38 = .ok (.iload_n 2, 1) := by decide +kernel
theorem dX8_umbrellaFor_39 : decode cX8_umbrellaFor 39 = .ok (.iconst (-1), 1) := by decide +kernel
theorem dX8_umbrellaFor_40 : decode cX8_umbrellaFor 40 = .ok (.if_icmp .ne 13, 3) := by decide +kernel
theorem dX8_umbrellaFor_43 : decode cX8_umbrellaFor 43 = .ok (.new 94, 3) := by decide +kernel
theorem dX8_umbrellaFor_46 : decode cX8_umbrellaFor 46 = .ok (.dup, 1) := by decide +kernel
theorem dX8_umbrellaFor_47 : decode cX8_umbrellaFor 47 = .ok (.ldc 252, 2) := by decide +kernel
theorem dX8_umbrellaFor_49 : decode cX8_umbrellaFor 49 = .ok (.invokespecial 98, 3) := by decide +kernel
theorem dX8_umbrellaFor_52 : decode cX8_umbrellaFor 52 = .ok (.athrow, 1) := by decide +kernel
theorem dX8_umbrellaFor_53 : decode cX8_umbrellaFor 53 = .ok (.iload_n 2, 1) := by decide +kernel
theorem dX8_umbrellaFor_54 : decode cX8_umbrellaFor 54 = .ok (.ireturn, 1) := by decide +kernel
theorem dX8_tipOf_0 : decode cX8_tipOf 0 = .ok (.aload_n 0, 1) := by decide +kernel
theorem dX8_tipOf_1 : decode cX8_tipOf 1 = .ok (.iload_n 1, 1) := by decide +kernel
theorem dX8_tipOf_2 : decode cX8_tipOf 2 = .ok (.invokevirtual 124, 3) := by decide +kernel
theorem dX8_tipOf_5 : decode cX8_tipOf 5 = .ok (.aload_n 0, 1) := by decide +kernel
theorem dX8_tipOf_6 : decode cX8_tipOf 6 = .ok (.getfield 31, 3) := by decide +kernel
theorem dX8_tipOf_9 : decode cX8_tipOf 9 = .ok (.getfield 85, 3) := by decide +kernel
theorem dX8_tipOf_12 : decode cX8_tipOf 12 = .ok (.iload_n 1, 1) := by decide +kernel
theorem dX8_tipOf_13 : decode cX8_tipOf 13 = .ok (.invokevirtual 152, 3) := by decide +kernel
theorem dX8_tipOf_16 : decode cX8_tipOf 16 = .ok (.ifCond .ne 13, 3) := by decide +kernel
theorem dX8_tipOf_19 : decode cX8_tipOf 19 = .ok (.new 68, 3) := by decide +kernel
theorem dX8_tipOf_22 : decode cX8_tipOf 22 = .ok (.dup, 1) := by decide +kernel
theorem dX8_tipOf_23 : decode cX8_tipOf 23 = .ok (.ldc 156, 2) := by decide +kernel
theorem dX8_tipOf_25 : decode cX8_tipOf 25 = .ok (.invokespecial 72, 3) := by decide +kernel
theorem dX8_tipOf_28 : decode cX8_tipOf 28 = .ok (.athrow, 1) := by decide +kernel
theorem dX8_tipOf_29 : decode cX8_tipOf 29 = .ok (.aload_n 0, 1) := by decide +kernel
theorem dX8_tipOf_30 : decode cX8_tipOf 30 = .ok (.getfield 31, 3) := by decide +kernel
theorem dX8_tipOf_33 : decode cX8_tipOf 33 = .ok (.iload_n 1, 1) := by decide +kernel
theorem dX8_tipOf_34 : decode cX8_tipOf 34 = .ok (.invokevirtual 254, 3) := by decide +kernel
theorem dX8_tipOf_37 : decode cX8_tipOf 37 = .ok (.ireturn, 1) := by decide +kernel
theorem dX8_complaintsAfter_0 : decode cX8_complaintsAfter 0 = .ok (.aload_n 0, 1) := by decide +kernel
theorem dX8_complaintsAfter_1 : decode cX8_complaintsAfter 1 = .ok (.iload_n 1, 1) := by decide +kernel
theorem dX8_complaintsAfter_2 : decode cX8_complaintsAfter 2 = .ok (.iconst 0, 1) := by decide +kernel
theorem dX8_complaintsAfter_3 : decode cX8_complaintsAfter 3 = .ok (.sipush 240, 3) := by decide +kernel
theorem dX8_complaintsAfter_6 : decode cX8_complaintsAfter 6 = .ok (.invokevirtual 257, 3) := by decide +kernel
theorem dX8_complaintsAfter_9 : decode cX8_complaintsAfter 9 = .ok (.aload_n 0, 1) := by decide +kernel
theorem dX8_complaintsAfter_10 : decode cX8_complaintsAfter 10 = .ok (.getfield 31, 3) := by decide +kernel
theorem dX8_complaintsAfter_13 : decode cX8_complaintsAfter 13 = .ok (.iload_n 1, 1) := by decide +kernel
theorem dX8_complaintsAfter_14 : decode cX8_complaintsAfter 14 = .ok (.invokevirtual 261, 3) := by decide +kernel
theorem dX8_complaintsAfter_17 : decode cX8_complaintsAfter 17 = .ok (.ireturn, 1) := by decide +kernel
theorem dX8_addGuest_0 : decode cX8_addGuest 0 = .ok (.aload_n 0, 1) := by decide +kernel
theorem dX8_addGuest_1 : decode cX8_addGuest 1 = .ok (.iload_n 1, 1) := by decide +kernel
theorem dX8_addGuest_2 : decode cX8_addGuest 2 = .ok (.iconst 0, 1) := by decide +kernel
theorem dX8_addGuest_3 : decode cX8_addGuest 3 = .ok (.bipush 9, 2) := by decide +kernel
theorem dX8_addGuest_5 : decode cX8_addGuest 5 = .ok (.invokevirtual 257, 3) := by decide +kernel
theorem dX8_addGuest_8 : decode cX8_addGuest 8 = .ok (.aload_n 0, 1) := by decide +kernel
theorem dX8_addGuest_9 : decode cX8_addGuest 9 = .ok (.iload_n 2, 1) := by decide +kernel
theorem dX8_addGuest_10 : decode cX8_addGuest 10 = .ok (.iconst 0, 1) := by decide +kernel
theorem dX8_addGuest_11 : decode cX8_addGuest 11 = .ok (.bipush 9, 2) := by decide +kernel
theorem dX8_addGuest_13 : decode cX8_addGuest 13 = .ok (.invokevirtual 257, 3) := by decide +kernel
theorem dX8_addGuest_16 : decode cX8_addGuest 16 = .ok (.aload_n 0, 1) := by decide +kernel
theorem dX8_addGuest_17 : decode cX8_addGuest 17 = .ok (.getfield 10, 3) := by decide +kernel
theorem dX8_addGuest_20 : decode cX8_addGuest 20 = .ok (.invokevirtual 264, 3) := by decide +kernel
theorem dX8_addGuest_23 : decode cX8_addGuest 23 = .ok (.ifCond .ne 14, 3) := by decide +kernel
theorem dX8_addGuest_26 : decode cX8_addGuest 26 = .ok (.new 78, 3) := by decide +kernel
theorem dX8_addGuest_29 : decode cX8_addGuest 29 = .ok (.dup, 1) := by decide +kernel
theorem dX8_addGuest_30 : decode cX8_addGuest 30 = .ok (.ldc_w 268, 3) := by decide +kernel
theorem dX8_addGuest_33 : decode cX8_addGuest 33 = .ok (.invokespecial 82, 3) := by decide +kernel
theorem dX8_addGuest_36 : decode cX8_addGuest 36 = .ok (.athrow, 1) := by decide +kernel
theorem dX8_addGuest_37 : decode cX8_addGuest 37 = .ok (.aload_n 0, 1) := by decide +kernel
theorem dX8_addGuest_38 : decode cX8_addGuest 38 = .ok (.getfield 31, 3) := by decide +kernel
theorem dX8_addGuest_41 : decode cX8_addGuest 41 = .ok (.getfield 85, 3) := by decide +kernel
theorem dX8_addGuest_44 : decode cX8_addGuest 44 = .ok (.getfield 89, 3) := by decide +kernel
theorem dX8_addGuest_47 : decode cX8_addGuest 47 = .ok (.bipush 10, 2) := by decide +kernel
theorem dX8_addGuest_49 : decode cX8_addGuest 49 = .ok (.if_icmp .lt 14, 3) := by decide +kernel
theorem dX8_addGuest_52 : decode cX8_addGuest 52 = .ok (.new 68, 3) := by decide +kernel
theorem dX8_addGuest_55 : decode cX8_addGuest 55 = .ok (.dup, 1) := by decide +kernel
theorem dX8_addGuest_56 : decode cX8_addGuest 56 = .ok (.ldc_w 270, 3) := by decide +kernel
theorem dX8_addGuest_59 : decode cX8_addGuest 59 = .ok (.invokespecial 72, 3) := by decide +kernel
theorem dX8_addGuest_62 : decode cX8_addGuest 62 = .ok (.athrow, 1) := by decide +kernel
theorem dX8_addGuest_63 : decode cX8_addGuest 63 = .ok (.aload_n 0, 1) := by decide +kernel
theorem dX8_addGuest_64 : decode cX8_addGuest 64 = .ok (.getfield 31, 3) := by decide +kernel
theorem dX8_addGuest_67 : decode cX8_addGuest 67 = .ok (.getfield 85, 3) := by decide +kernel
theorem dX8_addGuest_70 : decode cX8_addGuest 70 = .ok (.aload_n 0, 1) := by decide +kernel
theorem dX8_addGuest_71 : decode cX8_addGuest 71 = .ok (.getfield 10, 3) := by decide +kernel
theorem dX8_addGuest_74 : decode cX8_addGuest 74 = .ok (.iconst 0, 1) := by decide +kernel
theorem dX8_addGuest_75 : decode cX8_addGuest 75 = .ok (.aload_n 0, 1) := by decide +kernel
theorem dX8_addGuest_76 : decode cX8_addGuest 76 = .ok (.getfield 10, 3) := by decide +kernel
theorem dX8_addGuest_79 : decode cX8_addGuest 79 = .ok (.getfield 65, 3) := by decide +kernel
theorem dX8_addGuest_82 : decode cX8_addGuest 82 = .ok (.invokevirtual 140, 3) := by decide +kernel
theorem dX8_addGuest_85 : decode cX8_addGuest 85 = .ok (.iconst (-1), 1) := by decide +kernel
theorem dX8_addGuest_86 : decode cX8_addGuest 86 = .ok (.if_icmp .eq 14, 3) := by decide +kernel
theorem dX8_addGuest_89 : decode cX8_addGuest 89 = .ok (.new 68, 3) := by decide +kernel
theorem dX8_addGuest_92 : decode cX8_addGuest 92 = .ok (.dup, 1) := by decide +kernel
theorem dX8_addGuest_93 : decode cX8_addGuest 93 = .ok (.ldc_w 272, 3) := by decide +kernel
theorem dX8_addGuest_96 : decode cX8_addGuest 96 = .ok (.invokespecial 72, 3) := by decide +kernel
theorem dX8_addGuest_99 : decode cX8_addGuest 99 = .ok (.athrow, 1) := by decide +kernel
theorem dX8_addGuest_100 : decode cX8_addGuest 100 = .ok (.aload_n 0, 1) := by decide +kernel
theorem dX8_addGuest_101 : decode cX8_addGuest 101 = .ok (.getfield 41, 3) := by decide +kernel
theorem dX8_addGuest_104 : decode cX8_addGuest 104 = .ok (.aload_n 0, 1) := by decide +kernel
theorem dX8_addGuest_105 : decode cX8_addGuest 105 = .ok (.getfield 31, 3) := by decide +kernel
theorem dX8_addGuest_108 : decode cX8_addGuest 108 = .ok (.invokevirtual 274, 3) := by decide +kernel
theorem dX8_addGuest_111 : decode cX8_addGuest 111 = .ok (.aload_n 0, 1) := by decide +kernel
theorem dX8_addGuest_112 : decode cX8_addGuest 112 = .ok (.getfield 31, 3) := by decide +kernel
theorem dX8_addGuest_115 : decode cX8_addGuest 115 = .ok (.getfield 85, 3) := by decide +kernel
theorem dX8_addGuest_118 : decode cX8_addGuest 118 = .ok (.aload_n 0, 1) := by decide +kernel
theorem dX8_addGuest_119 : decode cX8_addGuest 119 = .ok (.getfield 10, 3) := by decide +kernel
theorem dX8_addGuest_122 : decode cX8_addGuest 122 = .ok (.iconst 0, 1) := by decide +kernel
theorem dX8_addGuest_123 : decode cX8_addGuest 123 = .ok (.aload_n 0, 1) := by decide +kernel
theorem dX8_addGuest_124 : decode cX8_addGuest 124 = .ok (.getfield 10, 3) := by decide +kernel
theorem dX8_addGuest_127 : decode cX8_addGuest 127 = .ok (.getfield 65, 3) := by decide +kernel
theorem dX8_addGuest_130 : decode cX8_addGuest 130 = .ok (.iload_n 1, 1) := by decide +kernel
theorem dX8_addGuest_131 : decode cX8_addGuest 131 = .ok (.iload_n 2, 1) := by decide +kernel
theorem dX8_addGuest_132 : decode cX8_addGuest 132 = .ok (.invokevirtual 278, 3) := by decide +kernel
theorem dX8_addGuest_135 : decode cX8_addGuest 135 = .ok (.istore_n 3, 1) := by decide +kernel
theorem dX8_addGuest_136 : decode cX8_addGuest 136 = .ok (.aload_n 0, 1) := by decide +kernel
theorem dX8_addGuest_137 : decode cX8_addGuest 137 = .ok (.getfield 10, 3) := by decide +kernel
theorem dX8_addGuest_140 : decode cX8_addGuest 140 = .ok (.iconst 0, 1) := by decide +kernel
theorem dX8_addGuest_141 : decode cX8_addGuest 141 = .ok (.putfield 65, 3) := by decide +kernel
theorem dX8_addGuest_144 : decode cX8_addGuest 144 = .ok (.iload_n 3, 1) := by decide +kernel
theorem dX8_addGuest_145 : decode cX8_addGuest 145 = .ok (.ireturn, 1) := by decide +kernel
theorem dX8_addUmbrella_0 : decode cX8_addUmbrella 0 = .ok (.aload_n 0, 1) := by decide +kernel
theorem dX8_addUmbrella_1 : decode cX8_addUmbrella 1 = .ok (.iload_n 1, 1) := by decide +kernel
theorem dX8_addUmbrella_2 : decode cX8_addUmbrella 2 = .ok (.invokevirtual 124, 3) := by decide +kernel
theorem dX8_addUmbrella_5 : decode cX8_addUmbrella 5 = .ok (.aload_n 0, 1) := by decide +kernel
theorem dX8_addUmbrella_6 : decode cX8_addUmbrella 6 = .ok (.iload_n 2, 1) := by decide +kernel
theorem dX8_addUmbrella_7 : decode cX8_addUmbrella 7 = .ok (.iconst 0, 1) := by decide +kernel
theorem dX8_addUmbrella_8 : decode cX8_addUmbrella 8 = .ok (.bipush 99, 2) := by decide +kernel
theorem dX8_addUmbrella_10 : decode cX8_addUmbrella 10 = .ok (.invokevirtual 257, 3) := by decide +kernel
theorem dX8_addUmbrella_13 : decode cX8_addUmbrella 13 = .ok (.aload_n 0, 1) := by decide +kernel
theorem dX8_addUmbrella_14 : decode cX8_addUmbrella 14 = .ok (.getfield 31, 3) := by decide +kernel
theorem dX8_addUmbrella_17 : decode cX8_addUmbrella 17 = .ok (.getfield 171, 3) := by decide +kernel
theorem dX8_addUmbrella_20 : decode cX8_addUmbrella 20 = .ok (.getfield 175, 3) := by decide +kernel
theorem dX8_addUmbrella_23 : decode cX8_addUmbrella 23 = .ok (.bipush 12, 2) := by decide +kernel
theorem dX8_addUmbrella_25 : decode cX8_addUmbrella 25 = .ok (.if_icmp .lt 14, 3) := by decide +kernel
theorem dX8_addUmbrella_28 : decode cX8_addUmbrella 28 = .ok (.new 68, 3) := by decide +kernel
theorem dX8_addUmbrella_31 : decode cX8_addUmbrella 31 = .ok (.dup, 1) := by decide +kernel
theorem dX8_addUmbrella_32 : decode cX8_addUmbrella 32 = .ok (.ldc_w 282, 3) := by decide +kernel
theorem dX8_addUmbrella_35 : decode cX8_addUmbrella 35 = .ok (.invokespecial 72, 3) := by decide +kernel
theorem dX8_addUmbrella_38 : decode cX8_addUmbrella 38 = .ok (.athrow, 1) := by decide +kernel
theorem dX8_addUmbrella_39 : decode cX8_addUmbrella 39 = .ok (.aload_n 0, 1) := by decide +kernel
theorem dX8_addUmbrella_40 : decode cX8_addUmbrella 40 = .ok (.getfield 41, 3) := by decide +kernel
theorem dX8_addUmbrella_43 : decode cX8_addUmbrella 43 = .ok (.aload_n 0, 1) := by decide +kernel
theorem dX8_addUmbrella_44 : decode cX8_addUmbrella 44 = .ok (.getfield 31, 3) := by decide +kernel
theorem dX8_addUmbrella_47 : decode cX8_addUmbrella 47 = .ok (.invokevirtual 274, 3) := by decide +kernel
theorem dX8_addUmbrella_50 : decode cX8_addUmbrella 50 = .ok (.aload_n 0, 1) := by decide +kernel
theorem dX8_addUmbrella_51 : decode cX8_addUmbrella 51 = .ok (.getfield 31, 3) := by decide +kernel
theorem dX8_addUmbrella_54 : decode cX8_addUmbrella 54 = .ok (.getfield 171, 3) := by decide +kernel
theorem dX8_addUmbrella_57 : decode cX8_addUmbrella 57 = .ok (.iload_n 1, 1) := by decide +kernel
theorem dX8_addUmbrella_58 : decode cX8_addUmbrella 58 = .ok (.iload_n 2, 1) := by decide +kernel
theorem dX8_addUmbrella_59 : decode cX8_addUmbrella 59 = .ok (.invokevirtual 284, 3) := by decide +kernel
theorem dX8_addUmbrella_62 : decode cX8_addUmbrella 62 = .ok (.ireturn, 1) := by decide +kernel
theorem dX8_leave_0 : decode cX8_leave 0 = .ok (.aload_n 0, 1) := by decide +kernel
theorem dX8_leave_1 : decode cX8_leave 1 = .ok (.iload_n 1, 1) := by decide +kernel
theorem dX8_leave_2 : decode cX8_leave 2 = .ok (.invokevirtual 124, 3) := by decide +kernel
theorem dX8_leave_5 : decode cX8_leave 5 = .ok (.aload_n 0, 1) := by decide +kernel
theorem dX8_leave_6 : decode cX8_leave 6 = .ok (.getfield 31, 3) := by decide +kernel
theorem dX8_leave_9 : decode cX8_leave 9 = .ok (.getfield 85, 3) := by decide +kernel
theorem dX8_leave_12 : decode cX8_leave 12 = .ok (.iload_n 1, 1) := by decide +kernel
theorem dX8_leave_13 : decode cX8_leave 13 = .ok (.invokevirtual 152, 3) := by decide +kernel
theorem dX8_leave_16 : decode cX8_leave 16 = .ok (.ifCond .eq 13, 3) := by decide +kernel
theorem dX8_leave_19 : decode cX8_leave 19 = .ok (.new 68, 3) := by decide +kernel
theorem dX8_leave_22 : decode cX8_leave 22 = .ok (.dup, 1) := by decide +kernel
theorem dX8_leave_23 : decode cX8_leave 23 = .ok (.ldc 247, 2) := by decide +kernel
theorem dX8_leave_25 : decode cX8_leave 25 = .ok (.invokespecial 72, 3) := by decide +kernel
theorem dX8_leave_28 : decode cX8_leave 28 = .ok (.athrow, 1) := by decide +kernel
theorem dX8_leave_29 : decode cX8_leave 29 = .ok (.aload_n 0, 1) := by decide +kernel
theorem dX8_leave_30 : decode cX8_leave 30 = .ok (.invokevirtual 286, 3) := by decide +kernel
theorem dX8_leave_33 : decode cX8_leave 33 = .ok (.aload_n 0, 1) := by decide +kernel
theorem dX8_leave_34 : decode cX8_leave 34 = .ok (.getfield 41, 3) := by decide +kernel
theorem dX8_leave_37 : decode cX8_leave 37 = .ok (.aload_n 0, 1) := by decide +kernel
theorem dX8_leave_38 : decode cX8_leave 38 = .ok (.getfield 31, 3) := by decide +kernel
theorem dX8_leave_41 : decode cX8_leave 41 = .ok (.invokevirtual 274, 3) := by decide +kernel
theorem dX8_leave_44 : decode cX8_leave 44 = .ok (.aload_n 0, 1) := by decide +kernel
theorem dX8_leave_45 : decode cX8_leave 45 = .ok (.getfield 31, 3) := by decide +kernel
theorem dX8_leave_48 : decode cX8_leave 48 = .ok (.iload_n 1, 1) := by decide +kernel
theorem dX8_leave_49 : decode cX8_leave 49 = .ok (.invokevirtual 289, 3) := by decide +kernel
theorem dX8_leave_52 : decode cX8_leave 52 = .ok (.aload_n 0, 1) := by decide +kernel
theorem dX8_leave_53 : decode cX8_leave 53 = .ok (.getfield 31, 3) := by decide +kernel
theorem dX8_leave_56 : decode cX8_leave 56 = .ok (.getfield 85, 3) := by decide +kernel
theorem dX8_leave_59 : decode cX8_leave 59 = .ok (.invokevirtual 164, 3) := by decide +kernel
theorem dX8_leave_62 : decode cX8_leave 62 = .ok (.ireturn, 1) := by decide +kernel
theorem dX8_comeBack_0 : decode cX8_comeBack 0 = .ok (.aload_n 0, 1) := by decide +kernel
theorem dX8_comeBack_1 : decode cX8_comeBack 1 = .ok (.iload_n 1, 1) := by decide +kernel
theorem dX8_comeBack_2 : decode cX8_comeBack 2 = .ok (.invokevirtual 124, 3) := by decide +kernel
theorem dX8_comeBack_5 : decode cX8_comeBack 5 = .ok (.aload_n 0, 1) := by decide +kernel
theorem dX8_comeBack_6 : decode cX8_comeBack 6 = .ok (.getfield 31, 3) := by decide +kernel
theorem dX8_comeBack_9 : decode cX8_comeBack 9 = .ok (.getfield 85, 3) := by decide +kernel
theorem dX8_comeBack_12 : decode cX8_comeBack 12 = .ok (.iload_n 1, 1) := by decide +kernel
theorem dX8_comeBack_13 : decode cX8_comeBack 13 = .ok (.invokevirtual 152, 3) := by decide +kernel
theorem dX8_comeBack_16 : decode cX8_comeBack 16 = .ok (.ifCond .ne 13, 3) := by decide +kernel
theorem dX8_comeBack_19 : decode cX8_comeBack 19 = .ok (.new 68, 3) := by decide +kernel
theorem dX8_comeBack_22 : decode cX8_comeBack 22 = .ok (.dup, 1) := by decide +kernel
theorem dX8_comeBack_23 : decode cX8_comeBack 23 = .ok (.ldc 156, 2) := by decide +kernel
theorem dX8_comeBack_25 : decode cX8_comeBack 25 = .ok (.invokespecial 72, 3) := by decide +kernel
theorem dX8_comeBack_28 : decode cX8_comeBack 28 = .ok (.athrow, 1) := by decide +kernel
theorem dX8_comeBack_29 : decode cX8_comeBack 29 = .ok (.aload_n 0, 1) := by decide +kernel
theorem dX8_comeBack_30 : decode cX8_comeBack 30 = .ok (.invokevirtual 286, 3) := by decide +kernel
theorem dX8_comeBack_33 : decode cX8_comeBack 33 = .ok (.aload_n 0, 1) := by decide +kernel
theorem dX8_comeBack_34 : decode cX8_comeBack 34 = .ok (.getfield 41, 3) := by decide +kernel
theorem dX8_comeBack_37 : decode cX8_comeBack 37 = .ok (.aload_n 0, 1) := by decide +kernel
theorem dX8_comeBack_38 : decode cX8_comeBack 38 = .ok (.getfield 31, 3) := by decide +kernel
theorem dX8_comeBack_41 : decode cX8_comeBack 41 = .ok (.invokevirtual 274, 3) := by decide +kernel
theorem dX8_comeBack_44 : decode cX8_comeBack 44 = .ok (.aload_n 0, 1) := by decide +kernel
theorem dX8_comeBack_45 : decode cX8_comeBack 45 = .ok (.getfield 31, 3) := by decide +kernel
theorem dX8_comeBack_48 : decode cX8_comeBack 48 = .ok (.iload_n 1, 1) := by decide +kernel
theorem dX8_comeBack_49 : decode cX8_comeBack 49 = .ok (.invokevirtual 292, 3) := by decide +kernel
theorem dX8_comeBack_52 : decode cX8_comeBack 52 = .ok (.ireturn, 1) := by decide +kernel
theorem dX8_passMinutes_0 : decode cX8_passMinutes 0 = .ok (.aload_n 0, 1) := by decide +kernel
theorem dX8_passMinutes_1 : decode cX8_passMinutes 1 = .ok (.iload_n 1, 1) := by decide +kernel
theorem dX8_passMinutes_2 : decode cX8_passMinutes 2 = .ok (.iconst 1, 1) := by decide +kernel
theorem dX8_passMinutes_3 : decode cX8_passMinutes 3 = .ok (.sipush 240, 3) := by decide +kernel
theorem dX8_passMinutes_6 : decode cX8_passMinutes 6 = .ok (.invokevirtual 257, 3) := by decide +kernel
theorem dX8_passMinutes_9 : decode cX8_passMinutes 9 = .ok (.iload_n 1, 1) := by decide +kernel
theorem dX8_passMinutes_10 : decode cX8_passMinutes 10 = .ok (.sipush 720, 3) := by decide +kernel
theorem dX8_passMinutes_13 : decode cX8_passMinutes 13 = .ok (.aload_n 0, 1) := by decide +kernel
theorem dX8_passMinutes_14 : decode cX8_passMinutes 14 = .ok (.getfield 31, 3) := by decide +kernel
theorem dX8_passMinutes_17 : decode cX8_passMinutes 17 = .ok (.getfield 99, 3) := by decide +kernel
theorem dX8_passMinutes_20 : decode cX8_passMinutes 20 = .ok (.isub, 1) := by decide +kernel
theorem dX8_passMinutes_21 : decode cX8_passMinutes 21 = .ok (.if_icmp .le 14, 3) := by decide +kernel
theorem dX8_passMinutes_24 : decode cX8_passMinutes 24 = .ok (.new 68, 3) := by decide +kernel
theorem dX8_passMinutes_27 : decode cX8_passMinutes 27 = .ok (.dup, 1) := by decide +kernel
theorem dX8_passMinutes_28 : decode cX8_passMinutes 28 = .ok (.ldc_w 295, 3) := by decide +kernel
theorem dX8_passMinutes_31 : decode cX8_passMinutes 31 = .ok (.invokespecial 72, 3) := by decide +kernel
theorem dX8_passMinutes_34 : decode cX8_passMinutes 34 = .ok (.athrow, 1) := by decide +kernel
theorem dX8_passMinutes_35 : decode cX8_passMinutes 35 = .ok (.aload_n 0, 1) := by decide +kernel
theorem dX8_passMinutes_36 : decode cX8_passMinutes 36 = .ok (.getfield 41, 3) := by decide +kernel
theorem dX8_passMinutes_39 : decode cX8_passMinutes 39 = .ok (.aload_n 0, 1) := by decide +kernel
theorem dX8_passMinutes_40 : decode cX8_passMinutes 40 = .ok (.getfield 31, 3) := by decide +kernel
theorem dX8_passMinutes_43 : decode cX8_passMinutes 43 = .ok (.invokevirtual 274, 3) := by decide +kernel
theorem dX8_passMinutes_46 : decode cX8_passMinutes 46 = .ok (.aload_n 0, 1) := by decide +kernel
theorem dX8_passMinutes_47 : decode cX8_passMinutes 47 = .ok (.getfield 31, 3) := by decide +kernel
theorem dX8_passMinutes_50 : decode cX8_passMinutes 50 = .ok (.getfield 111, 3) := by decide +kernel
theorem dX8_passMinutes_53 : decode cX8_passMinutes 53 = .ok (.istore_n 2, 1) := by decide +kernel
theorem dX8_passMinutes_54 : decode cX8_passMinutes 54 = .ok (.iconst 0, 1) := by decide +kernel
theorem dX8_passMinutes_55 : decode cX8_passMinutes 55 = .ok (.istore_n 3, 1) := by decide +kernel
theorem dX8_passMinutes_56 : decode cX8_passMinutes 56 = .ok (.iload_n 3, 1) := by decide +kernel
theorem dX8_passMinutes_57 : decode cX8_passMinutes 57 = .ok (.iload_n 1, 1) := by decide +kernel
theorem dX8_passMinutes_58 : decode cX8_passMinutes 58 = .ok (.if_icmp .ge 16, 3) := by decide +kernel
theorem dX8_passMinutes_61 : decode cX8_passMinutes 61 = .ok (.aload_n 0, 1) := by decide +kernel
theorem dX8_passMinutes_62 : decode cX8_passMinutes 62 = .ok (.getfield 31, 3) := by decide +kernel
theorem dX8_passMinutes_65 : decode cX8_passMinutes 65 = .ok (.invokevirtual 297, 3) := by decide +kernel
theorem dX8_passMinutes_68 : decode cX8_passMinutes 68 = .ok (.iinc 3 1, 3) := by decide +kernel
theorem dX8_passMinutes_71 : decode cX8_passMinutes 71 = .ok (.goto (-15), 3) := by decide +kernel
theorem dX8_passMinutes_74 : decode cX8_passMinutes 74 = .ok (.aload_n 0, 1) := by decide +kernel
theorem dX8_passMinutes_75 : decode cX8_passMinutes 75 = .ok (.getfield 31, 3) := by decide +kernel
theorem dX8_passMinutes_78 : decode cX8_passMinutes 78 = .ok (.getfield 111, 3) := by decide +kernel
theorem dX8_passMinutes_81 : decode cX8_passMinutes 81 = .ok (.iload_n 2, 1) := by decide +kernel
theorem dX8_passMinutes_82 : decode cX8_passMinutes 82 = .ok (.isub, 1) := by decide +kernel
theorem dX8_passMinutes_83 : decode cX8_passMinutes 83 = .ok (.ireturn, 1) := by decide +kernel
theorem dX8_walkDog_0 : decode cX8_walkDog 0 = .ok (.aload_n 0, 1) := by decide +kernel
theorem dX8_walkDog_1 : decode cX8_walkDog 1 = .ok (.iload_n 1, 1) := by decide +kernel
theorem dX8_walkDog_2 : decode cX8_walkDog 2 = .ok (.invokevirtual 124, 3) := by decide +kernel
theorem dX8_walkDog_5 : decode cX8_walkDog 5 = .ok (.aload_n 0, 1) := by decide +kernel
theorem dX8_walkDog_6 : decode cX8_walkDog 6 = .ok (.getfield 31, 3) := by decide +kernel
theorem dX8_walkDog_9 : decode cX8_walkDog 9 = .ok (.getfield 85, 3) := by decide +kernel
theorem dX8_walkDog_12 : decode cX8_walkDog 12 = .ok (.iload_n 1, 1) := by decide +kernel
theorem dX8_walkDog_13 : decode cX8_walkDog 13 = .ok (.invokevirtual 152, 3) := by decide +kernel
theorem dX8_walkDog_16 : decode cX8_walkDog 16 = .ok (.ifCond .ne 13, 3) := by decide +kernel
theorem dX8_walkDog_19 : decode cX8_walkDog 19 = .ok (.new 68, 3) := by decide +kernel
theorem dX8_walkDog_22 : decode cX8_walkDog 22 = .ok (.dup, 1) := by decide +kernel
theorem dX8_walkDog_23 : decode cX8_walkDog 23 = .ok (.ldc 156, 2) := by decide +kernel
theorem dX8_walkDog_25 : decode cX8_walkDog 25 = .ok (.invokespecial 72, 3) := by decide +kernel
theorem dX8_walkDog_28 : decode cX8_walkDog 28 = .ok (.athrow, 1) := by decide +kernel
theorem dX8_walkDog_29 : decode cX8_walkDog 29 = .ok (.aload_n 0, 1) := by decide +kernel
theorem dX8_walkDog_30 : decode cX8_walkDog 30 = .ok (.getfield 31, 3) := by decide +kernel
theorem dX8_walkDog_33 : decode cX8_walkDog 33 = .ok (.getfield 85, 3) := by decide +kernel
theorem dX8_walkDog_36 : decode cX8_walkDog 36 = .ok (.getfield 149, 3) := by decide +kernel
theorem dX8_walkDog_39 : decode cX8_walkDog 39 = .ok (.iload_n 1, 1) := by decide +kernel
theorem dX8_walkDog_40 : decode cX8_walkDog 40 = .ok (.iaload, 1) := by decide +kernel
theorem dX8_walkDog_41 : decode cX8_walkDog 41 = .ok (.ifCond .ne 14, 3) := by decide +kernel
theorem dX8_walkDog_44 : decode cX8_walkDog 44 = .ok (.new 68, 3) := by decide +kernel
theorem dX8_walkDog_47 : decode cX8_walkDog 47 = .ok (.dup, 1) := by decide +kernel
theorem dX8_walkDog_48 : decode cX8_walkDog 48 = .ok (.ldc_w 300, 3) := by decide +kernel
theorem dX8_walkDog_51 : decode cX8_walkDog 51 = .ok (.invokespecial 72, 3) := by decide +kernel
theorem dX8_walkDog_54 : decode cX8_walkDog 54 = .ok (.athrow, 1) := by decide +kernel
theorem dX8_walkDog_55 : decode cX8_walkDog 55 = .ok (.aload_n 0, 1) := by decide +kernel
theorem dX8_walkDog_56 : decode cX8_walkDog 56 = .ok (.getfield 41, 3) := by decide +kernel
theorem dX8_walkDog_59 : decode cX8_walkDog 59 = .ok (.aload_n 0, 1) := by decide +kernel
theorem dX8_walkDog_60 : decode cX8_walkDog 60 = .ok (.getfield 31, 3) := by decide +kernel
theorem dX8_walkDog_63 : decode cX8_walkDog 63 = .ok (.invokevirtual 274, 3) := by decide +kernel
theorem dX8_walkDog_66 : decode cX8_walkDog 66 = .ok (.aload_n 0, 1) := by decide +kernel
theorem dX8_walkDog_67 : decode cX8_walkDog 67 = .ok (.getfield 31, 3) := by decide +kernel
theorem dX8_walkDog_70 : decode cX8_walkDog 70 = .ok (.getfield 85, 3) := by decide +kernel
theorem dX8_walkDog_73 : decode cX8_walkDog 73 = .ok (.iload_n 1, 1) := by decide +kernel
theorem dX8_walkDog_74 : decode cX8_walkDog 74 = .ok (.aload_n 0, 1) := by decide +kernel
theorem dX8_walkDog_75 : decode cX8_walkDog 75 = .ok (.getfield 31, 3) := by decide +kernel
theorem dX8_walkDog_78 : decode cX8_walkDog 78 = .ok (.getfield 99, 3) := by decide +kernel
theorem dX8_walkDog_81 : decode cX8_walkDog 81 = .ok (.invokevirtual 302, 3) := by decide +kernel
theorem dX8_walkDog_84 : decode cX8_walkDog 84 = .ok (.ireturn, 1) := by decide +kernel
theorem dX8_setRain_0 : decode cX8_setRain 0 = .ok (.aload_n 0, 1) := by decide +kernel
theorem dX8_setRain_1 : decode cX8_setRain 1 = .ok (.iload_n 1, 1) := by decide +kernel
theorem dX8_setRain_2 : decode cX8_setRain 2 = .ok (.iconst 0, 1) := by decide +kernel
theorem dX8_setRain_3 : decode cX8_setRain 3 = .ok (.bipush 9, 2) := by decide +kernel
theorem dX8_setRain_5 : decode cX8_setRain 5 = .ok (.invokevirtual 257, 3) := by decide +kernel
theorem dX8_setRain_8 : decode cX8_setRain 8 = .ok (.aload_n 0, 1) := by decide +kernel
theorem dX8_setRain_9 : decode cX8_setRain 9 = .ok (.getfield 41, 3) := by decide +kernel
theorem dX8_setRain_12 : decode cX8_setRain 12 = .ok (.aload_n 0, 1) := by decide +kernel
theorem dX8_setRain_13 : decode cX8_setRain 13 = .ok (.getfield 31, 3) := by decide +kernel
theorem dX8_setRain_16 : decode cX8_setRain 16 = .ok (.invokevirtual 274, 3) := by decide +kernel
theorem dX8_setRain_19 : decode cX8_setRain 19 = .ok (.aload_n 0, 1) := by decide +kernel
theorem dX8_setRain_20 : decode cX8_setRain 20 = .ok (.getfield 31, 3) := by decide +kernel
theorem dX8_setRain_23 : decode cX8_setRain 23 = .ok (.getfield 102, 3) := by decide +kernel
theorem dX8_setRain_26 : decode cX8_setRain 26 = .ok (.istore_n 2, 1) := by decide +kernel
theorem dX8_setRain_27 : decode cX8_setRain 27 = .ok (.aload_n 0, 1) := by decide +kernel
theorem dX8_setRain_28 : decode cX8_setRain 28 = .ok (.getfield 31, 3) := by decide +kernel
theorem dX8_setRain_31 : decode cX8_setRain 31 = .ok (.iload_n 1, 1) := by decide +kernel
theorem dX8_setRain_32 : decode cX8_setRain 32 = .ok (.putfield 102, 3) := by decide +kernel
theorem dX8_setRain_35 : decode cX8_setRain 35 = .ok (.iload_n 2, 1) := by decide +kernel
theorem dX8_setRain_36 : decode cX8_setRain 36 = .ok (.ireturn, 1) := by decide +kernel
theorem dX8_setNoiseLimit_0 : decode cX8_setNoiseLimit 0 = .ok (.aload_n 0, 1) := by decide +kernel
theorem dX8_setNoiseLimit_1 : decode cX8_setNoiseLimit 1 = .ok (.iload_n 1, 1) := by decide +kernel
theorem dX8_setNoiseLimit_2 : decode cX8_setNoiseLimit 2 = .ok (.iconst 0, 1) := by decide +kernel
theorem dX8_setNoiseLimit_3 : decode cX8_setNoiseLimit 3 = .ok (.sipush 999, 3) := by decide +kernel
theorem dX8_setNoiseLimit_6 : decode cX8_setNoiseLimit 6 = .ok (.invokevirtual 257, 3) := by decide +kernel
theorem dX8_setNoiseLimit_9 : decode cX8_setNoiseLimit 9 = .ok (.aload_n 0, 1) := by decide +kernel
theorem dX8_setNoiseLimit_10 : decode cX8_setNoiseLimit 10 = .ok (.getfield 41, 3) := by decide +kernel
theorem dX8_setNoiseLimit_13 : decode cX8_setNoiseLimit 13 = .ok (.aload_n 0, 1) := by decide +kernel
theorem dX8_setNoiseLimit_14 : decode cX8_setNoiseLimit 14 = .ok (.getfield 31, 3) := by decide +kernel
theorem dX8_setNoiseLimit_17 : decode cX8_setNoiseLimit 17 = .ok (.invokevirtual 274, 3) := by decide +kernel
theorem dX8_setNoiseLimit_20 : decode cX8_setNoiseLimit 20 = .ok (.aload_n 0, 1) := by decide +kernel
theorem dX8_setNoiseLimit_21 : decode cX8_setNoiseLimit 21 = .ok (.getfield 31, 3) := by decide +kernel
theorem dX8_setNoiseLimit_24 : decode cX8_setNoiseLimit 24 = .ok (.getfield 105, 3) := by decide +kernel
theorem dX8_setNoiseLimit_27 : decode cX8_setNoiseLimit 27 = .ok (.istore_n 2, 1) := by decide +kernel
theorem dX8_setNoiseLimit_28 : decode cX8_setNoiseLimit 28 = .ok (.aload_n 0, 1) := by decide +kernel
theorem dX8_setNoiseLimit_29 : decode cX8_setNoiseLimit 29 = .ok (.getfield 31, 3) := by decide +kernel
theorem dX8_setNoiseLimit_32 : decode cX8_setNoiseLimit 32 = .ok (.iload_n 1, 1) := by decide +kernel
theorem dX8_setNoiseLimit_33 : decode cX8_setNoiseLimit 33 = .ok (.putfield 105, 3) := by decide +kernel
theorem dX8_setNoiseLimit_36 : decode cX8_setNoiseLimit 36 = .ok (.iload_n 2, 1) := by decide +kernel
theorem dX8_setNoiseLimit_37 : decode cX8_setNoiseLimit 37 = .ok (.ireturn, 1) := by decide +kernel
theorem dX8_undo_0 : decode cX8_undo 0 = .ok (.aload_n 0, 1) := by decide +kernel
theorem dX8_undo_1 : decode cX8_undo 1 = .ok (.getfield 41, 3) := by decide +kernel
theorem dX8_undo_4 : decode cX8_undo 4 = .ok (.getfield 305, 3) := by decide +kernel
theorem dX8_undo_7 : decode cX8_undo 7 = .ok (.ifCond .ne 14, 3) := by decide +kernel
theorem dX8_undo_10 : decode cX8_undo 10 = .ok (.new 68, 3) := by decide +kernel
theorem dX8_undo_13 : decode cX8_undo 13 = .ok (.dup, 1) := by decide +kernel
theorem dX8_undo_14 : decode cX8_undo 14 = .ok (.ldc_w 306, 3) := by decide +kernel
theorem dX8_undo_17 : decode cX8_undo 17 = .ok (.invokespecial 72, 3) := by decide +kernel
theorem dX8_undo_20 : decode cX8_undo 20 = .ok (.athrow, 1) := by decide +kernel
theorem dX8_undo_21 : decode cX8_undo 21 = .ok (.aload_n 0, 1) := by decide +kernel
theorem dX8_undo_22 : decode cX8_undo 22 = .ok (.getfield 41, 3) := by decide +kernel
theorem dX8_undo_25 : decode cX8_undo 25 = .ok (.aload_n 0, 1) := by decide +kernel
theorem dX8_undo_26 : decode cX8_undo 26 = .ok (.getfield 31, 3) := by decide +kernel
theorem dX8_undo_29 : decode cX8_undo 29 = .ok (.invokevirtual 308, 3) := by decide +kernel
theorem dX8_undo_32 : decode cX8_undo 32 = .ok (.aload_n 0, 1) := by decide +kernel
theorem dX8_undo_33 : decode cX8_undo 33 = .ok (.getfield 41, 3) := by decide +kernel
theorem dX8_undo_36 : decode cX8_undo 36 = .ok (.getfield 305, 3) := by decide +kernel
theorem dX8_undo_39 : decode cX8_undo 39 = .ok (.ireturn, 1) := by decide +kernel
theorem dX8_saveSnapshot_0 : decode cX8_saveSnapshot 0 = .ok (.aload_n 0, 1) := by decide +kernel
theorem dX8_saveSnapshot_1 : decode cX8_saveSnapshot 1 = .ok (.iload_n 1, 1) := by decide +kernel
theorem dX8_saveSnapshot_2 : decode cX8_saveSnapshot 2 = .ok (.invokevirtual 311, 3) := by decide +kernel
theorem dX8_saveSnapshot_5 : decode cX8_saveSnapshot 5 = .ok (.aload_n 0, 1) := by decide +kernel
theorem dX8_saveSnapshot_6 : decode cX8_saveSnapshot 6 = .ok (.getfield 48, 3) := by decide +kernel
theorem dX8_saveSnapshot_9 : decode cX8_saveSnapshot 9 = .ok (.iload_n 1, 1) := by decide +kernel
theorem dX8_saveSnapshot_10 : decode cX8_saveSnapshot 10 = .ok (.aload_n 0, 1) := by decide +kernel
theorem dX8_saveSnapshot_11 : decode cX8_saveSnapshot 11 = .ok (.getfield 31, 3) := by decide +kernel
theorem dX8_saveSnapshot_14 : decode cX8_saveSnapshot 14 = .ok (.invokevirtual 314, 3) := by decide +kernel
theorem dX8_saveSnapshot_17 : decode cX8_saveSnapshot 17 = .ok (.aload_n 0, 1) := by decide +kernel
theorem dX8_saveSnapshot_18 : decode cX8_saveSnapshot 18 = .ok (.getfield 31, 3) := by decide +kernel
theorem dX8_saveSnapshot_21 : decode cX8_saveSnapshot 21 = .ok (.getfield 99, 3) := by decide +kernel
theorem dX8_saveSnapshot_24 : decode cX8_saveSnapshot 24 = .ok (.ireturn, 1) := by decide +kernel
theorem dX8_restoreSnapshot_0 : decode cX8_restoreSnapshot 0 = .ok (.aload_n 0, 1) := by decide +kernel
theorem dX8_restoreSnapshot_1 : decode cX8_restoreSnapshot 1 = .ok (.iload_n 1, 1) := by decide +kernel
theorem dX8_restoreSnapshot_2 : decode cX8_restoreSnapshot 2 = .ok (.invokevirtual 311, 3) := by decide +kernel
theorem dX8_restoreSnapshot_5 : decode cX8_restoreSnapshot 5 = .ok (.aload_n 0, 1) := by decide +kernel
theorem dX8_restoreSnapshot_6 : decode cX8_restoreSnapshot 6 = .ok (.getfield 48, 3) := by decide +kernel
theorem dX8_restoreSnapshot_9 : decode cX8_restoreSnapshot 9 = .ok (.getfield 318, 3) := by decide +kernel
theorem dX8_restoreSnapshot_12 : decode cX8_restoreSnapshot 12 = .ok (.iload_n 1, 1) := by decide +kernel
theorem dX8_restoreSnapshot_13 : decode cX8_restoreSnapshot 13 = .ok (.baload, 1) := by decide +kernel
theorem dX8_restoreSnapshot_14 : decode cX8_restoreSnapshot 14 = .ok (.ifCond .ne 14, 3) := by decide +kernel
theorem dX8_restoreSnapshot_17 : decode cX8_restoreSnapshot 17 = .ok (.new 94, 3) := by decide +kernel
theorem dX8_restoreSnapshot_20 : decode cX8_restoreSnapshot 20 = .ok (.dup, 1) := by decide +kernel
theorem dX8_restoreSnapshot_21 : decode cX8_restoreSnapshot 21 = .ok (.ldc_w 322, 3) := by decide +kernel
theorem dX8_restoreSnapshot_24 : decode cX8_restoreSnapshot 24 = .ok (.invokespecial 98, 3) := by decide +kernel
theorem dX8_restoreSnapshot_27 : decode cX8_restoreSnapshot 27 = .ok (.athrow, 1) := by decide +kernel
theorem dX8_restoreSnapshot_28 : decode cX8_restoreSnapshot 28 = .ok (.aload_n 0, 1) := by decide +kernel
theorem dX8_restoreSnapshot_29 : decode cX8_restoreSnapshot 29 = .ok (.getfield 41, 3) := by decide +kernel
theorem dX8_restoreSnapshot_32 : decode cX8_restoreSnapshot 32 = .ok (.aload_n 0, 1) := by decide +kernel
theorem dX8_restoreSnapshot_33 : decode cX8_restoreSnapshot 33 = .ok (.getfield 31, 3) := by decide +kernel
theorem dX8_restoreSnapshot_36 : decode cX8_restoreSnapshot 36 = .ok (.invokevirtual 274, 3) := by decide +kernel
theorem dX8_restoreSnapshot_39 : decode cX8_restoreSnapshot 39 = .ok (.aload_n 0, 1) := by decide +kernel
theorem dX8_restoreSnapshot_40 : decode cX8_restoreSnapshot 40 = .ok (.getfield 31, 3) := by decide +kernel
theorem dX8_restoreSnapshot_43 : decode cX8_restoreSnapshot 43 = .ok (.aload_n 0, 1) := by decide +kernel
theorem dX8_restoreSnapshot_44 : decode cX8_restoreSnapshot 44 = .ok (.getfield 48, 3) := by decide +kernel
theorem dX8_restoreSnapshot_47 : decode cX8_restoreSnapshot 47 = .ok (.getfield 324, 3) := by decide +kernel
theorem dX8_restoreSnapshot_50 : decode cX8_restoreSnapshot 50 = .ok (.iload_n 1, 1) := by decide +kernel
theorem dX8_restoreSnapshot_51 : decode cX8_restoreSnapshot 51 = .ok (.aaload, 1) := by decide +kernel
theorem dX8_restoreSnapshot_52 : decode cX8_restoreSnapshot 52 = .ok (.invokevirtual 328, 3) := by decide +kernel
theorem dX8_restoreSnapshot_55 : decode cX8_restoreSnapshot 55 = .ok (.aload_n 0, 1) := by decide +kernel
theorem dX8_restoreSnapshot_56 : decode cX8_restoreSnapshot 56 = .ok (.getfield 31, 3) := by decide +kernel
theorem dX8_restoreSnapshot_59 : decode cX8_restoreSnapshot 59 = .ok (.getfield 99, 3) := by decide +kernel
theorem dX8_restoreSnapshot_62 : decode cX8_restoreSnapshot 62 = .ok (.ireturn, 1) := by decide +kernel
theorem dX8_writeEntries_0 : decode cX8_writeEntries 0 = .ok (.aload_n 0, 1) := by decide +kernel
theorem dX8_writeEntries_1 : decode cX8_writeEntries 1 = .ok (.iload_n 1, 1) := by decide +kernel
theorem dX8_writeEntries_2 : decode cX8_writeEntries 2 = .ok (.invokevirtual 124, 3) := by decide +kernel
theorem dX8_writeEntries_5 : decode cX8_writeEntries 5 = .ok (.aload_n 0, 1) := by decide +kernel
theorem dX8_writeEntries_6 : decode cX8_writeEntries 6 = .ok (.getfield 16, 3) := by decide +kernel
theorem dX8_writeEntries_9 : decode cX8_writeEntries 9 = .ok (.iconst 0, 1) := by decide +kernel
theorem dX8_writeEntries_10 : decode cX8_writeEntries 10 = .ok (.putfield 65, 3) := by decide +kernel
theorem dX8_writeEntries_13 : decode cX8_writeEntries 13 = .ok (.aload_n 0, 1) := by decide +kernel
theorem dX8_writeEntries_14 : decode cX8_writeEntries 14 = .ok (.getfield 31, 3) := by decide +kernel
theorem dX8_writeEntries_17 : decode cX8_writeEntries 17 = .ok (.getfield 210, 3) := by decide +kernel
theorem dX8_writeEntries_20 : decode cX8_writeEntries 20 = .ok (.aload_n 0, 1) := by decide +kernel
theorem dX8_writeEntries_21 : decode cX8_writeEntries 21 = .ok (.getfield 16, 3) := by decide +kernel
theorem dX8_writeEntries_24 : decode cX8_writeEntries 24 = .ok (.iload_n 1, 1) := by decide +kernel
theorem dX8_writeEntries_25 : decode cX8_writeEntries 25 = .ok (.invokevirtual 331, 3) := by decide +kernel
theorem dX8_writeEntries_28 : decode cX8_writeEntries 28 = .ok (.aload_n 0, 1) := by decide +kernel
theorem dX8_writeEntries_29 : decode cX8_writeEntries 29 = .ok (.getfield 16, 3) := by decide +kernel
theorem dX8_writeEntries_32 : decode cX8_writeEntries 32 = .ok (.getfield 65, 3) := by decide +kernel
theorem dX8_writeEntries_35 : decode cX8_writeEntries 35 = .ok (.ireturn, 1) := by decide +kernel
theorem dX8_writtenByte_0 : decode cX8_writtenByte 0 = .ok (.iload_n 1, 1) := by decide +kernel
theorem dX8_writtenByte_1 : decode cX8_writtenByte 1 = .ok (.ifCond .lt 14, 3) := by decide +kernel
theorem dX8_writtenByte_4 : decode cX8_writtenByte 4 = .ok (.iload_n 1, 1) := by decide +kernel
theorem dX8_writtenByte_5 : decode cX8_writtenByte 5 = .ok (.aload_n 0, 1) := by decide +kernel
theorem dX8_writtenByte_6 : decode cX8_writtenByte 6 = .ok (.getfield 16, 3) := by decide +kernel
theorem dX8_writtenByte_9 : decode cX8_writtenByte 9 = .ok (.getfield 65, 3) := by decide +kernel
theorem dX8_writtenByte_12 : decode cX8_writtenByte 12 = .ok (.if_icmp .lt 14, 3) := by decide +kernel
theorem dX8_writtenByte_15 : decode cX8_writtenByte 15 = .ok (.new 131, 3) := by decide +kernel
theorem dX8_writtenByte_18 : decode cX8_writtenByte 18 = .ok (.dup, 1) := by decide +kernel
theorem dX8_writtenByte_19 : decode cX8_writtenByte 19 = .ok (.ldc_w 335, 3) := by decide +kernel
theorem dX8_writtenByte_22 : decode cX8_writtenByte 22 = .ok (.invokespecial 135, 3) := by decide +kernel
theorem dX8_writtenByte_25 : decode cX8_writtenByte 25 = .ok (.athrow, 1) := by decide +kernel
theorem dX8_writtenByte_26 : decode cX8_writtenByte 26 = .ok (.aload_n 0, 1) := by decide +kernel
theorem dX8_writtenByte_27 : decode cX8_writtenByte 27 = .ok (.getfield 16, 3) := by decide +kernel
theorem dX8_writtenByte_30 : decode cX8_writtenByte 30 = .ok (.getfield 337, 3) := by decide +kernel
theorem dX8_writtenByte_33 : decode cX8_writtenByte 33 = .ok (.iload_n 1, 1) := by decide +kernel
theorem dX8_writtenByte_34 : decode cX8_writtenByte 34 = .ok (.iaload, 1) := by decide +kernel
theorem dX8_writtenByte_35 : decode cX8_writtenByte 35 = .ok (.ireturn, 1) := by decide +kernel
theorem dX8_readInput_0 : decode cX8_readInput 0 = .ok (.aload_n 0, 1) := by decide +kernel
theorem dX8_readInput_1 : decode cX8_readInput 1 = .ok (.aload_n 0, 1) := by decide +kernel
theorem dX8_readInput_2 : decode cX8_readInput 2 = .ok (.getfield 24, 3) := by decide +kernel
theorem dX8_readInput_5 : decode cX8_readInput 5 = .ok (.aload_n 0, 1) := by decide +kernel
theorem dX8_readInput_6 : decode cX8_readInput 6 = .ok (.getfield 35, 3) := by decide +kernel
theorem dX8_readInput_9 : decode cX8_readInput 9 = .ok (.invokevirtual 340, 3) := by decide +kernel
theorem dX8_readInput_12 : decode cX8_readInput 12 = .ok (.putfield 52, 3) := by decide +kernel
theorem dX8_readInput_15 : decode cX8_readInput 15 = .ok (.aload_n 0, 1) := by decide +kernel
theorem dX8_readInput_16 : decode cX8_readInput 16 = .ok (.getfield 10, 3) := by decide +kernel
theorem dX8_readInput_19 : decode cX8_readInput 19 = .ok (.iconst 0, 1) := by decide +kernel
theorem dX8_readInput_20 : decode cX8_readInput 20 = .ok (.putfield 65, 3) := by decide +kernel
theorem dX8_readInput_23 : decode cX8_readInput 23 = .ok (.aload_n 0, 1) := by decide +kernel
theorem dX8_readInput_24 : decode cX8_readInput 24 = .ok (.getfield 52, 3) := by decide +kernel
theorem dX8_readInput_27 : decode cX8_readInput 27 = .ok (.iconst (-1), 1) := by decide +kernel
theorem dX8_readInput_28 : decode cX8_readInput 28 = .ok (.if_icmp .ne 29, 3) := by decide +kernel
theorem dX8_readInput_31 : decode cX8_readInput 31 = .ok (.aload_n 0, 1) := by decide +kernel
theorem dX8_readInput_32 : decode cX8_readInput 32 = .ok (.getfield 31, 3) := by decide +kernel
theorem dX8_readInput_35 : decode cX8_readInput 35 = .ok (.aload_n 0, 1) := by decide +kernel
theorem dX8_readInput_36 : decode cX8_readInput 36 = .ok (.getfield 35, 3) := by decide +kernel
theorem dX8_readInput_39 : decode cX8_readInput 39 = .ok (.invokevirtual 328, 3) := by decide +kernel
theorem dX8_readInput_42 : decode cX8_readInput 42 = .ok (.aload_n 0, 1) := by decide +kernel
theorem dX8_readInput_43 : decode cX8_readInput 43 = .ok (.getfield 41, 3) := by decide +kernel
theorem dX8_readInput_46 : decode cX8_readInput 46 = .ok (.iconst 0, 1) := by decide +kernel
theorem dX8_readInput_47 : decode cX8_readInput 47 = .ok (.putfield 305, 3) := by decide +kernel
theorem dX8_readInput_50 : decode cX8_readInput 50 = .ok (.aload_n 0, 1) := by decide +kernel
theorem dX8_readInput_51 : decode cX8_readInput 51 = .ok (.getfield 48, 3) := by decide +kernel
theorem dX8_readInput_54 : decode cX8_readInput 54 = .ok (.invokevirtual 344, 3) := by decide +kernel
theorem dX8_readInput_57 : decode cX8_readInput 57 = .ok (.return_, 1) := by decide +kernel
theorem dX8_requireGuest_0 : decode cX8_requireGuest 0 = .ok (.iload_n 1, 1) := by decide +kernel
theorem dX8_requireGuest_1 : decode cX8_requireGuest 1 = .ok (.ifCond .lt 17, 3) := by decide +kernel
theorem dX8_requireGuest_4 : decode cX8_requireGuest 4 = .ok (.iload_n 1, 1) := by decide +kernel
theorem dX8_requireGuest_5 : decode cX8_requireGuest 5 = .ok (.aload_n 0, 1) := by decide +kernel
theorem dX8_requireGuest_6 : decode cX8_requireGuest 6 = .ok (.getfield 31, 3) := by decide +kernel
theorem dX8_requireGuest_9 : decode cX8_requireGuest 9 = .ok (.getfield 85, 3) := by decide +kernel
theorem dX8_requireGuest_12 : decode cX8_requireGuest 12 = .ok (.getfield 89, 3) := by decide +kernel
theorem dX8_requireGuest_15 : decode cX8_requireGuest 15 = .ok (.if_icmp .lt 14, 3) := by decide +kernel
theorem dX8_requireGuest_18 : decode cX8_requireGuest 18 = .ok (.new 131, 3) := by decide +kernel
theorem dX8_requireGuest_21 : decode cX8_requireGuest 21 = .ok (.dup, 1) := by decide +kernel
theorem dX8_requireGuest_22 : decode cX8_requireGuest 22 = .ok (.ldc_w 347, 3) := by decide +kernel
theorem dX8_requireGuest_25 : decode cX8_requireGuest 25 = .ok (.invokespecial 135, 3) := by decide +kernel
theorem dX8_requireGuest_28 : decode cX8_requireGuest 28 = .ok (.athrow, 1) := by decide +kernel
theorem dX8_requireGuest_29 : decode cX8_requireGuest 29 = .ok (.return_, 1) := by decide +kernel
theorem dX8_requireUmbrella_0 : decode cX8_requireUmbrella 0 = .ok (.iload_n 1, 1) := by decide +kernel
theorem dX8_requireUmbrella_1 : decode cX8_requireUmbrella 1 = .ok (.ifCond .lt 17, 3) := by decide +kernel
theorem dX8_requireUmbrella_4 : decode cX8_requireUmbrella 4 = .ok (.iload_n 1, 1) := by decide +kernel
theorem dX8_requireUmbrella_5 : decode cX8_requireUmbrella 5 = .ok (.aload_n 0, 1) := by decide +kernel
theorem dX8_requireUmbrella_6 : decode cX8_requireUmbrella 6 = .ok (.getfield 31, 3) := by decide +kernel
theorem dX8_requireUmbrella_9 : decode cX8_requireUmbrella 9 = .ok (.getfield 171, 3) := by decide +kernel
theorem dX8_requireUmbrella_12 : decode cX8_requireUmbrella 12 = .ok (.getfield 175, 3) := by decide +kernel
theorem dX8_requireUmbrella_15 : decode cX8_requireUmbrella 15 = .ok (.if_icmp .lt 14, 3) := by decide +kernel
theorem dX8_requireUmbrella_18 : decode cX8_requireUmbrella 18 = .ok (.new 131, 3) := by decide +kernel
theorem dX8_requireUmbrella_21 : decode cX8_requireUmbrella 21 = .ok (.dup, 1) := by decide +kernel
theorem dX8_requireUmbrella_22 : decode cX8_requireUmbrella 22 = .ok (.ldc_w 349, 3) := by decide +kernel
theorem dX8_requireUmbrella_25 : decode cX8_requireUmbrella 25 = .ok (.invokespecial 135, 3) := by decide +kernel
theorem dX8_requireUmbrella_28 : decode cX8_requireUmbrella 28 = .ok (.athrow, 1) := by decide +kernel
theorem dX8_requireUmbrella_29 : decode cX8_requireUmbrella 29 = .ok (.return_, 1) := by decide +kernel
theorem dX8_requireEntry_0 : decode cX8_requireEntry 0 = .ok (.iload_n 1, 1) := by decide +kernel
theorem dX8_requireEntry_1 : decode cX8_requireEntry 1 = .ok (.ifCond .lt 17, 3) := by decide +kernel
theorem dX8_requireEntry_4 : decode cX8_requireEntry 4 = .ok (.iload_n 1, 1) := by decide +kernel
theorem dX8_requireEntry_5 : decode cX8_requireEntry 5 = .ok (.aload_n 0, 1) := by decide +kernel
theorem dX8_requireEntry_6 : decode cX8_requireEntry 6 = .ok (.getfield 31, 3) := by decide +kernel
theorem dX8_requireEntry_9 : decode cX8_requireEntry 9 = .ok (.getfield 210, 3) := by decide +kernel
theorem dX8_requireEntry_12 : decode cX8_requireEntry 12 = .ok (.getfield 214, 3) := by decide +kernel
theorem dX8_requireEntry_15 : decode cX8_requireEntry 15 = .ok (.if_icmp .lt 14, 3) := by decide +kernel
theorem dX8_requireEntry_18 : decode cX8_requireEntry 18 = .ok (.new 131, 3) := by decide +kernel
theorem dX8_requireEntry_21 : decode cX8_requireEntry 21 = .ok (.dup, 1) := by decide +kernel
theorem dX8_requireEntry_22 : decode cX8_requireEntry 22 = .ok (.ldc_w 351, 3) := by decide +kernel
theorem dX8_requireEntry_25 : decode cX8_requireEntry 25 = .ok (.invokespecial 135, 3) := by decide +kernel
theorem dX8_requireEntry_28 : decode cX8_requireEntry 28 = .ok (.athrow, 1) := by decide +kernel
theorem dX8_requireEntry_29 : decode cX8_requireEntry 29 = .ok (.return_, 1) := by decide +kernel
theorem dX8_requireSlot_0 : decode cX8_requireSlot 0 = .ok (.iload_n 1, 1) := by decide +kernel
theorem dX8_requireSlot_1 : decode cX8_requireSlot 1 = .ok (.ifCond .lt 8, 3) := by decide +kernel
theorem dX8_requireSlot_4 : decode cX8_requireSlot 4 = .ok (.iload_n 1, 1) := by decide +kernel
theorem dX8_requireSlot_5 : decode cX8_requireSlot 5 = .ok (.iconst 2, 1) := by decide +kernel
theorem dX8_requireSlot_6 : decode cX8_requireSlot 6 = .ok (.if_icmp .lt 14, 3) := by decide +kernel
theorem dX8_requireSlot_9 : decode cX8_requireSlot 9 = .ok (.new 131, 3) := by decide +kernel
theorem dX8_requireSlot_12 : decode cX8_requireSlot 12 = .ok (.dup, 1) := by decide +kernel
theorem dX8_requireSlot_13 : decode cX8_requireSlot 13 = .ok (.ldc_w 353, 3) := by decide +kernel
theorem dX8_requireSlot_16 : decode cX8_requireSlot 16 = .ok (.invokespecial 135, 3) := by decide +kernel
theorem dX8_requireSlot_19 : decode cX8_requireSlot 19 = .ok (.athrow, 1) := by decide +kernel
theorem dX8_requireSlot_20 : decode cX8_requireSlot 20 = .ok (.return_, 1) := by decide +kernel
theorem dX8_requirePassed_0 : decode cX8_requirePassed 0 = .ok (.iload_n 1, 1) := by decide +kernel
theorem dX8_requirePassed_1 : decode cX8_requirePassed 1 = .ok (.ifCond .lt 19, 3) := by decide +kernel
theorem dX8_requirePassed_4 : decode cX8_requirePassed 4 = .ok (.iload_n 2, 1) := by decide +kernel
theorem dX8_requirePassed_5 : decode cX8_requirePassed 5 = .ok (.iload_n 1, 1) := by decide +kernel
theorem dX8_requirePassed_6 : decode cX8_requirePassed 6 = .ok (.if_icmp .lt 14, 3) := by decide +kernel
theorem dX8_requirePassed_9 : decode cX8_requirePassed 9 = .ok (.iload_n 2, 1) := by decide +kernel
theorem dX8_requirePassed_10 : decode cX8_requirePassed 10 = .ok (.aload_n 0, 1) := by decide +kernel
theorem dX8_requirePassed_11 : decode cX8_requirePassed 11 = .ok (.getfield 31, 3) := by decide +kernel
theorem dX8_requirePassed_14 : decode cX8_requirePassed 14 = .ok (.getfield 99, 3) := by decide +kernel
theorem dX8_requirePassed_17 : decode cX8_requirePassed 17 = .ok (.if_icmp .lt 14, 3) := by decide +kernel
theorem dX8_requirePassed_20 : decode cX8_requirePassed 20 = .ok (.new 78, 3) := by decide +kernel
theorem dX8_requirePassed_23 : decode cX8_requirePassed 23 = .ok (.dup, 1) := by decide +kernel
theorem dX8_requirePassed_24 : decode cX8_requirePassed 24 = .ok (.ldc_w 355, 3) := by decide +kernel
theorem dX8_requirePassed_27 : decode cX8_requirePassed 27 = .ok (.invokespecial 82, 3) := by decide +kernel
theorem dX8_requirePassed_30 : decode cX8_requirePassed 30 = .ok (.athrow, 1) := by decide +kernel
theorem dX8_requirePassed_31 : decode cX8_requirePassed 31 = .ok (.return_, 1) := by decide +kernel
theorem dX8_requireRange_0 : decode cX8_requireRange 0 = .ok (.iload_n 1, 1) := by decide +kernel
theorem dX8_requireRange_1 : decode cX8_requireRange 1 = .ok (.iload_n 2, 1) := by decide +kernel
theorem dX8_requireRange_2 : decode cX8_requireRange 2 = .ok (.if_icmp .lt 8, 3) := by decide +kernel
theorem dX8_requireRange_5 : decode cX8_requireRange 5 = .ok (.iload_n 1, 1) := by decide +kernel
theorem dX8_requireRange_6 : decode cX8_requireRange 6 = .ok (.iload_n 3, 1) := by decide +kernel
theorem dX8_requireRange_7 : decode cX8_requireRange 7 = .ok (.if_icmp .le 14, 3) := by decide +kernel
theorem dX8_requireRange_10 : decode cX8_requireRange 10 = .ok (.new 78, 3) := by decide +kernel
theorem dX8_requireRange_13 : decode cX8_requireRange 13 = .ok (.dup, 1) := by decide +kernel
theorem dX8_requireRange_14 : decode cX8_requireRange 14 = .ok (.ldc_w 357, 3) := by decide +kernel
theorem dX8_requireRange_17 : decode cX8_requireRange 17 = .ok (.invokespecial 82, 3) := by decide +kernel
theorem dX8_requireRange_20 : decode cX8_requireRange 20 = .ok (.athrow, 1) := by decide +kernel
theorem dX8_requireRange_21 : decode cX8_requireRange 21 = .ok (.return_, 1) := by decide +kernel
theorem dX8_requireRoomForEntry_0 : decode cX8_requireRoomForEntry 0 = .ok (.aload_n 0, 1) := by decide +kernel
theorem dX8_requireRoomForEntry_1 : decode cX8_requireRoomForEntry 1 = .ok (.getfield 31, 3) := by decide +kernel
theorem dX8_requireRoomForEntry_4 : decode cX8_requireRoomForEntry 4 = .ok (.getfield 210, 3) := by decide +kernel
theorem dX8_requireRoomForEntry_7 : decode cX8_requireRoomForEntry 7 = .ok (.getfield 214, 3) := by decide +kernel
theorem dX8_requireRoomForEntry_10 : decode cX8_requireRoomForEntry 10 = .ok (.bipush 60, 2) := by decide +kernel
theorem dX8_requireRoomForEntry_12 : decode cX8_requireRoomForEntry 12 = .ok (.if_icmp .lt 14, 3) := by decide +kernel
theorem dX8_requireRoomForEntry_15 : decode cX8_requireRoomForEntry 15 = .ok (.new 68, 3) := by decide +kernel
theorem dX8_requireRoomForEntry_18 : decode cX8_requireRoomForEntry 18 = .ok (.dup, 1) := by decide +kernel
theorem dX8_requireRoomForEntry_19 : decode cX8_requireRoomForEntry 19 = .ok (.ldc_w 359, 3) := by decide +kernel
theorem dX8_requireRoomForEntry_22 : decode cX8_requireRoomForEntry 22 = .ok (.invokespecial 72, 3) := by decide +kernel
theorem dX8_requireRoomForEntry_25 : decode cX8_requireRoomForEntry 25 = .ok (.athrow, 1) := by decide +kernel
theorem dX8_requireRoomForEntry_26 : decode cX8_requireRoomForEntry 26 = .ok (.return_, 1) := by decide +kernel
theorem dX8_isLetter_0 : decode cX8_isLetter 0 = .ok (.iload_n 0, 1) := by decide +kernel
theorem dX8_isLetter_1 : decode cX8_isLetter 1 = .ok (.bipush 97, 2) := by decide +kernel
theorem dX8_isLetter_3 : decode cX8_isLetter 3 = .ok (.if_icmp .lt 13, 3) := by decide +kernel
theorem dX8_isLetter_6 : decode cX8_isLetter 6 = .ok (.iload_n 0, 1) := by decide +kernel
theorem dX8_isLetter_7 : decode cX8_isLetter 7 = .ok (.bipush 122, 2) := by decide +kernel
theorem dX8_isLetter_9 : decode cX8_isLetter 9 = .ok (.if_icmp .gt 7, 3) := by decide +kernel
theorem dX8_isLetter_12 : decode cX8_isLetter 12 = .ok (.iconst 1, 1) := by decide +kernel
theorem dX8_isLetter_13 : decode cX8_isLetter 13 = .ok (.goto 4, 3) := by decide +kernel
theorem dX8_isLetter_16 : decode cX8_isLetter 16 = .ok (.iconst 0, 1) := by decide +kernel
theorem dX8_isLetter_17 : decode cX8_isLetter 17 = .ok (.ireturn, 1) := by decide +kernel
theorem dX8_isDigit_0 : decode cX8_isDigit 0 = .ok (.iload_n 0, 1) := by decide +kernel
theorem dX8_isDigit_1 : decode cX8_isDigit 1 = .ok (.bipush 48, 2) := by decide +kernel
theorem dX8_isDigit_3 : decode cX8_isDigit 3 = .ok (.if_icmp .lt 13, 3) := by decide +kernel
theorem dX8_isDigit_6 : decode cX8_isDigit 6 = .ok (.iload_n 0, 1) := by decide +kernel
theorem dX8_isDigit_7 : decode cX8_isDigit 7 = .ok (.bipush 57, 2) := by decide +kernel
theorem dX8_isDigit_9 : decode cX8_isDigit 9 = .ok (.if_icmp .gt 7, 3) := by decide +kernel
theorem dX8_isDigit_12 : decode cX8_isDigit 12 = .ok (.iconst 1, 1) := by decide +kernel
theorem dX8_isDigit_13 : decode cX8_isDigit 13 = .ok (.goto 4, 3) := by decide +kernel
theorem dX8_isDigit_16 : decode cX8_isDigit 16 = .ok (.iconst 0, 1) := by decide +kernel
theorem dX8_isDigit_17 : decode cX8_isDigit 17 = .ok (.ireturn, 1) := by decide +kernel
theorem dX8_isBlank_0 : decode cX8_isBlank 0 = .ok (.iload_n 0, 1) := by decide +kernel
theorem dX8_isBlank_1 : decode cX8_isBlank 1 = .ok (.bipush 32, 2) := by decide +kernel
theorem dX8_isBlank_3 : decode cX8_isBlank 3 = .ok (.if_icmp .eq 9, 3) := by decide +kernel
theorem dX8_isBlank_6 : decode cX8_isBlank 6 = .ok (.iload_n 0, 1) := by decide +kernel
theorem dX8_isBlank_7 : decode cX8_isBlank 7 = .ok (.bipush 10, 2) := by decide +kernel
theorem dX8_isBlank_9 : decode cX8_isBlank 9 = .ok (.if_icmp .ne 7, 3) := by decide +kernel
theorem dX8_isBlank_12 : decode cX8_isBlank 12 = .ok (.iconst 1, 1) := by decide +kernel
theorem dX8_isBlank_13 : decode cX8_isBlank 13 = .ok (.goto 4, 3) := by decide +kernel
theorem dX8_isBlank_16 : decode cX8_isBlank 16 = .ok (.iconst 0, 1) := by decide +kernel
theorem dX8_isBlank_17 : decode cX8_isBlank 17 = .ok (.ireturn, 1) := by decide +kernel
theorem dJ0_init_81219_0 : decode cJ0_init_81219 0 = .ok (.aload_n 0, 1) := by decide +kernel
theorem dJ0_init_81219_1 : decode cJ0_init_81219 1 = .ok (.aload_n 1, 1) := by decide +kernel
theorem dJ0_init_81219_2 : decode cJ0_init_81219 2 = .ok (.aconst_null, 1) := by decide +kernel
theorem dJ0_init_81219_3 : decode cJ0_init_81219 3 = .ok (.invokespecial 489, 3) := by decide +kernel
theorem dJ0_init_81219_6 : decode cJ0_init_81219 6 = .ok (.return_, 1) := by decide +kernel
theorem dJ0_length_8abf5_0 : decode cJ0_length_8abf5 0 = .ok (.aload_n 0, 1) := by decide +kernel
theorem dJ0_length_8abf5_1 : decode cJ0_length_8abf5 1 = .ok (.getfield 9, 3) := by decide +kernel
theorem dJ0_length_8abf5_4 : decode cJ0_length_8abf5 4 = .ok (.arraylength, 1) := by decide +kernel
theorem dJ0_length_8abf5_5 : decode cJ0_length_8abf5 5 = .ok (.aload_n 0, 1) := by decide +kernel
theorem dJ0_length_8abf5_6 : decode cJ0_length_8abf5 6 = .ok (.invokevirtual 335, 3) := by decide +kernel
theorem dJ0_length_8abf5_9 : decode cJ0_length_8abf5 9 = .ok (.ishr, 1) := by decide +kernel
theorem dJ0_length_8abf5_10 : decode cJ0_length_8abf5 10 = .ok (.ireturn, 1) := by decide +kernel
theorem dJ0_charAt_5068e_0 : decode cJ0_charAt_5068e 0 = .ok (.aload_n 0, 1) := by decide +kernel
theorem dJ0_charAt_5068e_1 : decode cJ0_charAt_5068e 1 = .ok (.invokevirtual 492, 3) := by decide +kernel
theorem dJ0_charAt_5068e_4 : decode cJ0_charAt_5068e 4 = .ok (.ifCond .eq 12, 3) := by decide +kernel
theorem dJ0_charAt_5068e_7 : decode cJ0_charAt_5068e 7 = .ok (.aload_n 0, 1) := by decide +kernel
theorem dJ0_charAt_5068e_8 : decode cJ0_charAt_5068e 8 = .ok (.getfield 9, 3) := by decide +kernel
theorem dJ0_charAt_5068e_11 : decode cJ0_charAt_5068e 11 = .ok (.iload_n 1, 1) := by decide +kernel
theorem dJ0_charAt_5068e_12 : decode cJ0_charAt_5068e 12 = .ok (.invokestatic 495, 3) := by decide +kernel
theorem dJ0_charAt_5068e_15 : decode cJ0_charAt_5068e 15 = .ok (.ireturn, 1) := by decide +kernel
theorem dJ0_charAt_5068e_16 : decode cJ0_charAt_5068e 16 = .ok (.aload_n 0, 1) := by decide +kernel
theorem dJ0_charAt_5068e_17 : decode cJ0_charAt_5068e 17 = .ok (.getfield 9, 3) := by decide +kernel
theorem dJ0_charAt_5068e_20 : decode cJ0_charAt_5068e 20 = .ok (.iload_n 1, 1) := by decide +kernel
theorem dJ0_charAt_5068e_21 : decode cJ0_charAt_5068e 21 = .ok (.invokestatic 498, 3) := by decide +kernel
theorem dJ0_charAt_5068e_24 : decode cJ0_charAt_5068e 24 = .ok (.ireturn, 1) := by decide +kernel
theorem dJ0_getBytes_840e7_0 : decode cJ0_getBytes_840e7 0 = .ok (.aload_n 0, 1) := by decide +kernel
theorem dJ0_getBytes_840e7_1 : decode cJ0_getBytes_840e7 1 = .ok (.invokevirtual 335, 3) := by decide +kernel
theorem dJ0_getBytes_840e7_4 : decode cJ0_getBytes_840e7 4 = .ok (.iload_n 3, 1) := by decide +kernel
theorem dJ0_getBytes_840e7_5 : decode cJ0_getBytes_840e7 5 = .ok (.if_icmp .ne 23, 3) := by decide +kernel
theorem dJ0_getBytes_840e7_8 : decode cJ0_getBytes_840e7 8 = .ok (.aload_n 0, 1) := by decide +kernel
theorem dJ0_getBytes_840e7_9 : decode cJ0_getBytes_840e7 9 = .ok (.getfield 9, 3) := by decide +kernel
theorem dJ0_getBytes_840e7_12 : decode cJ0_getBytes_840e7 12 = .ok (.iconst 0, 1) := by decide +kernel
theorem dJ0_getBytes_840e7_13 : decode cJ0_getBytes_840e7 13 = .ok (.aload_n 1, 1) := by decide +kernel
theorem dJ0_getBytes_840e7_14 : decode cJ0_getBytes_840e7 14 = .ok (.iload_n 2, 1) := by decide +kernel
theorem dJ0_getBytes_840e7_15 : decode cJ0_getBytes_840e7 15 = .ok (.iload_n 3, 1) := by decide +kernel
theorem dJ0_getBytes_840e7_16 : decode cJ0_getBytes_840e7 16 = .ok (.ishl, 1) := by decide +kernel
theorem dJ0_getBytes_840e7_17 : decode cJ0_getBytes_840e7 17 = .ok (.aload_n 0, 1) := by decide +kernel
theorem dJ0_getBytes_840e7_18 : decode cJ0_getBytes_840e7 18 = .ok (.getfield 9, 3) := by decide +kernel
theorem dJ0_getBytes_840e7_21 : decode cJ0_getBytes_840e7 21 = .ok (.arraylength, 1) := by decide +kernel
theorem dJ0_getBytes_840e7_22 : decode cJ0_getBytes_840e7 22 = .ok (.invokestatic 212, 3) := by decide +kernel
theorem dJ0_getBytes_840e7_25 : decode cJ0_getBytes_840e7 25 = .ok (.goto 18, 3) := by decide +kernel
theorem dJ0_getBytes_840e7_28 : decode cJ0_getBytes_840e7 28 = .ok (.aload_n 0, 1) := by decide +kernel
theorem dJ0_getBytes_840e7_29 : decode cJ0_getBytes_840e7 29 = .ok (.getfield 9, 3) := by decide +kernel
theorem dJ0_getBytes_840e7_32 : decode cJ0_getBytes_840e7 32 = .ok (.iconst 0, 1) := by decide +kernel
theorem dJ0_getBytes_840e7_33 : decode cJ0_getBytes_840e7 33 = .ok (.aload_n 1, 1) := by decide +kernel
theorem dJ0_getBytes_840e7_34 : decode cJ0_getBytes_840e7 34 = .ok (.iload_n 2, 1) := by decide +kernel
theorem dJ0_getBytes_840e7_35 : decode cJ0_getBytes_840e7 35 = .ok (.aload_n 0, 1) := by decide +kernel
theorem dJ0_getBytes_840e7_36 : decode cJ0_getBytes_840e7 36 = .ok (.getfield 9, 3) := by decide +kernel
theorem dJ0_getBytes_840e7_39 : decode cJ0_getBytes_840e7 39 = .ok (.arraylength, 1) := by decide +kernel
theorem dJ0_getBytes_840e7_40 : decode cJ0_getBytes_840e7 40 = .ok (.invokestatic 106, 3) := by decide +kernel
theorem dJ0_getBytes_840e7_43 : decode cJ0_getBytes_840e7 43 = .ok (.return_, 1) := by decide +kernel
theorem dJ0_init_db425_0 : decode cJ0_init_db425 0 = .ok (.aload_n 0, 1) := by decide +kernel
theorem dJ0_init_db425_1 : decode cJ0_init_db425 1 = .ok (.invokespecial 1, 3) := by decide +kernel
theorem dJ0_init_db425_4 : decode cJ0_init_db425 4 = .ok (.aload_n 1, 1) := by decide +kernel
theorem dJ0_init_db425_5 : decode cJ0_init_db425 5 = .ok (.invokevirtual 552, 3) := by decide +kernel
theorem dJ0_init_db425_8 : decode cJ0_init_db425 8 = .ok (.astore_n 3, 1) := by decide +kernel
theorem dJ0_init_db425_9 : decode cJ0_init_db425 9 = .ok (.aload_n 1, 1) := by decide +kernel
theorem dJ0_init_db425_10 : decode cJ0_init_db425 10 = .ok (.invokevirtual 549, 3) := by decide +kernel
theorem dJ0_init_db425_13 : decode cJ0_init_db425 13 = .ok (.istore 4, 2) := by decide +kernel
theorem dJ0_init_db425_15 : decode cJ0_init_db425 15 = .ok (.aload_n 1, 1) := by decide +kernel
theorem dJ0_init_db425_16 : decode cJ0_init_db425 16 = .ok (.invokevirtual 1047, 3) := by decide +kernel
theorem dJ0_init_db425_19 : decode cJ0_init_db425 19 = .ok (.ifCond .eq 22, 3) := by decide +kernel
theorem dJ0_init_db425_22 : decode cJ0_init_db425 22 = .ok (.aload_n 0, 1) := by decide +kernel
theorem dJ0_init_db425_23 : decode cJ0_init_db425 23 = .ok (.iconst 0, 1) := by decide +kernel
theorem dJ0_init_db425_24 : decode cJ0_init_db425 24 = .ok (.putfield 15, 3) := by decide +kernel
theorem dJ0_init_db425_27 : decode cJ0_init_db425 27 = .ok (.aload_n 0, 1) := by decide +kernel
theorem dJ0_init_db425_28 : decode cJ0_init_db425 28 = .ok (.aload_n 3, 1) := by decide +kernel
theorem dJ0_init_db425_29 : decode cJ0_init_db425 29 = .ok (.iconst 0, 1) := by decide +kernel
theorem dJ0_init_db425_30 : decode cJ0_init_db425 30 = .ok (.iload 4, 2) := by decide +kernel
theorem dJ0_init_db425_32 : decode cJ0_init_db425 32 = .ok (.invokestatic 54, 3) := by decide +kernel
theorem dJ0_init_db425_35 : decode cJ0_init_db425 35 = .ok (.putfield 9, 3) := by decide +kernel
theorem dJ0_init_db425_38 : decode cJ0_init_db425 38 = .ok (.goto 59, 3) := by decide +kernel
theorem dJ0_init_db425_41 : decode cJ0_init_db425 41 = .ok (.getstatic 38, 3) := by decide +kernel
theorem dJ0_init_db425_44 : decode cJ0_init_db425 44 = .ok (.ifCond .eq 35, 3) := by decide +kernel
theorem dJ0_init_db425_47 : decode cJ0_init_db425 47 = .ok (.aload_n 1, 1) := by decide +kernel
theorem dJ0_init_db425_48 : decode cJ0_init_db425 48 = .ok (.getfield 1048, 3) := by decide +kernel
theorem dJ0_init_db425_51 : decode cJ0_init_db425 51 = .ok (.ifCond .eq 28, 3) := by decide +kernel
theorem dJ0_init_db425_54 : decode cJ0_init_db425 54 = .ok (.aload_n 0, 1) := by decide +kernel
theorem dJ0_init_db425_55 : decode cJ0_init_db425 55 = .ok (.aload_n 3, 1) := by decide +kernel
theorem dJ0_init_db425_56 : decode cJ0_init_db425 56 = .ok (.iconst 0, 1) := by decide +kernel
theorem dJ0_init_db425_57 : decode cJ0_init_db425 57 = .ok (.iload 4, 2) := by decide +kernel
theorem dJ0_init_db425_59 : decode cJ0_init_db425 59 = .ok (.invokestatic 1051, 3) := by decide +kernel
theorem dJ0_init_db425_62 : decode cJ0_init_db425 62 = .ok (.putfield 9, 3) := by decide +kernel
theorem dJ0_init_db425_65 : decode cJ0_init_db425 65 = .ok (.aload_n 0, 1) := by decide +kernel
theorem dJ0_init_db425_66 : decode cJ0_init_db425 66 = .ok (.aload_n 0, 1) := by decide +kernel
theorem dJ0_init_db425_67 : decode cJ0_init_db425 67 = .ok (.getfield 9, 3) := by decide +kernel
theorem dJ0_init_db425_70 : decode cJ0_init_db425 70 = .ok (.iload 4, 2) := by decide +kernel
theorem dJ0_init_db425_72 : decode cJ0_init_db425 72 = .ok (.invokestatic 47, 3) := by decide +kernel
theorem dJ0_init_db425_75 : decode cJ0_init_db425 75 = .ok (.putfield 15, 3) := by decide +kernel
theorem dJ0_init_db425_78 : decode cJ0_init_db425 78 = .ok (.return_, 1) := by decide +kernel
theorem dJ0_init_db425_79 : decode cJ0_init_db425 79 = .ok (.aload_n 0, 1) := by decide +kernel
theorem dJ0_init_db425_80 : decode cJ0_init_db425 80 = .ok (.iconst 1, 1) := by decide +kernel
theorem dJ0_init_db425_81 : decode cJ0_init_db425 81 = .ok (.putfield 15, 3) := by decide +kernel
theorem dJ0_init_db425_84 : decode cJ0_init_db425 84 = .ok (.aload_n 0, 1) := by decide +kernel
theorem dJ0_init_db425_85 : decode cJ0_init_db425 85 = .ok (.aload_n 3, 1) := by decide +kernel
theorem dJ0_init_db425_86 : decode cJ0_init_db425 86 = .ok (.iconst 0, 1) := by decide +kernel
theorem dJ0_init_db425_87 : decode cJ0_init_db425 87 = .ok (.iload 4, 2) := by decide +kernel
theorem dJ0_init_db425_89 : decode cJ0_init_db425 89 = .ok (.iconst 1, 1) := by decide +kernel
theorem dJ0_init_db425_90 : decode cJ0_init_db425 90 = .ok (.ishl, 1) := by decide +kernel
theorem dJ0_init_db425_91 : decode cJ0_init_db425 91 = .ok (.invokestatic 54, 3) := by decide +kernel
theorem dJ0_init_db425_94 : decode cJ0_init_db425 94 = .ok (.putfield 9, 3) := by decide +kernel
theorem dJ0_init_db425_97 : decode cJ0_init_db425 97 = .ok (.return_, 1) := by decide +kernel
theorem dJ0_coder_7d493_0 : decode cJ0_coder_7d493 0 = .ok (.getstatic 38, 3) := by decide +kernel
theorem dJ0_coder_7d493_3 : decode cJ0_coder_7d493 3 = .ok (.ifCond .eq 10, 3) := by decide +kernel
theorem dJ0_coder_7d493_6 : decode cJ0_coder_7d493 6 = .ok (.aload_n 0, 1) := by decide +kernel
theorem dJ0_coder_7d493_7 : decode cJ0_coder_7d493 7 = .ok (.getfield 15, 3) := by decide +kernel
theorem dJ0_coder_7d493_10 : decode cJ0_coder_7d493 10 = .ok (.goto 4, 3) := by decide +kernel
theorem dJ0_coder_7d493_13 : decode cJ0_coder_7d493 13 = .ok (.iconst 1, 1) := by decide +kernel
theorem dJ0_coder_7d493_14 : decode cJ0_coder_7d493 14 = .ok (.ireturn, 1) := by decide +kernel
theorem dJ0_isLatin1_aae02_0 : decode cJ0_isLatin1_aae02 0 = .ok (.getstatic 38, 3) := by decide +kernel
theorem dJ0_isLatin1_aae02_3 : decode cJ0_isLatin1_aae02 3 = .ok (.ifCond .eq 14, 3) := by decide +kernel
theorem dJ0_isLatin1_aae02_6 : decode cJ0_isLatin1_aae02 6 = .ok (.aload_n 0, 1) := by decide +kernel
theorem dJ0_isLatin1_aae02_7 : decode cJ0_isLatin1_aae02 7 = .ok (.getfield 15, 3) := by decide +kernel
theorem dJ0_isLatin1_aae02_10 : decode cJ0_isLatin1_aae02 10 = .ok (.ifCond .ne 7, 3) := by decide +kernel
theorem dJ0_isLatin1_aae02_13 : decode cJ0_isLatin1_aae02 13 = .ok (.iconst 1, 1) := by decide +kernel
theorem dJ0_isLatin1_aae02_14 : decode cJ0_isLatin1_aae02 14 = .ok (.goto 4, 3) := by decide +kernel
theorem dJ0_isLatin1_aae02_17 : decode cJ0_isLatin1_aae02 17 = .ok (.iconst 0, 1) := by decide +kernel
theorem dJ0_isLatin1_aae02_18 : decode cJ0_isLatin1_aae02 18 = .ok (.ireturn, 1) := by decide +kernel
theorem dJ0_checkIndex_df160_0 : decode cJ0_checkIndex_df160 0 = .ok (.iload_n 0, 1) := by decide +kernel
theorem dJ0_checkIndex_df160_1 : decode cJ0_checkIndex_df160 1 = .ok (.iload_n 1, 1) := by decide +kernel
theorem dJ0_checkIndex_df160_2 : decode cJ0_checkIndex_df160 2 = .ok (.getstatic 1053, 3) := by decide +kernel
theorem dJ0_checkIndex_df160_5 : decode cJ0_checkIndex_df160 5 = .ok (.invokestatic 1059, 3) := by decide +kernel
theorem dJ0_checkIndex_df160_8 : decode cJ0_checkIndex_df160 8 = .ok (.pop, 1) := by decide +kernel
theorem dJ0_checkIndex_df160_9 : decode cJ0_checkIndex_df160 9 = .ok (.return_, 1) := by decide +kernel
theorem dJ0_checkBoundsOffCount_cabcc_0 : decode cJ0_checkBoundsOffCount_cabcc 0 = .ok (.iload_n 0, 1) := by decide +kernel
theorem dJ0_checkBoundsOffCount_cabcc_1 : decode cJ0_checkBoundsOffCount_cabcc 1 = .ok (.iload_n 1, 1) := by decide +kernel
theorem dJ0_checkBoundsOffCount_cabcc_2 : decode cJ0_checkBoundsOffCount_cabcc 2 = .ok (.iload_n 2, 1) := by decide +kernel
theorem dJ0_checkBoundsOffCount_cabcc_3 : decode cJ0_checkBoundsOffCount_cabcc 3 = .ok (.getstatic 1053, 3) := by decide +kernel
theorem dJ0_checkBoundsOffCount_cabcc_6 : decode cJ0_checkBoundsOffCount_cabcc 6 = .ok (.invokestatic 1065, 3) := by decide +kernel
theorem dJ0_checkBoundsOffCount_cabcc_9 : decode cJ0_checkBoundsOffCount_cabcc 9 = .ok (.ireturn, 1) := by decide +kernel
theorem dJ0_checkBoundsBeginEnd_23922_0 : decode cJ0_checkBoundsBeginEnd_23922 0 = .ok (.iload_n 0, 1) := by decide +kernel
theorem dJ0_checkBoundsBeginEnd_23922_1 : decode cJ0_checkBoundsBeginEnd_23922 1 = .ok (.iload_n 1, 1) := by decide +kernel
theorem dJ0_checkBoundsBeginEnd_23922_2 : decode cJ0_checkBoundsBeginEnd_23922 2 = .ok (.iload_n 2, 1) := by decide +kernel
theorem dJ0_checkBoundsBeginEnd_23922_3 : decode cJ0_checkBoundsBeginEnd_23922 3 = .ok (.getstatic 1053, 3) := by decide +kernel
theorem dJ0_checkBoundsBeginEnd_23922_6 : decode cJ0_checkBoundsBeginEnd_23922 6 = .ok (.invokestatic 1062, 3) := by decide +kernel
theorem dJ0_checkBoundsBeginEnd_23922_9 : decode cJ0_checkBoundsBeginEnd_23922 9 = .ok (.pop, 1) := by decide +kernel
theorem dJ0_checkBoundsBeginEnd_23922_10 : decode cJ0_checkBoundsBeginEnd_23922 10 = .ok (.return_, 1) := by decide +kernel
theorem dJ1_charAt_3b067_0 : decode cJ1_charAt_3b067 0 = .ok (.iload_n 1, 1) := by decide +kernel
theorem dJ1_charAt_3b067_1 : decode cJ1_charAt_3b067 1 = .ok (.aload_n 0, 1) := by decide +kernel
theorem dJ1_charAt_3b067_2 : decode cJ1_charAt_3b067 2 = .ok (.arraylength, 1) := by decide +kernel
theorem dJ1_charAt_3b067_3 : decode cJ1_charAt_3b067 3 = .ok (.invokestatic 9, 3) := by decide +kernel
theorem dJ1_charAt_3b067_6 : decode cJ1_charAt_3b067 6 = .ok (.aload_n 0, 1) := by decide +kernel
theorem dJ1_charAt_3b067_7 : decode cJ1_charAt_3b067 7 = .ok (.iload_n 1, 1) := by decide +kernel
theorem dJ1_charAt_3b067_8 : decode cJ1_charAt_3b067 8 = .ok (.baload, 1) := by decide +kernel
theorem dJ1_charAt_3b067_9 : decode cJ1_charAt_3b067 9 = .ok (.sipush 255, 3) := by decide +kernel
theorem dJ1_charAt_3b067_12 : decode cJ1_charAt_3b067 12 = .ok (.iand, 1) := by decide +kernel
theorem dJ1_charAt_3b067_13 : decode cJ1_charAt_3b067 13 = .ok (.i2c, 1) := by decide +kernel
theorem dJ1_charAt_3b067_14 : decode cJ1_charAt_3b067 14 = .ok (.ireturn, 1) := by decide +kernel
theorem dJ1_canEncode_fc78d_0 : decode cJ1_canEncode_fc78d 0 = .ok (.iload_n 0, 1) := by decide +kernel
theorem dJ1_canEncode_fc78d_1 : decode cJ1_canEncode_fc78d 1 = .ok (.sipush 255, 3) := by decide +kernel
theorem dJ1_canEncode_fc78d_4 : decode cJ1_canEncode_fc78d 4 = .ok (.if_icmp .gt 7, 3) := by decide +kernel
theorem dJ1_canEncode_fc78d_7 : decode cJ1_canEncode_fc78d 7 = .ok (.iconst 1, 1) := by decide +kernel
theorem dJ1_canEncode_fc78d_8 : decode cJ1_canEncode_fc78d 8 = .ok (.goto 4, 3) := by decide +kernel
theorem dJ1_canEncode_fc78d_11 : decode cJ1_canEncode_fc78d 11 = .ok (.iconst 0, 1) := by decide +kernel
theorem dJ1_canEncode_fc78d_12 : decode cJ1_canEncode_fc78d 12 = .ok (.ireturn, 1) := by decide +kernel
theorem dJ1_inflate_0e8fd_0 : decode cJ1_inflate_0e8fd 0 = .ok (.aload_n 0, 1) := by decide +kernel
theorem dJ1_inflate_0e8fd_1 : decode cJ1_inflate_0e8fd 1 = .ok (.iload_n 1, 1) := by decide +kernel
theorem dJ1_inflate_0e8fd_2 : decode cJ1_inflate_0e8fd 2 = .ok (.aload_n 2, 1) := by decide +kernel
theorem dJ1_inflate_0e8fd_3 : decode cJ1_inflate_0e8fd 3 = .ok (.iload_n 3, 1) := by decide +kernel
theorem dJ1_inflate_0e8fd_4 : decode cJ1_inflate_0e8fd 4 = .ok (.iload 4, 2) := by decide +kernel
theorem dJ1_inflate_0e8fd_6 : decode cJ1_inflate_0e8fd 6 = .ok (.invokestatic 240, 3) := by decide +kernel
theorem dJ1_inflate_0e8fd_9 : decode cJ1_inflate_0e8fd 9 = .ok (.return_, 1) := by decide +kernel
theorem dJ3_checkIndex_8e157_0 : decode cJ3_checkIndex_8e157 0 = .ok (.iload_n 0, 1) := by decide +kernel
theorem dJ3_checkIndex_8e157_1 : decode cJ3_checkIndex_8e157 1 = .ok (.ifCond .lt 8, 3) := by decide +kernel
theorem dJ3_checkIndex_8e157_4 : decode cJ3_checkIndex_8e157 4 = .ok (.iload_n 0, 1) := by decide +kernel
theorem dJ3_checkIndex_8e157_5 : decode cJ3_checkIndex_8e157 5 = .ok (.iload_n 1, 1) := by decide +kernel
theorem dJ3_checkIndex_8e157_6 : decode cJ3_checkIndex_8e157 6 = .ok (.if_icmp .lt 10, 3) := by decide +kernel
theorem dJ3_checkIndex_8e157_9 : decode cJ3_checkIndex_8e157 9 = .ok (.aload_n 2, 1) := by decide +kernel
theorem dJ3_checkIndex_8e157_10 : decode cJ3_checkIndex_8e157 10 = .ok (.iload_n 0, 1) := by decide +kernel
theorem dJ3_checkIndex_8e157_11 : decode cJ3_checkIndex_8e157 11 = .ok (.iload_n 1, 1) := by decide +kernel
theorem dJ3_checkIndex_8e157_12 : decode cJ3_checkIndex_8e157 12 = .ok (.invokestatic 95, 3) := by decide +kernel
theorem dJ3_checkIndex_8e157_15 : decode cJ3_checkIndex_8e157 15 = .ok (.athrow, 1) := by decide +kernel
theorem dJ3_checkIndex_8e157_16 : decode cJ3_checkIndex_8e157 16 = .ok (.iload_n 0, 1) := by decide +kernel
theorem dJ3_checkIndex_8e157_17 : decode cJ3_checkIndex_8e157 17 = .ok (.ireturn, 1) := by decide +kernel
theorem dJ3_checkFromToIndex_8c36e_0 : decode cJ3_checkFromToIndex_8c36e 0 = .ok (.iload_n 0, 1) := by decide +kernel
theorem dJ3_checkFromToIndex_8c36e_1 : decode cJ3_checkFromToIndex_8c36e 1 = .ok (.ifCond .lt 13, 3) := by decide +kernel
theorem dJ3_checkFromToIndex_8c36e_4 : decode cJ3_checkFromToIndex_8c36e 4 = .ok (.iload_n 0, 1) := by decide +kernel
theorem dJ3_checkFromToIndex_8c36e_5 : decode cJ3_checkFromToIndex_8c36e 5 = .ok (.iload_n 1, 1) := by decide +kernel
theorem dJ3_checkFromToIndex_8c36e_6 : decode cJ3_checkFromToIndex_8c36e 6 = .ok (.if_icmp .gt 8, 3) := by decide +kernel
theorem dJ3_checkFromToIndex_8c36e_9 : decode cJ3_checkFromToIndex_8c36e 9 = .ok (.iload_n 1, 1) := by decide +kernel
theorem dJ3_checkFromToIndex_8c36e_10 : decode cJ3_checkFromToIndex_8c36e 10 = .ok (.iload_n 2, 1) := by decide +kernel
theorem dJ3_checkFromToIndex_8c36e_11 : decode cJ3_checkFromToIndex_8c36e 11 = .ok (.if_icmp .le 11, 3) := by decide +kernel
theorem dJ3_checkFromToIndex_8c36e_14 : decode cJ3_checkFromToIndex_8c36e 14 = .ok (.aload_n 3, 1) := by decide +kernel
theorem dJ3_checkFromToIndex_8c36e_15 : decode cJ3_checkFromToIndex_8c36e 15 = .ok (.iload_n 0, 1) := by decide +kernel
theorem dJ3_checkFromToIndex_8c36e_16 : decode cJ3_checkFromToIndex_8c36e 16 = .ok (.iload_n 1, 1) := by decide +kernel
theorem dJ3_checkFromToIndex_8c36e_17 : decode cJ3_checkFromToIndex_8c36e 17 = .ok (.iload_n 2, 1) := by decide +kernel
theorem dJ3_checkFromToIndex_8c36e_18 : decode cJ3_checkFromToIndex_8c36e 18 = .ok (.invokestatic 99, 3) := by decide +kernel
theorem dJ3_checkFromToIndex_8c36e_21 : decode cJ3_checkFromToIndex_8c36e 21 = .ok (.athrow, 1) := by decide +kernel
theorem dJ3_checkFromToIndex_8c36e_22 : decode cJ3_checkFromToIndex_8c36e 22 = .ok (.iload_n 0, 1) := by decide +kernel
theorem dJ3_checkFromToIndex_8c36e_23 : decode cJ3_checkFromToIndex_8c36e 23 = .ok (.ireturn, 1) := by decide +kernel
theorem dJ3_checkFromIndexSize_8c36e_0 : decode cJ3_checkFromIndexSize_8c36e 0 = .ok (.iload_n 2, 1) := by decide +kernel
theorem dJ3_checkFromIndexSize_8c36e_1 : decode cJ3_checkFromIndexSize_8c36e 1 = .ok (.iload_n 0, 1) := by decide +kernel
theorem dJ3_checkFromIndexSize_8c36e_2 : decode cJ3_checkFromIndexSize_8c36e 2 = .ok (.ior, 1) := by decide +kernel
theorem dJ3_checkFromIndexSize_8c36e_3 : decode cJ3_checkFromIndexSize_8c36e 3 = .ok (.iload_n 1, 1) := by decide +kernel
theorem dJ3_checkFromIndexSize_8c36e_4 : decode cJ3_checkFromIndexSize_8c36e 4 = .ok (.ior, 1) := by decide +kernel
theorem dJ3_checkFromIndexSize_8c36e_5 : decode cJ3_checkFromIndexSize_8c36e 5 = .ok (.ifCond .lt 10, 3) := by decide +kernel
theorem dJ3_checkFromIndexSize_8c36e_8 : decode cJ3_checkFromIndexSize_8c36e 8 = .ok (.iload_n 1, 1) := by decide +kernel
theorem dJ3_checkFromIndexSize_8c36e_9 : decode cJ3_checkFromIndexSize_8c36e 9 = .ok (.iload_n 2, 1) := by decide +kernel
theorem dJ3_checkFromIndexSize_8c36e_10 : decode cJ3_checkFromIndexSize_8c36e 10 = .ok (.iload_n 0, 1) := by decide +kernel
theorem dJ3_checkFromIndexSize_8c36e_11 : decode cJ3_checkFromIndexSize_8c36e 11 = .ok (.isub, 1) := by decide +kernel
theorem dJ3_checkFromIndexSize_8c36e_12 : decode cJ3_checkFromIndexSize_8c36e 12 = .ok (.if_icmp .le 11, 3) := by decide +kernel
theorem dJ3_checkFromIndexSize_8c36e_15 : decode cJ3_checkFromIndexSize_8c36e 15 = .ok (.aload_n 3, 1) := by decide +kernel
theorem dJ3_checkFromIndexSize_8c36e_16 : decode cJ3_checkFromIndexSize_8c36e 16 = .ok (.iload_n 0, 1) := by decide +kernel
theorem dJ3_checkFromIndexSize_8c36e_17 : decode cJ3_checkFromIndexSize_8c36e 17 = .ok (.iload_n 1, 1) := by decide +kernel
theorem dJ3_checkFromIndexSize_8c36e_18 : decode cJ3_checkFromIndexSize_8c36e 18 = .ok (.iload_n 2, 1) := by decide +kernel
theorem dJ3_checkFromIndexSize_8c36e_19 : decode cJ3_checkFromIndexSize_8c36e 19 = .ok (.invokestatic 103, 3) := by decide +kernel
theorem dJ3_checkFromIndexSize_8c36e_22 : decode cJ3_checkFromIndexSize_8c36e 22 = .ok (.athrow, 1) := by decide +kernel
theorem dJ3_checkFromIndexSize_8c36e_23 : decode cJ3_checkFromIndexSize_8c36e 23 = .ok (.iload_n 0, 1) := by decide +kernel
theorem dJ3_checkFromIndexSize_8c36e_24 : decode cJ3_checkFromIndexSize_8c36e 24 = .ok (.ireturn, 1) := by decide +kernel
end
section
theorem dJ5_init_d00df_0 : decode cJ5_init_d00df 0 = .ok (.aload_n 0, 1) := by decide +kernel
theorem dJ5_init_d00df_1 : decode cJ5_init_d00df 1 = .ok (.invokespecial 3, 3) := by decide +kernel
theorem dJ5_init_d00df_4 : decode cJ5_init_d00df 4 = .ok (.getstatic 18, 3) := by decide +kernel
theorem dJ5_init_d00df_7 : decode cJ5_init_d00df 7 = .ok (.ifCond .eq 18, 3) := by decide +kernel
theorem dJ5_init_d00df_10 : decode cJ5_init_d00df 10 = .ok (.aload_n 0, 1) := by decide +kernel
theorem dJ5_init_d00df_11 : decode cJ5_init_d00df 11 = .ok (.iload_n 1, 1) := by decide +kernel
theorem dJ5_init_d00df_12 : decode cJ5_init_d00df 12 = .ok (.newarray .byte, 2) := by decide +kernel
theorem dJ5_init_d00df_14 : decode cJ5_init_d00df 14 = .ok (.putfield 15, 3) := by decide +kernel
theorem dJ5_init_d00df_17 : decode cJ5_init_d00df 17 = .ok (.aload_n 0, 1) := by decide +kernel
theorem dJ5_init_d00df_18 : decode cJ5_init_d00df 18 = .ok (.iconst 0, 1) := by decide +kernel
theorem dJ5_init_d00df_19 : decode cJ5_init_d00df 19 = .ok (.putfield 22, 3) := by decide +kernel
theorem dJ5_init_d00df_22 : decode cJ5_init_d00df 22 = .ok (.goto 16, 3) := by decide +kernel
theorem dJ5_init_d00df_25 : decode cJ5_init_d00df 25 = .ok (.aload_n 0, 1) := by decide +kernel
theorem dJ5_init_d00df_26 : decode cJ5_init_d00df 26 = .ok (.iload_n 1, 1) := by decide +kernel
theorem dJ5_init_d00df_27 : decode cJ5_init_d00df 27 = .ok (.invokestatic 26, 3) := by decide +kernel
theorem dJ5_init_d00df_30 : decode cJ5_init_d00df 30 = .ok (.putfield 15, 3) := by decide +kernel
theorem dJ5_init_d00df_33 : decode cJ5_init_d00df 33 = .ok (.aload_n 0, 1) := by decide +kernel
theorem dJ5_init_d00df_34 : decode cJ5_init_d00df 34 = .ok (.iconst 1, 1) := by decide +kernel
theorem dJ5_init_d00df_35 : decode cJ5_init_d00df 35 = .ok (.putfield 22, 3) := by decide +kernel
theorem dJ5_init_d00df_38 : decode cJ5_init_d00df 38 = .ok (.return_, 1) := by decide +kernel
theorem dJ5_init_a7421_0 : decode cJ5_init_a7421 0 = .ok (.aload_n 0, 1) := by decide +kernel
theorem dJ5_init_a7421_1 : decode cJ5_init_a7421 1 = .ok (.invokespecial 3, 3) := by decide +kernel
theorem dJ5_init_a7421_4 : decode cJ5_init_a7421 4 = .ok (.aload_n 1, 1) := by decide +kernel
theorem dJ5_init_a7421_5 : decode cJ5_init_a7421 5 = .ok (.invokevirtual 32, 3) := by decide +kernel
theorem dJ5_init_a7421_8 : decode cJ5_init_a7421 8 = .ok (.istore_n 2, 1) := by decide +kernel
theorem dJ5_init_a7421_9 : decode cJ5_init_a7421 9 = .ok (.iload_n 2, 1) := by decide +kernel
theorem dJ5_init_a7421_10 : decode cJ5_init_a7421 10 = .ok (.ldc 38, 2) := by decide +kernel
theorem dJ5_init_a7421_12 : decode cJ5_init_a7421 12 = .ok (.if_icmp .ge 10, 3) := by decide +kernel
theorem dJ5_init_a7421_15 : decode cJ5_init_a7421 15 = .ok (.iload_n 2, 1) := by decide +kernel
theorem dJ5_init_a7421_16 : decode cJ5_init_a7421 16 = .ok (.bipush 16, 2) := by decide +kernel
theorem dJ5_init_a7421_18 : decode cJ5_init_a7421 18 = .ok (.iadd, 1) := by decide +kernel
theorem dJ5_init_a7421_19 : decode cJ5_init_a7421 19 = .ok (.goto 5, 3) := by decide +kernel
theorem dJ5_init_a7421_22 : decode cJ5_init_a7421 22 = .ok (.ldc 39, 2) := by decide +kernel
theorem dJ5_init_a7421_24 : decode cJ5_init_a7421 24 = .ok (.istore_n 3, 1) := by decide +kernel
theorem dJ5_init_a7421_25 : decode cJ5_init_a7421 25 = .ok (.aload_n 1, 1) := by decide +kernel
theorem dJ5_init_a7421_26 : decode cJ5_init_a7421 26 = .ok (.invokevirtual 40, 3) := by decide +kernel
theorem dJ5_init_a7421_29 : decode cJ5_init_a7421 29 = .ok (.istore 4, 2) := by decide +kernel
theorem dJ5_init_a7421_31 : decode cJ5_init_a7421 31 = .ok (.aload_n 0, 1) := by decide +kernel
theorem dJ5_init_a7421_32 : decode cJ5_init_a7421 32 = .ok (.iload 4, 2) := by decide +kernel
theorem dJ5_init_a7421_34 : decode cJ5_init_a7421 34 = .ok (.putfield 22, 3) := by decide +kernel
theorem dJ5_init_a7421_37 : decode cJ5_init_a7421 37 = .ok (.aload_n 0, 1) := by decide +kernel
theorem dJ5_init_a7421_38 : decode cJ5_init_a7421 38 = .ok (.iload 4, 2) := by decide +kernel
theorem dJ5_init_a7421_40 : decode cJ5_init_a7421 40 = .ok (.ifCond .ne 9, 3) := by decide +kernel
theorem dJ5_init_a7421_43 : decode cJ5_init_a7421 43 = .ok (.iload_n 3, 1) := by decide +kernel
theorem dJ5_init_a7421_44 : decode cJ5_init_a7421 44 = .ok (.newarray .byte, 2) := by decide +kernel
theorem dJ5_init_a7421_46 : decode cJ5_init_a7421 46 = .ok (.goto 7, 3) := by decide +kernel
theorem dJ5_init_a7421_49 : decode cJ5_init_a7421 49 = .ok (.iload_n 3, 1) := by decide +kernel
theorem dJ5_init_a7421_50 : decode cJ5_init_a7421 50 = .ok (.invokestatic 26, 3) := by decide +kernel
theorem dJ5_init_a7421_53 : decode cJ5_init_a7421 53 = .ok (.putfield 15, 3) := by decide +kernel
theorem dJ5_init_a7421_56 : decode cJ5_init_a7421 56 = .ok (.aload_n 0, 1) := by decide +kernel
theorem dJ5_init_a7421_57 : decode cJ5_init_a7421 57 = .ok (.aload_n 1, 1) := by decide +kernel
theorem dJ5_init_a7421_58 : decode cJ5_init_a7421 58 = .ok (.invokevirtual 43, 3) := by decide +kernel
theorem dJ5_init_a7421_61 : decode cJ5_init_a7421 61 = .ok (.pop, 1) := by decide +kernel
theorem dJ5_init_a7421_62 : decode cJ5_init_a7421 62 = .ok (.return_, 1) := by decide +kernel
theorem dJ5_length_8abf5_0 : decode cJ5_length_8abf5 0 = .ok (.aload_n 0, 1) := by decide +kernel
theorem dJ5_length_8abf5_1 : decode cJ5_length_8abf5 1 = .ok (.getfield 79, 3) := by decide +kernel
theorem dJ5_length_8abf5_4 : decode cJ5_length_8abf5 4 = .ok (.ireturn, 1) := by decide +kernel
theorem dJ5_ensureCapacityInternal_d00df_0 : decode cJ5_ensureCapacityInternal_d00df 0 = .ok (.aload_n 0, 1) := by decide +kernel
theorem dJ5_ensureCapacityInternal_d00df_1 : decode cJ5_ensureCapacityInternal_d00df 1 = .ok (.getfield 15, 3) := by decide +kernel
theorem dJ5_ensureCapacityInternal_d00df_4 : decode cJ5_ensureCapacityInternal_d00df 4 = .ok (.arraylength, 1) := by decide +kernel
theorem dJ5_ensureCapacityInternal_d00df_5 : decode cJ5_ensureCapacityInternal_d00df 5 = .ok (.aload_n 0, 1) := by decide +kernel
theorem dJ5_ensureCapacityInternal_d00df_6 : decode cJ5_ensureCapacityInternal_d00df 6 = .ok (.getfield 22, 3) := by decide +kernel
theorem dJ5_ensureCapacityInternal_d00df_9 : decode cJ5_ensureCapacityInternal_d00df 9 = .ok (.ishr, 1) := by decide +kernel
theorem dJ5_ensureCapacityInternal_d00df_10 : decode cJ5_ensureCapacityInternal_d00df 10 = .ok (.istore_n 2, 1) := by decide +kernel
theorem dJ5_ensureCapacityInternal_d00df_11 : decode cJ5_ensureCapacityInternal_d00df 11 = .ok (.iload_n 1, 1) := by decide +kernel
theorem dJ5_ensureCapacityInternal_d00df_12 : decode cJ5_ensureCapacityInternal_d00df 12 = .ok (.iload_n 2, 1) := by decide +kernel
theorem dJ5_ensureCapacityInternal_d00df_13 : decode cJ5_ensureCapacityInternal_d00df 13 = .ok (.isub, 1) := by decide +kernel
theorem dJ5_ensureCapacityInternal_d00df_14 : decode cJ5_ensureCapacityInternal_d00df 14 = .ok (.ifCond .le 24, 3) := by decide +kernel
theorem dJ5_ensureCapacityInternal_d00df_17 : decode cJ5_ensureCapacityInternal_d00df 17 = .ok (.aload_n 0, 1) := by decide +kernel
theorem dJ5_ensureCapacityInternal_d00df_18 : decode cJ5_ensureCapacityInternal_d00df 18 = .ok (.aload_n 0, 1) := by decide +kernel
theorem dJ5_ensureCapacityInternal_d00df_19 : decode cJ5_ensureCapacityInternal_d00df 19 = .ok (.getfield 15, 3) := by decide +kernel
theorem dJ5_ensureCapacityInternal_d00df_22 : decode cJ5_ensureCapacityInternal_d00df 22 = .ok (.aload_n 0, 1) := by decide +kernel
theorem dJ5_ensureCapacityInternal_d00df_23 : decode cJ5_ensureCapacityInternal_d00df 23 = .ok (.iload_n 1, 1) := by decide +kernel
theorem dJ5_ensureCapacityInternal_d00df_24 : decode cJ5_ensureCapacityInternal_d00df 24 = .ok (.invokevirtual 104, 3) := by decide +kernel
theorem dJ5_ensureCapacityInternal_d00df_27 : decode cJ5_ensureCapacityInternal_d00df 27 = .ok (.aload_n 0, 1) := by decide +kernel
theorem dJ5_ensureCapacityInternal_d00df_28 : decode cJ5_ensureCapacityInternal_d00df 28 = .ok (.getfield 22, 3) := by decide +kernel
theorem dJ5_ensureCapacityInternal_d00df_31 : decode cJ5_ensureCapacityInternal_d00df 31 = .ok (.ishl, 1) := by decide +kernel
theorem dJ5_ensureCapacityInternal_d00df_32 : decode cJ5_ensureCapacityInternal_d00df 32 = .ok (.invokestatic 108, 3) := by decide +kernel
theorem dJ5_ensureCapacityInternal_d00df_35 : decode cJ5_ensureCapacityInternal_d00df 35 = .ok (.putfield 15, 3) := by decide +kernel
theorem dJ5_ensureCapacityInternal_d00df_38 : decode cJ5_ensureCapacityInternal_d00df 38 = .ok (.return_, 1) := by decide +kernel
theorem dJ5_newCapacity_0f7a4_0 : decode cJ5_newCapacity_0f7a4 0 = .ok (.aload_n 0, 1) := by decide +kernel
theorem dJ5_newCapacity_0f7a4_1 : decode cJ5_newCapacity_0f7a4 1 = .ok (.getfield 15, 3) := by decide +kernel
theorem dJ5_newCapacity_0f7a4_4 : decode cJ5_newCapacity_0f7a4 4 = .ok (.arraylength, 1) := by decide +kernel
theorem dJ5_newCapacity_0f7a4_5 : decode cJ5_newCapacity_0f7a4 5 = .ok (.istore_n 2, 1) := by decide +kernel
theorem dJ5_newCapacity_0f7a4_6 : decode cJ5_newCapacity_0f7a4 6 = .ok (.iload_n 1, 1) := by decide +kernel
theorem dJ5_newCapacity_0f7a4_7 : decode cJ5_newCapacity_0f7a4 7 = .ok (.aload_n 0, 1) := by decide +kernel
theorem dJ5_newCapacity_0f7a4_8 : decode cJ5_newCapacity_0f7a4 8 = .ok (.getfield 22, 3) := by decide +kernel
theorem dJ5_newCapacity_0f7a4_11 : decode cJ5_newCapacity_0f7a4 11 = .ok (.ishl, 1) := by decide +kernel
theorem dJ5_newCapacity_0f7a4_12 : decode cJ5_newCapacity_0f7a4 12 = .ok (.istore_n 3, 1) := by decide +kernel
theorem dJ5_newCapacity_0f7a4_13 : decode cJ5_newCapacity_0f7a4 13 = .ok (.iload_n 3, 1) := by decide +kernel
theorem dJ5_newCapacity_0f7a4_14 : decode cJ5_newCapacity_0f7a4 14 = .ok (.iload_n 2, 1) := by decide +kernel
theorem dJ5_newCapacity_0f7a4_15 : decode cJ5_newCapacity_0f7a4 15 = .ok (.isub, 1) := by decide +kernel
theorem dJ5_newCapacity_0f7a4_16 : decode cJ5_newCapacity_0f7a4 16 = .ok (.istore 4, 2) := by decide +kernel
theorem dJ5_newCapacity_0f7a4_18 : decode cJ5_newCapacity_0f7a4 18 = .ok (.iload_n 2, 1) := by decide +kernel
theorem dJ5_newCapacity_0f7a4_19 : decode cJ5_newCapacity_0f7a4 19 = .ok (.iload 4, 2) := by decide +kernel
theorem dJ5_newCapacity_0f7a4_21 : decode cJ5_newCapacity_0f7a4 21 = .ok (.iload_n 2, 1) := by decide +kernel
theorem dJ5_newCapacity_0f7a4_22 : decode cJ5_newCapacity_0f7a4 22 = .ok (.iconst 2, 1) := by decide +kernel
theorem dJ5_newCapacity_0f7a4_23 : decode cJ5_newCapacity_0f7a4 23 = .ok (.aload_n 0, 1) := by decide +kernel
theorem dJ5_newCapacity_0f7a4_24 : decode cJ5_newCapacity_0f7a4 24 = .ok (.getfield 22, 3) := by decide +kernel
theorem dJ5_newCapacity_0f7a4_27 : decode cJ5_newCapacity_0f7a4 27 = .ok (.ishl, 1) := by decide +kernel
theorem dJ5_newCapacity_0f7a4_28 : decode cJ5_newCapacity_0f7a4 28 = .ok (.iadd, 1) := by decide +kernel
theorem dJ5_newCapacity_0f7a4_29 : decode cJ5_newCapacity_0f7a4 29 = .ok (.invokestatic 114, 3) := by decide +kernel
theorem dJ5_newCapacity_0f7a4_32 : decode cJ5_newCapacity_0f7a4 32 = .ok (.istore 5, 2) := by decide +kernel
theorem dJ5_newCapacity_0f7a4_34 : decode cJ5_newCapacity_0f7a4 34 = .ok (.iload 5, 2) := by decide +kernel
theorem dJ5_newCapacity_0f7a4_36 : decode cJ5_newCapacity_0f7a4 36 = .ok (.ldc 39, 2) := by decide +kernel
theorem dJ5_newCapacity_0f7a4_38 : decode cJ5_newCapacity_0f7a4 38 = .ok (.if_icmp .ne 13, 3) := by decide +kernel
theorem dJ5_newCapacity_0f7a4_41 : decode cJ5_newCapacity_0f7a4 41 = .ok (.new 120, 3) := by decide +kernel
theorem dJ5_newCapacity_0f7a4_44 : decode cJ5_newCapacity_0f7a4 44 = .ok (.dup, 1) := by decide +kernel
theorem dJ5_newCapacity_0f7a4_45 : decode cJ5_newCapacity_0f7a4 45 = .ok (.ldc 122, 2) := by decide +kernel
theorem dJ5_newCapacity_0f7a4_47 : decode cJ5_newCapacity_0f7a4 47 = .ok (.invokespecial 124, 3) := by decide +kernel
theorem dJ5_newCapacity_0f7a4_50 : decode cJ5_newCapacity_0f7a4 50 = .ok (.athrow, 1) := by decide +kernel
theorem dJ5_newCapacity_0f7a4_51 : decode cJ5_newCapacity_0f7a4 51 = .ok (.iload 5, 2) := by decide +kernel
theorem dJ5_newCapacity_0f7a4_53 : decode cJ5_newCapacity_0f7a4 53 = .ok (.aload_n 0, 1) := by decide +kernel
theorem dJ5_newCapacity_0f7a4_54 : decode cJ5_newCapacity_0f7a4 54 = .ok (.getfield 22, 3) := by decide +kernel
theorem dJ5_newCapacity_0f7a4_57 : decode cJ5_newCapacity_0f7a4 57 = .ok (.ishr, 1) := by decide +kernel
theorem dJ5_newCapacity_0f7a4_58 : decode cJ5_newCapacity_0f7a4 58 = .ok (.ireturn, 1) := by decide +kernel
theorem dJ5_inflate_da8c8_0 : decode cJ5_inflate_da8c8 0 = .ok (.aload_n 0, 1) := by decide +kernel
theorem dJ5_inflate_da8c8_1 : decode cJ5_inflate_da8c8 1 = .ok (.invokevirtual 83, 3) := by decide +kernel
theorem dJ5_inflate_da8c8_4 : decode cJ5_inflate_da8c8 4 = .ok (.ifCond .ne 4, 3) := by decide +kernel
theorem dJ5_inflate_da8c8_7 : decode cJ5_inflate_da8c8 7 = .ok (.return_, 1) := by decide +kernel
theorem dJ5_inflate_da8c8_8 : decode cJ5_inflate_da8c8 8 = .ok (.aload_n 0, 1) := by decide +kernel
theorem dJ5_inflate_da8c8_9 : decode cJ5_inflate_da8c8 9 = .ok (.getfield 15, 3) := by decide +kernel
theorem dJ5_inflate_da8c8_12 : decode cJ5_inflate_da8c8 12 = .ok (.arraylength, 1) := by decide +kernel
theorem dJ5_inflate_da8c8_13 : decode cJ5_inflate_da8c8 13 = .ok (.invokestatic 26, 3) := by decide +kernel
theorem dJ5_inflate_da8c8_16 : decode cJ5_inflate_da8c8 16 = .ok (.astore_n 1, 1) := by decide +kernel
theorem dJ5_inflate_da8c8_17 : decode cJ5_inflate_da8c8 17 = .ok (.aload_n 0, 1) := by decide +kernel
theorem dJ5_inflate_da8c8_18 : decode cJ5_inflate_da8c8 18 = .ok (.getfield 15, 3) := by decide +kernel
theorem dJ5_inflate_da8c8_21 : decode cJ5_inflate_da8c8 21 = .ok (.iconst 0, 1) := by decide +kernel
theorem dJ5_inflate_da8c8_22 : decode cJ5_inflate_da8c8 22 = .ok (.aload_n 1, 1) := by decide +kernel
theorem dJ5_inflate_da8c8_23 : decode cJ5_inflate_da8c8 23 = .ok (.iconst 0, 1) := by decide +kernel
theorem dJ5_inflate_da8c8_24 : decode cJ5_inflate_da8c8 24 = .ok (.aload_n 0, 1) := by decide +kernel
theorem dJ5_inflate_da8c8_25 : decode cJ5_inflate_da8c8 25 = .ok (.getfield 79, 3) := by decide +kernel
theorem dJ5_inflate_da8c8_28 : decode cJ5_inflate_da8c8 28 = .ok (.invokestatic 125, 3) := by decide +kernel
theorem dJ5_inflate_da8c8_31 : decode cJ5_inflate_da8c8 31 = .ok (.aload_n 0, 1) := by decide +kernel
theorem dJ5_inflate_da8c8_32 : decode cJ5_inflate_da8c8 32 = .ok (.aload_n 1, 1) := by decide +kernel
theorem dJ5_inflate_da8c8_33 : decode cJ5_inflate_da8c8 33 = .ok (.putfield 15, 3) := by decide +kernel
theorem dJ5_inflate_da8c8_36 : decode cJ5_inflate_da8c8 36 = .ok (.aload_n 0, 1) := by decide +kernel
theorem dJ5_inflate_da8c8_37 : decode cJ5_inflate_da8c8 37 = .ok (.iconst 1, 1) := by decide +kernel
theorem dJ5_inflate_da8c8_38 : decode cJ5_inflate_da8c8 38 = .ok (.putfield 22, 3) := by decide +kernel
theorem dJ5_inflate_da8c8_41 : decode cJ5_inflate_da8c8 41 = .ok (.return_, 1) := by decide +kernel
theorem dJ5_append_cf1ce_0 : decode cJ5_append_cf1ce 0 = .ok (.aload_n 1, 1) := by decide +kernel
theorem dJ5_append_cf1ce_1 : decode cJ5_append_cf1ce 1 = .ok (.ifnonnull 8, 3) := by decide +kernel
theorem dJ5_append_cf1ce_4 : decode cJ5_append_cf1ce 4 = .ok (.aload_n 0, 1) := by decide +kernel
theorem dJ5_append_cf1ce_5 : decode cJ5_append_cf1ce 5 = .ok (.invokevirtual 204, 3) := by decide +kernel
theorem dJ5_append_cf1ce_8 : decode cJ5_append_cf1ce 8 = .ok (.areturn, 1) := by decide +kernel
theorem dJ5_append_cf1ce_9 : decode cJ5_append_cf1ce 9 = .ok (.aload_n 1, 1) := by decide +kernel
theorem dJ5_append_cf1ce_10 : decode cJ5_append_cf1ce 10 = .ok (.invokevirtual 32, 3) := by decide +kernel
theorem dJ5_append_cf1ce_13 : decode cJ5_append_cf1ce 13 = .ok (.istore_n 2, 1) := by decide +kernel
theorem dJ5_append_cf1ce_14 : decode cJ5_append_cf1ce 14 = .ok (.aload_n 0, 1) := by decide +kernel
theorem dJ5_append_cf1ce_15 : decode cJ5_append_cf1ce 15 = .ok (.aload_n 0, 1) := by decide +kernel
theorem dJ5_append_cf1ce_16 : decode cJ5_append_cf1ce 16 = .ok (.getfield 79, 3) := by decide +kernel
theorem dJ5_append_cf1ce_19 : decode cJ5_append_cf1ce 19 = .ok (.iload_n 2, 1) := by decide +kernel
theorem dJ5_append_cf1ce_20 : decode cJ5_append_cf1ce 20 = .ok (.iadd, 1) := by decide +kernel
theorem dJ5_append_cf1ce_21 : decode cJ5_append_cf1ce 21 = .ok (.invokevirtual 100, 3) := by decide +kernel
theorem dJ5_append_cf1ce_24 : decode cJ5_append_cf1ce 24 = .ok (.aload_n 0, 1) := by decide +kernel
theorem dJ5_append_cf1ce_25 : decode cJ5_append_cf1ce 25 = .ok (.aload_n 0, 1) := by decide +kernel
theorem dJ5_append_cf1ce_26 : decode cJ5_append_cf1ce 26 = .ok (.getfield 79, 3) := by decide +kernel
theorem dJ5_append_cf1ce_29 : decode cJ5_append_cf1ce 29 = .ok (.aload_n 1, 1) := by decide +kernel
theorem dJ5_append_cf1ce_30 : decode cJ5_append_cf1ce 30 = .ok (.invokevirtual 208, 3) := by decide +kernel
theorem dJ5_append_cf1ce_33 : decode cJ5_append_cf1ce 33 = .ok (.aload_n 0, 1) := by decide +kernel
theorem dJ5_append_cf1ce_34 : decode cJ5_append_cf1ce 34 = .ok (.dup, 1) := by decide +kernel
theorem dJ5_append_cf1ce_35 : decode cJ5_append_cf1ce 35 = .ok (.getfield 79, 3) := by decide +kernel
theorem dJ5_append_cf1ce_38 : decode cJ5_append_cf1ce 38 = .ok (.iload_n 2, 1) := by decide +kernel
theorem dJ5_append_cf1ce_39 : decode cJ5_append_cf1ce 39 = .ok (.iadd, 1) := by decide +kernel
theorem dJ5_append_cf1ce_40 : decode cJ5_append_cf1ce 40 = .ok (.putfield 79, 3) := by decide +kernel
theorem dJ5_append_cf1ce_43 : decode cJ5_append_cf1ce 43 = .ok (.aload_n 0, 1) := by decide +kernel
theorem dJ5_append_cf1ce_44 : decode cJ5_append_cf1ce 44 = .ok (.areturn, 1) := by decide +kernel
theorem dJ5_appendNull_278bc_0 : decode cJ5_appendNull_278bc 0 = .ok (.aload_n 0, 1) := by decide +kernel
theorem dJ5_appendNull_278bc_1 : decode cJ5_appendNull_278bc 1 = .ok (.aload_n 0, 1) := by decide +kernel
theorem dJ5_appendNull_278bc_2 : decode cJ5_appendNull_278bc 2 = .ok (.getfield 79, 3) := by decide +kernel
theorem dJ5_appendNull_278bc_5 : decode cJ5_appendNull_278bc 5 = .ok (.iconst 4, 1) := by decide +kernel
theorem dJ5_appendNull_278bc_6 : decode cJ5_appendNull_278bc 6 = .ok (.iadd, 1) := by decide +kernel
theorem dJ5_appendNull_278bc_7 : decode cJ5_appendNull_278bc 7 = .ok (.invokevirtual 100, 3) := by decide +kernel
theorem dJ5_appendNull_278bc_10 : decode cJ5_appendNull_278bc 10 = .ok (.aload_n 0, 1) := by decide +kernel
theorem dJ5_appendNull_278bc_11 : decode cJ5_appendNull_278bc 11 = .ok (.getfield 79, 3) := by decide +kernel
theorem dJ5_appendNull_278bc_14 : decode cJ5_appendNull_278bc 14 = .ok (.istore_n 1, 1) := by decide +kernel
theorem dJ5_appendNull_278bc_15 : decode cJ5_appendNull_278bc 15 = .ok (.aload_n 0, 1) := by decide +kernel
theorem dJ5_appendNull_278bc_16 : decode cJ5_appendNull_278bc 16 = .ok (.getfield 15, 3) := by decide +kernel
theorem dJ5_appendNull_278bc_19 : decode cJ5_appendNull_278bc 19 = .ok (.astore_n 2, 1) := by decide +kernel
theorem dJ5_appendNull_278bc_20 : decode cJ5_appendNull_278bc 20 = .ok (.aload_n 0, 1) := by decide +kernel
theorem dJ5_appendNull_278bc_21 : decode cJ5_appendNull_278bc 21 = .ok (.invokevirtual 83, 3) := by decide +kernel
theorem dJ5_appendNull_278bc_24 : decode cJ5_appendNull_278bc 24 = .ok (.ifCond .eq 38, 3) := by decide +kernel
theorem dJ5_appendNull_278bc_27 : decode cJ5_appendNull_278bc 27 = .ok (.aload_n 2, 1) := by decide +kernel
theorem dJ5_appendNull_278bc_28 : decode cJ5_appendNull_278bc 28 = .ok (.iload_n 1, 1) := by decide +kernel
theorem dJ5_appendNull_278bc_29 : decode cJ5_appendNull_278bc 29 = .ok (.iinc 1 1, 3) := by decide +kernel
theorem dJ5_appendNull_278bc_32 : decode cJ5_appendNull_278bc 32 = .ok (.bipush 110, 2) := by decide +kernel
theorem dJ5_appendNull_278bc_34 : decode cJ5_appendNull_278bc 34 = .ok (.bastore, 1) := by decide +kernel
theorem dJ5_appendNull_278bc_35 : decode cJ5_appendNull_278bc 35 = .ok (.aload_n 2, 1) := by decide +kernel
theorem dJ5_appendNull_278bc_36 : decode cJ5_appendNull_278bc 36 = .ok (.iload_n 1, 1) := by decide +kernel
theorem dJ5_appendNull_278bc_37 : decode cJ5_appendNull_278bc 37 = .ok (.iinc 1 1, 3) := by decide +kernel
theorem dJ5_appendNull_278bc_40 : decode cJ5_appendNull_278bc 40 = .ok (.bipush 117, 2) := by decide +kernel
theorem dJ5_appendNull_278bc_42 : decode cJ5_appendNull_278bc 42 = .ok (.bastore, 1) := by decide +kernel
theorem dJ5_appendNull_278bc_43 : decode cJ5_appendNull_278bc 43 = .ok (.aload_n 2, 1) := by decide +kernel
theorem dJ5_appendNull_278bc_44 : decode cJ5_appendNull_278bc 44 = .ok (.iload_n 1, 1) := by decide +kernel
theorem dJ5_appendNull_278bc_45 : decode cJ5_appendNull_278bc 45 = .ok (.iinc 1 1, 3) := by decide +kernel
theorem dJ5_appendNull_278bc_48 : decode cJ5_appendNull_278bc 48 = .ok (.bipush 108, 2) := by decide +kernel
theorem dJ5_appendNull_278bc_50 : decode cJ5_appendNull_278bc 50 = .ok (.bastore, 1) := by decide +kernel
theorem dJ5_appendNull_278bc_51 : decode cJ5_appendNull_278bc 51 = .ok (.aload_n 2, 1) := by decide +kernel
theorem dJ5_appendNull_278bc_52 : decode cJ5_appendNull_278bc 52 = .ok (.iload_n 1, 1) := by decide +kernel
theorem dJ5_appendNull_278bc_53 : decode cJ5_appendNull_278bc 53 = .ok (.iinc 1 1, 3) := by decide +kernel
theorem dJ5_appendNull_278bc_56 : decode cJ5_appendNull_278bc 56 = .ok (.bipush 108, 2) := by decide +kernel
theorem dJ5_appendNull_278bc_58 : decode cJ5_appendNull_278bc 58 = .ok (.bastore, 1) := by decide +kernel
theorem dJ5_appendNull_278bc_59 : decode cJ5_appendNull_278bc 59 = .ok (.goto 17, 3) := by decide +kernel
theorem dJ5_appendNull_278bc_62 : decode cJ5_appendNull_278bc 62 = .ok (.aload_n 2, 1) := by decide +kernel
theorem dJ5_appendNull_278bc_63 : decode cJ5_appendNull_278bc 63 = .ok (.iload_n 1, 1) := by decide +kernel
theorem dJ5_appendNull_278bc_64 : decode cJ5_appendNull_278bc 64 = .ok (.bipush 110, 2) := by decide +kernel
theorem dJ5_appendNull_278bc_66 : decode cJ5_appendNull_278bc 66 = .ok (.bipush 117, 2) := by decide +kernel
theorem dJ5_appendNull_278bc_68 : decode cJ5_appendNull_278bc 68 = .ok (.bipush 108, 2) := by decide +kernel
theorem dJ5_appendNull_278bc_70 : decode cJ5_appendNull_278bc 70 = .ok (.bipush 108, 2) := by decide +kernel
theorem dJ5_appendNull_278bc_72 : decode cJ5_appendNull_278bc 72 = .ok (.invokestatic 226, 3) := by decide +kernel
theorem dJ5_appendNull_278bc_75 : decode cJ5_appendNull_278bc 75 = .ok (.istore_n 1, 1) := by decide +kernel
theorem dJ5_appendNull_278bc_76 : decode cJ5_appendNull_278bc 76 = .ok (.aload_n 0, 1) := by decide +kernel
theorem dJ5_appendNull_278bc_77 : decode cJ5_appendNull_278bc 77 = .ok (.iload_n 1, 1) := by decide +kernel
theorem dJ5_appendNull_278bc_78 : decode cJ5_appendNull_278bc 78 = .ok (.putfield 79, 3) := by decide +kernel
theorem dJ5_appendNull_278bc_81 : decode cJ5_appendNull_278bc 81 = .ok (.aload_n 0, 1) := by decide +kernel
theorem dJ5_appendNull_278bc_82 : decode cJ5_appendNull_278bc 82 = .ok (.areturn, 1) := by decide +kernel
theorem dJ5_append_3fe6f_0 : decode cJ5_append_3fe6f 0 = .ok (.aload_n 0, 1) := by decide +kernel
theorem dJ5_append_3fe6f_1 : decode cJ5_append_3fe6f 1 = .ok (.aload_n 0, 1) := by decide +kernel
theorem dJ5_append_3fe6f_2 : decode cJ5_append_3fe6f 2 = .ok (.getfield 79, 3) := by decide +kernel
theorem dJ5_append_3fe6f_5 : decode cJ5_append_3fe6f 5 = .ok (.iconst 1, 1) := by decide +kernel
theorem dJ5_append_3fe6f_6 : decode cJ5_append_3fe6f 6 = .ok (.iadd, 1) := by decide +kernel
theorem dJ5_append_3fe6f_7 : decode cJ5_append_3fe6f 7 = .ok (.invokevirtual 100, 3) := by decide +kernel
theorem dJ5_append_3fe6f_10 : decode cJ5_append_3fe6f 10 = .ok (.aload_n 0, 1) := by decide +kernel
theorem dJ5_append_3fe6f_11 : decode cJ5_append_3fe6f 11 = .ok (.invokevirtual 83, 3) := by decide +kernel
theorem dJ5_append_3fe6f_14 : decode cJ5_append_3fe6f 14 = .ok (.ifCond .eq 31, 3) := by decide +kernel
theorem dJ5_append_3fe6f_17 : decode cJ5_append_3fe6f 17 = .ok (.iload_n 1, 1) := by decide +kernel
theorem dJ5_append_3fe6f_18 : decode cJ5_append_3fe6f 18 = .ok (.invokestatic 191, 3) := by decide +kernel
theorem dJ5_append_3fe6f_21 : decode cJ5_append_3fe6f 21 = .ok (.ifCond .eq 24, 3) := by decide +kernel
theorem dJ5_append_3fe6f_24 : decode cJ5_append_3fe6f 24 = .ok (.aload_n 0, 1) := by decide +kernel
theorem dJ5_append_3fe6f_25 : decode cJ5_append_3fe6f 25 = .ok (.getfield 15, 3) := by decide +kernel
theorem dJ5_append_3fe6f_28 : decode cJ5_append_3fe6f 28 = .ok (.aload_n 0, 1) := by decide +kernel
theorem dJ5_append_3fe6f_29 : decode cJ5_append_3fe6f 29 = .ok (.dup, 1) := by decide +kernel
theorem dJ5_append_3fe6f_30 : decode cJ5_append_3fe6f 30 = .ok (.getfield 79, 3) := by decide +kernel
theorem dJ5_append_3fe6f_33 : decode cJ5_append_3fe6f 33 = .ok (.dup_x1, 1) := by decide +kernel
theorem dJ5_append_3fe6f_34 : decode cJ5_append_3fe6f 34 = .ok (.iconst 1, 1) := by decide +kernel
theorem dJ5_append_3fe6f_35 : decode cJ5_append_3fe6f 35 = .ok (.iadd, 1) := by decide +kernel
theorem dJ5_append_3fe6f_36 : decode cJ5_append_3fe6f 36 = .ok (.putfield 79, 3) := by decide +kernel
theorem dJ5_append_3fe6f_39 : decode cJ5_append_3fe6f 39 = .ok (.iload_n 1, 1) := by decide +kernel
theorem dJ5_append_3fe6f_40 : decode cJ5_append_3fe6f 40 = .ok (.i2b, 1) := by decide +kernel
theorem dJ5_append_3fe6f_41 : decode cJ5_append_3fe6f 41 = .ok (.bastore, 1) := by decide +kernel
theorem dJ5_append_3fe6f_42 : decode cJ5_append_3fe6f 42 = .ok (.goto 33, 3) := by decide +kernel
theorem dJ5_append_3fe6f_45 : decode cJ5_append_3fe6f 45 = .ok (.aload_n 0, 1) := by decide +kernel
theorem dJ5_append_3fe6f_46 : decode cJ5_append_3fe6f 46 = .ok (.invokevirtual 83, 3) := by decide +kernel
theorem dJ5_append_3fe6f_49 : decode cJ5_append_3fe6f 49 = .ok (.ifCond .eq 7, 3) := by decide +kernel
theorem dJ5_append_3fe6f_52 : decode cJ5_append_3fe6f 52 = .ok (.aload_n 0, 1) := by decide +kernel
theorem dJ5_append_3fe6f_53 : decode cJ5_append_3fe6f 53 = .ok (.invokevirtual 195, 3) := by decide +kernel
theorem dJ5_append_3fe6f_56 : decode cJ5_append_3fe6f 56 = .ok (.aload_n 0, 1) := by decide +kernel
theorem dJ5_append_3fe6f_57 : decode cJ5_append_3fe6f 57 = .ok (.getfield 15, 3) := by decide +kernel
theorem dJ5_append_3fe6f_60 : decode cJ5_append_3fe6f 60 = .ok (.aload_n 0, 1) := by decide +kernel
theorem dJ5_append_3fe6f_61 : decode cJ5_append_3fe6f 61 = .ok (.dup, 1) := by decide +kernel
theorem dJ5_append_3fe6f_62 : decode cJ5_append_3fe6f 62 = .ok (.getfield 79, 3) := by decide +kernel
theorem dJ5_append_3fe6f_65 : decode cJ5_append_3fe6f 65 = .ok (.dup_x1, 1) := by decide +kernel
theorem dJ5_append_3fe6f_66 : decode cJ5_append_3fe6f 66 = .ok (.iconst 1, 1) := by decide +kernel
theorem dJ5_append_3fe6f_67 : decode cJ5_append_3fe6f 67 = .ok (.iadd, 1) := by decide +kernel
theorem dJ5_append_3fe6f_68 : decode cJ5_append_3fe6f 68 = .ok (.putfield 79, 3) := by decide +kernel
theorem dJ5_append_3fe6f_71 : decode cJ5_append_3fe6f 71 = .ok (.iload_n 1, 1) := by decide +kernel
theorem dJ5_append_3fe6f_72 : decode cJ5_append_3fe6f 72 = .ok (.invokestatic 197, 3) := by decide +kernel
theorem dJ5_append_3fe6f_75 : decode cJ5_append_3fe6f 75 = .ok (.aload_n 0, 1) := by decide +kernel
theorem dJ5_append_3fe6f_76 : decode cJ5_append_3fe6f 76 = .ok (.areturn, 1) := by decide +kernel
theorem dJ5_append_c97b9_0 : decode cJ5_append_c97b9 0 = .ok (.aload_n 0, 1) := by decide +kernel
theorem dJ5_append_c97b9_1 : decode cJ5_append_c97b9 1 = .ok (.getfield 79, 3) := by decide +kernel
theorem dJ5_append_c97b9_4 : decode cJ5_append_c97b9 4 = .ok (.istore_n 2, 1) := by decide +kernel
theorem dJ5_append_c97b9_5 : decode cJ5_append_c97b9 5 = .ok (.iload_n 2, 1) := by decide +kernel
theorem dJ5_append_c97b9_6 : decode cJ5_append_c97b9 6 = .ok (.iload_n 1, 1) := by decide +kernel
theorem dJ5_append_c97b9_7 : decode cJ5_append_c97b9 7 = .ok (.invokestatic 245, 3) := by decide +kernel
theorem dJ5_append_c97b9_10 : decode cJ5_append_c97b9 10 = .ok (.iadd, 1) := by decide +kernel
theorem dJ5_append_c97b9_11 : decode cJ5_append_c97b9 11 = .ok (.istore_n 3, 1) := by decide +kernel
theorem dJ5_append_c97b9_12 : decode cJ5_append_c97b9 12 = .ok (.aload_n 0, 1) := by decide +kernel
theorem dJ5_append_c97b9_13 : decode cJ5_append_c97b9 13 = .ok (.iload_n 3, 1) := by decide +kernel
theorem dJ5_append_c97b9_14 : decode cJ5_append_c97b9 14 = .ok (.invokevirtual 100, 3) := by decide +kernel
theorem dJ5_append_c97b9_17 : decode cJ5_append_c97b9 17 = .ok (.aload_n 0, 1) := by decide +kernel
theorem dJ5_append_c97b9_18 : decode cJ5_append_c97b9 18 = .ok (.invokevirtual 83, 3) := by decide +kernel
theorem dJ5_append_c97b9_21 : decode cJ5_append_c97b9 21 = .ok (.ifCond .eq 16, 3) := by decide +kernel
theorem dJ5_append_c97b9_24 : decode cJ5_append_c97b9 24 = .ok (.iload_n 1, 1) := by decide +kernel
theorem dJ5_append_c97b9_25 : decode cJ5_append_c97b9 25 = .ok (.iload_n 3, 1) := by decide +kernel
theorem dJ5_append_c97b9_26 : decode cJ5_append_c97b9 26 = .ok (.aload_n 0, 1) := by decide +kernel
theorem dJ5_append_c97b9_27 : decode cJ5_append_c97b9 27 = .ok (.getfield 15, 3) := by decide +kernel
theorem dJ5_append_c97b9_30 : decode cJ5_append_c97b9 30 = .ok (.invokestatic 248, 3) := by decide +kernel
theorem dJ5_append_c97b9_33 : decode cJ5_append_c97b9 33 = .ok (.pop, 1) := by decide +kernel
theorem dJ5_append_c97b9_34 : decode cJ5_append_c97b9 34 = .ok (.goto 14, 3) := by decide +kernel
theorem dJ5_append_c97b9_37 : decode cJ5_append_c97b9 37 = .ok (.iload_n 1, 1) := by decide +kernel
theorem dJ5_append_c97b9_38 : decode cJ5_append_c97b9 38 = .ok (.iload_n 2, 1) := by decide +kernel
theorem dJ5_append_c97b9_39 : decode cJ5_append_c97b9 39 = .ok (.iload_n 3, 1) := by decide +kernel
theorem dJ5_append_c97b9_40 : decode cJ5_append_c97b9 40 = .ok (.aload_n 0, 1) := by decide +kernel
theorem dJ5_append_c97b9_41 : decode cJ5_append_c97b9 41 = .ok (.getfield 15, 3) := by decide +kernel
theorem dJ5_append_c97b9_44 : decode cJ5_append_c97b9 44 = .ok (.invokestatic 251, 3) := by decide +kernel
theorem dJ5_append_c97b9_47 : decode cJ5_append_c97b9 47 = .ok (.pop, 1) := by decide +kernel
theorem dJ5_append_c97b9_48 : decode cJ5_append_c97b9 48 = .ok (.aload_n 0, 1) := by decide +kernel
theorem dJ5_append_c97b9_49 : decode cJ5_append_c97b9 49 = .ok (.iload_n 3, 1) := by decide +kernel
theorem dJ5_append_c97b9_50 : decode cJ5_append_c97b9 50 = .ok (.putfield 79, 3) := by decide +kernel
theorem dJ5_append_c97b9_53 : decode cJ5_append_c97b9 53 = .ok (.aload_n 0, 1) := by decide +kernel
theorem dJ5_append_c97b9_54 : decode cJ5_append_c97b9 54 = .ok (.areturn, 1) := by decide +kernel
theorem dJ5_getValue_6d5f1_0 : decode cJ5_getValue_6d5f1 0 = .ok (.aload_n 0, 1) := by decide +kernel
theorem dJ5_getValue_6d5f1_1 : decode cJ5_getValue_6d5f1 1 = .ok (.getfield 15, 3) := by decide +kernel
theorem dJ5_getValue_6d5f1_4 : decode cJ5_getValue_6d5f1 4 = .ok (.areturn, 1) := by decide +kernel
theorem dJ5_isLatin1_aae02_0 : decode cJ5_isLatin1_aae02 0 = .ok (.getstatic 18, 3) := by decide +kernel
theorem dJ5_isLatin1_aae02_3 : decode cJ5_isLatin1_aae02 3 = .ok (.ifCond .eq 14, 3) := by decide +kernel
theorem dJ5_isLatin1_aae02_6 : decode cJ5_isLatin1_aae02 6 = .ok (.aload_n 0, 1) := by decide +kernel
theorem dJ5_isLatin1_aae02_7 : decode cJ5_isLatin1_aae02 7 = .ok (.getfield 22, 3) := by decide +kernel
theorem dJ5_isLatin1_aae02_10 : decode cJ5_isLatin1_aae02 10 = .ok (.ifCond .ne 7, 3) := by decide +kernel
theorem dJ5_isLatin1_aae02_13 : decode cJ5_isLatin1_aae02 13 = .ok (.iconst 1, 1) := by decide +kernel
theorem dJ5_isLatin1_aae02_14 : decode cJ5_isLatin1_aae02 14 = .ok (.goto 4, 3) := by decide +kernel
theorem dJ5_isLatin1_aae02_17 : decode cJ5_isLatin1_aae02 17 = .ok (.iconst 0, 1) := by decide +kernel
theorem dJ5_isLatin1_aae02_18 : decode cJ5_isLatin1_aae02 18 = .ok (.ireturn, 1) := by decide +kernel
theorem dJ5_inflateIfNeededFor_a7421_0 : decode cJ5_inflateIfNeededFor_a7421 0 = .ok (.getstatic 18, 3) := by decide +kernel
theorem dJ5_inflateIfNeededFor_a7421_3 : decode cJ5_inflateIfNeededFor_a7421 3 = .ok (.ifCond .eq 18, 3) := by decide +kernel
theorem dJ5_inflateIfNeededFor_a7421_6 : decode cJ5_inflateIfNeededFor_a7421 6 = .ok (.aload_n 0, 1) := by decide +kernel
theorem dJ5_inflateIfNeededFor_a7421_7 : decode cJ5_inflateIfNeededFor_a7421 7 = .ok (.getfield 22, 3) := by decide +kernel
theorem dJ5_inflateIfNeededFor_a7421_10 : decode cJ5_inflateIfNeededFor_a7421 10 = .ok (.aload_n 1, 1) := by decide +kernel
theorem dJ5_inflateIfNeededFor_a7421_11 : decode cJ5_inflateIfNeededFor_a7421 11 = .ok (.invokevirtual 40, 3) := by decide +kernel
theorem dJ5_inflateIfNeededFor_a7421_14 : decode cJ5_inflateIfNeededFor_a7421 14 = .ok (.if_icmp .eq 7, 3) := by decide +kernel
theorem dJ5_inflateIfNeededFor_a7421_17 : decode cJ5_inflateIfNeededFor_a7421 17 = .ok (.aload_n 0, 1) := by decide +kernel
theorem dJ5_inflateIfNeededFor_a7421_18 : decode cJ5_inflateIfNeededFor_a7421 18 = .ok (.invokevirtual 195, 3) := by decide +kernel
theorem dJ5_inflateIfNeededFor_a7421_21 : decode cJ5_inflateIfNeededFor_a7421 21 = .ok (.return_, 1) := by decide +kernel
theorem dJ5_putStringAt_47b60_0 : decode cJ5_putStringAt_47b60 0 = .ok (.aload_n 0, 1) := by decide +kernel
theorem dJ5_putStringAt_47b60_1 : decode cJ5_putStringAt_47b60 1 = .ok (.aload_n 2, 1) := by decide +kernel
theorem dJ5_putStringAt_47b60_2 : decode cJ5_putStringAt_47b60 2 = .ok (.invokevirtual 397, 3) := by decide +kernel
theorem dJ5_putStringAt_47b60_5 : decode cJ5_putStringAt_47b60 5 = .ok (.aload_n 2, 1) := by decide +kernel
theorem dJ5_putStringAt_47b60_6 : decode cJ5_putStringAt_47b60 6 = .ok (.aload_n 0, 1) := by decide +kernel
theorem dJ5_putStringAt_47b60_7 : decode cJ5_putStringAt_47b60 7 = .ok (.getfield 15, 3) := by decide +kernel
theorem dJ5_putStringAt_47b60_10 : decode cJ5_putStringAt_47b60 10 = .ok (.iload_n 1, 1) := by decide +kernel
theorem dJ5_putStringAt_47b60_11 : decode cJ5_putStringAt_47b60 11 = .ok (.aload_n 0, 1) := by decide +kernel
theorem dJ5_putStringAt_47b60_12 : decode cJ5_putStringAt_47b60 12 = .ok (.getfield 22, 3) := by decide +kernel
theorem dJ5_putStringAt_47b60_15 : decode cJ5_putStringAt_47b60 15 = .ok (.invokevirtual 399, 3) := by decide +kernel
theorem dJ5_putStringAt_47b60_18 : decode cJ5_putStringAt_47b60 18 = .ok (.return_, 1) := by decide +kernel
theorem dJ6_getChars_ba4f3_0 : decode cJ6_getChars_ba4f3 0 = .ok (.iload_n 1, 1) := by decide +kernel
theorem dJ6_getChars_ba4f3_1 : decode cJ6_getChars_ba4f3 1 = .ok (.istore 5, 2) := by decide +kernel
theorem dJ6_getChars_ba4f3_3 : decode cJ6_getChars_ba4f3 3 = .ok (.iload_n 0, 1) := by decide +kernel
theorem dJ6_getChars_ba4f3_4 : decode cJ6_getChars_ba4f3 4 = .ok (.ifCond .ge 7, 3) := by decide +kernel
theorem dJ6_getChars_ba4f3_7 : decode cJ6_getChars_ba4f3 7 = .ok (.iconst 1, 1) := by decide +kernel
theorem dJ6_getChars_ba4f3_8 : decode cJ6_getChars_ba4f3 8 = .ok (.goto 4, 3) := by decide +kernel
theorem dJ6_getChars_ba4f3_11 : decode cJ6_getChars_ba4f3 11 = .ok (.iconst 0, 1) := by decide +kernel
theorem dJ6_getChars_ba4f3_12 : decode cJ6_getChars_ba4f3 12 = .ok (.istore 6, 2) := by decide +kernel
theorem dJ6_getChars_ba4f3_14 : decode cJ6_getChars_ba4f3 14 = .ok (.iload 6, 2) := by decide +kernel
theorem dJ6_getChars_ba4f3_16 : decode cJ6_getChars_ba4f3 16 = .ok (.ifCond .ne 6, 3) := by decide +kernel
theorem dJ6_getChars_ba4f3_19 : decode cJ6_getChars_ba4f3 19 = .ok (.iload_n 0, 1) := by decide +kernel
theorem dJ6_getChars_ba4f3_20 : decode cJ6_getChars_ba4f3 20 = .ok (.ineg, 1) := by decide +kernel
theorem dJ6_getChars_ba4f3_21 : decode cJ6_getChars_ba4f3 21 = .ok (.istore_n 0, 1) := by decide +kernel
theorem dJ6_getChars_ba4f3_22 : decode cJ6_getChars_ba4f3 22 = .ok (.iload_n 0, 1) := by decide +kernel
theorem dJ6_getChars_ba4f3_23 : decode cJ6_getChars_ba4f3 23 = .ok (.bipush (-100), 2) := by decide +kernel
theorem dJ6_getChars_ba4f3_25 : decode cJ6_getChars_ba4f3 25 = .ok (.if_icmp .gt 47, 3) := by decide +kernel
theorem dJ6_getChars_ba4f3_28 : decode cJ6_getChars_ba4f3 28 = .ok (.iload_n 0, 1) := by decide +kernel
theorem dJ6_getChars_ba4f3_29 : decode cJ6_getChars_ba4f3 29 = .ok (.bipush 100, 2) := by decide +kernel
theorem dJ6_getChars_ba4f3_31 : decode cJ6_getChars_ba4f3 31 = .ok (.idiv, 1) := by decide +kernel
theorem dJ6_getChars_ba4f3_32 : decode cJ6_getChars_ba4f3 32 = .ok (.istore_n 3, 1) := by decide +kernel
theorem dJ6_getChars_ba4f3_33 : decode cJ6_getChars_ba4f3 33 = .ok (.iload_n 3, 1) := by decide +kernel
theorem dJ6_getChars_ba4f3_34 : decode cJ6_getChars_ba4f3 34 = .ok (.bipush 100, 2) := by decide +kernel
theorem dJ6_getChars_ba4f3_36 : decode cJ6_getChars_ba4f3 36 = .ok (.imul, 1) := by decide +kernel
theorem dJ6_getChars_ba4f3_37 : decode cJ6_getChars_ba4f3 37 = .ok (.iload_n 0, 1) := by decide +kernel
theorem dJ6_getChars_ba4f3_38 : decode cJ6_getChars_ba4f3 38 = .ok (.isub, 1) := by decide +kernel
theorem dJ6_getChars_ba4f3_39 : decode cJ6_getChars_ba4f3 39 = .ok (.istore 4, 2) := by decide +kernel
theorem dJ6_getChars_ba4f3_41 : decode cJ6_getChars_ba4f3 41 = .ok (.iload_n 3, 1) := by decide +kernel
theorem dJ6_getChars_ba4f3_42 : decode cJ6_getChars_ba4f3 42 = .ok (.istore_n 0, 1) := by decide +kernel
theorem dJ6_getChars_ba4f3_43 : decode cJ6_getChars_ba4f3 43 = .ok (.aload_n 2, 1) := by decide +kernel
theorem dJ6_getChars_ba4f3_44 : decode cJ6_getChars_ba4f3 44 = .ok (.iinc 5 (-1), 3) := by decide +kernel
theorem dJ6_getChars_ba4f3_47 : decode cJ6_getChars_ba4f3 47 = .ok (.iload 5, 2) := by decide +kernel
theorem dJ6_getChars_ba4f3_49 : decode cJ6_getChars_ba4f3 49 = .ok (.getstatic 83, 3) := by decide +kernel
theorem dJ6_getChars_ba4f3_52 : decode cJ6_getChars_ba4f3 52 = .ok (.iload 4, 2) := by decide +kernel
theorem dJ6_getChars_ba4f3_54 : decode cJ6_getChars_ba4f3 54 = .ok (.baload, 1) := by decide +kernel
theorem dJ6_getChars_ba4f3_55 : decode cJ6_getChars_ba4f3 55 = .ok (.bastore, 1) := by decide +kernel
theorem dJ6_getChars_ba4f3_56 : decode cJ6_getChars_ba4f3 56 = .ok (.aload_n 2, 1) := by decide +kernel
theorem dJ6_getChars_ba4f3_57 : decode cJ6_getChars_ba4f3 57 = .ok (.iinc 5 (-1), 3) := by decide +kernel
theorem dJ6_getChars_ba4f3_60 : decode cJ6_getChars_ba4f3 60 = .ok (.iload 5, 2) := by decide +kernel
theorem dJ6_getChars_ba4f3_62 : decode cJ6_getChars_ba4f3 62 = .ok (.getstatic 87, 3) := by decide +kernel
theorem dJ6_getChars_ba4f3_65 : decode cJ6_getChars_ba4f3 65 = .ok (.iload 4, 2) := by decide +kernel
theorem dJ6_getChars_ba4f3_67 : decode cJ6_getChars_ba4f3 67 = .ok (.baload, 1) := by decide +kernel
theorem dJ6_getChars_ba4f3_68 : decode cJ6_getChars_ba4f3 68 = .ok (.bastore, 1) := by decide +kernel
theorem dJ6_getChars_ba4f3_69 : decode cJ6_getChars_ba4f3 69 = .ok (.goto (-47), 3) := by decide +kernel
theorem dJ6_getChars_ba4f3_72 : decode cJ6_getChars_ba4f3 72 = .ok (.aload_n 2, 1) := by decide +kernel
theorem dJ6_getChars_ba4f3_73 : decode cJ6_getChars_ba4f3 73 = .ok (.iinc 5 (-1), 3) := by decide +kernel
theorem dJ6_getChars_ba4f3_76 : decode cJ6_getChars_ba4f3 76 = .ok (.iload 5, 2) := by decide +kernel
theorem dJ6_getChars_ba4f3_78 : decode cJ6_getChars_ba4f3 78 = .ok (.getstatic 83, 3) := by decide +kernel
theorem dJ6_getChars_ba4f3_81 : decode cJ6_getChars_ba4f3 81 = .ok (.iload_n 0, 1) := by decide +kernel
theorem dJ6_getChars_ba4f3_82 : decode cJ6_getChars_ba4f3 82 = .ok (.ineg, 1) := by decide +kernel
theorem dJ6_getChars_ba4f3_83 : decode cJ6_getChars_ba4f3 83 = .ok (.baload, 1) := by decide +kernel
theorem dJ6_getChars_ba4f3_84 : decode cJ6_getChars_ba4f3 84 = .ok (.bastore, 1) := by decide +kernel
theorem dJ6_getChars_ba4f3_85 : decode cJ6_getChars_ba4f3 85 = .ok (.iload_n 0, 1) := by decide +kernel
theorem dJ6_getChars_ba4f3_86 : decode cJ6_getChars_ba4f3 86 = .ok (.bipush (-9), 2) := by decide +kernel
theorem dJ6_getChars_ba4f3_88 : decode cJ6_getChars_ba4f3 88 = .ok (.if_icmp .ge 16, 3) := by decide +kernel
theorem dJ6_getChars_ba4f3_91 : decode cJ6_getChars_ba4f3 91 = .ok (.aload_n 2, 1) := by decide +kernel
theorem dJ6_getChars_ba4f3_92 : decode cJ6_getChars_ba4f3 92 = .ok (.iinc 5 (-1), 3) := by decide +kernel
theorem dJ6_getChars_ba4f3_95 : decode cJ6_getChars_ba4f3 95 = .ok (.iload 5, 2) := by decide +kernel
theorem dJ6_getChars_ba4f3_97 : decode cJ6_getChars_ba4f3 97 = .ok (.getstatic 87, 3) := by decide +kernel
theorem dJ6_getChars_ba4f3_100 : decode cJ6_getChars_ba4f3 100 = .ok (.iload_n 0, 1) := by decide +kernel
theorem dJ6_getChars_ba4f3_101 : decode cJ6_getChars_ba4f3 101 = .ok (.ineg, 1) := by decide +kernel
theorem dJ6_getChars_ba4f3_102 : decode cJ6_getChars_ba4f3 102 = .ok (.baload, 1) := by decide +kernel
theorem dJ6_getChars_ba4f3_103 : decode cJ6_getChars_ba4f3 103 = .ok (.bastore, 1) := by decide +kernel
theorem dJ6_getChars_ba4f3_104 : decode cJ6_getChars_ba4f3 104 = .ok (.iload 6, 2) := by decide +kernel
theorem dJ6_getChars_ba4f3_106 : decode cJ6_getChars_ba4f3 106 = .ok (.ifCond .eq 12, 3) := by decide +kernel
theorem dJ6_getChars_ba4f3_109 : decode cJ6_getChars_ba4f3 109 = .ok (.aload_n 2, 1) := by decide +kernel
theorem dJ6_getChars_ba4f3_110 : decode cJ6_getChars_ba4f3 110 = .ok (.iinc 5 (-1), 3) := by decide +kernel
theorem dJ6_getChars_ba4f3_113 : decode cJ6_getChars_ba4f3 113 = .ok (.iload 5, 2) := by decide +kernel
theorem dJ6_getChars_ba4f3_115 : decode cJ6_getChars_ba4f3 115 = .ok (.bipush 45, 2) := by decide +kernel
theorem dJ6_getChars_ba4f3_117 : decode cJ6_getChars_ba4f3 117 = .ok (.bastore, 1) := by decide +kernel
theorem dJ6_getChars_ba4f3_118 : decode cJ6_getChars_ba4f3 118 = .ok (.iload 5, 2) := by decide +kernel
theorem dJ6_getChars_ba4f3_120 : decode cJ6_getChars_ba4f3 120 = .ok (.ireturn, 1) := by decide +kernel
theorem dJ6_stringSize_0f7a4_0 : decode cJ6_stringSize_0f7a4 0 = .ok (.iconst 1, 1) := by decide +kernel
theorem dJ6_stringSize_0f7a4_1 : decode cJ6_stringSize_0f7a4 1 = .ok (.istore_n 1, 1) := by decide +kernel
theorem dJ6_stringSize_0f7a4_2 : decode cJ6_stringSize_0f7a4 2 = .ok (.iload_n 0, 1) := by decide +kernel
theorem dJ6_stringSize_0f7a4_3 : decode cJ6_stringSize_0f7a4 3 = .ok (.ifCond .lt 8, 3) := by decide +kernel
theorem dJ6_stringSize_0f7a4_6 : decode cJ6_stringSize_0f7a4 6 = .ok (.iconst 0, 1) := by decide +kernel
theorem dJ6_stringSize_0f7a4_7 : decode cJ6_stringSize_0f7a4 7 = .ok (.istore_n 1, 1) := by decide +kernel
theorem dJ6_stringSize_0f7a4_8 : decode cJ6_stringSize_0f7a4 8 = .ok (.iload_n 0, 1) := by decide +kernel
theorem dJ6_stringSize_0f7a4_9 : decode cJ6_stringSize_0f7a4 9 = .ok (.ineg, 1) := by decide +kernel
theorem dJ6_stringSize_0f7a4_10 : decode cJ6_stringSize_0f7a4 10 = .ok (.istore_n 0, 1) := by decide +kernel
theorem dJ6_stringSize_0f7a4_11 : decode cJ6_stringSize_0f7a4 11 = .ok (.bipush (-10), 2) := by decide +kernel
theorem dJ6_stringSize_0f7a4_13 : decode cJ6_stringSize_0f7a4 13 = .ok (.istore_n 2, 1) := by decide +kernel
theorem dJ6_stringSize_0f7a4_14 : decode cJ6_stringSize_0f7a4 14 = .ok (.iconst 1, 1) := by decide +kernel
theorem dJ6_stringSize_0f7a4_15 : decode cJ6_stringSize_0f7a4 15 = .ok (.istore_n 3, 1) := by decide +kernel
theorem dJ6_stringSize_0f7a4_16 : decode cJ6_stringSize_0f7a4 16 = .ok (.iload_n 3, 1) := by decide +kernel
theorem dJ6_stringSize_0f7a4_17 : decode cJ6_stringSize_0f7a4 17 = .ok (.bipush 10, 2) := by decide +kernel
theorem dJ6_stringSize_0f7a4_19 : decode cJ6_stringSize_0f7a4 19 = .ok (.if_icmp .ge 23, 3) := by decide +kernel
theorem dJ6_stringSize_0f7a4_22 : decode cJ6_stringSize_0f7a4 22 = .ok (.iload_n 0, 1) := by decide +kernel
theorem dJ6_stringSize_0f7a4_23 : decode cJ6_stringSize_0f7a4 23 = .ok (.iload_n 2, 1) := by decide +kernel
theorem dJ6_stringSize_0f7a4_24 : decode cJ6_stringSize_0f7a4 24 = .ok (.if_icmp .le 7, 3) := by decide +kernel
theorem dJ6_stringSize_0f7a4_27 : decode cJ6_stringSize_0f7a4 27 = .ok (.iload_n 3, 1) := by decide +kernel
theorem dJ6_stringSize_0f7a4_28 : decode cJ6_stringSize_0f7a4 28 = .ok (.iload_n 1, 1) := by decide +kernel
theorem dJ6_stringSize_0f7a4_29 : decode cJ6_stringSize_0f7a4 29 = .ok (.iadd, 1) := by decide +kernel
theorem dJ6_stringSize_0f7a4_30 : decode cJ6_stringSize_0f7a4 30 = .ok (.ireturn, 1) := by decide +kernel
theorem dJ6_stringSize_0f7a4_31 : decode cJ6_stringSize_0f7a4 31 = .ok (.bipush 10, 2) := by decide +kernel
theorem dJ6_stringSize_0f7a4_33 : decode cJ6_stringSize_0f7a4 33 = .ok (.iload_n 2, 1) := by decide +kernel
theorem dJ6_stringSize_0f7a4_34 : decode cJ6_stringSize_0f7a4 34 = .ok (.imul, 1) := by decide +kernel
theorem dJ6_stringSize_0f7a4_35 : decode cJ6_stringSize_0f7a4 35 = .ok (.istore_n 2, 1) := by decide +kernel
theorem dJ6_stringSize_0f7a4_36 : decode cJ6_stringSize_0f7a4 36 = .ok (.iinc 3 1, 3) := by decide +kernel
theorem dJ6_stringSize_0f7a4_39 : decode cJ6_stringSize_0f7a4 39 = .ok (.goto (-23), 3) := by decide +kernel
theorem dJ6_stringSize_0f7a4_42 : decode cJ6_stringSize_0f7a4 42 = .ok (.bipush 10, 2) := by decide +kernel
theorem dJ6_stringSize_0f7a4_44 : decode cJ6_stringSize_0f7a4 44 = .ok (.iload_n 1, 1) := by decide +kernel
theorem dJ6_stringSize_0f7a4_45 : decode cJ6_stringSize_0f7a4 45 = .ok (.iadd, 1) := by decide +kernel
theorem dJ6_stringSize_0f7a4_46 : decode cJ6_stringSize_0f7a4 46 = .ok (.ireturn, 1) := by decide +kernel
theorem dJ4_init_da8c8_0 : decode cJ4_init_da8c8 0 = .ok (.aload_n 0, 1) := by decide +kernel
theorem dJ4_init_da8c8_1 : decode cJ4_init_da8c8 1 = .ok (.bipush 16, 2) := by decide +kernel
theorem dJ4_init_da8c8_3 : decode cJ4_init_da8c8 3 = .ok (.invokespecial 1, 3) := by decide +kernel
theorem dJ4_init_da8c8_6 : decode cJ4_init_da8c8 6 = .ok (.return_, 1) := by decide +kernel
theorem dJ4_init_a7421_0 : decode cJ4_init_a7421 0 = .ok (.aload_n 0, 1) := by decide +kernel
theorem dJ4_init_a7421_1 : decode cJ4_init_a7421 1 = .ok (.aload_n 1, 1) := by decide +kernel
theorem dJ4_init_a7421_2 : decode cJ4_init_a7421 2 = .ok (.invokespecial 7, 3) := by decide +kernel
theorem dJ4_init_a7421_5 : decode cJ4_init_a7421 5 = .ok (.return_, 1) := by decide +kernel
theorem dJ4_append_15ec4_0 : decode cJ4_append_15ec4 0 = .ok (.aload_n 0, 1) := by decide +kernel
theorem dJ4_append_15ec4_1 : decode cJ4_append_15ec4 1 = .ok (.aload_n 1, 1) := by decide +kernel
theorem dJ4_append_15ec4_2 : decode cJ4_append_15ec4 2 = .ok (.invokespecial 29, 3) := by decide +kernel
theorem dJ4_append_15ec4_5 : decode cJ4_append_15ec4 5 = .ok (.pop, 1) := by decide +kernel
theorem dJ4_append_15ec4_6 : decode cJ4_append_15ec4 6 = .ok (.aload_n 0, 1) := by decide +kernel
theorem dJ4_append_15ec4_7 : decode cJ4_append_15ec4 7 = .ok (.areturn, 1) := by decide +kernel
theorem dJ4_append_cf468_0 : decode cJ4_append_cf468 0 = .ok (.aload_n 0, 1) := by decide +kernel
theorem dJ4_append_cf468_1 : decode cJ4_append_cf468 1 = .ok (.iload_n 1, 1) := by decide +kernel
theorem dJ4_append_cf468_2 : decode cJ4_append_cf468 2 = .ok (.invokespecial 50, 3) := by decide +kernel
theorem dJ4_append_cf468_5 : decode cJ4_append_cf468 5 = .ok (.pop, 1) := by decide +kernel
theorem dJ4_append_cf468_6 : decode cJ4_append_cf468 6 = .ok (.aload_n 0, 1) := by decide +kernel
theorem dJ4_append_cf468_7 : decode cJ4_append_cf468 7 = .ok (.areturn, 1) := by decide +kernel
theorem dJ4_append_bf812_0 : decode cJ4_append_bf812 0 = .ok (.aload_n 0, 1) := by decide +kernel
theorem dJ4_append_bf812_1 : decode cJ4_append_bf812 1 = .ok (.iload_n 1, 1) := by decide +kernel
theorem dJ4_append_bf812_2 : decode cJ4_append_bf812 2 = .ok (.invokespecial 53, 3) := by decide +kernel
theorem dJ4_append_bf812_5 : decode cJ4_append_bf812 5 = .ok (.pop, 1) := by decide +kernel
theorem dJ4_append_bf812_6 : decode cJ4_append_bf812 6 = .ok (.aload_n 0, 1) := by decide +kernel
theorem dJ4_append_bf812_7 : decode cJ4_append_bf812 7 = .ok (.areturn, 1) := by decide +kernel
theorem dJ4_toString_0e30d_0 : decode cJ4_toString_0e30d 0 = .ok (.new 18, 3) := by decide +kernel
theorem dJ4_toString_0e30d_3 : decode cJ4_toString_0e30d 3 = .ok (.dup, 1) := by decide +kernel
theorem dJ4_toString_0e30d_4 : decode cJ4_toString_0e30d 4 = .ok (.aload_n 0, 1) := by decide +kernel
theorem dJ4_toString_0e30d_5 : decode cJ4_toString_0e30d 5 = .ok (.invokespecial 137, 3) := by decide +kernel
theorem dJ4_toString_0e30d_8 : decode cJ4_toString_0e30d 8 = .ok (.areturn, 1) := by decide +kernel
theorem dJ4_append_cf1ce_0 : decode cJ4_append_cf1ce 0 = .ok (.aload_n 0, 1) := by decide +kernel
theorem dJ4_append_cf1ce_1 : decode cJ4_append_cf1ce 1 = .ok (.aload_n 1, 1) := by decide +kernel
theorem dJ4_append_cf1ce_2 : decode cJ4_append_cf1ce 2 = .ok (.invokevirtual 23, 3) := by decide +kernel
theorem dJ4_append_cf1ce_5 : decode cJ4_append_cf1ce 5 = .ok (.areturn, 1) := by decide +kernel
theorem dJ4_length_8abf5_0 : decode cJ4_length_8abf5 0 = .ok (.aload_n 0, 1) := by decide +kernel
theorem dJ4_length_8abf5_1 : decode cJ4_length_8abf5 1 = .ok (.invokespecial 343, 3) := by decide +kernel
theorem dJ4_length_8abf5_4 : decode cJ4_length_8abf5 4 = .ok (.ireturn, 1) := by decide +kernel
theorem dJ2_newBytesFor_77867_0 : decode cJ2_newBytesFor_77867 0 = .ok (.iload_n 0, 1) := by decide +kernel
theorem dJ2_newBytesFor_77867_1 : decode cJ2_newBytesFor_77867 1 = .ok (.invokestatic 11, 3) := by decide +kernel
theorem dJ2_newBytesFor_77867_4 : decode cJ2_newBytesFor_77867 4 = .ok (.newarray .byte, 2) := by decide +kernel
theorem dJ2_newBytesFor_77867_6 : decode cJ2_newBytesFor_77867 6 = .ok (.areturn, 1) := by decide +kernel
theorem dJ2_newBytesLength_0f7a4_0 : decode cJ2_newBytesLength_0f7a4 0 = .ok (.iload_n 0, 1) := by decide +kernel
theorem dJ2_newBytesLength_0f7a4_1 : decode cJ2_newBytesLength_0f7a4 1 = .ok (.ifCond .ge 11, 3) := by decide +kernel
theorem dJ2_newBytesLength_0f7a4_4 : decode cJ2_newBytesLength_0f7a4 4 = .ok (.new 17, 3) := by decide +kernel
theorem dJ2_newBytesLength_0f7a4_7 : decode cJ2_newBytesLength_0f7a4 7 = .ok (.dup, 1) := by decide +kernel
theorem dJ2_newBytesLength_0f7a4_8 : decode cJ2_newBytesLength_0f7a4 8 = .ok (.invokespecial 19, 3) := by decide +kernel
theorem dJ2_newBytesLength_0f7a4_11 : decode cJ2_newBytesLength_0f7a4 11 = .ok (.athrow, 1) := by decide +kernel
theorem dJ2_newBytesLength_0f7a4_12 : decode cJ2_newBytesLength_0f7a4 12 = .ok (.iload_n 0, 1) := by decide +kernel
theorem dJ2_newBytesLength_0f7a4_13 : decode cJ2_newBytesLength_0f7a4 13 = .ok (.ldc 20, 2) := by decide +kernel
theorem dJ2_newBytesLength_0f7a4_15 : decode cJ2_newBytesLength_0f7a4 15 = .ok (.if_icmp .lt 40, 3) := by decide +kernel
theorem dJ2_newBytesLength_0f7a4_18 : decode cJ2_newBytesLength_0f7a4 18 = .ok (.new 21, 3) := by decide +kernel
theorem dJ2_newBytesLength_0f7a4_21 : decode cJ2_newBytesLength_0f7a4 21 = .ok (.dup, 1) := by decide +kernel
theorem dJ2_newBytesLength_0f7a4_22 : decode cJ2_newBytesLength_0f7a4 22 = .ok (.new 23, 3) := by decide +kernel
theorem dJ2_newBytesLength_0f7a4_25 : decode cJ2_newBytesLength_0f7a4 25 = .ok (.dup, 1) := by decide +kernel
theorem dJ2_newBytesLength_0f7a4_26 : decode cJ2_newBytesLength_0f7a4 26 = .ok (.invokespecial 25, 3) := by decide +kernel
theorem dJ2_newBytesLength_0f7a4_29 : decode cJ2_newBytesLength_0f7a4 29 = .ok (.ldc 26, 2) := by decide +kernel
theorem dJ2_newBytesLength_0f7a4_31 : decode cJ2_newBytesLength_0f7a4 31 = .ok (.invokevirtual 28, 3) := by decide +kernel
theorem dJ2_newBytesLength_0f7a4_34 : decode cJ2_newBytesLength_0f7a4 34 = .ok (.iload_n 0, 1) := by decide +kernel
theorem dJ2_newBytesLength_0f7a4_35 : decode cJ2_newBytesLength_0f7a4 35 = .ok (.invokevirtual 32, 3) := by decide +kernel
theorem dJ2_newBytesLength_0f7a4_38 : decode cJ2_newBytesLength_0f7a4 38 = .ok (.ldc 35, 2) := by decide +kernel
theorem dJ2_newBytesLength_0f7a4_40 : decode cJ2_newBytesLength_0f7a4 40 = .ok (.invokevirtual 28, 3) := by decide +kernel
theorem dJ2_newBytesLength_0f7a4_43 : decode cJ2_newBytesLength_0f7a4 43 = .ok (.ldc 20, 2) := by decide +kernel
theorem dJ2_newBytesLength_0f7a4_45 : decode cJ2_newBytesLength_0f7a4 45 = .ok (.invokevirtual 32, 3) := by decide +kernel
theorem dJ2_newBytesLength_0f7a4_48 : decode cJ2_newBytesLength_0f7a4 48 = .ok (.invokevirtual 37, 3) := by decide +kernel
theorem dJ2_newBytesLength_0f7a4_51 : decode cJ2_newBytesLength_0f7a4 51 = .ok (.invokespecial 41, 3) := by decide +kernel
theorem dJ2_newBytesLength_0f7a4_54 : decode cJ2_newBytesLength_0f7a4 54 = .ok (.athrow, 1) := by decide +kernel
theorem dJ2_newBytesLength_0f7a4_55 : decode cJ2_newBytesLength_0f7a4 55 = .ok (.iload_n 0, 1) := by decide +kernel
theorem dJ2_newBytesLength_0f7a4_56 : decode cJ2_newBytesLength_0f7a4 56 = .ok (.iconst 1, 1) := by decide +kernel
theorem dJ2_newBytesLength_0f7a4_57 : decode cJ2_newBytesLength_0f7a4 57 = .ok (.ishl, 1) := by decide +kernel
theorem dJ2_newBytesLength_0f7a4_58 : decode cJ2_newBytesLength_0f7a4 58 = .ok (.ireturn, 1) := by decide +kernel
theorem dJ2_putChar_b72d1_0 : decode cJ2_putChar_b72d1 0 = .ok (.getstatic 44, 3) := by decide +kernel
theorem dJ2_putChar_b72d1_3 : decode cJ2_putChar_b72d1 3 = .ok (.ifCond .ne 25, 3) := by decide +kernel
theorem dJ2_putChar_b72d1_6 : decode cJ2_putChar_b72d1 6 = .ok (.iload_n 1, 1) := by decide +kernel
theorem dJ2_putChar_b72d1_7 : decode cJ2_putChar_b72d1 7 = .ok (.ifCond .lt 11, 3) := by decide +kernel
theorem dJ2_putChar_b72d1_10 : decode cJ2_putChar_b72d1 10 = .ok (.iload_n 1, 1) := by decide +kernel
theorem dJ2_putChar_b72d1_11 : decode cJ2_putChar_b72d1 11 = .ok (.aload_n 0, 1) := by decide +kernel
theorem dJ2_putChar_b72d1_12 : decode cJ2_putChar_b72d1 12 = .ok (.invokestatic 48, 3) := by decide +kernel
theorem dJ2_putChar_b72d1_15 : decode cJ2_putChar_b72d1 15 = .ok (.if_icmp .lt 13, 3) := by decide +kernel
theorem dJ2_putChar_b72d1_18 : decode cJ2_putChar_b72d1 18 = .ok (.new 52, 3) := by decide +kernel
theorem dJ2_putChar_b72d1_21 : decode cJ2_putChar_b72d1 21 = .ok (.dup, 1) := by decide +kernel
theorem dJ2_putChar_b72d1_22 : decode cJ2_putChar_b72d1 22 = .ok (.ldc 54, 2) := by decide +kernel
theorem dJ2_putChar_b72d1_24 : decode cJ2_putChar_b72d1 24 = .ok (.invokespecial 56, 3) := by decide +kernel
theorem dJ2_putChar_b72d1_27 : decode cJ2_putChar_b72d1 27 = .ok (.athrow, 1) := by decide +kernel
theorem dJ2_putChar_b72d1_28 : decode cJ2_putChar_b72d1 28 = .ok (.iload_n 1, 1) := by decide +kernel
theorem dJ2_putChar_b72d1_29 : decode cJ2_putChar_b72d1 29 = .ok (.iconst 1, 1) := by decide +kernel
theorem dJ2_putChar_b72d1_30 : decode cJ2_putChar_b72d1 30 = .ok (.ishl, 1) := by decide +kernel
theorem dJ2_putChar_b72d1_31 : decode cJ2_putChar_b72d1 31 = .ok (.istore_n 1, 1) := by decide +kernel
theorem dJ2_putChar_b72d1_32 : decode cJ2_putChar_b72d1 32 = .ok (.aload_n 0, 1) := by decide +kernel
theorem dJ2_putChar_b72d1_33 : decode cJ2_putChar_b72d1 33 = .ok (.iload_n 1, 1) := by decide +kernel
theorem dJ2_putChar_b72d1_34 : decode cJ2_putChar_b72d1 34 = .ok (.iinc 1 1, 3) := by decide +kernel
theorem dJ2_putChar_b72d1_37 : decode cJ2_putChar_b72d1 37 = .ok (.iload_n 2, 1) := by decide +kernel
theorem dJ2_putChar_b72d1_38 : decode cJ2_putChar_b72d1 38 = .ok (.getstatic 59, 3) := by decide +kernel
theorem dJ2_putChar_b72d1_41 : decode cJ2_putChar_b72d1 41 = .ok (.ishr, 1) := by decide +kernel
theorem dJ2_putChar_b72d1_42 : decode cJ2_putChar_b72d1 42 = .ok (.i2b, 1) := by decide +kernel
theorem dJ2_putChar_b72d1_43 : decode cJ2_putChar_b72d1 43 = .ok (.bastore, 1) := by decide +kernel
theorem dJ2_putChar_b72d1_44 : decode cJ2_putChar_b72d1 44 = .ok (.aload_n 0, 1) := by decide +kernel
theorem dJ2_putChar_b72d1_45 : decode cJ2_putChar_b72d1 45 = .ok (.iload_n 1, 1) := by decide +kernel
theorem dJ2_putChar_b72d1_46 : decode cJ2_putChar_b72d1 46 = .ok (.iload_n 2, 1) := by decide +kernel
theorem dJ2_putChar_b72d1_47 : decode cJ2_putChar_b72d1 47 = .ok (.getstatic 63, 3) := by decide +kernel
theorem dJ2_putChar_b72d1_50 : decode cJ2_putChar_b72d1 50 = .ok (.ishr, 1) := by decide +kernel
theorem dJ2_putChar_b72d1_51 : decode cJ2_putChar_b72d1 51 = .ok (.i2b, 1) := by decide +kernel
theorem dJ2_putChar_b72d1_52 : decode cJ2_putChar_b72d1 52 = .ok (.bastore, 1) := by decide +kernel
theorem dJ2_putChar_b72d1_53 : decode cJ2_putChar_b72d1 53 = .ok (.return_, 1) := by decide +kernel
theorem dJ2_getChar_3b067_0 : decode cJ2_getChar_3b067 0 = .ok (.getstatic 44, 3) := by decide +kernel
theorem dJ2_getChar_3b067_3 : decode cJ2_getChar_3b067 3 = .ok (.ifCond .ne 25, 3) := by decide +kernel
theorem dJ2_getChar_3b067_6 : decode cJ2_getChar_3b067 6 = .ok (.iload_n 1, 1) := by decide +kernel
theorem dJ2_getChar_3b067_7 : decode cJ2_getChar_3b067 7 = .ok (.ifCond .lt 11, 3) := by decide +kernel
theorem dJ2_getChar_3b067_10 : decode cJ2_getChar_3b067 10 = .ok (.iload_n 1, 1) := by decide +kernel
theorem dJ2_getChar_3b067_11 : decode cJ2_getChar_3b067 11 = .ok (.aload_n 0, 1) := by decide +kernel
theorem dJ2_getChar_3b067_12 : decode cJ2_getChar_3b067 12 = .ok (.invokestatic 48, 3) := by decide +kernel
theorem dJ2_getChar_3b067_15 : decode cJ2_getChar_3b067 15 = .ok (.if_icmp .lt 13, 3) := by decide +kernel
theorem dJ2_getChar_3b067_18 : decode cJ2_getChar_3b067 18 = .ok (.new 52, 3) := by decide +kernel
theorem dJ2_getChar_3b067_21 : decode cJ2_getChar_3b067 21 = .ok (.dup, 1) := by decide +kernel
theorem dJ2_getChar_3b067_22 : decode cJ2_getChar_3b067 22 = .ok (.ldc 54, 2) := by decide +kernel
theorem dJ2_getChar_3b067_24 : decode cJ2_getChar_3b067 24 = .ok (.invokespecial 56, 3) := by decide +kernel
theorem dJ2_getChar_3b067_27 : decode cJ2_getChar_3b067 27 = .ok (.athrow, 1) := by decide +kernel
theorem dJ2_getChar_3b067_28 : decode cJ2_getChar_3b067 28 = .ok (.iload_n 1, 1) := by decide +kernel
theorem dJ2_getChar_3b067_29 : decode cJ2_getChar_3b067 29 = .ok (.iconst 1, 1) := by decide +kernel
theorem dJ2_getChar_3b067_30 : decode cJ2_getChar_3b067 30 = .ok (.ishl, 1) := by decide +kernel
theorem dJ2_getChar_3b067_31 : decode cJ2_getChar_3b067 31 = .ok (.istore_n 1, 1) := by decide +kernel
theorem dJ2_getChar_3b067_32 : decode cJ2_getChar_3b067 32 = .ok (.aload_n 0, 1) := by decide +kernel
theorem dJ2_getChar_3b067_33 : decode cJ2_getChar_3b067 33 = .ok (.iload_n 1, 1) := by decide +kernel
theorem dJ2_getChar_3b067_34 : decode cJ2_getChar_3b067 34 = .ok (.iinc 1 1, 3) := by decide +kernel
theorem dJ2_getChar_3b067_37 : decode cJ2_getChar_3b067 37 = .ok (.baload, 1) := by decide +kernel
theorem dJ2_getChar_3b067_38 : decode cJ2_getChar_3b067 38 = .ok (.sipush 255, 3) := by decide +kernel
theorem dJ2_getChar_3b067_41 : decode cJ2_getChar_3b067 41 = .ok (.iand, 1) := by decide +kernel
theorem dJ2_getChar_3b067_42 : decode cJ2_getChar_3b067 42 = .ok (.getstatic 59, 3) := by decide +kernel
theorem dJ2_getChar_3b067_45 : decode cJ2_getChar_3b067 45 = .ok (.ishl, 1) := by decide +kernel
theorem dJ2_getChar_3b067_46 : decode cJ2_getChar_3b067 46 = .ok (.aload_n 0, 1) := by decide +kernel
theorem dJ2_getChar_3b067_47 : decode cJ2_getChar_3b067 47 = .ok (.iload_n 1, 1) := by decide +kernel
theorem dJ2_getChar_3b067_48 : decode cJ2_getChar_3b067 48 = .ok (.baload, 1) := by decide +kernel
theorem dJ2_getChar_3b067_49 : decode cJ2_getChar_3b067 49 = .ok (.sipush 255, 3) := by decide +kernel
theorem dJ2_getChar_3b067_52 : decode cJ2_getChar_3b067 52 = .ok (.iand, 1) := by decide +kernel
theorem dJ2_getChar_3b067_53 : decode cJ2_getChar_3b067 53 = .ok (.getstatic 63, 3) := by decide +kernel
theorem dJ2_getChar_3b067_56 : decode cJ2_getChar_3b067 56 = .ok (.ishl, 1) := by decide +kernel
theorem dJ2_getChar_3b067_57 : decode cJ2_getChar_3b067 57 = .ok (.ior, 1) := by decide +kernel
theorem dJ2_getChar_3b067_58 : decode cJ2_getChar_3b067 58 = .ok (.i2c, 1) := by decide +kernel
theorem dJ2_getChar_3b067_59 : decode cJ2_getChar_3b067 59 = .ok (.ireturn, 1) := by decide +kernel
theorem dJ2_length_9d52b_0 : decode cJ2_length_9d52b 0 = .ok (.aload_n 0, 1) := by decide +kernel
theorem dJ2_length_9d52b_1 : decode cJ2_length_9d52b 1 = .ok (.arraylength, 1) := by decide +kernel
theorem dJ2_length_9d52b_2 : decode cJ2_length_9d52b 2 = .ok (.iconst 1, 1) := by decide +kernel
theorem dJ2_length_9d52b_3 : decode cJ2_length_9d52b 3 = .ok (.ishr, 1) := by decide +kernel
theorem dJ2_length_9d52b_4 : decode cJ2_length_9d52b 4 = .ok (.ireturn, 1) := by decide +kernel
theorem dJ2_coderFromArrayLen_85cad_0 : decode cJ2_coderFromArrayLen_85cad 0 = .ok (.iload_n 1, 1) := by decide +kernel
theorem dJ2_coderFromArrayLen_85cad_1 : decode cJ2_coderFromArrayLen_85cad 1 = .ok (.aload_n 0, 1) := by decide +kernel
theorem dJ2_coderFromArrayLen_85cad_2 : decode cJ2_coderFromArrayLen_85cad 2 = .ok (.arraylength, 1) := by decide +kernel
theorem dJ2_coderFromArrayLen_85cad_3 : decode cJ2_coderFromArrayLen_85cad 3 = .ok (.isub, 1) := by decide +kernel
theorem dJ2_coderFromArrayLen_85cad_4 : decode cJ2_coderFromArrayLen_85cad 4 = .ok (.bipush 31, 2) := by decide +kernel
theorem dJ2_coderFromArrayLen_85cad_6 : decode cJ2_coderFromArrayLen_85cad 6 = .ok (.iushr, 1) := by decide +kernel
theorem dJ2_coderFromArrayLen_85cad_7 : decode cJ2_coderFromArrayLen_85cad 7 = .ok (.i2b, 1) := by decide +kernel
theorem dJ2_coderFromArrayLen_85cad_8 : decode cJ2_coderFromArrayLen_85cad 8 = .ok (.ireturn, 1) := by decide +kernel
theorem dJ2_compress_39247_0 : decode cJ2_compress_39247 0 = .ok (.iload_n 2, 1) := by decide +kernel
theorem dJ2_compress_39247_1 : decode cJ2_compress_39247 1 = .ok (.newarray .byte, 2) := by decide +kernel
theorem dJ2_compress_39247_3 : decode cJ2_compress_39247 3 = .ok (.astore_n 3, 1) := by decide +kernel
theorem dJ2_compress_39247_4 : decode cJ2_compress_39247 4 = .ok (.aload_n 0, 1) := by decide +kernel
theorem dJ2_compress_39247_5 : decode cJ2_compress_39247 5 = .ok (.iload_n 1, 1) := by decide +kernel
theorem dJ2_compress_39247_6 : decode cJ2_compress_39247 6 = .ok (.aload_n 3, 1) := by decide +kernel
theorem dJ2_compress_39247_7 : decode cJ2_compress_39247 7 = .ok (.iconst 0, 1) := by decide +kernel
theorem dJ2_compress_39247_8 : decode cJ2_compress_39247 8 = .ok (.iload_n 2, 1) := by decide +kernel
theorem dJ2_compress_39247_9 : decode cJ2_compress_39247 9 = .ok (.invokestatic 123, 3) := by decide +kernel
theorem dJ2_compress_39247_12 : decode cJ2_compress_39247 12 = .ok (.istore 4, 2) := by decide +kernel
theorem dJ2_compress_39247_14 : decode cJ2_compress_39247 14 = .ok (.iload 4, 2) := by decide +kernel
theorem dJ2_compress_39247_16 : decode cJ2_compress_39247 16 = .ok (.iload_n 2, 1) := by decide +kernel
theorem dJ2_compress_39247_17 : decode cJ2_compress_39247 17 = .ok (.if_icmp .eq 47, 3) := by decide +kernel
theorem dJ2_compress_39247_20 : decode cJ2_compress_39247 20 = .ok (.aload_n 0, 1) := by decide +kernel
theorem dJ2_compress_39247_21 : decode cJ2_compress_39247 21 = .ok (.iload_n 1, 1) := by decide +kernel
theorem dJ2_compress_39247_22 : decode cJ2_compress_39247 22 = .ok (.iconst 1, 1) := by decide +kernel
theorem dJ2_compress_39247_23 : decode cJ2_compress_39247 23 = .ok (.ishl, 1) := by decide +kernel
theorem dJ2_compress_39247_24 : decode cJ2_compress_39247 24 = .ok (.iload_n 1, 1) := by decide +kernel
theorem dJ2_compress_39247_25 : decode cJ2_compress_39247 25 = .ok (.iload_n 2, 1) := by decide +kernel
theorem dJ2_compress_39247_26 : decode cJ2_compress_39247 26 = .ok (.iadd, 1) := by decide +kernel
theorem dJ2_compress_39247_27 : decode cJ2_compress_39247 27 = .ok (.invokestatic 11, 3) := by decide +kernel
theorem dJ2_compress_39247_30 : decode cJ2_compress_39247 30 = .ok (.invokestatic 126, 3) := by decide +kernel
theorem dJ2_compress_39247_33 : decode cJ2_compress_39247 33 = .ok (.astore 5, 2) := by decide +kernel
theorem dJ2_compress_39247_35 : decode cJ2_compress_39247 35 = .ok (.aload 5, 2) := by decide +kernel
theorem dJ2_compress_39247_37 : decode cJ2_compress_39247 37 = .ok (.iload 4, 2) := by decide +kernel
theorem dJ2_compress_39247_39 : decode cJ2_compress_39247 39 = .ok (.invokestatic 71, 3) := by decide +kernel
theorem dJ2_compress_39247_42 : decode cJ2_compress_39247 42 = .ok (.sipush 255, 3) := by decide +kernel
theorem dJ2_compress_39247_45 : decode cJ2_compress_39247 45 = .ok (.if_icmp .gt 16, 3) := by decide +kernel
theorem dJ2_compress_39247_48 : decode cJ2_compress_39247 48 = .ok (.aload 5, 2) := by decide +kernel
theorem dJ2_compress_39247_50 : decode cJ2_compress_39247 50 = .ok (.iconst 0, 1) := by decide +kernel
theorem dJ2_compress_39247_51 : decode cJ2_compress_39247 51 = .ok (.aload_n 3, 1) := by decide +kernel
theorem dJ2_compress_39247_52 : decode cJ2_compress_39247 52 = .ok (.iconst 0, 1) := by decide +kernel
theorem dJ2_compress_39247_53 : decode cJ2_compress_39247 53 = .ok (.iload_n 2, 1) := by decide +kernel
theorem dJ2_compress_39247_54 : decode cJ2_compress_39247 54 = .ok (.invokestatic 123, 3) := by decide +kernel
theorem dJ2_compress_39247_57 : decode cJ2_compress_39247 57 = .ok (.iload_n 2, 1) := by decide +kernel
theorem dJ2_compress_39247_58 : decode cJ2_compress_39247 58 = .ok (.if_icmp .eq 6, 3) := by decide +kernel
theorem dJ2_compress_39247_61 : decode cJ2_compress_39247 61 = .ok (.aload 5, 2) := by decide +kernel
theorem dJ2_compress_39247_63 : decode cJ2_compress_39247 63 = .ok (.areturn, 1) := by decide +kernel
theorem dJ2_compress_39247_64 : decode cJ2_compress_39247 64 = .ok (.aload_n 3, 1) := by decide +kernel
theorem dJ2_compress_39247_65 : decode cJ2_compress_39247 65 = .ok (.areturn, 1) := by decide +kernel
theorem dJ2_compress_5af95_0 : decode cJ2_compress_5af95 0 = .ok (.iload_n 1, 1) := by decide +kernel
theorem dJ2_compress_5af95_1 : decode cJ2_compress_5af95 1 = .ok (.iload 4, 2) := by decide +kernel
theorem dJ2_compress_5af95_3 : decode cJ2_compress_5af95 3 = .ok (.aload_n 0, 1) := by decide +kernel
theorem dJ2_compress_5af95_4 : decode cJ2_compress_5af95 4 = .ok (.invokestatic 173, 3) := by decide +kernel
theorem dJ2_compress_5af95_7 : decode cJ2_compress_5af95 7 = .ok (.iconst 0, 1) := by decide +kernel
theorem dJ2_compress_5af95_8 : decode cJ2_compress_5af95 8 = .ok (.istore 5, 2) := by decide +kernel
theorem dJ2_compress_5af95_10 : decode cJ2_compress_5af95 10 = .ok (.iload 5, 2) := by decide +kernel
theorem dJ2_compress_5af95_12 : decode cJ2_compress_5af95 12 = .ok (.iload 4, 2) := by decide +kernel
theorem dJ2_compress_5af95_14 : decode cJ2_compress_5af95 14 = .ok (.if_icmp .ge 39, 3) := by decide +kernel
theorem dJ2_compress_5af95_17 : decode cJ2_compress_5af95 17 = .ok (.aload_n 0, 1) := by decide +kernel
theorem dJ2_compress_5af95_18 : decode cJ2_compress_5af95 18 = .ok (.iload_n 1, 1) := by decide +kernel
theorem dJ2_compress_5af95_19 : decode cJ2_compress_5af95 19 = .ok (.invokestatic 71, 3) := by decide +kernel
theorem dJ2_compress_5af95_22 : decode cJ2_compress_5af95 22 = .ok (.istore 6, 2) := by decide +kernel
theorem dJ2_compress_5af95_24 : decode cJ2_compress_5af95 24 = .ok (.iload 6, 2) := by decide +kernel
theorem dJ2_compress_5af95_26 : decode cJ2_compress_5af95 26 = .ok (.sipush 255, 3) := by decide +kernel
theorem dJ2_compress_5af95_29 : decode cJ2_compress_5af95 29 = .ok (.if_icmp .le 6, 3) := by decide +kernel
theorem dJ2_compress_5af95_32 : decode cJ2_compress_5af95 32 = .ok (.iload 5, 2) := by decide +kernel
theorem dJ2_compress_5af95_34 : decode cJ2_compress_5af95 34 = .ok (.ireturn, 1) := by decide +kernel
theorem dJ2_compress_5af95_35 : decode cJ2_compress_5af95 35 = .ok (.aload_n 2, 1) := by decide +kernel
theorem dJ2_compress_5af95_36 : decode cJ2_compress_5af95 36 = .ok (.iload_n 3, 1) := by decide +kernel
theorem dJ2_compress_5af95_37 : decode cJ2_compress_5af95 37 = .ok (.iload 6, 2) := by decide +kernel
theorem dJ2_compress_5af95_39 : decode cJ2_compress_5af95 39 = .ok (.i2b, 1) := by decide +kernel
theorem dJ2_compress_5af95_40 : decode cJ2_compress_5af95 40 = .ok (.bastore, 1) := by decide +kernel
theorem dJ2_compress_5af95_41 : decode cJ2_compress_5af95 41 = .ok (.iinc 1 1, 3) := by decide +kernel
theorem dJ2_compress_5af95_44 : decode cJ2_compress_5af95 44 = .ok (.iinc 3 1, 3) := by decide +kernel
theorem dJ2_compress_5af95_47 : decode cJ2_compress_5af95 47 = .ok (.iinc 5 1, 3) := by decide +kernel
theorem dJ2_compress_5af95_50 : decode cJ2_compress_5af95 50 = .ok (.goto (-40), 3) := by decide +kernel
theorem dJ2_compress_5af95_53 : decode cJ2_compress_5af95 53 = .ok (.iload 4, 2) := by decide +kernel
theorem dJ2_compress_5af95_55 : decode cJ2_compress_5af95 55 = .ok (.ireturn, 1) := by decide +kernel
theorem dJ2_putCharSB_b72d1_0 : decode cJ2_putCharSB_b72d1 0 = .ok (.iload_n 1, 1) := by decide +kernel
theorem dJ2_putCharSB_b72d1_1 : decode cJ2_putCharSB_b72d1 1 = .ok (.aload_n 0, 1) := by decide +kernel
theorem dJ2_putCharSB_b72d1_2 : decode cJ2_putCharSB_b72d1 2 = .ok (.invokestatic 67, 3) := by decide +kernel
theorem dJ2_putCharSB_b72d1_5 : decode cJ2_putCharSB_b72d1 5 = .ok (.aload_n 0, 1) := by decide +kernel
theorem dJ2_putCharSB_b72d1_6 : decode cJ2_putCharSB_b72d1 6 = .ok (.iload_n 1, 1) := by decide +kernel
theorem dJ2_putCharSB_b72d1_7 : decode cJ2_putCharSB_b72d1 7 = .ok (.iload_n 2, 1) := by decide +kernel
theorem dJ2_putCharSB_b72d1_8 : decode cJ2_putCharSB_b72d1 8 = .ok (.invokestatic 111, 3) := by decide +kernel
theorem dJ2_putCharSB_b72d1_11 : decode cJ2_putCharSB_b72d1 11 = .ok (.return_, 1) := by decide +kernel
theorem dJ2_getChars_46870_0 : decode cJ2_getChars_46870 0 = .ok (.iload_n 1, 1) := by decide +kernel
theorem dJ2_getChars_46870_1 : decode cJ2_getChars_46870 1 = .ok (.iload_n 2, 1) := by decide +kernel
theorem dJ2_getChars_46870_2 : decode cJ2_getChars_46870 2 = .ok (.aload_n 3, 1) := by decide +kernel
theorem dJ2_getChars_46870_3 : decode cJ2_getChars_46870 3 = .ok (.invokestatic 96, 3) := by decide +kernel
theorem dJ2_getChars_46870_6 : decode cJ2_getChars_46870 6 = .ok (.iload_n 0, 1) := by decide +kernel
theorem dJ2_getChars_46870_7 : decode cJ2_getChars_46870 7 = .ok (.iload_n 2, 1) := by decide +kernel
theorem dJ2_getChars_46870_8 : decode cJ2_getChars_46870 8 = .ok (.aload_n 3, 1) := by decide +kernel
theorem dJ2_getChars_46870_9 : decode cJ2_getChars_46870 9 = .ok (.invokestatic 393, 3) := by decide +kernel
theorem dJ2_getChars_46870_12 : decode cJ2_getChars_46870 12 = .ok (.istore 4, 2) := by decide +kernel
theorem dJ2_getChars_46870_14 : decode cJ2_getChars_46870 14 = .ok (.getstatic 44, 3) := by decide +kernel
theorem dJ2_getChars_46870_17 : decode cJ2_getChars_46870 17 = .ok (.ifCond .ne 17, 3) := by decide +kernel
theorem dJ2_getChars_46870_20 : decode cJ2_getChars_46870 20 = .ok (.iload_n 1, 1) := by decide +kernel
theorem dJ2_getChars_46870_21 : decode cJ2_getChars_46870 21 = .ok (.iload 4, 2) := by decide +kernel
theorem dJ2_getChars_46870_23 : decode cJ2_getChars_46870 23 = .ok (.if_icmp .eq 11, 3) := by decide +kernel
theorem dJ2_getChars_46870_26 : decode cJ2_getChars_46870 26 = .ok (.new 52, 3) := by decide +kernel
theorem dJ2_getChars_46870_29 : decode cJ2_getChars_46870 29 = .ok (.dup, 1) := by decide +kernel
theorem dJ2_getChars_46870_30 : decode cJ2_getChars_46870 30 = .ok (.invokespecial 66, 3) := by decide +kernel
theorem dJ2_getChars_46870_33 : decode cJ2_getChars_46870 33 = .ok (.athrow, 1) := by decide +kernel
theorem dJ2_getChars_46870_34 : decode cJ2_getChars_46870 34 = .ok (.iload 4, 2) := by decide +kernel
theorem dJ2_getChars_46870_36 : decode cJ2_getChars_46870 36 = .ok (.ireturn, 1) := by decide +kernel
theorem dJ2_putCharsAt_cd4e5_0 : decode cJ2_putCharsAt_cd4e5 0 = .ok (.iload_n 1, 1) := by decide +kernel
theorem dJ2_putCharsAt_cd4e5_1 : decode cJ2_putCharsAt_cd4e5 1 = .ok (.iconst 4, 1) := by decide +kernel
theorem dJ2_putCharsAt_cd4e5_2 : decode cJ2_putCharsAt_cd4e5 2 = .ok (.iadd, 1) := by decide +kernel
theorem dJ2_putCharsAt_cd4e5_3 : decode cJ2_putCharsAt_cd4e5 3 = .ok (.istore 6, 2) := by decide +kernel
theorem dJ2_putCharsAt_cd4e5_5 : decode cJ2_putCharsAt_cd4e5 5 = .ok (.iload_n 1, 1) := by decide +kernel
theorem dJ2_putCharsAt_cd4e5_6 : decode cJ2_putCharsAt_cd4e5 6 = .ok (.iload 6, 2) := by decide +kernel
theorem dJ2_putCharsAt_cd4e5_8 : decode cJ2_putCharsAt_cd4e5 8 = .ok (.aload_n 0, 1) := by decide +kernel
theorem dJ2_putCharsAt_cd4e5_9 : decode cJ2_putCharsAt_cd4e5 9 = .ok (.invokestatic 96, 3) := by decide +kernel
theorem dJ2_putCharsAt_cd4e5_12 : decode cJ2_putCharsAt_cd4e5 12 = .ok (.aload_n 0, 1) := by decide +kernel
theorem dJ2_putCharsAt_cd4e5_13 : decode cJ2_putCharsAt_cd4e5 13 = .ok (.iload_n 1, 1) := by decide +kernel
theorem dJ2_putCharsAt_cd4e5_14 : decode cJ2_putCharsAt_cd4e5 14 = .ok (.iinc 1 1, 3) := by decide +kernel
theorem dJ2_putCharsAt_cd4e5_17 : decode cJ2_putCharsAt_cd4e5 17 = .ok (.iload_n 2, 1) := by decide +kernel
theorem dJ2_putCharsAt_cd4e5_18 : decode cJ2_putCharsAt_cd4e5 18 = .ok (.invokestatic 111, 3) := by decide +kernel
theorem dJ2_putCharsAt_cd4e5_21 : decode cJ2_putCharsAt_cd4e5 21 = .ok (.aload_n 0, 1) := by decide +kernel
theorem dJ2_putCharsAt_cd4e5_22 : decode cJ2_putCharsAt_cd4e5 22 = .ok (.iload_n 1, 1) := by decide +kernel
theorem dJ2_putCharsAt_cd4e5_23 : decode cJ2_putCharsAt_cd4e5 23 = .ok (.iinc 1 1, 3) := by decide +kernel
theorem dJ2_putCharsAt_cd4e5_26 : decode cJ2_putCharsAt_cd4e5 26 = .ok (.iload_n 3, 1) := by decide +kernel
theorem dJ2_putCharsAt_cd4e5_27 : decode cJ2_putCharsAt_cd4e5 27 = .ok (.invokestatic 111, 3) := by decide +kernel
theorem dJ2_putCharsAt_cd4e5_30 : decode cJ2_putCharsAt_cd4e5 30 = .ok (.aload_n 0, 1) := by decide +kernel
theorem dJ2_putCharsAt_cd4e5_31 : decode cJ2_putCharsAt_cd4e5 31 = .ok (.iload_n 1, 1) := by decide +kernel
theorem dJ2_putCharsAt_cd4e5_32 : decode cJ2_putCharsAt_cd4e5 32 = .ok (.iinc 1 1, 3) := by decide +kernel
theorem dJ2_putCharsAt_cd4e5_35 : decode cJ2_putCharsAt_cd4e5 35 = .ok (.iload 4, 2) := by decide +kernel
theorem dJ2_putCharsAt_cd4e5_37 : decode cJ2_putCharsAt_cd4e5 37 = .ok (.invokestatic 111, 3) := by decide +kernel
theorem dJ2_putCharsAt_cd4e5_40 : decode cJ2_putCharsAt_cd4e5 40 = .ok (.aload_n 0, 1) := by decide +kernel
theorem dJ2_putCharsAt_cd4e5_41 : decode cJ2_putCharsAt_cd4e5 41 = .ok (.iload_n 1, 1) := by decide +kernel
theorem dJ2_putCharsAt_cd4e5_42 : decode cJ2_putCharsAt_cd4e5 42 = .ok (.iinc 1 1, 3) := by decide +kernel
theorem dJ2_putCharsAt_cd4e5_45 : decode cJ2_putCharsAt_cd4e5 45 = .ok (.iload 5, 2) := by decide +kernel
theorem dJ2_putCharsAt_cd4e5_47 : decode cJ2_putCharsAt_cd4e5 47 = .ok (.invokestatic 111, 3) := by decide +kernel
theorem dJ2_putCharsAt_cd4e5_50 : decode cJ2_putCharsAt_cd4e5 50 = .ok (.getstatic 44, 3) := by decide +kernel
theorem dJ2_putCharsAt_cd4e5_53 : decode cJ2_putCharsAt_cd4e5 53 = .ok (.ifCond .ne 17, 3) := by decide +kernel
theorem dJ2_putCharsAt_cd4e5_56 : decode cJ2_putCharsAt_cd4e5 56 = .ok (.iload_n 1, 1) := by decide +kernel
theorem dJ2_putCharsAt_cd4e5_57 : decode cJ2_putCharsAt_cd4e5 57 = .ok (.iload 6, 2) := by decide +kernel
theorem dJ2_putCharsAt_cd4e5_59 : decode cJ2_putCharsAt_cd4e5 59 = .ok (.if_icmp .eq 11, 3) := by decide +kernel
theorem dJ2_putCharsAt_cd4e5_62 : decode cJ2_putCharsAt_cd4e5 62 = .ok (.new 52, 3) := by decide +kernel
theorem dJ2_putCharsAt_cd4e5_65 : decode cJ2_putCharsAt_cd4e5 65 = .ok (.dup, 1) := by decide +kernel
theorem dJ2_putCharsAt_cd4e5_66 : decode cJ2_putCharsAt_cd4e5 66 = .ok (.invokespecial 66, 3) := by decide +kernel
theorem dJ2_putCharsAt_cd4e5_69 : decode cJ2_putCharsAt_cd4e5 69 = .ok (.athrow, 1) := by decide +kernel
theorem dJ2_putCharsAt_cd4e5_70 : decode cJ2_putCharsAt_cd4e5 70 = .ok (.iload 6, 2) := by decide +kernel
theorem dJ2_putCharsAt_cd4e5_72 : decode cJ2_putCharsAt_cd4e5 72 = .ok (.ireturn, 1) := by decide +kernel
theorem dJ2_charAt_3b067_0 : decode cJ2_charAt_3b067 0 = .ok (.iload_n 1, 1) := by decide +kernel
theorem dJ2_charAt_3b067_1 : decode cJ2_charAt_3b067 1 = .ok (.aload_n 0, 1) := by decide +kernel
theorem dJ2_charAt_3b067_2 : decode cJ2_charAt_3b067 2 = .ok (.invokestatic 67, 3) := by decide +kernel
theorem dJ2_charAt_3b067_5 : decode cJ2_charAt_3b067 5 = .ok (.aload_n 0, 1) := by decide +kernel
theorem dJ2_charAt_3b067_6 : decode cJ2_charAt_3b067 6 = .ok (.iload_n 1, 1) := by decide +kernel
theorem dJ2_charAt_3b067_7 : decode cJ2_charAt_3b067 7 = .ok (.invokestatic 71, 3) := by decide +kernel
theorem dJ2_charAt_3b067_10 : decode cJ2_charAt_3b067 10 = .ok (.ireturn, 1) := by decide +kernel
theorem dJ2_inflate_0e8fd_0 : decode cJ2_inflate_0e8fd 0 = .ok (.iload_n 3, 1) := by decide +kernel
theorem dJ2_inflate_0e8fd_1 : decode cJ2_inflate_0e8fd 1 = .ok (.iload 4, 2) := by decide +kernel
theorem dJ2_inflate_0e8fd_3 : decode cJ2_inflate_0e8fd 3 = .ok (.aload_n 2, 1) := by decide +kernel
theorem dJ2_inflate_0e8fd_4 : decode cJ2_inflate_0e8fd 4 = .ok (.invokestatic 173, 3) := by decide +kernel
theorem dJ2_inflate_0e8fd_7 : decode cJ2_inflate_0e8fd 7 = .ok (.iconst 0, 1) := by decide +kernel
theorem dJ2_inflate_0e8fd_8 : decode cJ2_inflate_0e8fd 8 = .ok (.istore 5, 2) := by decide +kernel
theorem dJ2_inflate_0e8fd_10 : decode cJ2_inflate_0e8fd 10 = .ok (.iload 5, 2) := by decide +kernel
theorem dJ2_inflate_0e8fd_12 : decode cJ2_inflate_0e8fd 12 = .ok (.iload 4, 2) := by decide +kernel
theorem dJ2_inflate_0e8fd_14 : decode cJ2_inflate_0e8fd 14 = .ok (.if_icmp .ge 27, 3) := by decide +kernel
theorem dJ2_inflate_0e8fd_17 : decode cJ2_inflate_0e8fd 17 = .ok (.aload_n 2, 1) := by decide +kernel
theorem dJ2_inflate_0e8fd_18 : decode cJ2_inflate_0e8fd 18 = .ok (.iload_n 3, 1) := by decide +kernel
theorem dJ2_inflate_0e8fd_19 : decode cJ2_inflate_0e8fd 19 = .ok (.iinc 3 1, 3) := by decide +kernel
theorem dJ2_inflate_0e8fd_22 : decode cJ2_inflate_0e8fd 22 = .ok (.aload_n 0, 1) := by decide +kernel
theorem dJ2_inflate_0e8fd_23 : decode cJ2_inflate_0e8fd 23 = .ok (.iload_n 1, 1) := by decide +kernel
theorem dJ2_inflate_0e8fd_24 : decode cJ2_inflate_0e8fd 24 = .ok (.iinc 1 1, 3) := by decide +kernel
theorem dJ2_inflate_0e8fd_27 : decode cJ2_inflate_0e8fd 27 = .ok (.baload, 1) := by decide +kernel
theorem dJ2_inflate_0e8fd_28 : decode cJ2_inflate_0e8fd 28 = .ok (.sipush 255, 3) := by decide +kernel
theorem dJ2_inflate_0e8fd_31 : decode cJ2_inflate_0e8fd 31 = .ok (.iand, 1) := by decide +kernel
theorem dJ2_inflate_0e8fd_32 : decode cJ2_inflate_0e8fd 32 = .ok (.invokestatic 111, 3) := by decide +kernel
theorem dJ2_inflate_0e8fd_35 : decode cJ2_inflate_0e8fd 35 = .ok (.iinc 5 1, 3) := by decide +kernel
theorem dJ2_inflate_0e8fd_38 : decode cJ2_inflate_0e8fd 38 = .ok (.goto (-28), 3) := by decide +kernel
theorem dJ2_inflate_0e8fd_41 : decode cJ2_inflate_0e8fd 41 = .ok (.return_, 1) := by decide +kernel
theorem dJ2_getChars_ba4f3_0 : decode cJ2_getChars_ba4f3 0 = .ok (.iload_n 1, 1) := by decide +kernel
theorem dJ2_getChars_ba4f3_1 : decode cJ2_getChars_ba4f3 1 = .ok (.istore 5, 2) := by decide +kernel
theorem dJ2_getChars_ba4f3_3 : decode cJ2_getChars_ba4f3 3 = .ok (.iload_n 0, 1) := by decide +kernel
theorem dJ2_getChars_ba4f3_4 : decode cJ2_getChars_ba4f3 4 = .ok (.ifCond .ge 7, 3) := by decide +kernel
theorem dJ2_getChars_ba4f3_7 : decode cJ2_getChars_ba4f3 7 = .ok (.iconst 1, 1) := by decide +kernel
theorem dJ2_getChars_ba4f3_8 : decode cJ2_getChars_ba4f3 8 = .ok (.goto 4, 3) := by decide +kernel
theorem dJ2_getChars_ba4f3_11 : decode cJ2_getChars_ba4f3 11 = .ok (.iconst 0, 1) := by decide +kernel
theorem dJ2_getChars_ba4f3_12 : decode cJ2_getChars_ba4f3 12 = .ok (.istore 6, 2) := by decide +kernel
theorem dJ2_getChars_ba4f3_14 : decode cJ2_getChars_ba4f3 14 = .ok (.iload 6, 2) := by decide +kernel
theorem dJ2_getChars_ba4f3_16 : decode cJ2_getChars_ba4f3 16 = .ok (.ifCond .ne 6, 3) := by decide +kernel
theorem dJ2_getChars_ba4f3_19 : decode cJ2_getChars_ba4f3 19 = .ok (.iload_n 0, 1) := by decide +kernel
theorem dJ2_getChars_ba4f3_20 : decode cJ2_getChars_ba4f3 20 = .ok (.ineg, 1) := by decide +kernel
theorem dJ2_getChars_ba4f3_21 : decode cJ2_getChars_ba4f3 21 = .ok (.istore_n 0, 1) := by decide +kernel
theorem dJ2_getChars_ba4f3_22 : decode cJ2_getChars_ba4f3 22 = .ok (.iload_n 0, 1) := by decide +kernel
theorem dJ2_getChars_ba4f3_23 : decode cJ2_getChars_ba4f3 23 = .ok (.bipush (-100), 2) := by decide +kernel
theorem dJ2_getChars_ba4f3_25 : decode cJ2_getChars_ba4f3 25 = .ok (.if_icmp .gt 51, 3) := by decide +kernel
theorem dJ2_getChars_ba4f3_28 : decode cJ2_getChars_ba4f3 28 = .ok (.iload_n 0, 1) := by decide +kernel
theorem dJ2_getChars_ba4f3_29 : decode cJ2_getChars_ba4f3 29 = .ok (.bipush 100, 2) := by decide +kernel
theorem dJ2_getChars_ba4f3_31 : decode cJ2_getChars_ba4f3 31 = .ok (.idiv, 1) := by decide +kernel
theorem dJ2_getChars_ba4f3_32 : decode cJ2_getChars_ba4f3 32 = .ok (.istore_n 3, 1) := by decide +kernel
theorem dJ2_getChars_ba4f3_33 : decode cJ2_getChars_ba4f3 33 = .ok (.iload_n 3, 1) := by decide +kernel
theorem dJ2_getChars_ba4f3_34 : decode cJ2_getChars_ba4f3 34 = .ok (.bipush 100, 2) := by decide +kernel
theorem dJ2_getChars_ba4f3_36 : decode cJ2_getChars_ba4f3 36 = .ok (.imul, 1) := by decide +kernel
theorem dJ2_getChars_ba4f3_37 : decode cJ2_getChars_ba4f3 37 = .ok (.iload_n 0, 1) := by decide +kernel
theorem dJ2_getChars_ba4f3_38 : decode cJ2_getChars_ba4f3 38 = .ok (.isub, 1) := by decide +kernel
theorem dJ2_getChars_ba4f3_39 : decode cJ2_getChars_ba4f3 39 = .ok (.istore 4, 2) := by decide +kernel
theorem dJ2_getChars_ba4f3_41 : decode cJ2_getChars_ba4f3 41 = .ok (.iload_n 3, 1) := by decide +kernel
theorem dJ2_getChars_ba4f3_42 : decode cJ2_getChars_ba4f3 42 = .ok (.istore_n 0, 1) := by decide +kernel
theorem dJ2_getChars_ba4f3_43 : decode cJ2_getChars_ba4f3 43 = .ok (.aload_n 2, 1) := by decide +kernel
theorem dJ2_getChars_ba4f3_44 : decode cJ2_getChars_ba4f3 44 = .ok (.iinc 5 (-1), 3) := by decide +kernel
theorem dJ2_getChars_ba4f3_47 : decode cJ2_getChars_ba4f3 47 = .ok (.iload 5, 2) := by decide +kernel
theorem dJ2_getChars_ba4f3_49 : decode cJ2_getChars_ba4f3 49 = .ok (.getstatic 403, 3) := by decide +kernel
theorem dJ2_getChars_ba4f3_52 : decode cJ2_getChars_ba4f3 52 = .ok (.iload 4, 2) := by decide +kernel
theorem dJ2_getChars_ba4f3_54 : decode cJ2_getChars_ba4f3 54 = .ok (.baload, 1) := by decide +kernel
theorem dJ2_getChars_ba4f3_55 : decode cJ2_getChars_ba4f3 55 = .ok (.invokestatic 111, 3) := by decide +kernel
theorem dJ2_getChars_ba4f3_58 : decode cJ2_getChars_ba4f3 58 = .ok (.aload_n 2, 1) := by decide +kernel
theorem dJ2_getChars_ba4f3_59 : decode cJ2_getChars_ba4f3 59 = .ok (.iinc 5 (-1), 3) := by decide +kernel
theorem dJ2_getChars_ba4f3_62 : decode cJ2_getChars_ba4f3 62 = .ok (.iload 5, 2) := by decide +kernel
theorem dJ2_getChars_ba4f3_64 : decode cJ2_getChars_ba4f3 64 = .ok (.getstatic 407, 3) := by decide +kernel
theorem dJ2_getChars_ba4f3_67 : decode cJ2_getChars_ba4f3 67 = .ok (.iload 4, 2) := by decide +kernel
theorem dJ2_getChars_ba4f3_69 : decode cJ2_getChars_ba4f3 69 = .ok (.baload, 1) := by decide +kernel
theorem dJ2_getChars_ba4f3_70 : decode cJ2_getChars_ba4f3 70 = .ok (.invokestatic 111, 3) := by decide +kernel
theorem dJ2_getChars_ba4f3_73 : decode cJ2_getChars_ba4f3 73 = .ok (.goto (-51), 3) := by decide +kernel
theorem dJ2_getChars_ba4f3_76 : decode cJ2_getChars_ba4f3 76 = .ok (.aload_n 2, 1) := by decide +kernel
theorem dJ2_getChars_ba4f3_77 : decode cJ2_getChars_ba4f3 77 = .ok (.iinc 5 (-1), 3) := by decide +kernel
theorem dJ2_getChars_ba4f3_80 : decode cJ2_getChars_ba4f3 80 = .ok (.iload 5, 2) := by decide +kernel
theorem dJ2_getChars_ba4f3_82 : decode cJ2_getChars_ba4f3 82 = .ok (.getstatic 403, 3) := by decide +kernel
theorem dJ2_getChars_ba4f3_85 : decode cJ2_getChars_ba4f3 85 = .ok (.iload_n 0, 1) := by decide +kernel
theorem dJ2_getChars_ba4f3_86 : decode cJ2_getChars_ba4f3 86 = .ok (.ineg, 1) := by decide +kernel
theorem dJ2_getChars_ba4f3_87 : decode cJ2_getChars_ba4f3 87 = .ok (.baload, 1) := by decide +kernel
theorem dJ2_getChars_ba4f3_88 : decode cJ2_getChars_ba4f3 88 = .ok (.invokestatic 111, 3) := by decide +kernel
theorem dJ2_getChars_ba4f3_91 : decode cJ2_getChars_ba4f3 91 = .ok (.iload_n 0, 1) := by decide +kernel
theorem dJ2_getChars_ba4f3_92 : decode cJ2_getChars_ba4f3 92 = .ok (.bipush (-9), 2) := by decide +kernel
theorem dJ2_getChars_ba4f3_94 : decode cJ2_getChars_ba4f3 94 = .ok (.if_icmp .ge 18, 3) := by decide +kernel
theorem dJ2_getChars_ba4f3_97 : decode cJ2_getChars_ba4f3 97 = .ok (.aload_n 2, 1) := by decide +kernel
theorem dJ2_getChars_ba4f3_98 : decode cJ2_getChars_ba4f3 98 = .ok (.iinc 5 (-1), 3) := by decide +kernel
theorem dJ2_getChars_ba4f3_101 : decode cJ2_getChars_ba4f3 101 = .ok (.iload 5, 2) := by decide +kernel
theorem dJ2_getChars_ba4f3_103 : decode cJ2_getChars_ba4f3 103 = .ok (.getstatic 407, 3) := by decide +kernel
theorem dJ2_getChars_ba4f3_106 : decode cJ2_getChars_ba4f3 106 = .ok (.iload_n 0, 1) := by decide +kernel
theorem dJ2_getChars_ba4f3_107 : decode cJ2_getChars_ba4f3 107 = .ok (.ineg, 1) := by decide +kernel
theorem dJ2_getChars_ba4f3_108 : decode cJ2_getChars_ba4f3 108 = .ok (.baload, 1) := by decide +kernel
theorem dJ2_getChars_ba4f3_109 : decode cJ2_getChars_ba4f3 109 = .ok (.invokestatic 111, 3) := by decide +kernel
theorem dJ2_getChars_ba4f3_112 : decode cJ2_getChars_ba4f3 112 = .ok (.iload 6, 2) := by decide +kernel
theorem dJ2_getChars_ba4f3_114 : decode cJ2_getChars_ba4f3 114 = .ok (.ifCond .eq 14, 3) := by decide +kernel
theorem dJ2_getChars_ba4f3_117 : decode cJ2_getChars_ba4f3 117 = .ok (.aload_n 2, 1) := by decide +kernel
theorem dJ2_getChars_ba4f3_118 : decode cJ2_getChars_ba4f3 118 = .ok (.iinc 5 (-1), 3) := by decide +kernel
theorem dJ2_getChars_ba4f3_121 : decode cJ2_getChars_ba4f3 121 = .ok (.iload 5, 2) := by decide +kernel
theorem dJ2_getChars_ba4f3_123 : decode cJ2_getChars_ba4f3 123 = .ok (.bipush 45, 2) := by decide +kernel
theorem dJ2_getChars_ba4f3_125 : decode cJ2_getChars_ba4f3 125 = .ok (.invokestatic 111, 3) := by decide +kernel
theorem dJ2_getChars_ba4f3_128 : decode cJ2_getChars_ba4f3 128 = .ok (.iload 5, 2) := by decide +kernel
theorem dJ2_getChars_ba4f3_130 : decode cJ2_getChars_ba4f3 130 = .ok (.ireturn, 1) := by decide +kernel
theorem dJ2_checkIndex_2214a_0 : decode cJ2_checkIndex_2214a 0 = .ok (.iload_n 0, 1) := by decide +kernel
theorem dJ2_checkIndex_2214a_1 : decode cJ2_checkIndex_2214a 1 = .ok (.aload_n 1, 1) := by decide +kernel
theorem dJ2_checkIndex_2214a_2 : decode cJ2_checkIndex_2214a 2 = .ok (.invokestatic 48, 3) := by decide +kernel
theorem dJ2_checkIndex_2214a_5 : decode cJ2_checkIndex_2214a 5 = .ok (.invokestatic 414, 3) := by decide +kernel
theorem dJ2_checkIndex_2214a_8 : decode cJ2_checkIndex_2214a 8 = .ok (.return_, 1) := by decide +kernel
theorem dJ2_checkBoundsBeginEnd_d044e_0 : decode cJ2_checkBoundsBeginEnd_d044e 0 = .ok (.iload_n 0, 1) := by decide +kernel
theorem dJ2_checkBoundsBeginEnd_d044e_1 : decode cJ2_checkBoundsBeginEnd_d044e 1 = .ok (.iload_n 1, 1) := by decide +kernel
theorem dJ2_checkBoundsBeginEnd_d044e_2 : decode cJ2_checkBoundsBeginEnd_d044e 2 = .ok (.aload_n 2, 1) := by decide +kernel
theorem dJ2_checkBoundsBeginEnd_d044e_3 : decode cJ2_checkBoundsBeginEnd_d044e 3 = .ok (.invokestatic 48, 3) := by decide +kernel
theorem dJ2_checkBoundsBeginEnd_d044e_6 : decode cJ2_checkBoundsBeginEnd_d044e 6 = .ok (.invokestatic 241, 3) := by decide +kernel
theorem dJ2_checkBoundsBeginEnd_d044e_9 : decode cJ2_checkBoundsBeginEnd_d044e 9 = .ok (.return_, 1) := by decide +kernel
theorem dJ2_checkBoundsOffCount_d044e_0 : decode cJ2_checkBoundsOffCount_d044e 0 = .ok (.iload_n 0, 1) := by decide +kernel
theorem dJ2_checkBoundsOffCount_d044e_1 : decode cJ2_checkBoundsOffCount_d044e 1 = .ok (.iload_n 1, 1) := by decide +kernel
theorem dJ2_checkBoundsOffCount_d044e_2 : decode cJ2_checkBoundsOffCount_d044e 2 = .ok (.aload_n 2, 1) := by decide +kernel
theorem dJ2_checkBoundsOffCount_d044e_3 : decode cJ2_checkBoundsOffCount_d044e 3 = .ok (.invokestatic 48, 3) := by decide +kernel
theorem dJ2_checkBoundsOffCount_d044e_6 : decode cJ2_checkBoundsOffCount_d044e 6 = .ok (.invokestatic 419, 3) := by decide +kernel
theorem dJ2_checkBoundsOffCount_d044e_9 : decode cJ2_checkBoundsOffCount_d044e 9 = .ok (.pop, 1) := by decide +kernel
theorem dJ2_checkBoundsOffCount_d044e_10 : decode cJ2_checkBoundsOffCount_d044e 10 = .ok (.return_, 1) := by decide +kernel
theorem dJ7_copyOf_9075b_0 : decode cJ7_copyOf_9075b 0 = .ok (.iload_n 1, 1) := by decide +kernel
theorem dJ7_copyOf_9075b_1 : decode cJ7_copyOf_9075b 1 = .ok (.aload_n 0, 1) := by decide +kernel
theorem dJ7_copyOf_9075b_2 : decode cJ7_copyOf_9075b 2 = .ok (.arraylength, 1) := by decide +kernel
theorem dJ7_copyOf_9075b_3 : decode cJ7_copyOf_9075b 3 = .ok (.if_icmp .ne 11, 3) := by decide +kernel
theorem dJ7_copyOf_9075b_6 : decode cJ7_copyOf_9075b 6 = .ok (.aload_n 0, 1) := by decide +kernel
theorem dJ7_copyOf_9075b_7 : decode cJ7_copyOf_9075b 7 = .ok (.invokevirtual 310, 3) := by decide +kernel
theorem dJ7_copyOf_9075b_10 : decode cJ7_copyOf_9075b 10 = .ok (.checkcast 311, 3) := by decide +kernel
theorem dJ7_copyOf_9075b_13 : decode cJ7_copyOf_9075b 13 = .ok (.areturn, 1) := by decide +kernel
theorem dJ7_copyOf_9075b_14 : decode cJ7_copyOf_9075b 14 = .ok (.iload_n 1, 1) := by decide +kernel
theorem dJ7_copyOf_9075b_15 : decode cJ7_copyOf_9075b 15 = .ok (.newarray .byte, 2) := by decide +kernel
theorem dJ7_copyOf_9075b_17 : decode cJ7_copyOf_9075b 17 = .ok (.astore_n 2, 1) := by decide +kernel
theorem dJ7_copyOf_9075b_18 : decode cJ7_copyOf_9075b 18 = .ok (.aload_n 0, 1) := by decide +kernel
theorem dJ7_copyOf_9075b_19 : decode cJ7_copyOf_9075b 19 = .ok (.iconst 0, 1) := by decide +kernel
theorem dJ7_copyOf_9075b_20 : decode cJ7_copyOf_9075b 20 = .ok (.aload_n 2, 1) := by decide +kernel
theorem dJ7_copyOf_9075b_21 : decode cJ7_copyOf_9075b 21 = .ok (.iconst 0, 1) := by decide +kernel
theorem dJ7_copyOf_9075b_22 : decode cJ7_copyOf_9075b 22 = .ok (.aload_n 0, 1) := by decide +kernel
theorem dJ7_copyOf_9075b_23 : decode cJ7_copyOf_9075b 23 = .ok (.arraylength, 1) := by decide +kernel
theorem dJ7_copyOf_9075b_24 : decode cJ7_copyOf_9075b 24 = .ok (.iload_n 1, 1) := by decide +kernel
theorem dJ7_copyOf_9075b_25 : decode cJ7_copyOf_9075b 25 = .ok (.invokestatic 304, 3) := by decide +kernel
theorem dJ7_copyOf_9075b_28 : decode cJ7_copyOf_9075b 28 = .ok (.invokestatic 150, 3) := by decide +kernel
theorem dJ7_copyOf_9075b_31 : decode cJ7_copyOf_9075b 31 = .ok (.aload_n 2, 1) := by decide +kernel
theorem dJ7_copyOf_9075b_32 : decode cJ7_copyOf_9075b 32 = .ok (.areturn, 1) := by decide +kernel
theorem dJ7_checkLength_df160_0 : decode cJ7_checkLength_df160 0 = .ok (.iload_n 1, 1) := by decide +kernel
theorem dJ7_checkLength_df160_1 : decode cJ7_checkLength_df160 1 = .ok (.iload_n 0, 1) := by decide +kernel
theorem dJ7_checkLength_df160_2 : decode cJ7_checkLength_df160 2 = .ok (.if_icmp .ge 35, 3) := by decide +kernel
theorem dJ7_checkLength_df160_5 : decode cJ7_checkLength_df160 5 = .ok (.new 43, 3) := by decide +kernel
theorem dJ7_checkLength_df160_8 : decode cJ7_checkLength_df160 8 = .ok (.dup, 1) := by decide +kernel
theorem dJ7_checkLength_df160_9 : decode cJ7_checkLength_df160 9 = .ok (.new 45, 3) := by decide +kernel
theorem dJ7_checkLength_df160_12 : decode cJ7_checkLength_df160 12 = .ok (.dup, 1) := by decide +kernel
theorem dJ7_checkLength_df160_13 : decode cJ7_checkLength_df160 13 = .ok (.invokespecial 47, 3) := by decide +kernel
theorem dJ7_checkLength_df160_16 : decode cJ7_checkLength_df160 16 = .ok (.iload_n 0, 1) := by decide +kernel
theorem dJ7_checkLength_df160_17 : decode cJ7_checkLength_df160 17 = .ok (.invokevirtual 54, 3) := by decide +kernel
theorem dJ7_checkLength_df160_20 : decode cJ7_checkLength_df160 20 = .ok (.ldc_w 337, 3) := by decide +kernel
theorem dJ7_checkLength_df160_23 : decode cJ7_checkLength_df160 23 = .ok (.invokevirtual 50, 3) := by decide +kernel
theorem dJ7_checkLength_df160_26 : decode cJ7_checkLength_df160 26 = .ok (.iload_n 1, 1) := by decide +kernel
theorem dJ7_checkLength_df160_27 : decode cJ7_checkLength_df160 27 = .ok (.invokevirtual 54, 3) := by decide +kernel
theorem dJ7_checkLength_df160_30 : decode cJ7_checkLength_df160 30 = .ok (.invokevirtual 61, 3) := by decide +kernel
theorem dJ7_checkLength_df160_33 : decode cJ7_checkLength_df160 33 = .ok (.invokespecial 65, 3) := by decide +kernel
theorem dJ7_checkLength_df160_36 : decode cJ7_checkLength_df160 36 = .ok (.athrow, 1) := by decide +kernel
theorem dJ7_checkLength_df160_37 : decode cJ7_checkLength_df160 37 = .ok (.return_, 1) := by decide +kernel
theorem dJ7_copyOfRange_39247_0 : decode cJ7_copyOfRange_39247 0 = .ok (.iload_n 1, 1) := by decide +kernel
theorem dJ7_copyOfRange_39247_1 : decode cJ7_copyOfRange_39247 1 = .ok (.ifCond .ne 9, 3) := by decide +kernel
theorem dJ7_copyOfRange_39247_4 : decode cJ7_copyOfRange_39247 4 = .ok (.iload_n 2, 1) := by decide +kernel
theorem dJ7_copyOfRange_39247_5 : decode cJ7_copyOfRange_39247 5 = .ok (.aload_n 0, 1) := by decide +kernel
theorem dJ7_copyOfRange_39247_6 : decode cJ7_copyOfRange_39247 6 = .ok (.arraylength, 1) := by decide +kernel
theorem dJ7_copyOfRange_39247_7 : decode cJ7_copyOfRange_39247 7 = .ok (.if_icmp .eq 10, 3) := by decide +kernel
theorem dJ7_copyOfRange_39247_10 : decode cJ7_copyOfRange_39247 10 = .ok (.aload_n 0, 1) := by decide +kernel
theorem dJ7_copyOfRange_39247_11 : decode cJ7_copyOfRange_39247 11 = .ok (.iload_n 1, 1) := by decide +kernel
theorem dJ7_copyOfRange_39247_12 : decode cJ7_copyOfRange_39247 12 = .ok (.iload_n 2, 1) := by decide +kernel
theorem dJ7_copyOfRange_39247_13 : decode cJ7_copyOfRange_39247 13 = .ok (.invokestatic 339, 3) := by decide +kernel
theorem dJ7_copyOfRange_39247_16 : decode cJ7_copyOfRange_39247 16 = .ok (.areturn, 1) := by decide +kernel
theorem dJ7_copyOfRange_39247_17 : decode cJ7_copyOfRange_39247 17 = .ok (.aload_n 0, 1) := by decide +kernel
theorem dJ7_copyOfRange_39247_18 : decode cJ7_copyOfRange_39247 18 = .ok (.invokevirtual 310, 3) := by decide +kernel
theorem dJ7_copyOfRange_39247_21 : decode cJ7_copyOfRange_39247 21 = .ok (.checkcast 311, 3) := by decide +kernel
theorem dJ7_copyOfRange_39247_24 : decode cJ7_copyOfRange_39247 24 = .ok (.areturn, 1) := by decide +kernel
theorem dJ7_copyOfRangeByte_39247_0 : decode cJ7_copyOfRangeByte_39247 0 = .ok (.iload_n 1, 1) := by decide +kernel
theorem dJ7_copyOfRangeByte_39247_1 : decode cJ7_copyOfRangeByte_39247 1 = .ok (.iload_n 2, 1) := by decide +kernel
theorem dJ7_copyOfRangeByte_39247_2 : decode cJ7_copyOfRangeByte_39247 2 = .ok (.invokestatic 343, 3) := by decide +kernel
theorem dJ7_copyOfRangeByte_39247_5 : decode cJ7_copyOfRangeByte_39247 5 = .ok (.iload_n 2, 1) := by decide +kernel
theorem dJ7_copyOfRangeByte_39247_6 : decode cJ7_copyOfRangeByte_39247 6 = .ok (.iload_n 1, 1) := by decide +kernel
theorem dJ7_copyOfRangeByte_39247_7 : decode cJ7_copyOfRangeByte_39247 7 = .ok (.isub, 1) := by decide +kernel
theorem dJ7_copyOfRangeByte_39247_8 : decode cJ7_copyOfRangeByte_39247 8 = .ok (.istore_n 3, 1) := by decide +kernel
theorem dJ7_copyOfRangeByte_39247_9 : decode cJ7_copyOfRangeByte_39247 9 = .ok (.iload_n 3, 1) := by decide +kernel
theorem dJ7_copyOfRangeByte_39247_10 : decode cJ7_copyOfRangeByte_39247 10 = .ok (.newarray .byte, 2) := by decide +kernel
theorem dJ7_copyOfRangeByte_39247_12 : decode cJ7_copyOfRangeByte_39247 12 = .ok (.astore 4, 2) := by decide +kernel
theorem dJ7_copyOfRangeByte_39247_14 : decode cJ7_copyOfRangeByte_39247 14 = .ok (.aload_n 0, 1) := by decide +kernel
theorem dJ7_copyOfRangeByte_39247_15 : decode cJ7_copyOfRangeByte_39247 15 = .ok (.iload_n 1, 1) := by decide +kernel
theorem dJ7_copyOfRangeByte_39247_16 : decode cJ7_copyOfRangeByte_39247 16 = .ok (.aload 4, 2) := by decide +kernel
theorem dJ7_copyOfRangeByte_39247_18 : decode cJ7_copyOfRangeByte_39247 18 = .ok (.iconst 0, 1) := by decide +kernel
theorem dJ7_copyOfRangeByte_39247_19 : decode cJ7_copyOfRangeByte_39247 19 = .ok (.aload_n 0, 1) := by decide +kernel
theorem dJ7_copyOfRangeByte_39247_20 : decode cJ7_copyOfRangeByte_39247 20 = .ok (.arraylength, 1) := by decide +kernel
theorem dJ7_copyOfRangeByte_39247_21 : decode cJ7_copyOfRangeByte_39247 21 = .ok (.iload_n 1, 1) := by decide +kernel
theorem dJ7_copyOfRangeByte_39247_22 : decode cJ7_copyOfRangeByte_39247 22 = .ok (.isub, 1) := by decide +kernel
theorem dJ7_copyOfRangeByte_39247_23 : decode cJ7_copyOfRangeByte_39247 23 = .ok (.iload_n 3, 1) := by decide +kernel
theorem dJ7_copyOfRangeByte_39247_24 : decode cJ7_copyOfRangeByte_39247 24 = .ok (.invokestatic 304, 3) := by decide +kernel
theorem dJ7_copyOfRangeByte_39247_27 : decode cJ7_copyOfRangeByte_39247 27 = .ok (.invokestatic 150, 3) := by decide +kernel
theorem dJ7_copyOfRangeByte_39247_30 : decode cJ7_copyOfRangeByte_39247 30 = .ok (.aload 4, 2) := by decide +kernel
theorem dJ7_copyOfRangeByte_39247_32 : decode cJ7_copyOfRangeByte_39247 32 = .ok (.areturn, 1) := by decide +kernel
theorem dJ8_newLength_cabcc_0 : decode cJ8_newLength_cabcc 0 = .ok (.iload_n 0, 1) := by decide +kernel
theorem dJ8_newLength_cabcc_1 : decode cJ8_newLength_cabcc 1 = .ok (.iload_n 1, 1) := by decide +kernel
theorem dJ8_newLength_cabcc_2 : decode cJ8_newLength_cabcc 2 = .ok (.iload_n 2, 1) := by decide +kernel
theorem dJ8_newLength_cabcc_3 : decode cJ8_newLength_cabcc 3 = .ok (.invokestatic 194, 3) := by decide +kernel
theorem dJ8_newLength_cabcc_6 : decode cJ8_newLength_cabcc 6 = .ok (.iadd, 1) := by decide +kernel
theorem dJ8_newLength_cabcc_7 : decode cJ8_newLength_cabcc 7 = .ok (.istore_n 3, 1) := by decide +kernel
theorem dJ8_newLength_cabcc_8 : decode cJ8_newLength_cabcc 8 = .ok (.iconst 0, 1) := by decide +kernel
theorem dJ8_newLength_cabcc_9 : decode cJ8_newLength_cabcc 9 = .ok (.iload_n 3, 1) := by decide +kernel
theorem dJ8_newLength_cabcc_10 : decode cJ8_newLength_cabcc 10 = .ok (.if_icmp .ge 11, 3) := by decide +kernel
theorem dJ8_newLength_cabcc_13 : decode cJ8_newLength_cabcc 13 = .ok (.iload_n 3, 1) := by decide +kernel
theorem dJ8_newLength_cabcc_14 : decode cJ8_newLength_cabcc 14 = .ok (.ldc 200, 2) := by decide +kernel
theorem dJ8_newLength_cabcc_16 : decode cJ8_newLength_cabcc 16 = .ok (.if_icmp .gt 5, 3) := by decide +kernel
theorem dJ8_newLength_cabcc_19 : decode cJ8_newLength_cabcc 19 = .ok (.iload_n 3, 1) := by decide +kernel
theorem dJ8_newLength_cabcc_20 : decode cJ8_newLength_cabcc 20 = .ok (.ireturn, 1) := by decide +kernel
theorem dJ8_newLength_cabcc_21 : decode cJ8_newLength_cabcc 21 = .ok (.iload_n 0, 1) := by decide +kernel
theorem dJ8_newLength_cabcc_22 : decode cJ8_newLength_cabcc 22 = .ok (.iload_n 1, 1) := by decide +kernel
theorem dJ8_newLength_cabcc_23 : decode cJ8_newLength_cabcc 23 = .ok (.invokestatic 201, 3) := by decide +kernel
theorem dJ8_newLength_cabcc_26 : decode cJ8_newLength_cabcc 26 = .ok (.ireturn, 1) := by decide +kernel
theorem dJ8_hugeLength_7cf53_0 : decode cJ8_hugeLength_7cf53 0 = .ok (.iload_n 0, 1) := by decide +kernel
theorem dJ8_hugeLength_7cf53_1 : decode cJ8_hugeLength_7cf53 1 = .ok (.iload_n 1, 1) := by decide +kernel
theorem dJ8_hugeLength_7cf53_2 : decode cJ8_hugeLength_7cf53 2 = .ok (.iadd, 1) := by decide +kernel
theorem dJ8_hugeLength_7cf53_3 : decode cJ8_hugeLength_7cf53 3 = .ok (.istore_n 2, 1) := by decide +kernel
theorem dJ8_hugeLength_7cf53_4 : decode cJ8_hugeLength_7cf53 4 = .ok (.iload_n 2, 1) := by decide +kernel
theorem dJ8_hugeLength_7cf53_5 : decode cJ8_hugeLength_7cf53 5 = .ok (.ifCond .ge 44, 3) := by decide +kernel
theorem dJ8_hugeLength_7cf53_8 : decode cJ8_hugeLength_7cf53 8 = .ok (.new 204, 3) := by decide +kernel
theorem dJ8_hugeLength_7cf53_11 : decode cJ8_hugeLength_7cf53 11 = .ok (.dup, 1) := by decide +kernel
theorem dJ8_hugeLength_7cf53_12 : decode cJ8_hugeLength_7cf53 12 = .ok (.new 89, 3) := by decide +kernel
theorem dJ8_hugeLength_7cf53_15 : decode cJ8_hugeLength_7cf53 15 = .ok (.dup, 1) := by decide +kernel
theorem dJ8_hugeLength_7cf53_16 : decode cJ8_hugeLength_7cf53 16 = .ok (.invokespecial 91, 3) := by decide +kernel
theorem dJ8_hugeLength_7cf53_19 : decode cJ8_hugeLength_7cf53 19 = .ok (.ldc 206, 2) := by decide +kernel
theorem dJ8_hugeLength_7cf53_21 : decode cJ8_hugeLength_7cf53 21 = .ok (.invokevirtual 94, 3) := by decide +kernel
theorem dJ8_hugeLength_7cf53_24 : decode cJ8_hugeLength_7cf53 24 = .ok (.iload_n 0, 1) := by decide +kernel
theorem dJ8_hugeLength_7cf53_25 : decode cJ8_hugeLength_7cf53 25 = .ok (.invokevirtual 98, 3) := by decide +kernel
theorem dJ8_hugeLength_7cf53_28 : decode cJ8_hugeLength_7cf53 28 = .ok (.ldc 208, 2) := by decide +kernel
theorem dJ8_hugeLength_7cf53_30 : decode cJ8_hugeLength_7cf53 30 = .ok (.invokevirtual 94, 3) := by decide +kernel
theorem dJ8_hugeLength_7cf53_33 : decode cJ8_hugeLength_7cf53 33 = .ok (.iload_n 1, 1) := by decide +kernel
theorem dJ8_hugeLength_7cf53_34 : decode cJ8_hugeLength_7cf53 34 = .ok (.invokevirtual 98, 3) := by decide +kernel
theorem dJ8_hugeLength_7cf53_37 : decode cJ8_hugeLength_7cf53 37 = .ok (.ldc 210, 2) := by decide +kernel
theorem dJ8_hugeLength_7cf53_39 : decode cJ8_hugeLength_7cf53 39 = .ok (.invokevirtual 94, 3) := by decide +kernel
theorem dJ8_hugeLength_7cf53_42 : decode cJ8_hugeLength_7cf53 42 = .ok (.invokevirtual 101, 3) := by decide +kernel
theorem dJ8_hugeLength_7cf53_45 : decode cJ8_hugeLength_7cf53 45 = .ok (.invokespecial 212, 3) := by decide +kernel
theorem dJ8_hugeLength_7cf53_48 : decode cJ8_hugeLength_7cf53 48 = .ok (.athrow, 1) := by decide +kernel
theorem dJ8_hugeLength_7cf53_49 : decode cJ8_hugeLength_7cf53 49 = .ok (.iload_n 2, 1) := by decide +kernel
theorem dJ8_hugeLength_7cf53_50 : decode cJ8_hugeLength_7cf53 50 = .ok (.ldc 200, 2) := by decide +kernel
theorem dJ8_hugeLength_7cf53_52 : decode cJ8_hugeLength_7cf53 52 = .ok (.if_icmp .gt 6, 3) := by decide +kernel
theorem dJ8_hugeLength_7cf53_55 : decode cJ8_hugeLength_7cf53 55 = .ok (.ldc 200, 2) := by decide +kernel
theorem dJ8_hugeLength_7cf53_57 : decode cJ8_hugeLength_7cf53 57 = .ok (.ireturn, 1) := by decide +kernel
theorem dJ8_hugeLength_7cf53_58 : decode cJ8_hugeLength_7cf53 58 = .ok (.iload_n 2, 1) := by decide +kernel
theorem dJ8_hugeLength_7cf53_59 : decode cJ8_hugeLength_7cf53 59 = .ok (.ireturn, 1) := by decide +kernel
end
section
/-! THE BASE: one list of words for all methods; a world is a list of cells at fixed addresses; a contract CM: the method returns v, its world bs becomes bs' -/
abbrev Ev : Type := va_G × ClassId × ClassId × ClassId × ClassId × (Nat → Nat) × (Nat → Nat) × ClassId
abbrev tysE (E : Ev) : List (ClassId × FieldType) := [(E.2.1, .int), (E.2.2.1, .boolean), (E.2.2.2.1, .byte), (E.2.2.2.2.1, .object "NightPorter$Night"), (E.2.2.2.2.2.2.2, .object "java/lang/String")]
def GA : List Cond := lw_tbl.filter goodWord
theorem GA_of {w : Cond} (h : w ∈ lw_tbl) (hg : goodWord w = true) : w ∈ GA := List.mem_filter.mpr ⟨h, hg⟩
theorem GA_tbl {w : Cond} (h : w ∈ GA) : w ∈ lw_tbl := (List.mem_filter.mp h).1
theorem GA_good : GoodIn GA GA := fun w h => ⟨h, good_of_word (List.mem_filter.mp h).2⟩
theorem GA_cons {w : Cond} (h : w ∈ GA) : GoodIn GA (w :: GA) := fun v hv => (List.mem_cons.mp hv).elim (fun e => by rw [e]; exact GA_good w h) (GA_good v)
theorem tb1 {w : Cond} (h : w ∈ tables_1_1) : w ∈ lw_tbl := List.mem_append_right _ (List.mem_append_left _ h)
theorem tb2 {w : Cond} (h : w ∈ tables_1_2) : w ∈ lw_tbl := List.mem_append_right _ (List.mem_append_right _ (List.mem_append_left _ h))
theorem tb3 {w : Cond} (h : w ∈ tables_1_3) : w ∈ lw_tbl := List.mem_append_right _ (List.mem_append_right _ (List.mem_append_right _ (List.mem_append_left _ h)))
theorem tb4 {w : Cond} (h : w ∈ tables_1_4) : w ∈ lw_tbl := List.mem_append_right _ (List.mem_append_right _ (List.mem_append_right _ (List.mem_append_right _ (List.mem_append_left _ h))))
theorem tb5 {w : Cond} (h : w ∈ tables_1_5) : w ∈ lw_tbl := List.mem_append_right _ (List.mem_append_right _ (List.mem_append_right _ (List.mem_append_right _ (List.mem_append_right _ (List.mem_append_left _ h)))))
theorem tb6 {w : Cond} (h : w ∈ tables_1_6) : w ∈ lw_tbl := List.mem_append_right _ (List.mem_append_right _ (List.mem_append_right _ (List.mem_append_right _ (List.mem_append_right _ (List.mem_append_right _ (h))))))
def GNl : List (String × Nat × MethodName × String) := [("NightPorter", 9, ⟨"NightPorter$Bytes", "<init>", "()V"⟩, "NightPorter"), ("NightPorter", 30, ⟨"NightPorter$Night", "<init>", "()V"⟩, "NightPorter"), ("NightPorter$Night", 35, ⟨"NightPorter$Guests", "<init>", "()V"⟩, "NightPorter"), ("NightPorter$Night", 42, ⟨"NightPorter$Umbrellas", "<init>", "()V"⟩, "NightPorter"), ("NightPorter$Night", 49, ⟨"NightPorter$Register", "<init>", "()V"⟩, "NightPorter"), ("NightPorter$History", 24, ⟨"NightPorter$Night", "<init>", "()V"⟩, "NightPorter"), ("NightPorter$Snapshots", 21, ⟨"NightPorter$Night", "<init>", "()V"⟩, "NightPorter"), ("NightPorter$Parser", 114, ⟨"NightPorter", "isBlank", "(I)Z"⟩, "NightPorter"), ("NightPorter$Parser", 118, ⟨"NightPorter", "isLetter", "(I)Z"⟩, "NightPorter"), ("NightPorter$Parser", 124, ⟨"NightPorter", "isDigit", "(I)Z"⟩, "NightPorter"), ("NightPorter$Bytes", 32, ⟨"NightPorter", "isLetter", "(I)Z"⟩, "NightPorter")]
def GNw (q : String × Nat × MethodName × String) : Cond := .methodLinkNest q.1 q.2.1 q.2.2.1 q.2.2.2
def KX (E : Ev) (U : State) : Prop := va_K E.1 vwCl (tysE E) U ∧ ∀ q ∈ GNl, va_Nw (GNw q) U
theorem KX.warm {E : Ev} {s U : State} (hW : s.WarmedH U.vm) (h : KX E s) : KX E U := ⟨va_K.moved hW.alike h.1, fun q hq => va_Nw.warmM hW (h.2 q hq)⟩
theorem KX.same {E : Ev} {s U : State} (hv : s.vm = U.vm) (h : KX E s) : KX E U := ⟨va_K.moved (by rw [hv]; exact Vm.Alike.refl U.vm) h.1, fun q hq => va_Nw.same rfl hv (h.2 q hq)⟩
def SRl : List (String × Nat × String × Nat) := [("NightPorter", 56, "night 2 90;guest ann 5 dog 4;guest bob 8;guest cleo 3;umbrella ann 60;umbrella bob 10;umbrella bob 0;", 0), ("NightPorter$Parser", 63, "night", 1), ("NightPorter$Parser", 44, "guest", 2), ("NightPorter$Parser", 81, "dog", 3), ("NightPorter$Parser", 58, "umbrella", 4), ("NightPorterLaw", 176, "night ", 5), ("NightPorterLaw", 187, "ann", 6), ("NightPorterLaw", 189, "bob", 7), ("NightPorterLaw", 191, "cleo", 8), ("NightPorterLaw", 193, "dan", 9), ("NightPorterLaw", 195, "eve", 10), ("NightPorterLaw", 197, "fay", 11), ("NightPorterLaw", 200, "guest ", 12), ("NightPorterLaw", 205, ";", 13), ("NightPorterLaw", 208, " dog ", 14), ("NightPorterLaw", 214, "umbrella ", 15), ("NightPorter", 357, "the number is out of its range", 16), ("NightPorter", 268, "the input buffer is not a name", 17), ("NightPorter", 270, "there is no room for a guest", 18), ("NightPorter", 272, "a guest has this name", 19), ("NightPorter", 347, "no such guest", 20), ("NightPorter", 282, "there is no room for an umbrella", 21), ("NightPorter", 247, "the guest is out", 22), ("NightPorter", 359, "the register is full", 23), ("NightPorter", 156, "the guest is in", 24), ("NightPorter", 295, "the night is too short", 25), ("NightPorter", 300, "the guest has no dog", 26), ("NightPorter", 306, "there is nothing to undo", 27), ("NightPorter", 353, "no such slot", 28), ("NightPorter", 322, "the slot is empty", 29), ("NightPorter", 83, "the text has an error", 30), ("NightPorter", 70, "the input buffer is full", 31), ("NightPorter", 80, "no such length of the input buffer", 32), ("NightPorter", 96, "the latest text had no error", 33), ("NightPorter", 133, "no such letter", 34), ("NightPorter", 144, "no guest has this name", 35), ("NightPorter", 349, "no such umbrella", 36), ("NightPorter", 193, "the umbrella is in the stand", 37), ("NightPorter", 202, "the guest carries no umbrella", 38), ("NightPorter", 351, "no such entry", 39), ("NightPorter", 355, "these minutes have not all passed", 40), ("NightPorter", 239, "not just one guest has no alibi", 41), ("NightPorter", 252, "the guest would take no umbrella", 42), ("NightPorter", 335, "no such byte", 43)]
def lenS : List Nat := [101, 5, 5, 3, 8, 6, 3, 3, 4, 3, 3, 3, 6, 1, 5, 9]
def bytS : List (List Int32) := [[110, 105, 103, 104, 116, 32, 50, 32, 57, 48, 59, 103, 117, 101, 115, 116, 32, 97, 110, 110, 32, 53, 32, 100, 111, 103, 32, 52, 59, 103, 117, 101, 115, 116, 32, 98, 111, 98, 32, 56, 59, 103, 117, 101, 115, 116, 32, 99, 108, 101, 111, 32, 51, 59, 117, 109, 98, 114, 101, 108, 108, 97, 32, 97, 110, 110, 32, 54, 48, 59, 117, 109, 98, 114, 101, 108, 108, 97, 32, 98, 111, 98, 32, 49, 48, 59, 117, 109, 98, 114, 101, 108, 108, 97, 32, 98, 111, 98, 32, 48, 59], [110, 105, 103, 104, 116], [103, 117, 101, 115, 116], [100, 111, 103], [117, 109, 98, 114, 101, 108, 108, 97], [110, 105, 103, 104, 116, 32], [97, 110, 110], [98, 111, 98], [99, 108, 101, 111], [100, 97, 110], [101, 118, 101], [102, 97, 121], [103, 117, 101, 115, 116, 32], [59], [32, 100, 111, 103, 32], [117, 109, 98, 114, 101, 108, 108, 97, 32]]
def castX : List String := ["java/lang/IllegalStateException", "java/lang/IllegalArgumentException", "java/util/NoSuchElementException", "java/lang/IndexOutOfBoundsException"]
def declX : List MethodName := [⟨"java/lang/RuntimeException", "<init>", "(Ljava/lang/String;)V"⟩, ⟨"java/lang/Exception", "<init>", "(Ljava/lang/String;)V"⟩, ⟨"java/lang/Throwable", "<init>", "(Ljava/lang/String;)V"⟩]
/-- what the run finds outside its own cells: texts, statics of the JDK -/
def EX (E : Ev) (A : Nat → Prop) (U : State) (H : Heap) : Prop :=
  vk_S 16 lenS bytS E.2.2.2.2.2.1 E.2.2.2.2.2.2.1 A U H ∧ va_Z "java/lang/String" "COMPACT_STRINGS" "Z" (.int 1) A U H ∧ va_Zq "jdk/internal/util/Preconditions" "SIOOBE_FORMATTER" "Ljava/util/function/BiFunction;" A U H ∧
  vx_Zq Bundle.tN "UNASSIGNED_STACK" Bundle.steD A U H ∧ vx_Zq Bundle.tN "SUPPRESSED_SENTINEL" Bundle.listD A U H ∧ (∀ q ∈ SRl, vk_R q.1 q.2.1 q.2.2.1 (E.2.2.2.2.2.1 q.2.2.2) U) ∧ (∀ C ∈ castX, va_Nw (.castable C C) U) ∧ (∀ x ∈ declX, va_Nw (.declares x) U) ∧ (∃ t : Nat, va_Z "java/lang/Integer" "DigitOnes" "[B" (.ref t) A U H ∧ va_T .byte t 100 (fun j => .int (nI (48 + j % 10))) A U H) ∧ (∃ t : Nat, va_Z "java/lang/Integer" "DigitTens" "[B" (.ref t) A U H ∧ va_T .byte t 100 (fun j => .int (nI (48 + j / 10))) A U H)
theorem EX.go {E : Ev} {A B : Nat → Prop} {s U : State} {H : Heap} {locs : List Loc} (h : EX E A s s.heap) (hS : va_S A s.heap H locs) (hW : s.WarmedH U.vm) (hAB : ∀ q, B q → A q) : EX E B U H := by
  obtain ⟨h1, h2, h3, h4, h5, h6, h7, h8, ⟨t9, h9, h9t⟩, ⟨t0, h0, h0t⟩⟩ := h
  have hq := hS.2.1
  exact ⟨((h1.moved hW.alike).kept hq).narrow hAB, ((h2.moved hW.alike).kept hq).narrow hAB, ((h3.moved hW.alike).kept hq).narrow hAB, ((h4.moved hW.alike).kept hq).narrow hAB, ((h5.moved hW.alike).kept hq).narrow hAB, fun q hq => vk_R.warm hW (h6 q hq), fun C hC => va_Nw.warmC hW (h7 C hC), fun x hx => va_Nw.warmD hW (h8 x hx), ⟨t9, ((h9.moved hW.alike).kept hq).narrow hAB, ((h9t.moved hW.alike).kept hq).narrow hAB⟩, ⟨t0, ((h0.moved hW.alike).kept hq).narrow hAB, ((h0t.moved hW.alike).kept hq).narrow hAB⟩⟩
theorem EX.same {E : Ev} {A : Nat → Prop} {s U : State} {H : Heap} (hv : s.vm = U.vm) (h : EX E A s H) : EX E A U H := by
  obtain ⟨h1, h2, h3, h4, h5, h6, h7, h8, ⟨t9, h9, h9t⟩, ⟨t0, h0, h0t⟩⟩ := h
  have hW : s.vm.Alike U.vm := by rw [hv]; exact Vm.Alike.refl U.vm
  exact ⟨h1.moved hW, h2.moved hW, h3.moved hW, h4.moved hW, h5.moved hW, fun q hq => vk_R.same hv.symm (h6 q hq), fun C hC => va_Nw.same rfl hv (h7 C hC), fun x hx => va_Nw.same rfl hv (h8 x hx), ⟨t9, h9.moved hW, h9t.moved hW⟩, ⟨t0, h0.moved hW, h0t.moved hW⟩⟩
def PW (E : Ev) (bs : va_W) (sz : Nat) (U : State) : Prop := U.heap.size = sz ∧ va_P E.1 vwCl bs U.heap ∧ KX E U ∧ va_D (fun _ => True) bs ∧ EX E (va_A bs sz) U U.heap
def QW (E : Ev) (v : Option Value) (bs' : va_W) (A : Nat → Prop) : Array Value → State → Outcome → State → Prop := fun _ st oc t => oc = .returned v ∧ va_P E.1 vwCl bs' t.heap ∧ va_F A st t
def CM (E : Ev) (l : Launch) (y : MethodName) (ws : List Cond) (rm : Room) (as : List Value) (bs : va_W) (v : Option Value) (bs' : va_W) : Prop :=
  ∀ sz : Nat, Met l y ws rm (va_Pc as (PW E bs sz)) (QW E v bs' (va_A bs sz)) 0 0 (va_A bs sz)
/-- what a callee needs of the tables -/
def CY (y : MethodName) (C : String) (bytes : ByteArray) (maxL : Nat) (ret : Option FieldType) (n : Nat) : Prop :=
  Cond.code y bytes maxL ret ∈ GA ∧ (Cond.instanceMethod y ∈ GA ∧ Cond.selects C y y ∈ GA) ∧ Cond.initialized C ∈ GA ∧ y.cls = C ∧ (y.cls ≠ "java/lang/invoke/MethodHandle" ∧ y.cls ≠ "java/lang/invoke/VarHandle" ∧ (parseMethodDescriptor y.desc).map (fun d => d.parameters.length) = some n)
def CS (y : MethodName) (C : String) (bytes : ByteArray) (maxL : Nat) (ret : Option FieldType) (n : Nat) : Prop :=
  Cond.code y bytes maxL ret ∈ GA ∧ Cond.static y ∈ GA ∧ Cond.initialized C ∈ GA ∧ y.cls = C ∧ (y.cls ≠ "java/lang/invoke/MethodHandle" ∧ y.cls ≠ "java/lang/invoke/VarHandle" ∧ (parseMethodDescriptor y.desc).map (fun d => d.parameters.length) = some n)
/-! parts of a world -/
def bk_pick : List Bool → va_W → va_W
  | true :: m, x :: w => x :: bk_pick m w
  | false :: m, _ :: w => bk_pick m w
  | _, _ => []
def bk_mix : List Bool → va_W → va_W → va_W
  | true :: m, _ :: w, y :: b => y :: bk_mix m w b
  | false :: m, x :: w, b => x :: bk_mix m w b
  | _, w, _ => w
theorem bk_adr : ∀ (m : List Bool) (w b : va_W), b.map Prod.fst = (bk_pick m w).map Prod.fst → (bk_mix m w b).map Prod.fst = w.map Prod.fst
  | [], w, b, _ => by simp [bk_mix]
  | true :: m, [], b, _ => by simp [bk_mix]
  | false :: m, [], b, _ => by simp [bk_mix]
  | true :: m, x :: w, [], h => by simp [bk_pick] at h
  | true :: m, x :: w, y :: b, h => by
    simp only [bk_pick, List.map_cons, List.cons.injEq] at h
    simp only [bk_mix, List.map_cons, h.1, bk_adr m w b h.2]
  | false :: m, x :: w, b, h => by
    simp only [bk_pick] at h
    simp only [bk_mix, List.map_cons, bk_adr m w b h]
theorem bk_sub : ∀ (m : List Bool) (w : va_W), ∀ x ∈ bk_pick m w, x ∈ w
  | [], w, x, h => by simp [bk_pick] at h
  | true :: m, [], x, h => by simp [bk_pick] at h
  | false :: m, [], x, h => by simp [bk_pick] at h
  | true :: m, z :: w, x, h => by
    simp only [bk_pick, List.mem_cons] at h
    rcases h with h | h
    · exact List.mem_cons.mpr (Or.inl h)
    · exact List.mem_cons_of_mem _ (bk_sub m w x h)
  | false :: m, z :: w, x, h => by
    simp only [bk_pick] at h
    exact List.mem_cons_of_mem _ (bk_sub m w x h)
theorem bk_from : ∀ (m : List Bool) (w b : va_W), (w.map Prod.fst).Nodup → b.map Prod.fst = (bk_pick m w).map Prod.fst → ∀ x ∈ bk_mix m w b, x ∈ b ∨ (x ∈ w ∧ x.1 ∉ (bk_pick m w).map Prod.fst)
  | [], w, b, _, _, x, h => by
    simp only [bk_mix] at h
    exact Or.inr ⟨h, by simp [bk_pick]⟩
  | true :: m, [], b, _, _, x, h => by simp [bk_mix] at h
  | false :: m, [], b, _, _, x, h => by simp [bk_mix] at h
  | true :: m, z :: w, [], _, hb, x, h => by simp [bk_pick] at hb
  | true :: m, z :: w, y :: b, hn, hb, x, h => by
    simp only [bk_pick, List.map_cons, List.cons.injEq] at hb
    simp only [List.map_cons, List.nodup_cons] at hn
    simp only [bk_mix, List.mem_cons] at h
    rcases h with h | h
    · exact Or.inl (List.mem_cons.mpr (Or.inl h))
    · rcases bk_from m w b hn.2 hb.2 x h with h1 | ⟨h1, h2⟩
      · exact Or.inl (List.mem_cons_of_mem _ h1)
      · refine Or.inr ⟨List.mem_cons_of_mem _ h1, ?_⟩
        simp only [bk_pick, List.map_cons, List.mem_cons, not_or]
        refine ⟨fun e => hn.1 ?_, h2⟩
        rw [← e]
        exact List.mem_map_of_mem h1
  | false :: m, z :: w, b, hn, hb, x, h => by
    simp only [bk_pick] at hb
    simp only [List.map_cons, List.nodup_cons] at hn
    simp only [bk_mix, List.mem_cons] at h
    rcases h with h | h
    · refine Or.inr ⟨List.mem_cons.mpr (Or.inl h), ?_⟩
      simp only [bk_pick]
      intro e
      obtain ⟨y, hy, e2⟩ := List.mem_map.mp e
      apply hn.1
      rw [← h, ← e2]
      exact List.mem_map_of_mem (bk_sub m w y hy)
    · rcases bk_from m w b hn.2 hb x h with h1 | ⟨h1, h2⟩
      · exact Or.inl h1
      · exact Or.inr ⟨List.mem_cons_of_mem _ h1, by simp only [bk_pick]; exact h2⟩
theorem bk_D {A : Nat → Prop} {w w' : va_W} (h : w'.map Prod.fst = w.map Prod.fst) (hD : va_D A w) : va_D A w' := by
  have key : ∀ (k : Nat) (q : Nat × va_E), w'[k]? = some q → ∃ q0, w[k]? = some q0 ∧ q0.1 = q.1 := by
    intro k q hk
    have h1 : (w'.map Prod.fst)[k]? = some q.1 := by rw [List.getElem?_map, hk]; rfl
    rw [h, List.getElem?_map] at h1
    cases hw : w[k]? with
    | none => rw [hw] at h1; cases h1
    | some q0 => rw [hw] at h1; exact ⟨q0, rfl, Option.some.inj h1⟩
  refine ⟨fun i j x y hi hj hxy => ?_, fun k q hk => ?_⟩
  · obtain ⟨x0, h1, h2⟩ := key i x hi
    obtain ⟨y0, h3, h4⟩ := key j y hj
    exact hD.1 i j x0 y0 h1 h3 (h2.trans (hxy.trans h4.symm))
  · obtain ⟨q0, h1, h2⟩ := key k q hk
    rw [← h2]
    exact hD.2 k q0 h1
theorem bk_nodup {A : Nat → Prop} : ∀ {w : va_W}, va_D A w → (w.map Prod.fst).Nodup
  | [], _ => by simp
  | x :: w, hD => by
    simp only [List.map_cons, List.nodup_cons]
    refine ⟨fun h => ?_, bk_nodup (w := w) ⟨fun i j p q hi hj e => ?_, fun k q hk => hD.2 (k + 1) q (by simpa using hk)⟩⟩
    · obtain ⟨y, hy, e⟩ := List.mem_map.mp h
      obtain ⟨i, hi⟩ := List.getElem?_of_mem hy
      have := hD.1 0 (i + 1) x y (by simp) (by simpa using hi) e.symm
      omega
    · have := hD.1 (i + 1) (j + 1) p q (by simpa using hi) (by simpa using hj) e
      omega
theorem bk_P {D : va_G} {cl : List vw_C} {w : va_W} {H : Heap} (h : ∀ x ∈ w, va_at D cl x H) : va_P D cl w H := fun _ q hk => h q (List.mem_of_getElem? hk)
theorem bk_at {D : va_G} {cl : List vw_C} {w : va_W} {H : Heap} (hP : va_P D cl w H) {x : Nat × va_E} (h : x ∈ w) : va_at D cl x H := by
  obtain ⟨i, hi⟩ := List.getElem?_of_mem h
  exact hP i x hi
theorem bk_Dp {A : Nat → Prop} {w w' : va_W} (hn : (w'.map Prod.fst).Nodup) (hs : ∀ x ∈ w', x ∈ w) (hD : va_D A w) : va_D A w' := by
  refine ⟨fun i j p q hi hj e => ?_, fun k q hk => ?_⟩
  · have h1 : (w'.map Prod.fst)[i]? = some p.1 := by rw [List.getElem?_map, hi]; rfl
    have h2 : (w'.map Prod.fst)[j]? = some p.1 := by rw [List.getElem?_map, hj, e]; rfl
    have hi' := (List.getElem?_eq_some_iff.mp h1).1
    exact (List.getElem?_inj hi' hn).mp (h1.trans h2.symm)
  · obtain ⟨i, hi⟩ := List.getElem?_of_mem (hs q (List.mem_of_getElem? hk))
    exact hD.2 i q hi
theorem bk_pn : ∀ (m : List Bool) (w : va_W), (w.map Prod.fst).Nodup → ((bk_pick m w).map Prod.fst).Nodup
  | [], w, _ => by simp [bk_pick]
  | true :: m, [], _ => by simp [bk_pick]
  | false :: m, [], _ => by simp [bk_pick]
  | true :: m, z :: w, h => by
    simp only [List.map_cons, List.nodup_cons] at h
    simp only [bk_pick, List.map_cons, List.nodup_cons]
    refine ⟨fun e => h.1 ?_, bk_pn m w h.2⟩
    obtain ⟨y, hy, e2⟩ := List.mem_map.mp e
    rw [← e2]
    exact List.mem_map_of_mem (bk_sub m w y hy)
  | false :: m, z :: w, h => by
    simp only [List.map_cons, List.nodup_cons] at h
    simp only [bk_pick]
    exact bk_pn m w h.2
/-- behind a call: the callee's cells as it left them, the caller's others as they were -/
theorem bk_join {A : Nat → Prop} {D : va_G} {cl : List vw_C} {w b w2 b' : va_W} {H H1 : Heap} (m : List Bool) (hP : va_P D cl w H) (hD : va_D A w) (hpk : bk_pick m w = b) (hmx : bk_mix m w b' = w2) (hadr : b'.map Prod.fst = b.map Prod.fst)
    (hk : ∀ q : Nat, q < H.size → ¬ va_A b H.size q → H1[q]? = H[q]?) (hP1 : va_P D cl b' H1) : va_P D cl w2 H1 ∧ va_D A w2 := by
  subst hpk; subst hmx
  refine ⟨bk_P fun x hx => ?_, bk_D (bk_adr m w b' hadr) hD⟩
  rcases bk_from m w b' (bk_nodup hD) hadr x hx with h | ⟨h, hn⟩
  · exact bk_at hP1 h
  · have ha := bk_at hP h
    refine ha.kept (hk x.1 ha.lt fun z => ?_)
    rcases z with ⟨k, e, z⟩ | z
    · exact hn (List.mem_map.mpr ⟨_, List.mem_of_getElem? z, rfl⟩)
    · exact absurd ha.lt (Nat.not_lt.mpr z)
theorem bk_free {A : Nat → Prop} {w b : va_W} {H0 H : Heap} {locs : List Loc} (m : List Bool) (hD : va_D A w) (hS : va_S A H0 H locs) (hA : ∀ q, H0.size ≤ q → A q) (hpk : bk_pick m w = b) : ∀ q, va_A b H.size q → A q := by
  subst hpk
  intro q h
  rcases h with ⟨k, e, h⟩ | h
  · obtain ⟨i, hi⟩ := List.getElem?_of_mem (bk_sub m w _ (List.mem_of_getElem? h))
    exact hD.2 i _ hi
  · exact hA q (Nat.le_trans hS.1 h)
theorem PW.of {E : Ev} {A : Nat → Prop} {w b : va_W} {H : Heap} {locs : List Loc} {s U : State} (m : List Bool) (hK : KX E s) (hE : EX E A s s.heap) (hP : va_P E.1 vwCl w H) (hD : va_D A w) (hS : va_S A s.heap H locs) (hA : ∀ q, s.heap.size ≤ q → A q) (hpk : bk_pick m w = b) (hU : U.heap = H) (hW : s.WarmedH U.vm) : PW E b H.size U := by
  have hF := bk_free m hD hS hA hpk
  subst hpk
  refine ⟨by rw [hU], by rw [hU]; exact bk_P fun x hx => bk_at hP (bk_sub m w x hx), hK.warm hW, ?_, by rw [hU]; exact hE.go hS hW hF⟩
  exact (bk_Dp (bk_pn m w (bk_nodup hD)) (bk_sub m w) hD).weaken fun _ _ _ _ => trivial
theorem PW.blind {E : Ev} {as : List Value} {b : va_W} {sz : Nat} : FrameBlind (va_Pc as (PW E b sz)) := fun _ U g mk h => ⟨h.1, h.2.1, h.2.2.1, KX.same (s := U) (U := U.calling g mk _) rfl h.2.2.2.1, h.2.2.2.2.1, EX.same (s := U) (U := U.calling g mk _) rfl h.2.2.2.2.2⟩
/-! pure steps -/
def ck {α : Type} (i : Int32) (N : Nat) (k : Option α) : Option α := if i < 0 ∨ N ≤ i.toNatClampNeg then none else k
theorem ck_o {α : Type} {i : Int32} {N : Nat} {k : Option α} {r : α} (h : ck i N k = some r) : vp_in i N ∧ k = some r := by
  unfold ck at h
  by_cases c : i < 0 ∨ N ≤ i.toNatClampNeg
  · rw [if_pos c] at h; cases h
  · rw [if_neg c] at h; exact ⟨c, h⟩
theorem ck_i {α : Type} {i : Int32} {N : Nat} {k : Option α} (h : vp_in i N) : ck i N k = k := if_neg h
def cn {α : Type} (c : Prop) [Decidable c] (k : Option α) : Option α := if c then k else none
theorem cn_o {α : Type} {c : Prop} [Decidable c] {k : Option α} {r : α} (h : cn c k = some r) : c ∧ k = some r := by
  unfold cn at h
  by_cases q : c
  · rw [if_pos q] at h; exact ⟨q, h⟩
  · rw [if_neg q] at h; cases h
theorem bn {α β : Type} {x : Option α} {f : α → Option β} {r : β} (h : x.bind f = some r) : ∃ a, x = some a ∧ f a = some r := by
  cases x with
  | none => cases h
  | some a => exact ⟨a, rfl, h⟩
theorem it {α : Type} {c : Prop} [Decidable c] {a b : Option α} {r : α} (hc : c) (h : (if c then a else b) = some r) : a = some r := by rw [if_pos hc] at h; exact h
theorem ie {α : Type} {c : Prop} [Decidable c] {a b : Option α} {r : α} (hc : ¬ c) (h : (if c then a else b) = some r) : b = some r := by rw [if_neg hc] at h; exact h
section
variable {p : Program} {l : Launch} {e : Env} {R : Room} {s : State} {m : MethodId} {args : Array Value} {below : List Frame} {meth : Method} {c : Code} {H : Heap} {locs : List Loc} {cells slots : Nat} {Q : State → Prop}
variable {pc : Nat} {ls : Array Slot} {rest st0 : List Value} {a : Array Value} {A : Nat → Prop} {H0 : Heap} {E : Ev} {cc : ByteArray}
theorem cm_go {v : Option Value} {bs' : va_W} {A1 : Nat → Prop} {free : Addr → Prop} (hr : va_Run p l e R s m args below meth c H locs cells slots 0 0 (F0 m pc ls st0) rest (QW E v bs' A1 a) free) (hS : va_S A H0 H locs) (hA : ∀ q, q < H.size → A1 q → A q) (hf : ∀ q, free q → A q)
    (kk : ∀ (H1 : Heap) (locs1 : List Loc), va_P E.1 vwCl bs' H1 → (∀ q : Nat, q < H.size → ¬ A1 q → H1[q]? = H[q]?) → va_S A H0 H1 locs1 → W p l e R s m args below meth c H1 locs1 cells slots Q (F0 m (pc + 3) ls (v.toList ++ rest))) : W p l e R s m args below meth c H locs cells slots Q (F0 m pc ls st0) := by
  intro T hT X
  obtain ⟨v9, st₀, t, T', L, h0, X', hL, e1, e2, ⟨hv, hb, hz, hk⟩, st⟩ := hr T hT X
  cases hv
  rw [h0] at hz hk
  obtain ⟨t2, a1, b1⟩ := kk T'.heap (locs ++ L) (by rw [e1]; exact hb) (fun q h1 h2 => by rw [e1]; exact hk q h1 h2)
    ⟨Nat.le_trans hS.1 (by rw [e1]; exact hz), fun q h1 h2 => by rw [e1, hk q (Nat.lt_of_lt_of_le h1 hS.1) (fun z => h2 (hA q (Nat.lt_of_lt_of_le h1 hS.1) z))]; exact hS.2.1 q h1 h2, fun q hq => by
      rcases List.mem_append.mp hq with h | h
      · exact hS.2.2 q h
      · exact hf _ (hL q h)⟩ T' rfl X'
  exact ⟨t2, st t2 a1, b1⟩
/-- a method of an object of the world is called -/
theorem cm_V {own C : String} {index n maxL nL : Nat} {y : MethodName} {bytes : ByteArray} {ret : Option FieldType} {rm : Room} {b : Nat} {As : List Value} {w1 w2 bs bs' : va_W} {v : Option Value}
    (hx : p.tables.exec = Jvm.exec) (hb : c.code = cc) (hml : c.maxLocals = nL) (hown : s.vm.findClass own = some m.cls) (hg : ∀ w ∈ GA, w.before args s = true)
    (hM : CM E l y (.code y bytes maxL ret :: GA) rm (.ref b :: As) bs v bs') (cy : CY y C bytes maxL ret n) (hlk : Cond.methodLink own index y ∈ GA)
    (hrm : (rm.cells = 0 ∧ rm.slots = 0) ∧ rm.frames + 1 ≤ R.frames ∧ 8 + (maxL + 11) + rm.locals ≤ R.locals)
    (hK : KX E s) (hE : EX E A s s.heap) (hP : va_P E.1 vwCl w1 H) (hD : va_D A w1) (hS : va_S A s.heap H locs) (hA : ∀ q, s.heap.size ≤ q → A q)
    (mk : List Bool) (hpk : bk_pick mk w1 = bs) (hmx : bk_mix mk w1 bs' = w2) (hadr : bs'.map Prod.fst = bs.map Prod.fst)
    (q0 : Nat) {ci : Nat} {fs : List Value} {T : u_T} {N : Nat} (hq : w1[q0]? = some (b, .inr (ci, fs))) (hci : vwCl[ci]? = some (C, T, N))
    (hn : As.length = n) (hsize : ls.size = nL) (hst : st0 = As.reverse ++ .ref b :: rest) (hW : (rest.map fun v => v.category).sum ≤ 8) (hdg : decode cc pc = .ok (.invokevirtual index, 3)) (hc : cells ≤ R.cells ∧ slots ≤ R.slots)
    (st1 : List Value) (hs1 : v.toList ++ rest = st1) (kk : ∀ (H1 : Heap) (locs1 : List Loc), va_P E.1 vwCl w2 H1 → va_D A w2 → va_S A s.heap H1 locs1 → W p l e R s m args below meth c H1 locs1 cells slots Q (F0 m (pc + 3) ls st1)) : W p l e R s m args below meth c H locs cells slots Q (F0 m pc ls st0) := by
  obtain ⟨y1, ⟨y2, y3⟩, y4, y5, y6⟩ := cy
  have hFc := bk_free mk hD hS hA hpk
  have hG : GoodIn GA (wsV own index C y (.code y bytes maxL ret :: GA)) := by
    intro w hw
    simp only [wsV, List.cons_append, List.nil_append, List.mem_cons] at hw
    rcases hw with rfl | rfl | rfl | rfl | rfl | hw
    · exact GA_good _ hlk
    · exact GA_good _ y2
    · exact GA_good _ y3
    · exact GA_good _ y4
    · exact GA_good _ y1
    · exact GA_good _ hw
  refine cm_go (va_runV (As := As) (rest := rest) (n := n) ⟨hx, hb, hml, hown, hg⟩ (hM H.size) (cwV (C := C) n hg hG rfl hrm.1.1 hrm.1.2 ⟨y5, y6⟩ hrm.2) ⟨PW.blind, va_recv hK.1 hP hci hq, fun U hU hW => ⟨rfl, PW.of mk hK hE hP hD hS hA hpk hU hW⟩⟩ rfl hn hsize hst (lv_room hW) hdg hc) hS (fun q _ h => hFc q h) hFc (fun H1 locs1 hP1 hk1 hS1 => ?_)
  obtain ⟨hP2, hD2⟩ := bk_join mk hP hD hpk hmx hadr hk1 hP1
  rw [hs1]
  exact kk H1 locs1 hP2 hD2 hS1
/-- a static method of the own class is called -/
theorem cm_S {own : String} {index n maxL nL : Nat} {y : MethodName} {bytes : ByteArray} {ret : Option FieldType} {rm : Room} {As : List Value} {w1 w2 bs bs' : va_W} {v : Option Value}
    (hx : p.tables.exec = Jvm.exec) (hb : c.code = cc) (hml : c.maxLocals = nL) (hown : s.vm.findClass own = some m.cls) (hg : ∀ w ∈ GA, w.before args s = true)
    (hM : CM E l y (.code y bytes maxL ret :: GA) rm As bs v bs') (cy : CS y own bytes maxL ret n) (hlk : Cond.methodLink own index y ∈ GA)
    (hrm : (rm.cells = 0 ∧ rm.slots = 0) ∧ rm.frames + 1 ≤ R.frames ∧ 8 + (maxL + 11) + rm.locals ≤ R.locals)
    (hK : KX E s) (hE : EX E A s s.heap) (hP : va_P E.1 vwCl w1 H) (hD : va_D A w1) (hS : va_S A s.heap H locs) (hA : ∀ q, s.heap.size ≤ q → A q)
    (mk : List Bool) (hpk : bk_pick mk w1 = bs) (hmx : bk_mix mk w1 bs' = w2) (hadr : bs'.map Prod.fst = bs.map Prod.fst)
    (hn : As.length = n) (hsize : ls.size = nL) (hst : st0 = As.reverse ++ rest) (hW : (rest.map fun v => v.category).sum ≤ 8) (hdg : decode cc pc = .ok (.invokestatic index, 3)) (hc : cells ≤ R.cells ∧ slots ≤ R.slots)
    (st1 : List Value) (hs1 : v.toList ++ rest = st1) (kk : ∀ (H1 : Heap) (locs1 : List Loc), va_P E.1 vwCl w2 H1 → va_D A w2 → va_S A s.heap H1 locs1 → W p l e R s m args below meth c H1 locs1 cells slots Q (F0 m (pc + 3) ls st1)) : W p l e R s m args below meth c H locs cells slots Q (F0 m pc ls st0) := by
  obtain ⟨y1, y2, y4, y5, y6⟩ := cy
  have hFc := bk_free mk hD hS hA hpk
  have hG : GoodIn GA (wsS own index y (.code y bytes maxL ret :: GA)) := by
    intro w hw
    simp only [wsS, List.cons_append, List.nil_append, List.mem_cons] at hw
    rcases hw with rfl | rfl | rfl | rfl | hw
    · exact GA_good _ hlk
    · exact GA_good _ y2
    · exact GA_good _ y4
    · exact GA_good _ y1
    · exact GA_good _ hw
  refine cm_go (va_runS (As := As) (rest := rest) (n := n) ⟨hx, hb, hml, hown, hg⟩ (hM H.size) (cwS n hg hG rfl hrm.1.1 hrm.1.2 ⟨y5, y6⟩ hrm.2) ⟨PW.blind, fun U hU hW => ⟨rfl, PW.of mk hK hE hP hD hS hA hpk hU hW⟩⟩ rfl hn hsize hst (lv_room hW) hdg hc) hS (fun q _ h => hFc q h) hFc (fun H1 locs1 hP1 hk1 hS1 => ?_)
  obtain ⟨hP2, hD2⟩ := bk_join mk hP hD hpk hmx hadr hk1 hP1
  rw [hs1]
  exact kk H1 locs1 hP2 hD2 hS1
/-- a private static method of a nest mate is called -/
theorem cm_SN {own C host : String} {index n maxL nL : Nat} {y : MethodName} {bytes : ByteArray} {ret : Option FieldType} {rm : Room} {As : List Value} {w1 w2 bs bs' : va_W} {v : Option Value}
    (hx : p.tables.exec = Jvm.exec) (hb : c.code = cc) (hml : c.maxLocals = nL) (hown : s.vm.findClass own = some m.cls) (hg : ∀ w ∈ GA, w.before args s = true)
    (hM : CM E l y (.code y bytes maxL ret :: GA) rm As bs v bs') (cy : CS y C bytes maxL ret n) (hlk : (own, index, y, host) ∈ GNl)
    (hrm : (rm.cells = 0 ∧ rm.slots = 0) ∧ rm.frames + 1 ≤ R.frames ∧ 8 + (maxL + 11) + rm.locals ≤ R.locals)
    (hK : KX E s) (hE : EX E A s s.heap) (hP : va_P E.1 vwCl w1 H) (hD : va_D A w1) (hS : va_S A s.heap H locs) (hA : ∀ q, s.heap.size ≤ q → A q)
    (mk : List Bool) (hpk : bk_pick mk w1 = bs) (hmx : bk_mix mk w1 bs' = w2) (hadr : bs'.map Prod.fst = bs.map Prod.fst)
    (hn : As.length = n) (hsize : ls.size = nL) (hst : st0 = As.reverse ++ rest) (hW : (rest.map fun v => v.category).sum ≤ 8) (hdg : decode cc pc = .ok (.invokestatic index, 3)) (hc : cells ≤ R.cells ∧ slots ≤ R.slots)
    (st1 : List Value) (hs1 : v.toList ++ rest = st1) (kk : ∀ (H1 : Heap) (locs1 : List Loc), va_P E.1 vwCl w2 H1 → va_D A w2 → va_S A s.heap H1 locs1 → W p l e R s m args below meth c H1 locs1 cells slots Q (F0 m (pc + 3) ls st1)) : W p l e R s m args below meth c H locs cells slots Q (F0 m pc ls st0) := by
  obtain ⟨y1, y2, y4, y5, y6⟩ := cy
  have hFc := bk_free mk hD hS hA hpk
  refine cm_go (va_runSN (As := As) (rest := rest) (n := n) (host := host) ⟨hx, hb, hml, hown, hg⟩ (hM H.size) ⟨va_cnB n hg (GA_cons y1) rfl hrm.1.1 hrm.1.2 (hK.2 _ hlk) (by rw [y5]; exact hg _ y4) y6 hrm.2, hg _ y2, trivial⟩ ⟨PW.blind, fun U hU hW => ⟨rfl, PW.of mk hK hE hP hD hS hA hpk hU hW⟩⟩ rfl hn hsize hst (lv_room hW) hdg hc) hS (fun q _ h => hFc q h) hFc (fun H1 locs1 hP1 hk1 hS1 => ?_)
  obtain ⟨hP2, hD2⟩ := bk_join mk hP hD hpk hmx hadr hk1 hP1
  rw [hs1]
  exact kk H1 locs1 hP2 hD2 hS1
theorem cm_iret {v : Int32} {bs' : va_W} (hx : p.tables.exec = Jvm.exec) (hb : c.code = cc) (hr : meth.sig.returnType = some .int) (hlocks : meth.locks = false) (hP : va_P E.1 vwCl bs' H) (hS : va_S A s.heap H locs) (hdg : decode cc pc = .ok (.ireturn, 1)) : W p l e R s m args below meth c H locs cells slots (MQ below (QW E (some (.int v)) bs' A) args s cells slots A) (F0 m pc ls [.int v]) :=
  W.iret hx hb hr (fun t ht _ => ⟨rfl, by rw [ht]; exact hP, hS.F ht⟩) hS.2.2 hdg hlocks
theorem cm_zret {v : Int32} {bs' : va_W} (hx : p.tables.exec = Jvm.exec) (hb : c.code = cc) (hr : meth.sig.returnType = some .boolean) (hlocks : meth.locks = false) (hP : va_P E.1 vwCl bs' H) (hS : va_S A s.heap H locs) (hn : narrow .boolean (.int v) = .int v) (hdg : decode cc pc = .ok (.ireturn, 1)) : W p l e R s m args below meth c H locs cells slots (MQ below (QW E (some (.int v)) bs' A) args s cells slots A) (F0 m pc ls [.int v]) :=
  W.zret hx hb hr hn (fun t ht _ => ⟨rfl, by rw [ht]; exact hP, hS.F ht⟩) hS.2.2 hdg hlocks
theorem cm_dret {v : UInt64} {bs' : va_W} (hx : p.tables.exec = Jvm.exec) (hb : c.code = cc) (hr : meth.sig.returnType = some .double) (hlocks : meth.locks = false) (hP : va_P E.1 vwCl bs' H) (hS : va_S A s.heap H locs) (hdg : decode cc pc = .ok (.dreturn, 1)) : W p l e R s m args below meth c H locs cells slots (MQ below (QW E (some (.double v)) bs' A) args s cells slots A) (F0 m pc ls [.double v]) :=
  W.dret hx hb hr (fun t ht _ => ⟨rfl, by rw [ht]; exact hP, hS.F ht⟩) hS.2.2 hdg hlocks
theorem cm_fret {v : UInt32} {bs' : va_W} (hx : p.tables.exec = Jvm.exec) (hb : c.code = cc) (hr : meth.sig.returnType = some .float) (hlocks : meth.locks = false) (hP : va_P E.1 vwCl bs' H) (hS : va_S A s.heap H locs) (hdg : decode cc pc = .ok (.freturn, 1)) : W p l e R s m args below meth c H locs cells slots (MQ below (QW E (some (.float v)) bs' A) args s cells slots A) (F0 m pc ls [.float v]) :=
  W.fret hx hb hr (fun t ht _ => ⟨rfl, by rw [ht]; exact hP, hS.F ht⟩) hS.2.2 hdg hlocks
theorem cm_vret {bs' : va_W} (hx : p.tables.exec = Jvm.exec) (hb : c.code = cc) (hr : meth.sig.returnType = none) (hlocks : meth.locks = false) (hP : va_P E.1 vwCl bs' H) (hS : va_S A s.heap H locs) (hdg : decode cc pc = .ok (.return_, 1)) : W p l e R s m args below meth c H locs cells slots (MQ below (QW E none bs' A) args s cells slots A) (F0 m pc ls []) :=
  W.vret hx hb hr (fun t ht _ => ⟨rfl, by rw [ht]; exact hP, hS.F ht⟩) hS.2.2 hdg hlocks
end
theorem CM.of {E : Ev} {l : Launch} {y : MethodName} {cc : ByteArray} {maxL : Nat} {ret : Option FieldType} {rm : Room} {as : List Value} {bs bs' : va_W} {v : Option Value} {own : String} (hown : y.cls = own) (hy : plainName y.cls = true) (hn : (lg_sl as).length ≤ maxL)
    (body : ∀ (p : Program) (e : Env) (s : State) (m : MethodId) (below : List Frame) (meth : Method) (c : Code) (A : Nat → Prop) (ls : Array Slot), p.tables.exec = Jvm.exec → c.code = cc → meth.sig.returnType = ret → c.maxLocals = maxL → s.vm.findClass own = some m.cls → (∀ w ∈ GA, w.before as.toArray s = true) → meth.locks = false → KX E s → EX E A s s.heap → (∀ q : Nat, s.heap.size ≤ q → A q) → va_P E.1 vwCl bs s.heap → va_D A bs → va_S A s.heap s.heap [] → lv_has ls maxL (lv_args 0 as) →
      W p l e rm s m as.toArray below meth c s.heap [] 0 0 (MQ below (QW E v bs' A) as.toArray s 0 0 A) (F0 m 0 ls [])) : CM E l y (.code y cc maxL ret :: GA) rm as bs v bs' := by
  intro sz
  refine Met.ofW (cc := cc) (maxL := maxL) (ret := ret) hy rfl ?_
  intro p e s m args below meth c s₁ B hml hv
  obtain ⟨rfl, hsz, hP, hK, hD0, hE⟩ := hv
  subst hown
  subst hsz
  have hts := atoms_spec (ws := .code y cc maxL ret :: GA) B.pre
  rw [lg_entry_eq]
  exact body p e s m below meth c _ _ B.exec B.bytes B.returns hml (findClass_of_methodNamed B.named) (fun w h => hts w (List.mem_cons_of_mem _ h)) B.notSynchronized hK hE (fun q h => Or.inr h) hP hD0.self va_S.rf (lv_entry as hn)
end
section
abbrev LA (s : State) : Nat → Prop := fun q => s.heap.size ≤ q
/-! the law from its entry: what the start knows -/
theorem fl_sub {b : Nat} {s : State} (hgv : (Jvm.Cond.and given_1 narrow_1).before #[Value.ref b] s = true) : ∀ w ∈ flatC (Jvm.Cond.and given_1 narrow_1), w.before #[Value.ref b] s = true := flat_of_before _ hgv
def tmS (i : Nat) : Term := match SRl[i]? with
  | some q => Term.string q.1 q.2.1
  | none => Term.string "" 0
theorem fq {b : Nat} {s : State} (hgv : (Jvm.Cond.and given_1 narrow_1).before #[Value.ref b] s = true) {c : Cond} (i : Nat) (h : (flatC (Jvm.Cond.and given_1 narrow_1))[i]? = some c) : c.before #[Value.ref b] s = true := fl_sub hgv c (List.mem_of_getElem? h)
def pS : List Nat := [273, 378, 387, 396, 403, 1164, 1174, 1181, 1188, 1196, 1203, 1210, 1217, 1227, 1232, 1248, 415, 449, 483, 515, 540, 557, 593, 613, 637, 656, 682, 706, 734, 750, 771, 796, 824, 862, 894, 912, 938, 958, 990, 1023, 1040, 1077, 1112, 1148]
theorem pr_ex : ∀ i, i < 44 → (flatC (Jvm.Cond.and given_1 narrow_1))[pS.getD i 0]? = some (Cond.exactly (tmS i) "java/lang/String") := by decide +kernel
theorem pr_co : ∀ i, i < 16 → (flatC (Jvm.Cond.and given_1 narrow_1))[pS.getD i 0 + 1]? = some (Cond.eq (.field (tmS i) "java/lang/String" "coder" "B") (.int 0)) := by decide +kernel
theorem pr_ar : ∀ i, i < 16 → (flatC (Jvm.Cond.and given_1 narrow_1))[pS.getD i 0 + 2]? = some (Cond.arrayOf (.field (tmS i) "java/lang/String" "value" "[B") .byte) := by decide +kernel
theorem pr_le : ∀ i, i < 16 → (flatC (Jvm.Cond.and given_1 narrow_1))[pS.getD i 0 + 3]? = some (Cond.eq (.length (.field (tmS i) "java/lang/String" "value" "[B")) (.int (Int32.ofNat (lenS.getD i 0)))) := by decide +kernel
theorem pr_el : ∀ i, i < 16 → ∀ j, j < lenS.getD i 0 → (flatC (Jvm.Cond.and given_1 narrow_1))[pS.getD i 0 + (4 + j)]? = some (Cond.eq (.elem (.field (tmS i) "java/lang/String" "value" "[B") (.int (Int32.ofNat j))) (.int ((bytS.getD i []).getD j 0))) := by decide +kernel
theorem tx1 {A0 : Array Value} {s : State} {T : Term} {L : Nat} {bs : List Int32} (hL : L < 2 ^ 31) (h1 : (Cond.exactly T "java/lang/String").before A0 s = true) (h2 : (Cond.eq (.field T "java/lang/String" "coder" "B") (.int 0)).before A0 s = true) (h3 : (Cond.arrayOf (.field T "java/lang/String" "value" "[B") .byte).before A0 s = true) (h4 : (Cond.eq (.length (.field T "java/lang/String" "value" "[B")) (.int (Int32.ofNat L))).before A0 s = true) (h5 : ∀ j, j < L → (Cond.eq (.elem (.field T "java/lang/String" "value" "[B") (.int (Int32.ofNat j))) (.int (bs.getD j 0))).before A0 s = true) : ∃ q : Nat × Nat, T.eval A0 s none [] s = some (.ref q.1) ∧ va_O "java/lang/String" q.1 (LA s) s s.heap ∧ va_OF "java/lang/String" "coder" "B" (.int 0) q.1 (LA s) s s.heap ∧ va_OF "java/lang/String" "value" "[B" (.ref q.2) q.1 (LA s) s s.heap ∧ va_T .byte q.2 L (fun j => .int (bs.getD j 0)) (LA s) s s.heap := by
  have hi : ∀ i : Nat, i < 1 → i = 0 := fun i h => by omega
  obtain ⟨k, v, h, he⟩ := vk_Sof (N := 1) (tm := fun _ => T) (len := [L]) (byt := [bs]) (A := LA s) (args := A0) (s := s) (fun i h => by rw [hi i h]; exact hL) (fun i _ => h1) (fun i _ => h2) (fun i _ => h3) (fun i h => by rw [hi i h]; exact h4) (fun i h j hj => by rw [hi i h] at hj ⊢; exact h5 j hj) (fun i j h1 h2 h3 => absurd ((hi i h1).trans (hi j h2).symm) h3) (fun a h => Nat.not_le.mpr h)
  exact ⟨(k 0, v 0), he 0 (by omega), h.1 0 (by omega)⟩
theorem of_fun {o n d : String} {v v' : Value} {a : Nat} {B : Nat → Prop} {U : State} {H : Heap} (h : va_OF o n d v a B U H) (h' : va_OF o n d v' a B U H) : v = v' := by
  obtain ⟨c1, k1, i1, f1, e1, x1, -, x3, -, x5, -⟩ := h
  obtain ⟨c2, k2, i2, f2, e2, y1, -, y3, -, y5, -⟩ := h'
  rw [x1] at y1
  cases y1
  rw [x3] at y3
  cases y3
  rw [x5] at y5
  exact Option.some.inj y5
theorem t_fun {ty : FieldType} {t N N' : Nat} {f f' : Nat → Value} {B : Nat → Prop} {U : State} {H : Heap} (h : va_T ty t N f B U H) (h' : va_T ty t N' f' B U H) : Int32.ofNat N = Int32.ofNat N' ∧ ∀ k, k < N → k < N' → f k = f' k := by
  obtain ⟨c1, x1, -, -, -, x5, x6, -⟩ := h
  obtain ⟨c2, y1, -, -, -, y5, y6, -⟩ := h'
  rw [x1] at y1
  cases y1
  refine ⟨x5.symm.trans y5, fun k hN hN' => ?_⟩
  have := (x6 k hN).symm.trans (y6 k hN')
  exact Option.some.inj this
theorem tx_ne : ∀ i, i < 16 → ∀ j, j < 16 → i ≠ j → Int32.ofNat (lenS.getD i 0) ≠ Int32.ofNat (lenS.getD j 0) ∨ (bytS.getD i []).getD 0 0 ≠ (bytS.getD j []).getD 0 0 ∨ (1 < lenS.getD i 0 ∧ 1 < lenS.getD j 0 ∧ (bytS.getD i []).getD 1 0 ≠ (bytS.getD j []).getD 1 0) := by decide +kernel
theorem tx_pos : ∀ i, i < 16 → 0 < lenS.getD i 0 ∧ lenS.getD i 0 < 2 ^ 31 := by decide +kernel
/-- the texts' addresses -/
def adrS (b : Nat) (s : State) (i : Nat) : Nat := match (tmS i).eval #[Value.ref b] s none [] s with
  | some (.ref a) => a
  | _ => 0
theorem adr_of {b : Nat} {s : State} {i a : Nat} (h : (tmS i).eval #[Value.ref b] s none [] s = some (.ref a)) : adrS b s i = a := by
  unfold adrS
  rw [h]
theorem known_S {b : Nat} {s : State} (hgv : (Jvm.Cond.and given_1 narrow_1).before #[Value.ref b] s = true) : ∃ adV : Nat → Nat, vk_S 16 lenS bytS (adrS b s) adV (LA s) s s.heap := by
  have hq := fl_sub hgv
  have h0 : ∀ i : Nat, ∃ q : Nat × Nat, i < 16 → (tmS i).eval #[Value.ref b] s none [] s = some (.ref q.1) ∧ va_O "java/lang/String" q.1 (LA s) s s.heap ∧ va_OF "java/lang/String" "coder" "B" (.int 0) q.1 (LA s) s s.heap ∧ va_OF "java/lang/String" "value" "[B" (.ref q.2) q.1 (LA s) s s.heap ∧ va_T .byte q.2 (lenS.getD i 0) (fun j => .int ((bytS.getD i []).getD j 0)) (LA s) s s.heap := by
    intro i
    by_cases hi : i < 16
    · obtain ⟨q, h⟩ := tx1 (s := s) (T := tmS i) (tx_pos i hi).2 (fq hgv _ (pr_ex i (Nat.lt_of_lt_of_le hi (by decide)))) (fq hgv _ (pr_co i hi)) (fq hgv _ (pr_ar i hi)) (fq hgv _ (pr_le i hi)) (fun j hj => fq hgv _ (pr_el i hi j hj))
      exact ⟨q, fun _ => h⟩
    · exact ⟨(0, 0), fun h => absurd h hi⟩
  obtain ⟨ad, had⟩ := Classical.axiomOfChoice h0
  have e : ∀ i, i < 16 → adrS b s i = (ad i).1 := fun i hi => adr_of (had i hi).1
  refine ⟨fun i => (ad i).2, fun i hi => by rw [e i hi]; exact (had i hi).2, fun i j hi hj he => ?_⟩
  rw [e i hi, e j hj] at he
  refine Decidable.byContradiction fun hij => ?_
  have a1 := (had i hi).2.2.2.1
  have a2 := (had j hj).2.2.2.1
  rw [he] at a1
  have a3 := of_fun a1 a2
  have a4 : (ad i).2 = (ad j).2 := by injection a3
  have t1 := (had i hi).2.2.2.2
  have t2 := (had j hj).2.2.2.2
  rw [a4] at t1
  obtain ⟨g1, g2⟩ := t_fun t1 t2
  rcases tx_ne i hi j hj hij with h | h | ⟨l1, l2, h⟩
  · exact h g1
  · have g3 := g2 0 (tx_pos i hi).1 (tx_pos j hj).1
    apply h
    injection g3
  · have g3 := g2 1 l1 l2
    apply h
    injection g3
theorem known_R {b : Nat} {s : State} (hgv : (Jvm.Cond.and given_1 narrow_1).before #[Value.ref b] s = true) {q : String × Nat × String × Nat} (hi : q.2.2.2 < 44) (ht : tmS q.2.2.2 = Term.string q.1 q.2.1) (hw : (Cond.stringRef q.1 q.2.1 q.2.2.1).before #[Value.ref b] s = true) : vk_R q.1 q.2.1 q.2.2.1 (adrS b s q.2.2.2) s := by
  have hx := fq hgv _ (pr_ex q.2.2.2 hi)
  rw [ht] at hx
  obtain ⟨a, c, cA, kA, q1, -⟩ := Cond.exactly_spec (args := #[Value.ref b]) (first := s) (o := none) (s := s) (idx := []) hx
  have : adrS b s q.2.2.2 = a := adr_of (by rw [ht]; exact q1)
  rw [this]
  exact vk_R.of hw q1
theorem dg_DigitOnes : ∀ j : Nat, j < 100 → (flatC (Jvm.Cond.and given_1 narrow_1))[14 + j]? = some (Cond.eq (.elem (Term.static "java/lang/Integer" "DigitOnes" "[B") (.int (Int32.ofNat j))) (.int (nI (48 + j % 10)))) := by decide +kernel
theorem dg_DigitTens : ∀ j : Nat, j < 100 → (flatC (Jvm.Cond.and given_1 narrow_1))[117 + j]? = some (Cond.eq (.elem (Term.static "java/lang/Integer" "DigitTens" "[B") (.int (Int32.ofNat j))) (.int (nI (48 + j / 10)))) := by decide +kernel
end
