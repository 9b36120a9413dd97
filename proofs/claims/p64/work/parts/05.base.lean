/-! THE BASE: one list of words for all methods; a world is a list of cells at fixed addresses; a contract CM: the method returns v, its world bs becomes bs' -/
abbrev Ev : Type := va_G × ClassId × ClassId × ClassId × ClassId × (Nat → Nat) × (Nat → Nat) × ClassId
abbrev tysE (E : Ev) : List (ClassId × FieldType) := [(E.2.1, .int), (E.2.2.1, .boolean), (E.2.2.2.1, .byte), (E.2.2.2.2.1, .object "NightPorter$Night"), (E.2.2.2.2.2.2.2, .object "java/lang/String")]
def GA : List Cond := lw_tbl.filter goodWord
theorem GA_of {w : Cond} (h : w ∈ lw_tbl) (hg : goodWord w = true) : w ∈ GA := List.mem_filter.mpr ⟨h, hg⟩
theorem GA_tbl {w : Cond} (h : w ∈ GA) : w ∈ lw_tbl := (List.mem_filter.mp h).1
theorem GA_good : GoodIn GA GA := fun w h => ⟨h, good_of_word (List.mem_filter.mp h).2⟩
theorem GA_cons {w : Cond} (h : w ∈ GA) : GoodIn GA (w :: GA) := fun v hv => (List.mem_cons.mp hv).elim (fun e => by rw [e]; exact GA_good w h) (GA_good v)
theorem tb1 {w : Cond} (h : w ∈ tables_1_1) : w ∈ lw_tbl := List.mem_append_right _ (List.mem_append_left _ h)
theorem tb2 {w : Cond} (h : w ∈ tables_1_2) : w ∈ lw_tbl := List.mem_append_right _ (List.mem_append_right _ (List.mem_append_left _ h))
theorem tb3 {w : Cond} (h : w ∈ tables_1_3) : w ∈ lw_tbl := List.mem_append_right _ (List.mem_append_right _ (List.mem_append_right _ (List.mem_append_left _ h)))
theorem tb4 {w : Cond} (h : w ∈ tables_1_4) : w ∈ lw_tbl := List.mem_append_right _ (List.mem_append_right _ (List.mem_append_right _ (List.mem_append_right _ (List.mem_append_left _ h))))
theorem tb5 {w : Cond} (h : w ∈ tables_1_5) : w ∈ lw_tbl := List.mem_append_right _ (List.mem_append_right _ (List.mem_append_right _ (List.mem_append_right _ (List.mem_append_right _ (List.mem_append_left _ h)))))
theorem tb6 {w : Cond} (h : w ∈ tables_1_6) : w ∈ lw_tbl := List.mem_append_right _ (List.mem_append_right _ (List.mem_append_right _ (List.mem_append_right _ (List.mem_append_right _ (List.mem_append_right _ (h))))))
def GNl : List (String × Nat × MethodName × String) := [("NightPorter", 9, ⟨"NightPorter$Bytes", "<init>", "()V"⟩, "NightPorter"), ("NightPorter", 30, ⟨"NightPorter$Night", "<init>", "()V"⟩, "NightPorter"), ("NightPorter$Night", 35, ⟨"NightPorter$Guests", "<init>", "()V"⟩, "NightPorter"), ("NightPorter$Night", 42, ⟨"NightPorter$Umbrellas", "<init>", "()V"⟩, "NightPorter"), ("NightPorter$Night", 49, ⟨"NightPorter$Register", "<init>", "()V"⟩, "NightPorter"), ("NightPorter$History", 24, ⟨"NightPorter$Night", "<init>", "()V"⟩, "NightPorter"), ("NightPorter$Snapshots", 21, ⟨"NightPorter$Night", "<init>", "()V"⟩, "NightPorter"), ("NightPorter$Parser", 114, ⟨"NightPorter", "isBlank", "(I)Z"⟩, "NightPorter"), ("NightPorter$Parser", 118, ⟨"NightPorter", "isLetter", "(I)Z"⟩, "NightPorter"), ("NightPorter$Parser", 124, ⟨"NightPorter", "isDigit", "(I)Z"⟩, "NightPorter"), ("NightPorter$Bytes", 32, ⟨"NightPorter", "isLetter", "(I)Z"⟩, "NightPorter")]
def GNw (q : String × Nat × MethodName × String) : Cond := .methodLinkNest q.1 q.2.1 q.2.2.1 q.2.2.2
def KX (E : Ev) (U : State) : Prop := va_K E.1 vwCl (tysE E) U ∧ ∀ q ∈ GNl, va_Nw (GNw q) U
theorem KX.warm {E : Ev} {s U : State} (hW : s.WarmedH U.vm) (h : KX E s) : KX E U := ⟨va_K.moved hW.alike h.1, fun q hq => va_Nw.warmM hW (h.2 q hq)⟩
theorem KX.same {E : Ev} {s U : State} (hv : s.vm = U.vm) (h : KX E s) : KX E U := ⟨va_K.moved (by rw [hv]; exact Vm.Alike.refl U.vm) h.1, fun q hq => va_Nw.same rfl hv (h.2 q hq)⟩
def SRl : List (String × Nat × String × Nat) := [("NightPorter", 56, "night 2 90;guest ann 5 dog 4;guest bob 8;guest cleo 3;umbrella ann 60;umbrella bob 10;umbrella bob 0;", 0), ("NightPorter$Parser", 63, "night", 1), ("NightPorter$Parser", 44, "guest", 2), ("NightPorter$Parser", 81, "dog", 3), ("NightPorter$Parser", 58, "umbrella", 4), ("NightPorterLaw", 176, "night ", 5), ("NightPorterLaw", 187, "ann", 6), ("NightPorterLaw", 189, "bob", 7), ("NightPorterLaw", 191, "cleo", 8), ("NightPorterLaw", 193, "dan", 9), ("NightPorterLaw", 195, "eve", 10), ("NightPorterLaw", 197, "fay", 11), ("NightPorterLaw", 200, "guest ", 12), ("NightPorterLaw", 205, ";", 13), ("NightPorterLaw", 208, " dog ", 14), ("NightPorterLaw", 214, "umbrella ", 15), ("NightPorter", 357, "the number is out of its range", 16), ("NightPorter", 268, "the input buffer is not a name", 17), ("NightPorter", 270, "there is no room for a guest", 18), ("NightPorter", 272, "a guest has this name", 19), ("NightPorter", 347, "no such guest", 20), ("NightPorter", 282, "there is no room for an umbrella", 21), ("NightPorter", 247, "the guest is out", 22), ("NightPorter", 359, "the register is full", 23), ("NightPorter", 156, "the guest is in", 24), ("NightPorter", 295, "the night is too short", 25), ("NightPorter", 300, "the guest has no dog", 26), ("NightPorter", 306, "there is nothing to undo", 27), ("NightPorter", 353, "no such slot", 28), ("NightPorter", 322, "the slot is empty", 29), ("NightPorter", 83, "the text has an error", 30), ("NightPorter", 70, "the input buffer is full", 31), ("NightPorter", 80, "no such length of the input buffer", 32), ("NightPorter", 96, "the latest text had no error", 33), ("NightPorter", 133, "no such letter", 34), ("NightPorter", 144, "no guest has this name", 35), ("NightPorter", 349, "no such umbrella", 36), ("NightPorter", 193, "the umbrella is in the stand", 37), ("NightPorter", 202, "the guest carries no umbrella", 38), ("NightPorter", 351, "no such entry", 39), ("NightPorter", 355, "these minutes have not all passed", 40), ("NightPorter", 239, "not just one guest has no alibi", 41), ("NightPorter", 252, "the guest would take no umbrella", 42), ("NightPorter", 335, "no such byte", 43)]
def lenS : List Nat := [101, 5, 5, 3, 8, 6, 3, 3, 4, 3, 3, 3, 6, 1, 5, 9]
def bytS : List (List Int32) := [[110, 105, 103, 104, 116, 32, 50, 32, 57, 48, 59, 103, 117, 101, 115, 116, 32, 97, 110, 110, 32, 53, 32, 100, 111, 103, 32, 52, 59, 103, 117, 101, 115, 116, 32, 98, 111, 98, 32, 56, 59, 103, 117, 101, 115, 116, 32, 99, 108, 101, 111, 32, 51, 59, 117, 109, 98, 114, 101, 108, 108, 97, 32, 97, 110, 110, 32, 54, 48, 59, 117, 109, 98, 114, 101, 108, 108, 97, 32, 98, 111, 98, 32, 49, 48, 59, 117, 109, 98, 114, 101, 108, 108, 97, 32, 98, 111, 98, 32, 48, 59], [110, 105, 103, 104, 116], [103, 117, 101, 115, 116], [100, 111, 103], [117, 109, 98, 114, 101, 108, 108, 97], [110, 105, 103, 104, 116, 32], [97, 110, 110], [98, 111, 98], [99, 108, 101, 111], [100, 97, 110], [101, 118, 101], [102, 97, 121], [103, 117, 101, 115, 116, 32], [59], [32, 100, 111, 103, 32], [117, 109, 98, 114, 101, 108, 108, 97, 32]]
def castX : List String := ["java/lang/IllegalStateException", "java/lang/IllegalArgumentException", "java/util/NoSuchElementException", "java/lang/IndexOutOfBoundsException"]
def declX : List MethodName := [⟨"java/lang/RuntimeException", "<init>", "(Ljava/lang/String;)V"⟩, ⟨"java/lang/Exception", "<init>", "(Ljava/lang/String;)V"⟩, ⟨"java/lang/Throwable", "<init>", "(Ljava/lang/String;)V"⟩]
/-- what the run finds outside its own cells: texts, statics of the JDK -/
def EX (E : Ev) (A : Nat → Prop) (U : State) (H : Heap) : Prop :=
  vk_S 16 lenS bytS E.2.2.2.2.2.1 E.2.2.2.2.2.2.1 A U H ∧ va_Z "java/lang/String" "COMPACT_STRINGS" "Z" (.int 1) A U H ∧ va_Zq "jdk/internal/util/Preconditions" "SIOOBE_FORMATTER" "Ljava/util/function/BiFunction;" A U H ∧
  vx_Zq Bundle.tN "UNASSIGNED_STACK" Bundle.steD A U H ∧ vx_Zq Bundle.tN "SUPPRESSED_SENTINEL" Bundle.listD A U H ∧ (∀ q ∈ SRl, vk_R q.1 q.2.1 q.2.2.1 (E.2.2.2.2.2.1 q.2.2.2) U) ∧ (∀ C ∈ castX, va_Nw (.castable C C) U) ∧ (∀ x ∈ declX, va_Nw (.declares x) U) ∧ (∃ t : Nat, va_Z "java/lang/Integer" "DigitOnes" "[B" (.ref t) A U H ∧ va_T .byte t 100 (fun j => .int (nI (48 + j % 10))) A U H) ∧ (∃ t : Nat, va_Z "java/lang/Integer" "DigitTens" "[B" (.ref t) A U H ∧ va_T .byte t 100 (fun j => .int (nI (48 + j / 10))) A U H)
theorem EX.go {E : Ev} {A B : Nat → Prop} {s U : State} {H : Heap} {locs : List Loc} (h : EX E A s s.heap) (hS : va_S A s.heap H locs) (hW : s.WarmedH U.vm) (hAB : ∀ q, B q → A q) : EX E B U H := by
  obtain ⟨h1, h2, h3, h4, h5, h6, h7, h8, ⟨t9, h9, h9t⟩, ⟨t0, h0, h0t⟩⟩ := h
  have hq := hS.2.1
  exact ⟨((h1.moved hW.alike).kept hq).narrow hAB, ((h2.moved hW.alike).kept hq).narrow hAB, ((h3.moved hW.alike).kept hq).narrow hAB, ((h4.moved hW.alike).kept hq).narrow hAB, ((h5.moved hW.alike).kept hq).narrow hAB, fun q hq => vk_R.warm hW (h6 q hq), fun C hC => va_Nw.warmC hW (h7 C hC), fun x hx => va_Nw.warmD hW (h8 x hx), ⟨t9, ((h9.moved hW.alike).kept hq).narrow hAB, ((h9t.moved hW.alike).kept hq).narrow hAB⟩, ⟨t0, ((h0.moved hW.alike).kept hq).narrow hAB, ((h0t.moved hW.alike).kept hq).narrow hAB⟩⟩
theorem EX.same {E : Ev} {A : Nat → Prop} {s U : State} {H : Heap} (hv : s.vm = U.vm) (h : EX E A s H) : EX E A U H := by
  obtain ⟨h1, h2, h3, h4, h5, h6, h7, h8, ⟨t9, h9, h9t⟩, ⟨t0, h0, h0t⟩⟩ := h
  have hW : s.vm.Alike U.vm := by rw [hv]; exact Vm.Alike.refl U.vm
  exact ⟨h1.moved hW, h2.moved hW, h3.moved hW, h4.moved hW, h5.moved hW, fun q hq => vk_R.same hv.symm (h6 q hq), fun C hC => va_Nw.same rfl hv (h7 C hC), fun x hx => va_Nw.same rfl hv (h8 x hx), ⟨t9, h9.moved hW, h9t.moved hW⟩, ⟨t0, h0.moved hW, h0t.moved hW⟩⟩
def PW (E : Ev) (bs : va_W) (sz : Nat) (U : State) : Prop := U.heap.size = sz ∧ va_P E.1 vwCl bs U.heap ∧ KX E U ∧ va_D (fun _ => True) bs ∧ EX E (va_A bs sz) U U.heap
def QW (E : Ev) (v : Option Value) (bs' : va_W) (A : Nat → Prop) : Array Value → State → Outcome → State → Prop := fun _ st oc t => oc = .returned v ∧ va_P E.1 vwCl bs' t.heap ∧ va_F A st t
def CM (E : Ev) (l : Launch) (y : MethodName) (ws : List Cond) (rm : Room) (as : List Value) (bs : va_W) (v : Option Value) (bs' : va_W) : Prop :=
  ∀ sz : Nat, Met l y ws rm (va_Pc as (PW E bs sz)) (QW E v bs' (va_A bs sz)) 0 0 (va_A bs sz)
/-- what a callee needs of the tables -/
def CY (y : MethodName) (C : String) (bytes : ByteArray) (maxL : Nat) (ret : Option FieldType) (n : Nat) : Prop :=
  Cond.code y bytes maxL ret ∈ GA ∧ (Cond.instanceMethod y ∈ GA ∧ Cond.selects C y y ∈ GA) ∧ Cond.initialized C ∈ GA ∧ y.cls = C ∧ (y.cls ≠ "java/lang/invoke/MethodHandle" ∧ y.cls ≠ "java/lang/invoke/VarHandle" ∧ (parseMethodDescriptor y.desc).map (fun d => d.parameters.length) = some n)
def CS (y : MethodName) (C : String) (bytes : ByteArray) (maxL : Nat) (ret : Option FieldType) (n : Nat) : Prop :=
  Cond.code y bytes maxL ret ∈ GA ∧ Cond.static y ∈ GA ∧ Cond.initialized C ∈ GA ∧ y.cls = C ∧ (y.cls ≠ "java/lang/invoke/MethodHandle" ∧ y.cls ≠ "java/lang/invoke/VarHandle" ∧ (parseMethodDescriptor y.desc).map (fun d => d.parameters.length) = some n)
/-! parts of a world -/
def bk_pick : List Bool → va_W → va_W
  | true :: m, x :: w => x :: bk_pick m w
  | false :: m, _ :: w => bk_pick m w
  | _, _ => []
def bk_mix : List Bool → va_W → va_W → va_W
  | true :: m, _ :: w, y :: b => y :: bk_mix m w b
  | false :: m, x :: w, b => x :: bk_mix m w b
  | _, w, _ => w
theorem bk_adr : ∀ (m : List Bool) (w b : va_W), b.map Prod.fst = (bk_pick m w).map Prod.fst → (bk_mix m w b).map Prod.fst = w.map Prod.fst
  | [], w, b, _ => by simp [bk_mix]
  | true :: m, [], b, _ => by simp [bk_mix]
  | false :: m, [], b, _ => by simp [bk_mix]
  | true :: m, x :: w, [], h => by simp [bk_pick] at h
  | true :: m, x :: w, y :: b, h => by
    simp only [bk_pick, List.map_cons, List.cons.injEq] at h
    simp only [bk_mix, List.map_cons, h.1, bk_adr m w b h.2]
  | false :: m, x :: w, b, h => by
    simp only [bk_pick] at h
    simp only [bk_mix, List.map_cons, bk_adr m w b h]
theorem bk_sub : ∀ (m : List Bool) (w : va_W), ∀ x ∈ bk_pick m w, x ∈ w
  | [], w, x, h => by simp [bk_pick] at h
  | true :: m, [], x, h => by simp [bk_pick] at h
  | false :: m, [], x, h => by simp [bk_pick] at h
  | true :: m, z :: w, x, h => by
    simp only [bk_pick, List.mem_cons] at h
    rcases h with h | h
    · exact List.mem_cons.mpr (Or.inl h)
    · exact List.mem_cons_of_mem _ (bk_sub m w x h)
  | false :: m, z :: w, x, h => by
    simp only [bk_pick] at h
    exact List.mem_cons_of_mem _ (bk_sub m w x h)
theorem bk_from : ∀ (m : List Bool) (w b : va_W), (w.map Prod.fst).Nodup → b.map Prod.fst = (bk_pick m w).map Prod.fst → ∀ x ∈ bk_mix m w b, x ∈ b ∨ (x ∈ w ∧ x.1 ∉ (bk_pick m w).map Prod.fst)
  | [], w, b, _, _, x, h => by
    simp only [bk_mix] at h
    exact Or.inr ⟨h, by simp [bk_pick]⟩
  | true :: m, [], b, _, _, x, h => by simp [bk_mix] at h
  | false :: m, [], b, _, _, x, h => by simp [bk_mix] at h
  | true :: m, z :: w, [], _, hb, x, h => by simp [bk_pick] at hb
  | true :: m, z :: w, y :: b, hn, hb, x, h => by
    simp only [bk_pick, List.map_cons, List.cons.injEq] at hb
    simp only [List.map_cons, List.nodup_cons] at hn
    simp only [bk_mix, List.mem_cons] at h
    rcases h with h | h
    · exact Or.inl (List.mem_cons.mpr (Or.inl h))
    · rcases bk_from m w b hn.2 hb.2 x h with h1 | ⟨h1, h2⟩
      · exact Or.inl (List.mem_cons_of_mem _ h1)
      · refine Or.inr ⟨List.mem_cons_of_mem _ h1, ?_⟩
        simp only [bk_pick, List.map_cons, List.mem_cons, not_or]
        refine ⟨fun e => hn.1 ?_, h2⟩
        rw [← e]
        exact List.mem_map_of_mem h1
  | false :: m, z :: w, b, hn, hb, x, h => by
    simp only [bk_pick] at hb
    simp only [List.map_cons, List.nodup_cons] at hn
    simp only [bk_mix, List.mem_cons] at h
    rcases h with h | h
    · refine Or.inr ⟨List.mem_cons.mpr (Or.inl h), ?_⟩
      simp only [bk_pick]
      intro e
      obtain ⟨y, hy, e2⟩ := List.mem_map.mp e
      apply hn.1
      rw [← h, ← e2]
      exact List.mem_map_of_mem (bk_sub m w y hy)
    · rcases bk_from m w b hn.2 hb x h with h1 | ⟨h1, h2⟩
      · exact Or.inl h1
      · exact Or.inr ⟨List.mem_cons_of_mem _ h1, by simp only [bk_pick]; exact h2⟩
theorem bk_D {A : Nat → Prop} {w w' : va_W} (h : w'.map Prod.fst = w.map Prod.fst) (hD : va_D A w) : va_D A w' := by
  have key : ∀ (k : Nat) (q : Nat × va_E), w'[k]? = some q → ∃ q0, w[k]? = some q0 ∧ q0.1 = q.1 := by
    intro k q hk
    have h1 : (w'.map Prod.fst)[k]? = some q.1 := by rw [List.getElem?_map, hk]; rfl
    rw [h, List.getElem?_map] at h1
    cases hw : w[k]? with
    | none => rw [hw] at h1; cases h1
    | some q0 => rw [hw] at h1; exact ⟨q0, rfl, Option.some.inj h1⟩
  refine ⟨fun i j x y hi hj hxy => ?_, fun k q hk => ?_⟩
  · obtain ⟨x0, h1, h2⟩ := key i x hi
    obtain ⟨y0, h3, h4⟩ := key j y hj
    exact hD.1 i j x0 y0 h1 h3 (h2.trans (hxy.trans h4.symm))
  · obtain ⟨q0, h1, h2⟩ := key k q hk
    rw [← h2]
    exact hD.2 k q0 h1
theorem bk_nodup {A : Nat → Prop} : ∀ {w : va_W}, va_D A w → (w.map Prod.fst).Nodup
  | [], _ => by simp
  | x :: w, hD => by
    simp only [List.map_cons, List.nodup_cons]
    refine ⟨fun h => ?_, bk_nodup (w := w) ⟨fun i j p q hi hj e => ?_, fun k q hk => hD.2 (k + 1) q (by simpa using hk)⟩⟩
    · obtain ⟨y, hy, e⟩ := List.mem_map.mp h
      obtain ⟨i, hi⟩ := List.getElem?_of_mem hy
      have := hD.1 0 (i + 1) x y (by simp) (by simpa using hi) e.symm
      omega
    · have := hD.1 (i + 1) (j + 1) p q (by simpa using hi) (by simpa using hj) e
      omega
theorem bk_P {D : va_G} {cl : List vw_C} {w : va_W} {H : Heap} (h : ∀ x ∈ w, va_at D cl x H) : va_P D cl w H := fun _ q hk => h q (List.mem_of_getElem? hk)
theorem bk_at {D : va_G} {cl : List vw_C} {w : va_W} {H : Heap} (hP : va_P D cl w H) {x : Nat × va_E} (h : x ∈ w) : va_at D cl x H := by
  obtain ⟨i, hi⟩ := List.getElem?_of_mem h
  exact hP i x hi
theorem bk_Dp {A : Nat → Prop} {w w' : va_W} (hn : (w'.map Prod.fst).Nodup) (hs : ∀ x ∈ w', x ∈ w) (hD : va_D A w) : va_D A w' := by
  refine ⟨fun i j p q hi hj e => ?_, fun k q hk => ?_⟩
  · have h1 : (w'.map Prod.fst)[i]? = some p.1 := by rw [List.getElem?_map, hi]; rfl
    have h2 : (w'.map Prod.fst)[j]? = some p.1 := by rw [List.getElem?_map, hj, e]; rfl
    have hi' := (List.getElem?_eq_some_iff.mp h1).1
    exact (List.getElem?_inj hi' hn).mp (h1.trans h2.symm)
  · obtain ⟨i, hi⟩ := List.getElem?_of_mem (hs q (List.mem_of_getElem? hk))
    exact hD.2 i q hi
theorem bk_pn : ∀ (m : List Bool) (w : va_W), (w.map Prod.fst).Nodup → ((bk_pick m w).map Prod.fst).Nodup
  | [], w, _ => by simp [bk_pick]
  | true :: m, [], _ => by simp [bk_pick]
  | false :: m, [], _ => by simp [bk_pick]
  | true :: m, z :: w, h => by
    simp only [List.map_cons, List.nodup_cons] at h
    simp only [bk_pick, List.map_cons, List.nodup_cons]
    refine ⟨fun e => h.1 ?_, bk_pn m w h.2⟩
    obtain ⟨y, hy, e2⟩ := List.mem_map.mp e
    rw [← e2]
    exact List.mem_map_of_mem (bk_sub m w y hy)
  | false :: m, z :: w, h => by
    simp only [List.map_cons, List.nodup_cons] at h
    simp only [bk_pick]
    exact bk_pn m w h.2
/-- behind a call: the callee's cells as it left them, the caller's others as they were -/
theorem bk_join {A : Nat → Prop} {D : va_G} {cl : List vw_C} {w b w2 b' : va_W} {H H1 : Heap} (m : List Bool) (hP : va_P D cl w H) (hD : va_D A w) (hpk : bk_pick m w = b) (hmx : bk_mix m w b' = w2) (hadr : b'.map Prod.fst = b.map Prod.fst)
    (hk : ∀ q : Nat, q < H.size → ¬ va_A b H.size q → H1[q]? = H[q]?) (hP1 : va_P D cl b' H1) : va_P D cl w2 H1 ∧ va_D A w2 := by
  subst hpk; subst hmx
  refine ⟨bk_P fun x hx => ?_, bk_D (bk_adr m w b' hadr) hD⟩
  rcases bk_from m w b' (bk_nodup hD) hadr x hx with h | ⟨h, hn⟩
  · exact bk_at hP1 h
  · have ha := bk_at hP h
    refine ha.kept (hk x.1 ha.lt fun z => ?_)
    rcases z with ⟨k, e, z⟩ | z
    · exact hn (List.mem_map.mpr ⟨_, List.mem_of_getElem? z, rfl⟩)
    · exact absurd ha.lt (Nat.not_lt.mpr z)
theorem bk_free {A : Nat → Prop} {w b : va_W} {H0 H : Heap} {locs : List Loc} (m : List Bool) (hD : va_D A w) (hS : va_S A H0 H locs) (hA : ∀ q, H0.size ≤ q → A q) (hpk : bk_pick m w = b) : ∀ q, va_A b H.size q → A q := by
  subst hpk
  intro q h
  rcases h with ⟨k, e, h⟩ | h
  · obtain ⟨i, hi⟩ := List.getElem?_of_mem (bk_sub m w _ (List.mem_of_getElem? h))
    exact hD.2 i _ hi
  · exact hA q (Nat.le_trans hS.1 h)
theorem PW.of {E : Ev} {A : Nat → Prop} {w b : va_W} {H : Heap} {locs : List Loc} {s U : State} (m : List Bool) (hK : KX E s) (hE : EX E A s s.heap) (hP : va_P E.1 vwCl w H) (hD : va_D A w) (hS : va_S A s.heap H locs) (hA : ∀ q, s.heap.size ≤ q → A q) (hpk : bk_pick m w = b) (hU : U.heap = H) (hW : s.WarmedH U.vm) : PW E b H.size U := by
  have hF := bk_free m hD hS hA hpk
  subst hpk
  refine ⟨by rw [hU], by rw [hU]; exact bk_P fun x hx => bk_at hP (bk_sub m w x hx), hK.warm hW, ?_, by rw [hU]; exact hE.go hS hW hF⟩
  exact (bk_Dp (bk_pn m w (bk_nodup hD)) (bk_sub m w) hD).weaken fun _ _ _ _ => trivial
theorem PW.blind {E : Ev} {as : List Value} {b : va_W} {sz : Nat} : FrameBlind (va_Pc as (PW E b sz)) := fun _ U g mk h => ⟨h.1, h.2.1, h.2.2.1, KX.same (s := U) (U := U.calling g mk _) rfl h.2.2.2.1, h.2.2.2.2.1, EX.same (s := U) (U := U.calling g mk _) rfl h.2.2.2.2.2⟩
/-! pure steps -/
def ck {α : Type} (i : Int32) (N : Nat) (k : Option α) : Option α := if i < 0 ∨ N ≤ i.toNatClampNeg then none else k
theorem ck_o {α : Type} {i : Int32} {N : Nat} {k : Option α} {r : α} (h : ck i N k = some r) : vp_in i N ∧ k = some r := by
  unfold ck at h
  by_cases c : i < 0 ∨ N ≤ i.toNatClampNeg
  · rw [if_pos c] at h; cases h
  · rw [if_neg c] at h; exact ⟨c, h⟩
theorem ck_i {α : Type} {i : Int32} {N : Nat} {k : Option α} (h : vp_in i N) : ck i N k = k := if_neg h
def cn {α : Type} (c : Prop) [Decidable c] (k : Option α) : Option α := if c then k else none
theorem cn_o {α : Type} {c : Prop} [Decidable c] {k : Option α} {r : α} (h : cn c k = some r) : c ∧ k = some r := by
  unfold cn at h
  by_cases q : c
  · rw [if_pos q] at h; exact ⟨q, h⟩
  · rw [if_neg q] at h; cases h
theorem bn {α β : Type} {x : Option α} {f : α → Option β} {r : β} (h : x.bind f = some r) : ∃ a, x = some a ∧ f a = some r := by
  cases x with
  | none => cases h
  | some a => exact ⟨a, rfl, h⟩
theorem it {α : Type} {c : Prop} [Decidable c] {a b : Option α} {r : α} (hc : c) (h : (if c then a else b) = some r) : a = some r := by rw [if_pos hc] at h; exact h
theorem ie {α : Type} {c : Prop} [Decidable c] {a b : Option α} {r : α} (hc : ¬ c) (h : (if c then a else b) = some r) : b = some r := by rw [if_neg hc] at h; exact h
section
variable {p : Program} {l : Launch} {e : Env} {R : Room} {s : State} {m : MethodId} {args : Array Value} {below : List Frame} {meth : Method} {c : Code} {H : Heap} {locs : List Loc} {cells slots : Nat} {Q : State → Prop}
variable {pc : Nat} {ls : Array Slot} {rest st0 : List Value} {a : Array Value} {A : Nat → Prop} {H0 : Heap} {E : Ev} {cc : ByteArray}
theorem cm_go {v : Option Value} {bs' : va_W} {A1 : Nat → Prop} {free : Addr → Prop} (hr : va_Run p l e R s m args below meth c H locs cells slots 0 0 (F0 m pc ls st0) rest (QW E v bs' A1 a) free) (hS : va_S A H0 H locs) (hA : ∀ q, q < H.size → A1 q → A q) (hf : ∀ q, free q → A q)
    (kk : ∀ (H1 : Heap) (locs1 : List Loc), va_P E.1 vwCl bs' H1 → (∀ q : Nat, q < H.size → ¬ A1 q → H1[q]? = H[q]?) → va_S A H0 H1 locs1 → W p l e R s m args below meth c H1 locs1 cells slots Q (F0 m (pc + 3) ls (v.toList ++ rest))) : W p l e R s m args below meth c H locs cells slots Q (F0 m pc ls st0) := by
  intro T hT X
  obtain ⟨v9, st₀, t, T', L, h0, X', hL, e1, e2, ⟨hv, hb, hz, hk⟩, st⟩ := hr T hT X
  cases hv
  rw [h0] at hz hk
  obtain ⟨t2, a1, b1⟩ := kk T'.heap (locs ++ L) (by rw [e1]; exact hb) (fun q h1 h2 => by rw [e1]; exact hk q h1 h2)
    ⟨Nat.le_trans hS.1 (by rw [e1]; exact hz), fun q h1 h2 => by rw [e1, hk q (Nat.lt_of_lt_of_le h1 hS.1) (fun z => h2 (hA q (Nat.lt_of_lt_of_le h1 hS.1) z))]; exact hS.2.1 q h1 h2, fun q hq => by
      rcases List.mem_append.mp hq with h | h
      · exact hS.2.2 q h
      · exact hf _ (hL q h)⟩ T' rfl X'
  exact ⟨t2, st t2 a1, b1⟩
/-- a method of an object of the world is called -/
theorem cm_V {own C : String} {index n maxL nL : Nat} {y : MethodName} {bytes : ByteArray} {ret : Option FieldType} {rm : Room} {b : Nat} {As : List Value} {w1 w2 bs bs' : va_W} {v : Option Value}
    (hx : p.tables.exec = Jvm.exec) (hb : c.code = cc) (hml : c.maxLocals = nL) (hown : s.vm.findClass own = some m.cls) (hg : ∀ w ∈ GA, w.before args s = true)
    (hM : CM E l y (.code y bytes maxL ret :: GA) rm (.ref b :: As) bs v bs') (cy : CY y C bytes maxL ret n) (hlk : Cond.methodLink own index y ∈ GA)
    (hrm : (rm.cells = 0 ∧ rm.slots = 0) ∧ rm.frames + 1 ≤ R.frames ∧ 8 + (maxL + 11) + rm.locals ≤ R.locals)
    (hK : KX E s) (hE : EX E A s s.heap) (hP : va_P E.1 vwCl w1 H) (hD : va_D A w1) (hS : va_S A s.heap H locs) (hA : ∀ q, s.heap.size ≤ q → A q)
    (mk : List Bool) (hpk : bk_pick mk w1 = bs) (hmx : bk_mix mk w1 bs' = w2) (hadr : bs'.map Prod.fst = bs.map Prod.fst)
    (q0 : Nat) {ci : Nat} {fs : List Value} {T : u_T} {N : Nat} (hq : w1[q0]? = some (b, .inr (ci, fs))) (hci : vwCl[ci]? = some (C, T, N))
    (hn : As.length = n) (hsize : ls.size = nL) (hst : st0 = As.reverse ++ .ref b :: rest) (hW : (rest.map fun v => v.category).sum ≤ 8) (hdg : decode cc pc = .ok (.invokevirtual index, 3)) (hc : cells ≤ R.cells ∧ slots ≤ R.slots)
    (st1 : List Value) (hs1 : v.toList ++ rest = st1) (kk : ∀ (H1 : Heap) (locs1 : List Loc), va_P E.1 vwCl w2 H1 → va_D A w2 → va_S A s.heap H1 locs1 → W p l e R s m args below meth c H1 locs1 cells slots Q (F0 m (pc + 3) ls st1)) : W p l e R s m args below meth c H locs cells slots Q (F0 m pc ls st0) := by
  obtain ⟨y1, ⟨y2, y3⟩, y4, y5, y6⟩ := cy
  have hFc := bk_free mk hD hS hA hpk
  have hG : GoodIn GA (wsV own index C y (.code y bytes maxL ret :: GA)) := by
    intro w hw
    simp only [wsV, List.cons_append, List.nil_append, List.mem_cons] at hw
    rcases hw with rfl | rfl | rfl | rfl | rfl | hw
    · exact GA_good _ hlk
    · exact GA_good _ y2
    · exact GA_good _ y3
    · exact GA_good _ y4
    · exact GA_good _ y1
    · exact GA_good _ hw
  refine cm_go (va_runV (As := As) (rest := rest) (n := n) ⟨hx, hb, hml, hown, hg⟩ (hM H.size) (cwV (C := C) n hg hG rfl hrm.1.1 hrm.1.2 ⟨y5, y6⟩ hrm.2) ⟨PW.blind, va_recv hK.1 hP hci hq, fun U hU hW => ⟨rfl, PW.of mk hK hE hP hD hS hA hpk hU hW⟩⟩ rfl hn hsize hst (lv_room hW) hdg hc) hS (fun q _ h => hFc q h) hFc (fun H1 locs1 hP1 hk1 hS1 => ?_)
  obtain ⟨hP2, hD2⟩ := bk_join mk hP hD hpk hmx hadr hk1 hP1
  rw [hs1]
  exact kk H1 locs1 hP2 hD2 hS1
/-- a static method of the own class is called -/
theorem cm_S {own : String} {index n maxL nL : Nat} {y : MethodName} {bytes : ByteArray} {ret : Option FieldType} {rm : Room} {As : List Value} {w1 w2 bs bs' : va_W} {v : Option Value}
    (hx : p.tables.exec = Jvm.exec) (hb : c.code = cc) (hml : c.maxLocals = nL) (hown : s.vm.findClass own = some m.cls) (hg : ∀ w ∈ GA, w.before args s = true)
    (hM : CM E l y (.code y bytes maxL ret :: GA) rm As bs v bs') (cy : CS y own bytes maxL ret n) (hlk : Cond.methodLink own index y ∈ GA)
    (hrm : (rm.cells = 0 ∧ rm.slots = 0) ∧ rm.frames + 1 ≤ R.frames ∧ 8 + (maxL + 11) + rm.locals ≤ R.locals)
    (hK : KX E s) (hE : EX E A s s.heap) (hP : va_P E.1 vwCl w1 H) (hD : va_D A w1) (hS : va_S A s.heap H locs) (hA : ∀ q, s.heap.size ≤ q → A q)
    (mk : List Bool) (hpk : bk_pick mk w1 = bs) (hmx : bk_mix mk w1 bs' = w2) (hadr : bs'.map Prod.fst = bs.map Prod.fst)
    (hn : As.length = n) (hsize : ls.size = nL) (hst : st0 = As.reverse ++ rest) (hW : (rest.map fun v => v.category).sum ≤ 8) (hdg : decode cc pc = .ok (.invokestatic index, 3)) (hc : cells ≤ R.cells ∧ slots ≤ R.slots)
    (st1 : List Value) (hs1 : v.toList ++ rest = st1) (kk : ∀ (H1 : Heap) (locs1 : List Loc), va_P E.1 vwCl w2 H1 → va_D A w2 → va_S A s.heap H1 locs1 → W p l e R s m args below meth c H1 locs1 cells slots Q (F0 m (pc + 3) ls st1)) : W p l e R s m args below meth c H locs cells slots Q (F0 m pc ls st0) := by
  obtain ⟨y1, y2, y4, y5, y6⟩ := cy
  have hFc := bk_free mk hD hS hA hpk
  have hG : GoodIn GA (wsS own index y (.code y bytes maxL ret :: GA)) := by
    intro w hw
    simp only [wsS, List.cons_append, List.nil_append, List.mem_cons] at hw
    rcases hw with rfl | rfl | rfl | rfl | hw
    · exact GA_good _ hlk
    · exact GA_good _ y2
    · exact GA_good _ y4
    · exact GA_good _ y1
    · exact GA_good _ hw
  refine cm_go (va_runS (As := As) (rest := rest) (n := n) ⟨hx, hb, hml, hown, hg⟩ (hM H.size) (cwS n hg hG rfl hrm.1.1 hrm.1.2 ⟨y5, y6⟩ hrm.2) ⟨PW.blind, fun U hU hW => ⟨rfl, PW.of mk hK hE hP hD hS hA hpk hU hW⟩⟩ rfl hn hsize hst (lv_room hW) hdg hc) hS (fun q _ h => hFc q h) hFc (fun H1 locs1 hP1 hk1 hS1 => ?_)
  obtain ⟨hP2, hD2⟩ := bk_join mk hP hD hpk hmx hadr hk1 hP1
  rw [hs1]
  exact kk H1 locs1 hP2 hD2 hS1
/-- a private static method of a nest mate is called -/
theorem cm_SN {own C host : String} {index n maxL nL : Nat} {y : MethodName} {bytes : ByteArray} {ret : Option FieldType} {rm : Room} {As : List Value} {w1 w2 bs bs' : va_W} {v : Option Value}
    (hx : p.tables.exec = Jvm.exec) (hb : c.code = cc) (hml : c.maxLocals = nL) (hown : s.vm.findClass own = some m.cls) (hg : ∀ w ∈ GA, w.before args s = true)
    (hM : CM E l y (.code y bytes maxL ret :: GA) rm As bs v bs') (cy : CS y C bytes maxL ret n) (hlk : (own, index, y, host) ∈ GNl)
    (hrm : (rm.cells = 0 ∧ rm.slots = 0) ∧ rm.frames + 1 ≤ R.frames ∧ 8 + (maxL + 11) + rm.locals ≤ R.locals)
    (hK : KX E s) (hE : EX E A s s.heap) (hP : va_P E.1 vwCl w1 H) (hD : va_D A w1) (hS : va_S A s.heap H locs) (hA : ∀ q, s.heap.size ≤ q → A q)
    (mk : List Bool) (hpk : bk_pick mk w1 = bs) (hmx : bk_mix mk w1 bs' = w2) (hadr : bs'.map Prod.fst = bs.map Prod.fst)
    (hn : As.length = n) (hsize : ls.size = nL) (hst : st0 = As.reverse ++ rest) (hW : (rest.map fun v => v.category).sum ≤ 8) (hdg : decode cc pc = .ok (.invokestatic index, 3)) (hc : cells ≤ R.cells ∧ slots ≤ R.slots)
    (st1 : List Value) (hs1 : v.toList ++ rest = st1) (kk : ∀ (H1 : Heap) (locs1 : List Loc), va_P E.1 vwCl w2 H1 → va_D A w2 → va_S A s.heap H1 locs1 → W p l e R s m args below meth c H1 locs1 cells slots Q (F0 m (pc + 3) ls st1)) : W p l e R s m args below meth c H locs cells slots Q (F0 m pc ls st0) := by
  obtain ⟨y1, y2, y4, y5, y6⟩ := cy
  have hFc := bk_free mk hD hS hA hpk
  refine cm_go (va_runSN (As := As) (rest := rest) (n := n) (host := host) ⟨hx, hb, hml, hown, hg⟩ (hM H.size) ⟨va_cnB n hg (GA_cons y1) rfl hrm.1.1 hrm.1.2 (hK.2 _ hlk) (by rw [y5]; exact hg _ y4) y6 hrm.2, hg _ y2, trivial⟩ ⟨PW.blind, fun U hU hW => ⟨rfl, PW.of mk hK hE hP hD hS hA hpk hU hW⟩⟩ rfl hn hsize hst (lv_room hW) hdg hc) hS (fun q _ h => hFc q h) hFc (fun H1 locs1 hP1 hk1 hS1 => ?_)
  obtain ⟨hP2, hD2⟩ := bk_join mk hP hD hpk hmx hadr hk1 hP1
  rw [hs1]
  exact kk H1 locs1 hP2 hD2 hS1
theorem cm_iret {v : Int32} {bs' : va_W} (hx : p.tables.exec = Jvm.exec) (hb : c.code = cc) (hr : meth.sig.returnType = some .int) (hlocks : meth.locks = false) (hP : va_P E.1 vwCl bs' H) (hS : va_S A s.heap H locs) (hdg : decode cc pc = .ok (.ireturn, 1)) : W p l e R s m args below meth c H locs cells slots (MQ below (QW E (some (.int v)) bs' A) args s cells slots A) (F0 m pc ls [.int v]) :=
  W.iret hx hb hr (fun t ht _ => ⟨rfl, by rw [ht]; exact hP, hS.F ht⟩) hS.2.2 hdg hlocks
theorem cm_zret {v : Int32} {bs' : va_W} (hx : p.tables.exec = Jvm.exec) (hb : c.code = cc) (hr : meth.sig.returnType = some .boolean) (hlocks : meth.locks = false) (hP : va_P E.1 vwCl bs' H) (hS : va_S A s.heap H locs) (hn : narrow .boolean (.int v) = .int v) (hdg : decode cc pc = .ok (.ireturn, 1)) : W p l e R s m args below meth c H locs cells slots (MQ below (QW E (some (.int v)) bs' A) args s cells slots A) (F0 m pc ls [.int v]) :=
  W.zret hx hb hr hn (fun t ht _ => ⟨rfl, by rw [ht]; exact hP, hS.F ht⟩) hS.2.2 hdg hlocks
theorem cm_dret {v : UInt64} {bs' : va_W} (hx : p.tables.exec = Jvm.exec) (hb : c.code = cc) (hr : meth.sig.returnType = some .double) (hlocks : meth.locks = false) (hP : va_P E.1 vwCl bs' H) (hS : va_S A s.heap H locs) (hdg : decode cc pc = .ok (.dreturn, 1)) : W p l e R s m args below meth c H locs cells slots (MQ below (QW E (some (.double v)) bs' A) args s cells slots A) (F0 m pc ls [.double v]) :=
  W.dret hx hb hr (fun t ht _ => ⟨rfl, by rw [ht]; exact hP, hS.F ht⟩) hS.2.2 hdg hlocks
theorem cm_fret {v : UInt32} {bs' : va_W} (hx : p.tables.exec = Jvm.exec) (hb : c.code = cc) (hr : meth.sig.returnType = some .float) (hlocks : meth.locks = false) (hP : va_P E.1 vwCl bs' H) (hS : va_S A s.heap H locs) (hdg : decode cc pc = .ok (.freturn, 1)) : W p l e R s m args below meth c H locs cells slots (MQ below (QW E (some (.float v)) bs' A) args s cells slots A) (F0 m pc ls [.float v]) :=
  W.fret hx hb hr (fun t ht _ => ⟨rfl, by rw [ht]; exact hP, hS.F ht⟩) hS.2.2 hdg hlocks
theorem cm_vret {bs' : va_W} (hx : p.tables.exec = Jvm.exec) (hb : c.code = cc) (hr : meth.sig.returnType = none) (hlocks : meth.locks = false) (hP : va_P E.1 vwCl bs' H) (hS : va_S A s.heap H locs) (hdg : decode cc pc = .ok (.return_, 1)) : W p l e R s m args below meth c H locs cells slots (MQ below (QW E none bs' A) args s cells slots A) (F0 m pc ls []) :=
  W.vret hx hb hr (fun t ht _ => ⟨rfl, by rw [ht]; exact hP, hS.F ht⟩) hS.2.2 hdg hlocks
end
theorem CM.of {E : Ev} {l : Launch} {y : MethodName} {cc : ByteArray} {maxL : Nat} {ret : Option FieldType} {rm : Room} {as : List Value} {bs bs' : va_W} {v : Option Value} {own : String} (hown : y.cls = own) (hy : plainName y.cls = true) (hn : (lg_sl as).length ≤ maxL)
    (body : ∀ (p : Program) (e : Env) (s : State) (m : MethodId) (below : List Frame) (meth : Method) (c : Code) (A : Nat → Prop) (ls : Array Slot), p.tables.exec = Jvm.exec → c.code = cc → meth.sig.returnType = ret → c.maxLocals = maxL → s.vm.findClass own = some m.cls → (∀ w ∈ GA, w.before as.toArray s = true) → meth.locks = false → KX E s → EX E A s s.heap → (∀ q : Nat, s.heap.size ≤ q → A q) → va_P E.1 vwCl bs s.heap → va_D A bs → va_S A s.heap s.heap [] → lv_has ls maxL (lv_args 0 as) →
      W p l e rm s m as.toArray below meth c s.heap [] 0 0 (MQ below (QW E v bs' A) as.toArray s 0 0 A) (F0 m 0 ls [])) : CM E l y (.code y cc maxL ret :: GA) rm as bs v bs' := by
  intro sz
  refine Met.ofW (cc := cc) (maxL := maxL) (ret := ret) hy rfl ?_
  intro p e s m args below meth c s₁ B hml hv
  obtain ⟨rfl, hsz, hP, hK, hD0, hE⟩ := hv
  subst hown
  subst hsz
  have hts := atoms_spec (ws := .code y cc maxL ret :: GA) B.pre
  rw [lg_entry_eq]
  exact body p e s m below meth c _ _ B.exec B.bytes B.returns hml (findClass_of_methodNamed B.named) (fun w h => hts w (List.mem_cons_of_mem _ h)) B.notSynchronized hK hE (fun q h => Or.inr h) hP hD0.self va_S.rf (lv_entry as hn)
