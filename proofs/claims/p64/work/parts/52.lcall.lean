/-! the law's call: what it answers, what is thrown is told by a number below -100 -/
def hhC : List (Nat × Nat × Nat × Nat) := [(0, 194, 521, 148), (195, 201, 521, 148), (202, 207, 521, 148), (208, 213, 521, 148), (214, 219, 521, 148), (220, 225, 521, 148), (226, 231, 521, 148), (232, 237, 521, 148), (238, 242, 521, 148), (243, 248, 521, 148), (249, 254, 521, 148), (255, 259, 521, 148), (260, 272, 521, 148), (273, 278, 521, 148), (279, 283, 521, 148), (284, 289, 521, 148), (290, 296, 521, 148), (297, 301, 521, 148), (302, 307, 521, 148), (308, 313, 521, 148), (314, 327, 521, 148), (328, 333, 521, 148), (334, 339, 521, 148), (340, 353, 521, 148), (354, 359, 521, 148), (360, 365, 521, 148), (366, 379, 521, 148), (380, 393, 521, 148), (394, 399, 521, 148), (400, 405, 521, 148), (406, 411, 521, 148), (412, 417, 521, 148), (418, 431, 521, 148), (432, 446, 521, 148), (447, 463, 521, 148), (464, 470, 521, 148), (471, 477, 521, 148), (478, 483, 521, 148), (484, 490, 521, 148), (491, 496, 521, 148), (497, 502, 521, 148), (503, 508, 521, 148), (509, 514, 521, 148), (515, 520, 521, 148), (0, 194, 526, 152), (195, 201, 526, 152), (202, 207, 526, 152), (208, 213, 526, 152), (214, 219, 526, 152), (220, 225, 526, 152), (226, 231, 526, 152), (232, 237, 526, 152), (238, 242, 526, 152), (243, 248, 526, 152), (249, 254, 526, 152), (255, 259, 526, 152), (260, 272, 526, 152), (273, 278, 526, 152), (279, 283, 526, 152), (284, 289, 526, 152), (290, 296, 526, 152), (297, 301, 526, 152), (302, 307, 526, 152), (308, 313, 526, 152), (314, 327, 526, 152), (328, 333, 526, 152), (334, 339, 526, 152), (340, 353, 526, 152), (354, 359, 526, 152), (360, 365, 526, 152), (366, 379, 526, 152), (380, 393, 526, 152), (394, 399, 526, 152), (400, 405, 526, 152), (406, 411, 526, 152), (412, 417, 526, 152), (418, 431, 526, 152), (432, 446, 526, 152), (447, 463, 526, 152), (464, 470, 526, 152), (471, 477, 526, 152), (478, 483, 526, 152), (484, 490, 526, 152), (491, 496, 526, 152), (497, 502, 526, 152), (503, 508, 526, 152), (509, 514, 526, 152), (515, 520, 526, 152), (0, 194, 531, 154), (195, 201, 531, 154), (202, 207, 531, 154), (208, 213, 531, 154), (214, 219, 531, 154), (220, 225, 531, 154), (226, 231, 531, 154), (232, 237, 531, 154), (238, 242, 531, 154), (243, 248, 531, 154), (249, 254, 531, 154), (255, 259, 531, 154), (260, 272, 531, 154), (273, 278, 531, 154), (279, 283, 531, 154), (284, 289, 531, 154), (290, 296, 531, 154), (297, 301, 531, 154), (302, 307, 531, 154), (308, 313, 531, 154), (314, 327, 531, 154), (328, 333, 531, 154), (334, 339, 531, 154), (340, 353, 531, 154), (354, 359, 531, 154), (360, 365, 531, 154), (366, 379, 531, 154), (380, 393, 531, 154), (394, 399, 531, 154), (400, 405, 531, 154), (406, 411, 531, 154), (412, 417, 531, 154), (418, 431, 531, 154), (432, 446, 531, 154), (447, 463, 531, 154), (464, 470, 531, 154), (471, 477, 531, 154), (478, 483, 531, 154), (484, 490, 531, 154), (491, 496, 531, 154), (497, 502, 531, 154), (503, 508, 531, 154), (509, 514, 531, 154), (515, 520, 531, 154), (0, 194, 536, 156), (195, 201, 536, 156), (202, 207, 536, 156), (208, 213, 536, 156), (214, 219, 536, 156), (220, 225, 536, 156), (226, 231, 536, 156), (232, 237, 536, 156), (238, 242, 536, 156), (243, 248, 536, 156), (249, 254, 536, 156), (255, 259, 536, 156), (260, 272, 536, 156), (273, 278, 536, 156), (279, 283, 536, 156), (284, 289, 536, 156), (290, 296, 536, 156), (297, 301, 536, 156), (302, 307, 536, 156), (308, 313, 536, 156), (314, 327, 536, 156), (328, 333, 536, 156), (334, 339, 536, 156), (340, 353, 536, 156), (354, 359, 536, 156), (360, 365, 536, 156), (366, 379, 536, 156), (380, 393, 536, 156), (394, 399, 536, 156), (400, 405, 536, 156), (406, 411, 536, 156), (412, 417, 536, 156), (418, 431, 536, 156), (432, 446, 536, 156), (447, 463, 536, 156), (464, 470, 536, 156), (471, 477, 536, 156), (478, 483, 536, 156), (484, 490, 536, 156), (491, 496, 536, 156), (497, 502, 536, 156), (503, 508, 536, 156), (509, 514, 536, 156), (515, 520, 536, 156)]
def excO (o : Nat) : Option Int32 := if o = 1 then some (-102) else if o = 2 then some (-103) else if o = 3 then some (-101) else if o = 4 then some (-104) else none
def chkE (i pc ct hp : Nat) : Bool := match (tableOf hhC)[i]? with
  | some x => covers x pc && decide (x.catchType = ct) && decide (x.handlerPc = hp) && ((tableOf hhC).take i).all (fun z => !covers z pc || (decide (z.catchType ≠ ct) && decide (z.catchType = 148 ∨ z.catchType = 152 ∨ z.catchType = 154 ∨ z.catchType = 156)))
  | none => false
section
variable {p : Program} {l : Launch} {e : Env} {R : Room} {s : State} {m : MethodId} {args : Array Value} {below : List Frame} {meth : Method} {c : Code} {H : Heap} {locs : List Loc} {cells slots : Nat} {Q : State → Prop}
variable {pc : Nat} {ls : Array Slot} {rest st0 : List Value} {a : Array Value} {A : Nat → Prop} {E : Ev} {cc : ByteArray} {mc ms : Nat}
theorem lc_c1 {i : Nat} {bs' : va_W} {ce : Cell} {q9 : Addr} (hx : p.tables.exec = Jvm.exec) (hb : c.code = cL_call) (hr : meth.sig.returnType = some .int) (hml : c.maxLocals = 8) (hown : s.vm.findClass RL = some m.cls) (hg : ∀ w ∈ GA, w.before args s = true) (hlocks : meth.locks = false) (hE : EX E A s s.heap) (hN : NX s) (htb : c.exceptionTable.toList = tableOf hhC) (hchk : chkE i pc 152 526 = true) (hce : H[q9]? = some ce) (hcv : ce.vm = .none) (hcl : s.vm.findClass (XK 1) = some ce.cls) (hP : va_P E.1 vwCl bs' H) (hS : va_S A s.heap H locs) (hcells : cells ≤ mc) (hslots : slots ≤ ms) (kk : W p l e R s m args below meth c H locs cells slots (vx_MQ below (QW E (some (.int (-102))) bs' A) (fun _ _ _ => False) args s mc ms A) (F0 m 526 ls [.ref q9])) : vx_W p l e R s m args below meth c H locs cells slots (vx_MQ below (QW E (some (.int (-102))) bs' A) (fun _ _ _ => False) args s mc ms A) (F0 m pc ls rest) q9 := by
  unfold chkE at hchk
  cases hi : (tableOf hhC)[i]? with
  | none => rw [hi] at hchk; cases hchk
  | some x =>
    rw [hi] at hchk
    simp only [Bool.and_eq_true, decide_eq_true_eq] at hchk
    obtain ⟨⟨⟨h1, h2⟩, h3⟩, h4⟩ := hchk
    obtain ⟨hi1, hi2⟩ := List.getElem?_eq_some_iff.mp hi
    have hsplit : c.exceptionTable.toList = (tableOf hhC).take i ++ x :: (tableOf hhC).drop (i + 1) := by
      rw [htb, ← hi2, ← List.drop_eq_getElem_cons hi1, List.take_append_drop]
    refine vx_catch (E := XK 1) (name := "java/lang/IllegalStateException") hown _ x _ hsplit (fun z hz => ?_) (by unfold covers; simp [h1.1, h1.2]) (by rw [h2]; decide) (by rw [h2]; exact hg _ cl_L_152) (va_Nw.use rfl (hE.2.2.2.2.2.2.1 "java/lang/IllegalStateException" (by decide))) hce hcv hcl (by rw [h3]; exact kk)
    have h5 := List.all_eq_true.mp h4 z hz
    simp only [Bool.or_eq_true, Bool.not_eq_true', Bool.and_eq_true, decide_eq_true_eq] at h5
    rcases h5 with h5 | ⟨hne, h9 | h9 | h9 | h9⟩
    · exact Or.inl h5
    · right; exact ⟨by rw [h9]; decide, _, by rw [h9]; exact hg _ cl_L_148, hN.1 ("java/lang/IllegalStateException", "java/util/NoSuchElementException") (by decide)⟩
    · right; exact absurd h9 hne
    · right; exact ⟨by rw [h9]; decide, _, by rw [h9]; exact hg _ cl_L_154, hN.1 ("java/lang/IllegalStateException", "java/lang/IllegalArgumentException") (by decide)⟩
    · right; exact ⟨by rw [h9]; decide, _, by rw [h9]; exact hg _ cl_L_156, hN.1 ("java/lang/IllegalStateException", "java/lang/IndexOutOfBoundsException") (by decide)⟩
theorem lc_c2 {i : Nat} {bs' : va_W} {ce : Cell} {q9 : Addr} (hx : p.tables.exec = Jvm.exec) (hb : c.code = cL_call) (hr : meth.sig.returnType = some .int) (hml : c.maxLocals = 8) (hown : s.vm.findClass RL = some m.cls) (hg : ∀ w ∈ GA, w.before args s = true) (hlocks : meth.locks = false) (hE : EX E A s s.heap) (hN : NX s) (htb : c.exceptionTable.toList = tableOf hhC) (hchk : chkE i pc 154 531 = true) (hce : H[q9]? = some ce) (hcv : ce.vm = .none) (hcl : s.vm.findClass (XK 2) = some ce.cls) (hP : va_P E.1 vwCl bs' H) (hS : va_S A s.heap H locs) (hcells : cells ≤ mc) (hslots : slots ≤ ms) (kk : W p l e R s m args below meth c H locs cells slots (vx_MQ below (QW E (some (.int (-103))) bs' A) (fun _ _ _ => False) args s mc ms A) (F0 m 531 ls [.ref q9])) : vx_W p l e R s m args below meth c H locs cells slots (vx_MQ below (QW E (some (.int (-103))) bs' A) (fun _ _ _ => False) args s mc ms A) (F0 m pc ls rest) q9 := by
  unfold chkE at hchk
  cases hi : (tableOf hhC)[i]? with
  | none => rw [hi] at hchk; cases hchk
  | some x =>
    rw [hi] at hchk
    simp only [Bool.and_eq_true, decide_eq_true_eq] at hchk
    obtain ⟨⟨⟨h1, h2⟩, h3⟩, h4⟩ := hchk
    obtain ⟨hi1, hi2⟩ := List.getElem?_eq_some_iff.mp hi
    have hsplit : c.exceptionTable.toList = (tableOf hhC).take i ++ x :: (tableOf hhC).drop (i + 1) := by
      rw [htb, ← hi2, ← List.drop_eq_getElem_cons hi1, List.take_append_drop]
    refine vx_catch (E := XK 2) (name := "java/lang/IllegalArgumentException") hown _ x _ hsplit (fun z hz => ?_) (by unfold covers; simp [h1.1, h1.2]) (by rw [h2]; decide) (by rw [h2]; exact hg _ cl_L_154) (va_Nw.use rfl (hE.2.2.2.2.2.2.1 "java/lang/IllegalArgumentException" (by decide))) hce hcv hcl (by rw [h3]; exact kk)
    have h5 := List.all_eq_true.mp h4 z hz
    simp only [Bool.or_eq_true, Bool.not_eq_true', Bool.and_eq_true, decide_eq_true_eq] at h5
    rcases h5 with h5 | ⟨hne, h9 | h9 | h9 | h9⟩
    · exact Or.inl h5
    · right; exact ⟨by rw [h9]; decide, _, by rw [h9]; exact hg _ cl_L_148, hN.1 ("java/lang/IllegalArgumentException", "java/util/NoSuchElementException") (by decide)⟩
    · right; exact ⟨by rw [h9]; decide, _, by rw [h9]; exact hg _ cl_L_152, hN.1 ("java/lang/IllegalArgumentException", "java/lang/IllegalStateException") (by decide)⟩
    · right; exact absurd h9 hne
    · right; exact ⟨by rw [h9]; decide, _, by rw [h9]; exact hg _ cl_L_156, hN.1 ("java/lang/IllegalArgumentException", "java/lang/IndexOutOfBoundsException") (by decide)⟩
theorem lc_c3 {i : Nat} {bs' : va_W} {ce : Cell} {q9 : Addr} (hx : p.tables.exec = Jvm.exec) (hb : c.code = cL_call) (hr : meth.sig.returnType = some .int) (hml : c.maxLocals = 8) (hown : s.vm.findClass RL = some m.cls) (hg : ∀ w ∈ GA, w.before args s = true) (hlocks : meth.locks = false) (hE : EX E A s s.heap) (hN : NX s) (htb : c.exceptionTable.toList = tableOf hhC) (hchk : chkE i pc 148 521 = true) (hce : H[q9]? = some ce) (hcv : ce.vm = .none) (hcl : s.vm.findClass (XK 3) = some ce.cls) (hP : va_P E.1 vwCl bs' H) (hS : va_S A s.heap H locs) (hcells : cells ≤ mc) (hslots : slots ≤ ms) (kk : W p l e R s m args below meth c H locs cells slots (vx_MQ below (QW E (some (.int (-101))) bs' A) (fun _ _ _ => False) args s mc ms A) (F0 m 521 ls [.ref q9])) : vx_W p l e R s m args below meth c H locs cells slots (vx_MQ below (QW E (some (.int (-101))) bs' A) (fun _ _ _ => False) args s mc ms A) (F0 m pc ls rest) q9 := by
  unfold chkE at hchk
  cases hi : (tableOf hhC)[i]? with
  | none => rw [hi] at hchk; cases hchk
  | some x =>
    rw [hi] at hchk
    simp only [Bool.and_eq_true, decide_eq_true_eq] at hchk
    obtain ⟨⟨⟨h1, h2⟩, h3⟩, h4⟩ := hchk
    obtain ⟨hi1, hi2⟩ := List.getElem?_eq_some_iff.mp hi
    have hsplit : c.exceptionTable.toList = (tableOf hhC).take i ++ x :: (tableOf hhC).drop (i + 1) := by
      rw [htb, ← hi2, ← List.drop_eq_getElem_cons hi1, List.take_append_drop]
    refine vx_catch (E := XK 3) (name := "java/util/NoSuchElementException") hown _ x _ hsplit (fun z hz => ?_) (by unfold covers; simp [h1.1, h1.2]) (by rw [h2]; decide) (by rw [h2]; exact hg _ cl_L_148) (va_Nw.use rfl (hE.2.2.2.2.2.2.1 "java/util/NoSuchElementException" (by decide))) hce hcv hcl (by rw [h3]; exact kk)
    have h5 := List.all_eq_true.mp h4 z hz
    simp only [Bool.or_eq_true, Bool.not_eq_true', Bool.and_eq_true, decide_eq_true_eq] at h5
    rcases h5 with h5 | ⟨hne, h9 | h9 | h9 | h9⟩
    · exact Or.inl h5
    · right; exact absurd h9 hne
    · right; exact ⟨by rw [h9]; decide, _, by rw [h9]; exact hg _ cl_L_152, hN.1 ("java/util/NoSuchElementException", "java/lang/IllegalStateException") (by decide)⟩
    · right; exact ⟨by rw [h9]; decide, _, by rw [h9]; exact hg _ cl_L_154, hN.1 ("java/util/NoSuchElementException", "java/lang/IllegalArgumentException") (by decide)⟩
    · right; exact ⟨by rw [h9]; decide, _, by rw [h9]; exact hg _ cl_L_156, hN.1 ("java/util/NoSuchElementException", "java/lang/IndexOutOfBoundsException") (by decide)⟩
theorem lc_c4 {i : Nat} {bs' : va_W} {ce : Cell} {q9 : Addr} (hx : p.tables.exec = Jvm.exec) (hb : c.code = cL_call) (hr : meth.sig.returnType = some .int) (hml : c.maxLocals = 8) (hown : s.vm.findClass RL = some m.cls) (hg : ∀ w ∈ GA, w.before args s = true) (hlocks : meth.locks = false) (hE : EX E A s s.heap) (hN : NX s) (htb : c.exceptionTable.toList = tableOf hhC) (hchk : chkE i pc 156 536 = true) (hce : H[q9]? = some ce) (hcv : ce.vm = .none) (hcl : s.vm.findClass (XK 4) = some ce.cls) (hP : va_P E.1 vwCl bs' H) (hS : va_S A s.heap H locs) (hcells : cells ≤ mc) (hslots : slots ≤ ms) (kk : W p l e R s m args below meth c H locs cells slots (vx_MQ below (QW E (some (.int (-104))) bs' A) (fun _ _ _ => False) args s mc ms A) (F0 m 536 ls [.ref q9])) : vx_W p l e R s m args below meth c H locs cells slots (vx_MQ below (QW E (some (.int (-104))) bs' A) (fun _ _ _ => False) args s mc ms A) (F0 m pc ls rest) q9 := by
  unfold chkE at hchk
  cases hi : (tableOf hhC)[i]? with
  | none => rw [hi] at hchk; cases hchk
  | some x =>
    rw [hi] at hchk
    simp only [Bool.and_eq_true, decide_eq_true_eq] at hchk
    obtain ⟨⟨⟨h1, h2⟩, h3⟩, h4⟩ := hchk
    obtain ⟨hi1, hi2⟩ := List.getElem?_eq_some_iff.mp hi
    have hsplit : c.exceptionTable.toList = (tableOf hhC).take i ++ x :: (tableOf hhC).drop (i + 1) := by
      rw [htb, ← hi2, ← List.drop_eq_getElem_cons hi1, List.take_append_drop]
    refine vx_catch (E := XK 4) (name := "java/lang/IndexOutOfBoundsException") hown _ x _ hsplit (fun z hz => ?_) (by unfold covers; simp [h1.1, h1.2]) (by rw [h2]; decide) (by rw [h2]; exact hg _ cl_L_156) (va_Nw.use rfl (hE.2.2.2.2.2.2.1 "java/lang/IndexOutOfBoundsException" (by decide))) hce hcv hcl (by rw [h3]; exact kk)
    have h5 := List.all_eq_true.mp h4 z hz
    simp only [Bool.or_eq_true, Bool.not_eq_true', Bool.and_eq_true, decide_eq_true_eq] at h5
    rcases h5 with h5 | ⟨hne, h9 | h9 | h9 | h9⟩
    · exact Or.inl h5
    · right; exact ⟨by rw [h9]; decide, _, by rw [h9]; exact hg _ cl_L_148, hN.1 ("java/lang/IndexOutOfBoundsException", "java/util/NoSuchElementException") (by decide)⟩
    · right; exact ⟨by rw [h9]; decide, _, by rw [h9]; exact hg _ cl_L_152, hN.1 ("java/lang/IndexOutOfBoundsException", "java/lang/IllegalStateException") (by decide)⟩
    · right; exact ⟨by rw [h9]; decide, _, by rw [h9]; exact hg _ cl_L_154, hN.1 ("java/lang/IndexOutOfBoundsException", "java/lang/IllegalArgumentException") (by decide)⟩
    · right; exact absurd h9 hne
theorem lc_any {o i1 i2 i3 i4 : Nat} {x : Int32} {bs' : va_W} {ce : Cell} {q9 : Addr} (hx : p.tables.exec = Jvm.exec) (hb : c.code = cL_call) (hr : meth.sig.returnType = some .int) (hml : c.maxLocals = 8) (hown : s.vm.findClass RL = some m.cls) (hg : ∀ w ∈ GA, w.before args s = true) (hlocks : meth.locks = false) (hE : EX E A s s.heap) (hN : NX s) (htb : c.exceptionTable.toList = tableOf hhC) (c1 : chkE i1 pc 152 526 = true) (c2 : chkE i2 pc 154 531 = true) (c3 : chkE i3 pc 148 521 = true) (c4 : chkE i4 pc 156 536 = true) (ho : excO o = some x) (hce : H[q9]? = some ce) (hcv : ce.vm = .none) (hcl : s.vm.findClass (XK o) = some ce.cls) (hP : va_P E.1 vwCl bs' H) (hS : va_S A s.heap H locs) {lv : List (Nat × Value)} (hl : lv_has ls 8 lv) (hcells : cells ≤ mc) (hslots : slots ≤ ms) : vx_W p l e R s m args below meth c H locs cells slots (vx_MQ below (QW E (some (.int x)) bs' A) (fun _ _ _ => False) args s mc ms A) (F0 m pc ls rest) q9 := by
  unfold excO at ho
  by_cases h1 : o = 1
  · have ho2 := Option.some.inj (it h1 ho)
    subst h1
    subst ho2
    refine lc_c1 hx hb hr hml hown hg hlocks hE hN htb c1 hce hcv hcl hP hS hcells hslots ?_
    refine lv_astore (lv' := _) hx hb dL_call_526 hl (by decide) rfl (fun ls hl => ?_)
    refine lv_bipush (v := (-102)) hx hb dL_call_528 (by decide) ?_
    exact lm_yret hx hb hr rfl hlocks hP hS dL_call_530 hcells hslots
  have ho := ie h1 ho
  by_cases h2 : o = 2
  · have ho2 := Option.some.inj (it h2 ho)
    subst h2
    subst ho2
    refine lc_c2 hx hb hr hml hown hg hlocks hE hN htb c2 hce hcv hcl hP hS hcells hslots ?_
    refine lv_astore (lv' := _) hx hb dL_call_531 hl (by decide) rfl (fun ls hl => ?_)
    refine lv_bipush (v := (-103)) hx hb dL_call_533 (by decide) ?_
    exact lm_yret hx hb hr rfl hlocks hP hS dL_call_535 hcells hslots
  have ho := ie h2 ho
  by_cases h3 : o = 3
  · have ho2 := Option.some.inj (it h3 ho)
    subst h3
    subst ho2
    refine lc_c3 hx hb hr hml hown hg hlocks hE hN htb c3 hce hcv hcl hP hS hcells hslots ?_
    refine lv_astore (lv' := _) hx hb dL_call_521 hl (by decide) rfl (fun ls hl => ?_)
    refine lv_bipush (v := (-101)) hx hb dL_call_523 (by decide) ?_
    exact lm_yret hx hb hr rfl hlocks hP hS dL_call_525 hcells hslots
  have ho := ie h3 ho
  by_cases h4 : o = 4
  · have ho2 := Option.some.inj (it h4 ho)
    subst h4
    subst ho2
    refine lc_c4 hx hb hr hml hown hg hlocks hE hN htb c4 hce hcv hcl hP hS hcells hslots ?_
    refine lv_astore (lv' := _) hx hb dL_call_536 hl (by decide) rfl (fun ls hl => ?_)
    refine lv_bipush (v := (-104)) hx hb dL_call_538 (by decide) ?_
    exact lm_yret hx hb hr rfl hlocks hP hS dL_call_540 hcells hslots
  have ho := ie h4 ho
  cases ho
end
abbrev rm_L_call : Room := { frames := 9, cells := 3, slots := 18, locals := 195 }
def F_arm_addGuest (v : KV) (xa : Int32) (xb : Int32) : Option (Int32 × KV) := (F_X8_addGuest (v.1) (v.2.2.1) (v.2.2.2.1) (v.2.2.2.2.1) (v.2.2.2.2.2.1) (v.2.2.2.2.2.2.2.2.2.2.1) (v.2.2.2.2.2.2.2.2.2.2.2.1) (v.2.2.2.2.2.2.2.2.2.2.2.2.2.2.1) xa xb).bind (fun u => if u.1 = 0 then some (u.2.1, (v.1, v.2.1, v.2.2.1, u.2.2.1, v.2.2.2.2.1, v.2.2.2.2.2.1, v.2.2.2.2.2.2.1, v.2.2.2.2.2.2.2.1, v.2.2.2.2.2.2.2.2.1, v.2.2.2.2.2.2.2.2.2.1, u.2.2.2.1, u.2.2.2.2.1, v.2.2.2.2.2.2.2.2.2.2.2.2.1, v.2.2.2.2.2.2.2.2.2.2.2.2.2.1, u.2.2.2.2.2, v.2.2.2.2.2.2.2.2.2.2.2.2.2.2.2)) else (excO u.1).bind (fun x => some (x, (v.1, v.2.1, v.2.2.1, u.2.2.1, v.2.2.2.2.1, v.2.2.2.2.2.1, v.2.2.2.2.2.2.1, v.2.2.2.2.2.2.2.1, v.2.2.2.2.2.2.2.2.1, v.2.2.2.2.2.2.2.2.2.1, u.2.2.2.1, u.2.2.2.2.1, v.2.2.2.2.2.2.2.2.2.2.2.2.1, v.2.2.2.2.2.2.2.2.2.2.2.2.2.1, u.2.2.2.2.2, v.2.2.2.2.2.2.2.2.2.2.2.2.2.2.2))))
set_option maxRecDepth 100000 in
set_option maxHeartbeats 4000000 in
theorem arm_addGuest {p : Program} {l : Launch} {e : Env} {s : State} {m : MethodId} {below : List Frame} {meth : Method} {c : Code} {A : Nat → Prop} {ls : Array Slot} {E : Ev} (hst : l.stackTraces = false) (k : KA) (v : KV) (what xa xb xc xd xe : Int32) (r : Int32 × KV) (hf : F_arm_addGuest v xa xb = some r) (hx : p.tables.exec = Jvm.exec) (hb : c.code = cL_call) (hr : meth.sig.returnType = some .int) (hml : c.maxLocals = 8) (hown : s.vm.findClass RL = some m.cls) (hg : ∀ w ∈ GA, w.before ([.ref k.1, .int what, .int xa, .int xb, .int xc, .int xd, .int xe] : List Value).toArray s = true) (hlocks : meth.locks = false) (hE : EX E A s s.heap) (hN : NX s) (htb : c.exceptionTable.toList = tableOf hhC) (hK : KX E s) (hA : ∀ q : Nat, s.heap.size ≤ q → A q) (hP : va_P E.1 vwCl (W_K E k v) s.heap) (hD : va_D A (W_K E k v)) (hS : va_S A s.heap s.heap []) (hl : lv_has ls 8 [(0, .ref k.1), (1, .int what), (2, .int xa), (3, .int xb), (4, .int xc), (5, .int xd), (6, .int xe)]) : W p l e rm_L_call s m ([.ref k.1, .int what, .int xa, .int xb, .int xc, .int xd, .int xe] : List Value).toArray below meth c s.heap [] 0 0 (vx_MQ below (QW E (some (.int r.1)) (W_K E k r.2) A) (fun _ _ _ => False) ([.ref k.1, .int what, .int xa, .int xb, .int xc, .int xd, .int xe] : List Value).toArray s 3 (6 * 3) A) (F0 m 188 ls []) := by
  unfold F_arm_addGuest at hf
  obtain ⟨u, hu, hf⟩ := bn hf
  refine lv_aload_n hx hb dL_call_188 rfl (lv_at hl 0 rfl) ?_
  refine lv_iload_n hx hb dL_call_189 rfl (lv_at hl 2 rfl) ?_
  refine lv_iload_n hx hb dL_call_190 rfl (lv_at hl 3 rfl) ?_
  have hP : va_P E.1 vwCl (W_K E k v ++ []) s.heap := by rw [List.append_nil]; exact hP
  have hD : va_D A (W_K E k v ++ []) := by rw [List.append_nil]; exact hD
  refine lk_X (As := [.int xa, .int xb]) (rest := []) (wr := []) hx hb hml hown hg (k_X8_addGuest E l hst k v xa xb u hu) cy_X8_addGuest ml_L_7 ⟨⟨rfl, rfl⟩, Nat.le_of_ble_eq_true rfl, Nat.le_of_ble_eq_true rfl⟩ hK hE hP hD hS hA (W_Ka E k _ _) rfl rfl rfl hl.1 rfl (Nat.le_of_ble_eq_true rfl) dL_call_191 ⟨Nat.le_of_ble_eq_true rfl, Nat.le_of_ble_eq_true rfl⟩ [.int u.2.1] rfl (fun h0 H locs hP hD hS => ?_) (fun h0 H locs ce q9 hP hD hS hce hcv hcl => ?_)
  · rw [List.append_nil] at hP
    have hf := it h0 hf
    obtain rfl := Option.some.inj hf
    exact lm_yret hx hb hr rfl hlocks hP hS dL_call_194 (Nat.le_of_ble_eq_true rfl) (Nat.le_of_ble_eq_true rfl)
  · rw [List.append_nil] at hP
    have hf := ie (Nat.pos_iff_ne_zero.mp h0) hf
    obtain ⟨x, hx9, hf⟩ := bn hf
    obtain rfl := Option.some.inj hf
    exact lc_any (i1 := 44) (i2 := 88) (i3 := 0) (i4 := 132) hx hb hr hml hown hg hlocks hE hN htb (by decide +kernel) (by decide +kernel) (by decide +kernel) (by decide +kernel) hx9 hce hcv hcl hP hS hl (Nat.le_of_ble_eq_true rfl) (Nat.le_of_ble_eq_true rfl)
def F_arm_addUmbrella (v : KV) (xa : Int32) (xb : Int32) : Option (Int32 × KV) := (F_X8_addUmbrella (v.1) (v.2.2.1) (v.2.2.2.1) (v.2.2.2.2.1) (v.2.2.2.2.2.1) (v.2.2.2.2.2.2.2.2.2.2.1) (v.2.2.2.2.2.2.2.2.2.2.2.1) xa xb).bind (fun u => if u.1 = 0 then some (u.2.1, (v.1, v.2.1, v.2.2.1, v.2.2.2.1, u.2.2.1, v.2.2.2.2.2.1, v.2.2.2.2.2.2.1, v.2.2.2.2.2.2.2.1, v.2.2.2.2.2.2.2.2.1, v.2.2.2.2.2.2.2.2.2.1, u.2.2.2.1, u.2.2.2.2, v.2.2.2.2.2.2.2.2.2.2.2.2.1, v.2.2.2.2.2.2.2.2.2.2.2.2.2.1, v.2.2.2.2.2.2.2.2.2.2.2.2.2.2.1, v.2.2.2.2.2.2.2.2.2.2.2.2.2.2.2)) else (excO u.1).bind (fun x => some (x, (v.1, v.2.1, v.2.2.1, v.2.2.2.1, u.2.2.1, v.2.2.2.2.2.1, v.2.2.2.2.2.2.1, v.2.2.2.2.2.2.2.1, v.2.2.2.2.2.2.2.2.1, v.2.2.2.2.2.2.2.2.2.1, u.2.2.2.1, u.2.2.2.2, v.2.2.2.2.2.2.2.2.2.2.2.2.1, v.2.2.2.2.2.2.2.2.2.2.2.2.2.1, v.2.2.2.2.2.2.2.2.2.2.2.2.2.2.1, v.2.2.2.2.2.2.2.2.2.2.2.2.2.2.2))))
set_option maxRecDepth 100000 in
set_option maxHeartbeats 4000000 in
theorem arm_addUmbrella {p : Program} {l : Launch} {e : Env} {s : State} {m : MethodId} {below : List Frame} {meth : Method} {c : Code} {A : Nat → Prop} {ls : Array Slot} {E : Ev} (hst : l.stackTraces = false) (k : KA) (v : KV) (what xa xb xc xd xe : Int32) (r : Int32 × KV) (hf : F_arm_addUmbrella v xa xb = some r) (hx : p.tables.exec = Jvm.exec) (hb : c.code = cL_call) (hr : meth.sig.returnType = some .int) (hml : c.maxLocals = 8) (hown : s.vm.findClass RL = some m.cls) (hg : ∀ w ∈ GA, w.before ([.ref k.1, .int what, .int xa, .int xb, .int xc, .int xd, .int xe] : List Value).toArray s = true) (hlocks : meth.locks = false) (hE : EX E A s s.heap) (hN : NX s) (htb : c.exceptionTable.toList = tableOf hhC) (hK : KX E s) (hA : ∀ q : Nat, s.heap.size ≤ q → A q) (hP : va_P E.1 vwCl (W_K E k v) s.heap) (hD : va_D A (W_K E k v)) (hS : va_S A s.heap s.heap []) (hl : lv_has ls 8 [(0, .ref k.1), (1, .int what), (2, .int xa), (3, .int xb), (4, .int xc), (5, .int xd), (6, .int xe)]) : W p l e rm_L_call s m ([.ref k.1, .int what, .int xa, .int xb, .int xc, .int xd, .int xe] : List Value).toArray below meth c s.heap [] 0 0 (vx_MQ below (QW E (some (.int r.1)) (W_K E k r.2) A) (fun _ _ _ => False) ([.ref k.1, .int what, .int xa, .int xb, .int xc, .int xd, .int xe] : List Value).toArray s 3 (6 * 3) A) (F0 m 195 ls []) := by
  unfold F_arm_addUmbrella at hf
  obtain ⟨u, hu, hf⟩ := bn hf
  refine lv_aload_n hx hb dL_call_195 rfl (lv_at hl 0 rfl) ?_
  refine lv_iload_n hx hb dL_call_196 rfl (lv_at hl 2 rfl) ?_
  refine lv_iload_n hx hb dL_call_197 rfl (lv_at hl 3 rfl) ?_
  have hP : va_P E.1 vwCl (W_K E k v ++ []) s.heap := by rw [List.append_nil]; exact hP
  have hD : va_D A (W_K E k v ++ []) := by rw [List.append_nil]; exact hD
  refine lk_X (As := [.int xa, .int xb]) (rest := []) (wr := []) hx hb hml hown hg (k_X8_addUmbrella E l hst k v xa xb u hu) cy_X8_addUmbrella ml_L_13 ⟨⟨rfl, rfl⟩, Nat.le_of_ble_eq_true rfl, Nat.le_of_ble_eq_true rfl⟩ hK hE hP hD hS hA (W_Ka E k _ _) rfl rfl rfl hl.1 rfl (Nat.le_of_ble_eq_true rfl) dL_call_198 ⟨Nat.le_of_ble_eq_true rfl, Nat.le_of_ble_eq_true rfl⟩ [.int u.2.1] rfl (fun h0 H locs hP hD hS => ?_) (fun h0 H locs ce q9 hP hD hS hce hcv hcl => ?_)
  · rw [List.append_nil] at hP
    have hf := it h0 hf
    obtain rfl := Option.some.inj hf
    exact lm_yret hx hb hr rfl hlocks hP hS dL_call_201 (Nat.le_of_ble_eq_true rfl) (Nat.le_of_ble_eq_true rfl)
  · rw [List.append_nil] at hP
    have hf := ie (Nat.pos_iff_ne_zero.mp h0) hf
    obtain ⟨x, hx9, hf⟩ := bn hf
    obtain rfl := Option.some.inj hf
    exact lc_any (i1 := 45) (i2 := 89) (i3 := 1) (i4 := 133) hx hb hr hml hown hg hlocks hE hN htb (by decide +kernel) (by decide +kernel) (by decide +kernel) (by decide +kernel) hx9 hce hcv hcl hP hS hl (Nat.le_of_ble_eq_true rfl) (Nat.le_of_ble_eq_true rfl)
def F_arm_leave (v : KV) (xa : Int32) : Option (Int32 × KV) := (F_X8_leave (v.1) (v.2.2.1) (v.2.2.2.1) (v.2.2.2.2.1) (v.2.2.2.2.2.1) (v.2.2.2.2.2.2.2.2.2.2.1) (v.2.2.2.2.2.2.2.2.2.2.2.1) xa).bind (fun u => if u.1 = 0 then some (u.2.1, (v.1, v.2.1, v.2.2.1, u.2.2.1, u.2.2.2.1, u.2.2.2.2.1, v.2.2.2.2.2.2.1, v.2.2.2.2.2.2.2.1, v.2.2.2.2.2.2.2.2.1, v.2.2.2.2.2.2.2.2.2.1, u.2.2.2.2.2.1, u.2.2.2.2.2.2, v.2.2.2.2.2.2.2.2.2.2.2.2.1, v.2.2.2.2.2.2.2.2.2.2.2.2.2.1, v.2.2.2.2.2.2.2.2.2.2.2.2.2.2.1, v.2.2.2.2.2.2.2.2.2.2.2.2.2.2.2)) else (excO u.1).bind (fun x => some (x, (v.1, v.2.1, v.2.2.1, u.2.2.1, u.2.2.2.1, u.2.2.2.2.1, v.2.2.2.2.2.2.1, v.2.2.2.2.2.2.2.1, v.2.2.2.2.2.2.2.2.1, v.2.2.2.2.2.2.2.2.2.1, u.2.2.2.2.2.1, u.2.2.2.2.2.2, v.2.2.2.2.2.2.2.2.2.2.2.2.1, v.2.2.2.2.2.2.2.2.2.2.2.2.2.1, v.2.2.2.2.2.2.2.2.2.2.2.2.2.2.1, v.2.2.2.2.2.2.2.2.2.2.2.2.2.2.2))))
set_option maxRecDepth 100000 in
set_option maxHeartbeats 4000000 in
theorem arm_leave {p : Program} {l : Launch} {e : Env} {s : State} {m : MethodId} {below : List Frame} {meth : Method} {c : Code} {A : Nat → Prop} {ls : Array Slot} {E : Ev} (hst : l.stackTraces = false) (k : KA) (v : KV) (what xa xb xc xd xe : Int32) (r : Int32 × KV) (hf : F_arm_leave v xa = some r) (hx : p.tables.exec = Jvm.exec) (hb : c.code = cL_call) (hr : meth.sig.returnType = some .int) (hml : c.maxLocals = 8) (hown : s.vm.findClass RL = some m.cls) (hg : ∀ w ∈ GA, w.before ([.ref k.1, .int what, .int xa, .int xb, .int xc, .int xd, .int xe] : List Value).toArray s = true) (hlocks : meth.locks = false) (hE : EX E A s s.heap) (hN : NX s) (htb : c.exceptionTable.toList = tableOf hhC) (hK : KX E s) (hA : ∀ q : Nat, s.heap.size ≤ q → A q) (hP : va_P E.1 vwCl (W_K E k v) s.heap) (hD : va_D A (W_K E k v)) (hS : va_S A s.heap s.heap []) (hl : lv_has ls 8 [(0, .ref k.1), (1, .int what), (2, .int xa), (3, .int xb), (4, .int xc), (5, .int xd), (6, .int xe)]) : W p l e rm_L_call s m ([.ref k.1, .int what, .int xa, .int xb, .int xc, .int xd, .int xe] : List Value).toArray below meth c s.heap [] 0 0 (vx_MQ below (QW E (some (.int r.1)) (W_K E k r.2) A) (fun _ _ _ => False) ([.ref k.1, .int what, .int xa, .int xb, .int xc, .int xd, .int xe] : List Value).toArray s 3 (6 * 3) A) (F0 m 202 ls []) := by
  unfold F_arm_leave at hf
  obtain ⟨u, hu, hf⟩ := bn hf
  refine lv_aload_n hx hb dL_call_202 rfl (lv_at hl 0 rfl) ?_
  refine lv_iload_n hx hb dL_call_203 rfl (lv_at hl 2 rfl) ?_
  have hP : va_P E.1 vwCl (W_K E k v ++ []) s.heap := by rw [List.append_nil]; exact hP
  have hD : va_D A (W_K E k v ++ []) := by rw [List.append_nil]; exact hD
  refine lk_X (As := [.int xa]) (rest := []) (wr := []) hx hb hml hown hg (k_X8_leave E l hst k v xa u hu) cy_X8_leave ml_L_16 ⟨⟨rfl, rfl⟩, Nat.le_of_ble_eq_true rfl, Nat.le_of_ble_eq_true rfl⟩ hK hE hP hD hS hA (W_Ka E k _ _) rfl rfl rfl hl.1 rfl (Nat.le_of_ble_eq_true rfl) dL_call_204 ⟨Nat.le_of_ble_eq_true rfl, Nat.le_of_ble_eq_true rfl⟩ [.int u.2.1] rfl (fun h0 H locs hP hD hS => ?_) (fun h0 H locs ce q9 hP hD hS hce hcv hcl => ?_)
  · rw [List.append_nil] at hP
    have hf := it h0 hf
    obtain rfl := Option.some.inj hf
    exact lm_yret hx hb hr rfl hlocks hP hS dL_call_207 (Nat.le_of_ble_eq_true rfl) (Nat.le_of_ble_eq_true rfl)
  · rw [List.append_nil] at hP
    have hf := ie (Nat.pos_iff_ne_zero.mp h0) hf
    obtain ⟨x, hx9, hf⟩ := bn hf
    obtain rfl := Option.some.inj hf
    exact lc_any (i1 := 46) (i2 := 90) (i3 := 2) (i4 := 134) hx hb hr hml hown hg hlocks hE hN htb (by decide +kernel) (by decide +kernel) (by decide +kernel) (by decide +kernel) hx9 hce hcv hcl hP hS hl (Nat.le_of_ble_eq_true rfl) (Nat.le_of_ble_eq_true rfl)
def F_arm_comeBack (v : KV) (xa : Int32) : Option (Int32 × KV) := (F_X8_comeBack (v.1) (v.2.2.1) (v.2.2.2.1) (v.2.2.2.2.1) (v.2.2.2.2.2.1) (v.2.2.2.2.2.2.2.2.2.2.1) (v.2.2.2.2.2.2.2.2.2.2.2.1) xa).bind (fun u => if u.1 = 0 then some (u.2.1, (v.1, v.2.1, u.2.2.1, u.2.2.2.1, u.2.2.2.2.1, u.2.2.2.2.2.1, v.2.2.2.2.2.2.1, v.2.2.2.2.2.2.2.1, v.2.2.2.2.2.2.2.2.1, v.2.2.2.2.2.2.2.2.2.1, u.2.2.2.2.2.2.1, u.2.2.2.2.2.2.2, v.2.2.2.2.2.2.2.2.2.2.2.2.1, v.2.2.2.2.2.2.2.2.2.2.2.2.2.1, v.2.2.2.2.2.2.2.2.2.2.2.2.2.2.1, v.2.2.2.2.2.2.2.2.2.2.2.2.2.2.2)) else (excO u.1).bind (fun x => some (x, (v.1, v.2.1, u.2.2.1, u.2.2.2.1, u.2.2.2.2.1, u.2.2.2.2.2.1, v.2.2.2.2.2.2.1, v.2.2.2.2.2.2.2.1, v.2.2.2.2.2.2.2.2.1, v.2.2.2.2.2.2.2.2.2.1, u.2.2.2.2.2.2.1, u.2.2.2.2.2.2.2, v.2.2.2.2.2.2.2.2.2.2.2.2.1, v.2.2.2.2.2.2.2.2.2.2.2.2.2.1, v.2.2.2.2.2.2.2.2.2.2.2.2.2.2.1, v.2.2.2.2.2.2.2.2.2.2.2.2.2.2.2))))
set_option maxRecDepth 100000 in
set_option maxHeartbeats 4000000 in
theorem arm_comeBack {p : Program} {l : Launch} {e : Env} {s : State} {m : MethodId} {below : List Frame} {meth : Method} {c : Code} {A : Nat → Prop} {ls : Array Slot} {E : Ev} (hst : l.stackTraces = false) (k : KA) (v : KV) (what xa xb xc xd xe : Int32) (r : Int32 × KV) (hf : F_arm_comeBack v xa = some r) (hx : p.tables.exec = Jvm.exec) (hb : c.code = cL_call) (hr : meth.sig.returnType = some .int) (hml : c.maxLocals = 8) (hown : s.vm.findClass RL = some m.cls) (hg : ∀ w ∈ GA, w.before ([.ref k.1, .int what, .int xa, .int xb, .int xc, .int xd, .int xe] : List Value).toArray s = true) (hlocks : meth.locks = false) (hE : EX E A s s.heap) (hN : NX s) (htb : c.exceptionTable.toList = tableOf hhC) (hK : KX E s) (hA : ∀ q : Nat, s.heap.size ≤ q → A q) (hP : va_P E.1 vwCl (W_K E k v) s.heap) (hD : va_D A (W_K E k v)) (hS : va_S A s.heap s.heap []) (hl : lv_has ls 8 [(0, .ref k.1), (1, .int what), (2, .int xa), (3, .int xb), (4, .int xc), (5, .int xd), (6, .int xe)]) : W p l e rm_L_call s m ([.ref k.1, .int what, .int xa, .int xb, .int xc, .int xd, .int xe] : List Value).toArray below meth c s.heap [] 0 0 (vx_MQ below (QW E (some (.int r.1)) (W_K E k r.2) A) (fun _ _ _ => False) ([.ref k.1, .int what, .int xa, .int xb, .int xc, .int xd, .int xe] : List Value).toArray s 3 (6 * 3) A) (F0 m 208 ls []) := by
  unfold F_arm_comeBack at hf
  obtain ⟨u, hu, hf⟩ := bn hf
  refine lv_aload_n hx hb dL_call_208 rfl (lv_at hl 0 rfl) ?_
  refine lv_iload_n hx hb dL_call_209 rfl (lv_at hl 2 rfl) ?_
  have hP : va_P E.1 vwCl (W_K E k v ++ []) s.heap := by rw [List.append_nil]; exact hP
  have hD : va_D A (W_K E k v ++ []) := by rw [List.append_nil]; exact hD
  refine lk_X (As := [.int xa]) (rest := []) (wr := []) hx hb hml hown hg (k_X8_comeBack E l hst k v xa u hu) cy_X8_comeBack ml_L_20 ⟨⟨rfl, rfl⟩, Nat.le_of_ble_eq_true rfl, Nat.le_of_ble_eq_true rfl⟩ hK hE hP hD hS hA (W_Ka E k _ _) rfl rfl rfl hl.1 rfl (Nat.le_of_ble_eq_true rfl) dL_call_210 ⟨Nat.le_of_ble_eq_true rfl, Nat.le_of_ble_eq_true rfl⟩ [.int u.2.1] rfl (fun h0 H locs hP hD hS => ?_) (fun h0 H locs ce q9 hP hD hS hce hcv hcl => ?_)
  · rw [List.append_nil] at hP
    have hf := it h0 hf
    obtain rfl := Option.some.inj hf
    exact lm_yret hx hb hr rfl hlocks hP hS dL_call_213 (Nat.le_of_ble_eq_true rfl) (Nat.le_of_ble_eq_true rfl)
  · rw [List.append_nil] at hP
    have hf := ie (Nat.pos_iff_ne_zero.mp h0) hf
    obtain ⟨x, hx9, hf⟩ := bn hf
    obtain rfl := Option.some.inj hf
    exact lc_any (i1 := 47) (i2 := 91) (i3 := 3) (i4 := 135) hx hb hr hml hown hg hlocks hE hN htb (by decide +kernel) (by decide +kernel) (by decide +kernel) (by decide +kernel) hx9 hce hcv hcl hP hS hl (Nat.le_of_ble_eq_true rfl) (Nat.le_of_ble_eq_true rfl)
def F_arm_passMinutes (v : KV) (xa : Int32) : Option (Int32 × KV) := (F_X8_passMinutes (v.1) (v.2.2.1) (v.2.2.2.1) (v.2.2.2.2.1) (v.2.2.2.2.2.1) (v.2.2.2.2.2.2.2.2.2.2.1) (v.2.2.2.2.2.2.2.2.2.2.2.1) xa).bind (fun u => if u.1 = 0 then some (u.2.1, (v.1, v.2.1, u.2.2.1, u.2.2.2.1, u.2.2.2.2.1, v.2.2.2.2.2.1, v.2.2.2.2.2.2.1, v.2.2.2.2.2.2.2.1, v.2.2.2.2.2.2.2.2.1, v.2.2.2.2.2.2.2.2.2.1, u.2.2.2.2.2.1, u.2.2.2.2.2.2, v.2.2.2.2.2.2.2.2.2.2.2.2.1, v.2.2.2.2.2.2.2.2.2.2.2.2.2.1, v.2.2.2.2.2.2.2.2.2.2.2.2.2.2.1, v.2.2.2.2.2.2.2.2.2.2.2.2.2.2.2)) else (excO u.1).bind (fun x => some (x, (v.1, v.2.1, u.2.2.1, u.2.2.2.1, u.2.2.2.2.1, v.2.2.2.2.2.1, v.2.2.2.2.2.2.1, v.2.2.2.2.2.2.2.1, v.2.2.2.2.2.2.2.2.1, v.2.2.2.2.2.2.2.2.2.1, u.2.2.2.2.2.1, u.2.2.2.2.2.2, v.2.2.2.2.2.2.2.2.2.2.2.2.1, v.2.2.2.2.2.2.2.2.2.2.2.2.2.1, v.2.2.2.2.2.2.2.2.2.2.2.2.2.2.1, v.2.2.2.2.2.2.2.2.2.2.2.2.2.2.2))))
set_option maxRecDepth 100000 in
set_option maxHeartbeats 4000000 in
theorem arm_passMinutes {p : Program} {l : Launch} {e : Env} {s : State} {m : MethodId} {below : List Frame} {meth : Method} {c : Code} {A : Nat → Prop} {ls : Array Slot} {E : Ev} (hst : l.stackTraces = false) (k : KA) (v : KV) (what xa xb xc xd xe : Int32) (r : Int32 × KV) (hf : F_arm_passMinutes v xa = some r) (hx : p.tables.exec = Jvm.exec) (hb : c.code = cL_call) (hr : meth.sig.returnType = some .int) (hml : c.maxLocals = 8) (hown : s.vm.findClass RL = some m.cls) (hg : ∀ w ∈ GA, w.before ([.ref k.1, .int what, .int xa, .int xb, .int xc, .int xd, .int xe] : List Value).toArray s = true) (hlocks : meth.locks = false) (hE : EX E A s s.heap) (hN : NX s) (htb : c.exceptionTable.toList = tableOf hhC) (hK : KX E s) (hA : ∀ q : Nat, s.heap.size ≤ q → A q) (hP : va_P E.1 vwCl (W_K E k v) s.heap) (hD : va_D A (W_K E k v)) (hS : va_S A s.heap s.heap []) (hl : lv_has ls 8 [(0, .ref k.1), (1, .int what), (2, .int xa), (3, .int xb), (4, .int xc), (5, .int xd), (6, .int xe)]) : W p l e rm_L_call s m ([.ref k.1, .int what, .int xa, .int xb, .int xc, .int xd, .int xe] : List Value).toArray below meth c s.heap [] 0 0 (vx_MQ below (QW E (some (.int r.1)) (W_K E k r.2) A) (fun _ _ _ => False) ([.ref k.1, .int what, .int xa, .int xb, .int xc, .int xd, .int xe] : List Value).toArray s 3 (6 * 3) A) (F0 m 214 ls []) := by
  unfold F_arm_passMinutes at hf
  obtain ⟨u, hu, hf⟩ := bn hf
  refine lv_aload_n hx hb dL_call_214 rfl (lv_at hl 0 rfl) ?_
  refine lv_iload_n hx hb dL_call_215 rfl (lv_at hl 2 rfl) ?_
  have hP : va_P E.1 vwCl (W_K E k v ++ []) s.heap := by rw [List.append_nil]; exact hP
  have hD : va_D A (W_K E k v ++ []) := by rw [List.append_nil]; exact hD
  refine lk_X (As := [.int xa]) (rest := []) (wr := []) hx hb hml hown hg (k_X8_passMinutes E l hst k v xa u hu) cy_X8_passMinutes ml_L_23 ⟨⟨rfl, rfl⟩, Nat.le_of_ble_eq_true rfl, Nat.le_of_ble_eq_true rfl⟩ hK hE hP hD hS hA (W_Ka E k _ _) rfl rfl rfl hl.1 rfl (Nat.le_of_ble_eq_true rfl) dL_call_216 ⟨Nat.le_of_ble_eq_true rfl, Nat.le_of_ble_eq_true rfl⟩ [.int u.2.1] rfl (fun h0 H locs hP hD hS => ?_) (fun h0 H locs ce q9 hP hD hS hce hcv hcl => ?_)
  · rw [List.append_nil] at hP
    have hf := it h0 hf
    obtain rfl := Option.some.inj hf
    exact lm_yret hx hb hr rfl hlocks hP hS dL_call_219 (Nat.le_of_ble_eq_true rfl) (Nat.le_of_ble_eq_true rfl)
  · rw [List.append_nil] at hP
    have hf := ie (Nat.pos_iff_ne_zero.mp h0) hf
    obtain ⟨x, hx9, hf⟩ := bn hf
    obtain rfl := Option.some.inj hf
    exact lc_any (i1 := 48) (i2 := 92) (i3 := 4) (i4 := 136) hx hb hr hml hown hg hlocks hE hN htb (by decide +kernel) (by decide +kernel) (by decide +kernel) (by decide +kernel) hx9 hce hcv hcl hP hS hl (Nat.le_of_ble_eq_true rfl) (Nat.le_of_ble_eq_true rfl)
def F_arm_walkDog (v : KV) (xa : Int32) : Option (Int32 × KV) := (F_X8_walkDog (v.1) (v.2.2.1) (v.2.2.2.1) (v.2.2.2.2.1) (v.2.2.2.2.2.1) (v.2.2.2.2.2.2.2.2.2.2.1) (v.2.2.2.2.2.2.2.2.2.2.2.1) xa).bind (fun u => if u.1 = 0 then some (u.2.1, (v.1, v.2.1, v.2.2.1, u.2.2.1, v.2.2.2.2.1, v.2.2.2.2.2.1, v.2.2.2.2.2.2.1, v.2.2.2.2.2.2.2.1, v.2.2.2.2.2.2.2.2.1, v.2.2.2.2.2.2.2.2.2.1, u.2.2.2.1, u.2.2.2.2, v.2.2.2.2.2.2.2.2.2.2.2.2.1, v.2.2.2.2.2.2.2.2.2.2.2.2.2.1, v.2.2.2.2.2.2.2.2.2.2.2.2.2.2.1, v.2.2.2.2.2.2.2.2.2.2.2.2.2.2.2)) else (excO u.1).bind (fun x => some (x, (v.1, v.2.1, v.2.2.1, u.2.2.1, v.2.2.2.2.1, v.2.2.2.2.2.1, v.2.2.2.2.2.2.1, v.2.2.2.2.2.2.2.1, v.2.2.2.2.2.2.2.2.1, v.2.2.2.2.2.2.2.2.2.1, u.2.2.2.1, u.2.2.2.2, v.2.2.2.2.2.2.2.2.2.2.2.2.1, v.2.2.2.2.2.2.2.2.2.2.2.2.2.1, v.2.2.2.2.2.2.2.2.2.2.2.2.2.2.1, v.2.2.2.2.2.2.2.2.2.2.2.2.2.2.2))))
set_option maxRecDepth 100000 in
set_option maxHeartbeats 4000000 in
theorem arm_walkDog {p : Program} {l : Launch} {e : Env} {s : State} {m : MethodId} {below : List Frame} {meth : Method} {c : Code} {A : Nat → Prop} {ls : Array Slot} {E : Ev} (hst : l.stackTraces = false) (k : KA) (v : KV) (what xa xb xc xd xe : Int32) (r : Int32 × KV) (hf : F_arm_walkDog v xa = some r) (hx : p.tables.exec = Jvm.exec) (hb : c.code = cL_call) (hr : meth.sig.returnType = some .int) (hml : c.maxLocals = 8) (hown : s.vm.findClass RL = some m.cls) (hg : ∀ w ∈ GA, w.before ([.ref k.1, .int what, .int xa, .int xb, .int xc, .int xd, .int xe] : List Value).toArray s = true) (hlocks : meth.locks = false) (hE : EX E A s s.heap) (hN : NX s) (htb : c.exceptionTable.toList = tableOf hhC) (hK : KX E s) (hA : ∀ q : Nat, s.heap.size ≤ q → A q) (hP : va_P E.1 vwCl (W_K E k v) s.heap) (hD : va_D A (W_K E k v)) (hS : va_S A s.heap s.heap []) (hl : lv_has ls 8 [(0, .ref k.1), (1, .int what), (2, .int xa), (3, .int xb), (4, .int xc), (5, .int xd), (6, .int xe)]) : W p l e rm_L_call s m ([.ref k.1, .int what, .int xa, .int xb, .int xc, .int xd, .int xe] : List Value).toArray below meth c s.heap [] 0 0 (vx_MQ below (QW E (some (.int r.1)) (W_K E k r.2) A) (fun _ _ _ => False) ([.ref k.1, .int what, .int xa, .int xb, .int xc, .int xd, .int xe] : List Value).toArray s 3 (6 * 3) A) (F0 m 220 ls []) := by
  unfold F_arm_walkDog at hf
  obtain ⟨u, hu, hf⟩ := bn hf
  refine lv_aload_n hx hb dL_call_220 rfl (lv_at hl 0 rfl) ?_
  refine lv_iload_n hx hb dL_call_221 rfl (lv_at hl 2 rfl) ?_
  have hP : va_P E.1 vwCl (W_K E k v ++ []) s.heap := by rw [List.append_nil]; exact hP
  have hD : va_D A (W_K E k v ++ []) := by rw [List.append_nil]; exact hD
  refine lk_X (As := [.int xa]) (rest := []) (wr := []) hx hb hml hown hg (k_X8_walkDog E l hst k v xa u hu) cy_X8_walkDog ml_L_26 ⟨⟨rfl, rfl⟩, Nat.le_of_ble_eq_true rfl, Nat.le_of_ble_eq_true rfl⟩ hK hE hP hD hS hA (W_Ka E k _ _) rfl rfl rfl hl.1 rfl (Nat.le_of_ble_eq_true rfl) dL_call_222 ⟨Nat.le_of_ble_eq_true rfl, Nat.le_of_ble_eq_true rfl⟩ [.int u.2.1] rfl (fun h0 H locs hP hD hS => ?_) (fun h0 H locs ce q9 hP hD hS hce hcv hcl => ?_)
  · rw [List.append_nil] at hP
    have hf := it h0 hf
    obtain rfl := Option.some.inj hf
    exact lm_yret hx hb hr rfl hlocks hP hS dL_call_225 (Nat.le_of_ble_eq_true rfl) (Nat.le_of_ble_eq_true rfl)
  · rw [List.append_nil] at hP
    have hf := ie (Nat.pos_iff_ne_zero.mp h0) hf
    obtain ⟨x, hx9, hf⟩ := bn hf
    obtain rfl := Option.some.inj hf
    exact lc_any (i1 := 49) (i2 := 93) (i3 := 5) (i4 := 137) hx hb hr hml hown hg hlocks hE hN htb (by decide +kernel) (by decide +kernel) (by decide +kernel) (by decide +kernel) hx9 hce hcv hcl hP hS hl (Nat.le_of_ble_eq_true rfl) (Nat.le_of_ble_eq_true rfl)
def F_arm_setRain (v : KV) (xa : Int32) : Option (Int32 × KV) := (F_X8_setRain (v.1) (v.2.2.1) (v.2.2.2.1) (v.2.2.2.2.1) (v.2.2.2.2.2.1) (v.2.2.2.2.2.2.2.2.2.2.1) (v.2.2.2.2.2.2.2.2.2.2.2.1) xa).bind (fun u => if u.1 = 0 then some (u.2.1, (v.1, v.2.1, u.2.2.1, v.2.2.2.1, v.2.2.2.2.1, v.2.2.2.2.2.1, v.2.2.2.2.2.2.1, v.2.2.2.2.2.2.2.1, v.2.2.2.2.2.2.2.2.1, v.2.2.2.2.2.2.2.2.2.1, u.2.2.2.1, u.2.2.2.2, v.2.2.2.2.2.2.2.2.2.2.2.2.1, v.2.2.2.2.2.2.2.2.2.2.2.2.2.1, v.2.2.2.2.2.2.2.2.2.2.2.2.2.2.1, v.2.2.2.2.2.2.2.2.2.2.2.2.2.2.2)) else (excO u.1).bind (fun x => some (x, (v.1, v.2.1, u.2.2.1, v.2.2.2.1, v.2.2.2.2.1, v.2.2.2.2.2.1, v.2.2.2.2.2.2.1, v.2.2.2.2.2.2.2.1, v.2.2.2.2.2.2.2.2.1, v.2.2.2.2.2.2.2.2.2.1, u.2.2.2.1, u.2.2.2.2, v.2.2.2.2.2.2.2.2.2.2.2.2.1, v.2.2.2.2.2.2.2.2.2.2.2.2.2.1, v.2.2.2.2.2.2.2.2.2.2.2.2.2.2.1, v.2.2.2.2.2.2.2.2.2.2.2.2.2.2.2))))
set_option maxRecDepth 100000 in
set_option maxHeartbeats 4000000 in
theorem arm_setRain {p : Program} {l : Launch} {e : Env} {s : State} {m : MethodId} {below : List Frame} {meth : Method} {c : Code} {A : Nat → Prop} {ls : Array Slot} {E : Ev} (hst : l.stackTraces = false) (k : KA) (v : KV) (what xa xb xc xd xe : Int32) (r : Int32 × KV) (hf : F_arm_setRain v xa = some r) (hx : p.tables.exec = Jvm.exec) (hb : c.code = cL_call) (hr : meth.sig.returnType = some .int) (hml : c.maxLocals = 8) (hown : s.vm.findClass RL = some m.cls) (hg : ∀ w ∈ GA, w.before ([.ref k.1, .int what, .int xa, .int xb, .int xc, .int xd, .int xe] : List Value).toArray s = true) (hlocks : meth.locks = false) (hE : EX E A s s.heap) (hN : NX s) (htb : c.exceptionTable.toList = tableOf hhC) (hK : KX E s) (hA : ∀ q : Nat, s.heap.size ≤ q → A q) (hP : va_P E.1 vwCl (W_K E k v) s.heap) (hD : va_D A (W_K E k v)) (hS : va_S A s.heap s.heap []) (hl : lv_has ls 8 [(0, .ref k.1), (1, .int what), (2, .int xa), (3, .int xb), (4, .int xc), (5, .int xd), (6, .int xe)]) : W p l e rm_L_call s m ([.ref k.1, .int what, .int xa, .int xb, .int xc, .int xd, .int xe] : List Value).toArray below meth c s.heap [] 0 0 (vx_MQ below (QW E (some (.int r.1)) (W_K E k r.2) A) (fun _ _ _ => False) ([.ref k.1, .int what, .int xa, .int xb, .int xc, .int xd, .int xe] : List Value).toArray s 3 (6 * 3) A) (F0 m 226 ls []) := by
  unfold F_arm_setRain at hf
  obtain ⟨u, hu, hf⟩ := bn hf
  refine lv_aload_n hx hb dL_call_226 rfl (lv_at hl 0 rfl) ?_
  refine lv_iload_n hx hb dL_call_227 rfl (lv_at hl 2 rfl) ?_
  have hP : va_P E.1 vwCl (W_K E k v ++ []) s.heap := by rw [List.append_nil]; exact hP
  have hD : va_D A (W_K E k v ++ []) := by rw [List.append_nil]; exact hD
  refine lk_X (As := [.int xa]) (rest := []) (wr := []) hx hb hml hown hg (k_X8_setRain E l hst k v xa u hu) cy_X8_setRain ml_L_29 ⟨⟨rfl, rfl⟩, Nat.le_of_ble_eq_true rfl, Nat.le_of_ble_eq_true rfl⟩ hK hE hP hD hS hA (W_Ka E k _ _) rfl rfl rfl hl.1 rfl (Nat.le_of_ble_eq_true rfl) dL_call_228 ⟨Nat.le_of_ble_eq_true rfl, Nat.le_of_ble_eq_true rfl⟩ [.int u.2.1] rfl (fun h0 H locs hP hD hS => ?_) (fun h0 H locs ce q9 hP hD hS hce hcv hcl => ?_)
  · rw [List.append_nil] at hP
    have hf := it h0 hf
    obtain rfl := Option.some.inj hf
    exact lm_yret hx hb hr rfl hlocks hP hS dL_call_231 (Nat.le_of_ble_eq_true rfl) (Nat.le_of_ble_eq_true rfl)
  · rw [List.append_nil] at hP
    have hf := ie (Nat.pos_iff_ne_zero.mp h0) hf
    obtain ⟨x, hx9, hf⟩ := bn hf
    obtain rfl := Option.some.inj hf
    exact lc_any (i1 := 50) (i2 := 94) (i3 := 6) (i4 := 138) hx hb hr hml hown hg hlocks hE hN htb (by decide +kernel) (by decide +kernel) (by decide +kernel) (by decide +kernel) hx9 hce hcv hcl hP hS hl (Nat.le_of_ble_eq_true rfl) (Nat.le_of_ble_eq_true rfl)
def F_arm_setNoiseLimit (v : KV) (xa : Int32) : Option (Int32 × KV) := (F_X8_setNoiseLimit (v.1) (v.2.2.1) (v.2.2.2.1) (v.2.2.2.2.1) (v.2.2.2.2.2.1) (v.2.2.2.2.2.2.2.2.2.2.1) (v.2.2.2.2.2.2.2.2.2.2.2.1) xa).bind (fun u => if u.1 = 0 then some (u.2.1, (v.1, v.2.1, u.2.2.1, v.2.2.2.1, v.2.2.2.2.1, v.2.2.2.2.2.1, v.2.2.2.2.2.2.1, v.2.2.2.2.2.2.2.1, v.2.2.2.2.2.2.2.2.1, v.2.2.2.2.2.2.2.2.2.1, u.2.2.2.1, u.2.2.2.2, v.2.2.2.2.2.2.2.2.2.2.2.2.1, v.2.2.2.2.2.2.2.2.2.2.2.2.2.1, v.2.2.2.2.2.2.2.2.2.2.2.2.2.2.1, v.2.2.2.2.2.2.2.2.2.2.2.2.2.2.2)) else (excO u.1).bind (fun x => some (x, (v.1, v.2.1, u.2.2.1, v.2.2.2.1, v.2.2.2.2.1, v.2.2.2.2.2.1, v.2.2.2.2.2.2.1, v.2.2.2.2.2.2.2.1, v.2.2.2.2.2.2.2.2.1, v.2.2.2.2.2.2.2.2.2.1, u.2.2.2.1, u.2.2.2.2, v.2.2.2.2.2.2.2.2.2.2.2.2.1, v.2.2.2.2.2.2.2.2.2.2.2.2.2.1, v.2.2.2.2.2.2.2.2.2.2.2.2.2.2.1, v.2.2.2.2.2.2.2.2.2.2.2.2.2.2.2))))
set_option maxRecDepth 100000 in
set_option maxHeartbeats 4000000 in
theorem arm_setNoiseLimit {p : Program} {l : Launch} {e : Env} {s : State} {m : MethodId} {below : List Frame} {meth : Method} {c : Code} {A : Nat → Prop} {ls : Array Slot} {E : Ev} (hst : l.stackTraces = false) (k : KA) (v : KV) (what xa xb xc xd xe : Int32) (r : Int32 × KV) (hf : F_arm_setNoiseLimit v xa = some r) (hx : p.tables.exec = Jvm.exec) (hb : c.code = cL_call) (hr : meth.sig.returnType = some .int) (hml : c.maxLocals = 8) (hown : s.vm.findClass RL = some m.cls) (hg : ∀ w ∈ GA, w.before ([.ref k.1, .int what, .int xa, .int xb, .int xc, .int xd, .int xe] : List Value).toArray s = true) (hlocks : meth.locks = false) (hE : EX E A s s.heap) (hN : NX s) (htb : c.exceptionTable.toList = tableOf hhC) (hK : KX E s) (hA : ∀ q : Nat, s.heap.size ≤ q → A q) (hP : va_P E.1 vwCl (W_K E k v) s.heap) (hD : va_D A (W_K E k v)) (hS : va_S A s.heap s.heap []) (hl : lv_has ls 8 [(0, .ref k.1), (1, .int what), (2, .int xa), (3, .int xb), (4, .int xc), (5, .int xd), (6, .int xe)]) : W p l e rm_L_call s m ([.ref k.1, .int what, .int xa, .int xb, .int xc, .int xd, .int xe] : List Value).toArray below meth c s.heap [] 0 0 (vx_MQ below (QW E (some (.int r.1)) (W_K E k r.2) A) (fun _ _ _ => False) ([.ref k.1, .int what, .int xa, .int xb, .int xc, .int xd, .int xe] : List Value).toArray s 3 (6 * 3) A) (F0 m 232 ls []) := by
  unfold F_arm_setNoiseLimit at hf
  obtain ⟨u, hu, hf⟩ := bn hf
  refine lv_aload_n hx hb dL_call_232 rfl (lv_at hl 0 rfl) ?_
  refine lv_iload_n hx hb dL_call_233 rfl (lv_at hl 2 rfl) ?_
  have hP : va_P E.1 vwCl (W_K E k v ++ []) s.heap := by rw [List.append_nil]; exact hP
  have hD : va_D A (W_K E k v ++ []) := by rw [List.append_nil]; exact hD
  refine lk_X (As := [.int xa]) (rest := []) (wr := []) hx hb hml hown hg (k_X8_setNoiseLimit E l hst k v xa u hu) cy_X8_setNoiseLimit ml_L_32 ⟨⟨rfl, rfl⟩, Nat.le_of_ble_eq_true rfl, Nat.le_of_ble_eq_true rfl⟩ hK hE hP hD hS hA (W_Ka E k _ _) rfl rfl rfl hl.1 rfl (Nat.le_of_ble_eq_true rfl) dL_call_234 ⟨Nat.le_of_ble_eq_true rfl, Nat.le_of_ble_eq_true rfl⟩ [.int u.2.1] rfl (fun h0 H locs hP hD hS => ?_) (fun h0 H locs ce q9 hP hD hS hce hcv hcl => ?_)
  · rw [List.append_nil] at hP
    have hf := it h0 hf
    obtain rfl := Option.some.inj hf
    exact lm_yret hx hb hr rfl hlocks hP hS dL_call_237 (Nat.le_of_ble_eq_true rfl) (Nat.le_of_ble_eq_true rfl)
  · rw [List.append_nil] at hP
    have hf := ie (Nat.pos_iff_ne_zero.mp h0) hf
    obtain ⟨x, hx9, hf⟩ := bn hf
    obtain rfl := Option.some.inj hf
    exact lc_any (i1 := 51) (i2 := 95) (i3 := 7) (i4 := 139) hx hb hr hml hown hg hlocks hE hN htb (by decide +kernel) (by decide +kernel) (by decide +kernel) (by decide +kernel) hx9 hce hcv hcl hP hS hl (Nat.le_of_ble_eq_true rfl) (Nat.le_of_ble_eq_true rfl)
def F_arm_undo (v : KV)  : Option (Int32 × KV) := (F_X8_undo (v.1) (v.2.2.1) (v.2.2.2.1) (v.2.2.2.2.1) (v.2.2.2.2.2.1) (v.2.2.2.2.2.2.2.2.2.2.1) (v.2.2.2.2.2.2.2.2.2.2.2.1)).bind (fun u => if u.1 = 0 then some (u.2.1, (v.1, v.2.1, u.2.2.1, u.2.2.2.1, u.2.2.2.2.1, u.2.2.2.2.2.1, v.2.2.2.2.2.2.1, v.2.2.2.2.2.2.2.1, v.2.2.2.2.2.2.2.2.1, v.2.2.2.2.2.2.2.2.2.1, u.2.2.2.2.2.2, v.2.2.2.2.2.2.2.2.2.2.2.1, v.2.2.2.2.2.2.2.2.2.2.2.2.1, v.2.2.2.2.2.2.2.2.2.2.2.2.2.1, v.2.2.2.2.2.2.2.2.2.2.2.2.2.2.1, v.2.2.2.2.2.2.2.2.2.2.2.2.2.2.2)) else (excO u.1).bind (fun x => some (x, (v.1, v.2.1, u.2.2.1, u.2.2.2.1, u.2.2.2.2.1, u.2.2.2.2.2.1, v.2.2.2.2.2.2.1, v.2.2.2.2.2.2.2.1, v.2.2.2.2.2.2.2.2.1, v.2.2.2.2.2.2.2.2.2.1, u.2.2.2.2.2.2, v.2.2.2.2.2.2.2.2.2.2.2.1, v.2.2.2.2.2.2.2.2.2.2.2.2.1, v.2.2.2.2.2.2.2.2.2.2.2.2.2.1, v.2.2.2.2.2.2.2.2.2.2.2.2.2.2.1, v.2.2.2.2.2.2.2.2.2.2.2.2.2.2.2))))
set_option maxRecDepth 100000 in
set_option maxHeartbeats 4000000 in
theorem arm_undo {p : Program} {l : Launch} {e : Env} {s : State} {m : MethodId} {below : List Frame} {meth : Method} {c : Code} {A : Nat → Prop} {ls : Array Slot} {E : Ev} (hst : l.stackTraces = false) (k : KA) (v : KV) (what xa xb xc xd xe : Int32) (r : Int32 × KV) (hf : F_arm_undo v = some r) (hx : p.tables.exec = Jvm.exec) (hb : c.code = cL_call) (hr : meth.sig.returnType = some .int) (hml : c.maxLocals = 8) (hown : s.vm.findClass RL = some m.cls) (hg : ∀ w ∈ GA, w.before ([.ref k.1, .int what, .int xa, .int xb, .int xc, .int xd, .int xe] : List Value).toArray s = true) (hlocks : meth.locks = false) (hE : EX E A s s.heap) (hN : NX s) (htb : c.exceptionTable.toList = tableOf hhC) (hK : KX E s) (hA : ∀ q : Nat, s.heap.size ≤ q → A q) (hP : va_P E.1 vwCl (W_K E k v) s.heap) (hD : va_D A (W_K E k v)) (hS : va_S A s.heap s.heap []) (hl : lv_has ls 8 [(0, .ref k.1), (1, .int what), (2, .int xa), (3, .int xb), (4, .int xc), (5, .int xd), (6, .int xe)]) : W p l e rm_L_call s m ([.ref k.1, .int what, .int xa, .int xb, .int xc, .int xd, .int xe] : List Value).toArray below meth c s.heap [] 0 0 (vx_MQ below (QW E (some (.int r.1)) (W_K E k r.2) A) (fun _ _ _ => False) ([.ref k.1, .int what, .int xa, .int xb, .int xc, .int xd, .int xe] : List Value).toArray s 3 (6 * 3) A) (F0 m 238 ls []) := by
  unfold F_arm_undo at hf
  obtain ⟨u, hu, hf⟩ := bn hf
  refine lv_aload_n hx hb dL_call_238 rfl (lv_at hl 0 rfl) ?_
  have hP : va_P E.1 vwCl (W_K E k v ++ []) s.heap := by rw [List.append_nil]; exact hP
  have hD : va_D A (W_K E k v ++ []) := by rw [List.append_nil]; exact hD
  refine lk_X (As := []) (rest := []) (wr := []) hx hb hml hown hg (k_X8_undo E l hst k v  u hu) cy_X8_undo ml_L_35 ⟨⟨rfl, rfl⟩, Nat.le_of_ble_eq_true rfl, Nat.le_of_ble_eq_true rfl⟩ hK hE hP hD hS hA (W_Ka E k _ _) rfl rfl rfl hl.1 rfl (Nat.le_of_ble_eq_true rfl) dL_call_239 ⟨Nat.le_of_ble_eq_true rfl, Nat.le_of_ble_eq_true rfl⟩ [.int u.2.1] rfl (fun h0 H locs hP hD hS => ?_) (fun h0 H locs ce q9 hP hD hS hce hcv hcl => ?_)
  · rw [List.append_nil] at hP
    have hf := it h0 hf
    obtain rfl := Option.some.inj hf
    exact lm_yret hx hb hr rfl hlocks hP hS dL_call_242 (Nat.le_of_ble_eq_true rfl) (Nat.le_of_ble_eq_true rfl)
  · rw [List.append_nil] at hP
    have hf := ie (Nat.pos_iff_ne_zero.mp h0) hf
    obtain ⟨x, hx9, hf⟩ := bn hf
    obtain rfl := Option.some.inj hf
    exact lc_any (i1 := 52) (i2 := 96) (i3 := 8) (i4 := 140) hx hb hr hml hown hg hlocks hE hN htb (by decide +kernel) (by decide +kernel) (by decide +kernel) (by decide +kernel) hx9 hce hcv hcl hP hS hl (Nat.le_of_ble_eq_true rfl) (Nat.le_of_ble_eq_true rfl)
def F_arm_saveSnapshot (v : KV) (xa : Int32) : Option (Int32 × KV) := (F_X8_saveSnapshot (v.1) (v.2.2.1) (v.2.2.2.1) (v.2.2.2.2.1) (v.2.2.2.2.2.1) (v.2.2.2.2.2.2.2.2.2.2.2.2.1) (v.2.2.2.2.2.2.2.2.2.2.2.2.2.1) xa).bind (fun u => if u.1 = 0 then some (u.2.1, (v.1, v.2.1, v.2.2.1, v.2.2.2.1, v.2.2.2.2.1, v.2.2.2.2.2.1, v.2.2.2.2.2.2.1, v.2.2.2.2.2.2.2.1, v.2.2.2.2.2.2.2.2.1, v.2.2.2.2.2.2.2.2.2.1, v.2.2.2.2.2.2.2.2.2.2.1, v.2.2.2.2.2.2.2.2.2.2.2.1, u.2.2.1, u.2.2.2, v.2.2.2.2.2.2.2.2.2.2.2.2.2.2.1, v.2.2.2.2.2.2.2.2.2.2.2.2.2.2.2)) else (excO u.1).bind (fun x => some (x, (v.1, v.2.1, v.2.2.1, v.2.2.2.1, v.2.2.2.2.1, v.2.2.2.2.2.1, v.2.2.2.2.2.2.1, v.2.2.2.2.2.2.2.1, v.2.2.2.2.2.2.2.2.1, v.2.2.2.2.2.2.2.2.2.1, v.2.2.2.2.2.2.2.2.2.2.1, v.2.2.2.2.2.2.2.2.2.2.2.1, u.2.2.1, u.2.2.2, v.2.2.2.2.2.2.2.2.2.2.2.2.2.2.1, v.2.2.2.2.2.2.2.2.2.2.2.2.2.2.2))))
set_option maxRecDepth 100000 in
set_option maxHeartbeats 4000000 in
theorem arm_saveSnapshot {p : Program} {l : Launch} {e : Env} {s : State} {m : MethodId} {below : List Frame} {meth : Method} {c : Code} {A : Nat → Prop} {ls : Array Slot} {E : Ev} (hst : l.stackTraces = false) (k : KA) (v : KV) (what xa xb xc xd xe : Int32) (r : Int32 × KV) (hf : F_arm_saveSnapshot v xa = some r) (hx : p.tables.exec = Jvm.exec) (hb : c.code = cL_call) (hr : meth.sig.returnType = some .int) (hml : c.maxLocals = 8) (hown : s.vm.findClass RL = some m.cls) (hg : ∀ w ∈ GA, w.before ([.ref k.1, .int what, .int xa, .int xb, .int xc, .int xd, .int xe] : List Value).toArray s = true) (hlocks : meth.locks = false) (hE : EX E A s s.heap) (hN : NX s) (htb : c.exceptionTable.toList = tableOf hhC) (hK : KX E s) (hA : ∀ q : Nat, s.heap.size ≤ q → A q) (hP : va_P E.1 vwCl (W_K E k v) s.heap) (hD : va_D A (W_K E k v)) (hS : va_S A s.heap s.heap []) (hl : lv_has ls 8 [(0, .ref k.1), (1, .int what), (2, .int xa), (3, .int xb), (4, .int xc), (5, .int xd), (6, .int xe)]) : W p l e rm_L_call s m ([.ref k.1, .int what, .int xa, .int xb, .int xc, .int xd, .int xe] : List Value).toArray below meth c s.heap [] 0 0 (vx_MQ below (QW E (some (.int r.1)) (W_K E k r.2) A) (fun _ _ _ => False) ([.ref k.1, .int what, .int xa, .int xb, .int xc, .int xd, .int xe] : List Value).toArray s 3 (6 * 3) A) (F0 m 243 ls []) := by
  unfold F_arm_saveSnapshot at hf
  obtain ⟨u, hu, hf⟩ := bn hf
  refine lv_aload_n hx hb dL_call_243 rfl (lv_at hl 0 rfl) ?_
  refine lv_iload_n hx hb dL_call_244 rfl (lv_at hl 2 rfl) ?_
  have hP : va_P E.1 vwCl (W_K E k v ++ []) s.heap := by rw [List.append_nil]; exact hP
  have hD : va_D A (W_K E k v ++ []) := by rw [List.append_nil]; exact hD
  refine lk_X (As := [.int xa]) (rest := []) (wr := []) hx hb hml hown hg (k_X8_saveSnapshot E l hst k v xa u hu) cy_X8_saveSnapshot ml_L_39 ⟨⟨rfl, rfl⟩, Nat.le_of_ble_eq_true rfl, Nat.le_of_ble_eq_true rfl⟩ hK hE hP hD hS hA (W_Ka E k _ _) rfl rfl rfl hl.1 rfl (Nat.le_of_ble_eq_true rfl) dL_call_245 ⟨Nat.le_of_ble_eq_true rfl, Nat.le_of_ble_eq_true rfl⟩ [.int u.2.1] rfl (fun h0 H locs hP hD hS => ?_) (fun h0 H locs ce q9 hP hD hS hce hcv hcl => ?_)
  · rw [List.append_nil] at hP
    have hf := it h0 hf
    obtain rfl := Option.some.inj hf
    exact lm_yret hx hb hr rfl hlocks hP hS dL_call_248 (Nat.le_of_ble_eq_true rfl) (Nat.le_of_ble_eq_true rfl)
  · rw [List.append_nil] at hP
    have hf := ie (Nat.pos_iff_ne_zero.mp h0) hf
    obtain ⟨x, hx9, hf⟩ := bn hf
    obtain rfl := Option.some.inj hf
    exact lc_any (i1 := 53) (i2 := 97) (i3 := 9) (i4 := 141) hx hb hr hml hown hg hlocks hE hN htb (by decide +kernel) (by decide +kernel) (by decide +kernel) (by decide +kernel) hx9 hce hcv hcl hP hS hl (Nat.le_of_ble_eq_true rfl) (Nat.le_of_ble_eq_true rfl)
def F_arm_restoreSnapshot (v : KV) (xa : Int32) : Option (Int32 × KV) := (F_X8_restoreSnapshot (v.1) (v.2.2.1) (v.2.2.2.1) (v.2.2.2.2.1) (v.2.2.2.2.2.1) (v.2.2.2.2.2.2.2.2.2.2.1) (v.2.2.2.2.2.2.2.2.2.2.2.1) (v.2.2.2.2.2.2.2.2.2.2.2.2.1) (v.2.2.2.2.2.2.2.2.2.2.2.2.2.1) xa).bind (fun u => if u.1 = 0 then some (u.2.1, (v.1, v.2.1, u.2.2.1, u.2.2.2.1, u.2.2.2.2.1, u.2.2.2.2.2.1, v.2.2.2.2.2.2.1, v.2.2.2.2.2.2.2.1, v.2.2.2.2.2.2.2.2.1, v.2.2.2.2.2.2.2.2.2.1, u.2.2.2.2.2.2.1, u.2.2.2.2.2.2.2, v.2.2.2.2.2.2.2.2.2.2.2.2.1, v.2.2.2.2.2.2.2.2.2.2.2.2.2.1, v.2.2.2.2.2.2.2.2.2.2.2.2.2.2.1, v.2.2.2.2.2.2.2.2.2.2.2.2.2.2.2)) else (excO u.1).bind (fun x => some (x, (v.1, v.2.1, u.2.2.1, u.2.2.2.1, u.2.2.2.2.1, u.2.2.2.2.2.1, v.2.2.2.2.2.2.1, v.2.2.2.2.2.2.2.1, v.2.2.2.2.2.2.2.2.1, v.2.2.2.2.2.2.2.2.2.1, u.2.2.2.2.2.2.1, u.2.2.2.2.2.2.2, v.2.2.2.2.2.2.2.2.2.2.2.2.1, v.2.2.2.2.2.2.2.2.2.2.2.2.2.1, v.2.2.2.2.2.2.2.2.2.2.2.2.2.2.1, v.2.2.2.2.2.2.2.2.2.2.2.2.2.2.2))))
set_option maxRecDepth 100000 in
set_option maxHeartbeats 4000000 in
theorem arm_restoreSnapshot {p : Program} {l : Launch} {e : Env} {s : State} {m : MethodId} {below : List Frame} {meth : Method} {c : Code} {A : Nat → Prop} {ls : Array Slot} {E : Ev} (hst : l.stackTraces = false) (k : KA) (v : KV) (what xa xb xc xd xe : Int32) (r : Int32 × KV) (hf : F_arm_restoreSnapshot v xa = some r) (hx : p.tables.exec = Jvm.exec) (hb : c.code = cL_call) (hr : meth.sig.returnType = some .int) (hml : c.maxLocals = 8) (hown : s.vm.findClass RL = some m.cls) (hg : ∀ w ∈ GA, w.before ([.ref k.1, .int what, .int xa, .int xb, .int xc, .int xd, .int xe] : List Value).toArray s = true) (hlocks : meth.locks = false) (hE : EX E A s s.heap) (hN : NX s) (htb : c.exceptionTable.toList = tableOf hhC) (hK : KX E s) (hA : ∀ q : Nat, s.heap.size ≤ q → A q) (hP : va_P E.1 vwCl (W_K E k v) s.heap) (hD : va_D A (W_K E k v)) (hS : va_S A s.heap s.heap []) (hl : lv_has ls 8 [(0, .ref k.1), (1, .int what), (2, .int xa), (3, .int xb), (4, .int xc), (5, .int xd), (6, .int xe)]) : W p l e rm_L_call s m ([.ref k.1, .int what, .int xa, .int xb, .int xc, .int xd, .int xe] : List Value).toArray below meth c s.heap [] 0 0 (vx_MQ below (QW E (some (.int r.1)) (W_K E k r.2) A) (fun _ _ _ => False) ([.ref k.1, .int what, .int xa, .int xb, .int xc, .int xd, .int xe] : List Value).toArray s 3 (6 * 3) A) (F0 m 249 ls []) := by
  unfold F_arm_restoreSnapshot at hf
  obtain ⟨u, hu, hf⟩ := bn hf
  refine lv_aload_n hx hb dL_call_249 rfl (lv_at hl 0 rfl) ?_
  refine lv_iload_n hx hb dL_call_250 rfl (lv_at hl 2 rfl) ?_
  have hP : va_P E.1 vwCl (W_K E k v ++ []) s.heap := by rw [List.append_nil]; exact hP
  have hD : va_D A (W_K E k v ++ []) := by rw [List.append_nil]; exact hD
  refine lk_X (As := [.int xa]) (rest := []) (wr := []) hx hb hml hown hg (k_X8_restoreSnapshot E l hst k v xa u hu) cy_X8_restoreSnapshot ml_L_42 ⟨⟨rfl, rfl⟩, Nat.le_of_ble_eq_true rfl, Nat.le_of_ble_eq_true rfl⟩ hK hE hP hD hS hA (W_Ka E k _ _) rfl rfl rfl hl.1 rfl (Nat.le_of_ble_eq_true rfl) dL_call_251 ⟨Nat.le_of_ble_eq_true rfl, Nat.le_of_ble_eq_true rfl⟩ [.int u.2.1] rfl (fun h0 H locs hP hD hS => ?_) (fun h0 H locs ce q9 hP hD hS hce hcv hcl => ?_)
  · rw [List.append_nil] at hP
    have hf := it h0 hf
    obtain rfl := Option.some.inj hf
    exact lm_yret hx hb hr rfl hlocks hP hS dL_call_254 (Nat.le_of_ble_eq_true rfl) (Nat.le_of_ble_eq_true rfl)
  · rw [List.append_nil] at hP
    have hf := ie (Nat.pos_iff_ne_zero.mp h0) hf
    obtain ⟨x, hx9, hf⟩ := bn hf
    obtain rfl := Option.some.inj hf
    exact lc_any (i1 := 54) (i2 := 98) (i3 := 10) (i4 := 142) hx hb hr hml hown hg hlocks hE hN htb (by decide +kernel) (by decide +kernel) (by decide +kernel) (by decide +kernel) hx9 hce hcv hcl hP hS hl (Nat.le_of_ble_eq_true rfl) (Nat.le_of_ble_eq_true rfl)
def F_arm_load (v : KV)  : Option (Int32 × KV) := (F_X8_load (v.1) (v.2.1) (v.2.2.1) (v.2.2.2.1) (v.2.2.2.2.1) (v.2.2.2.2.2.1) (v.2.2.2.2.2.2.1) (v.2.2.2.2.2.2.2.1) (v.2.2.2.2.2.2.2.2.1) (v.2.2.2.2.2.2.2.2.2.1) (v.2.2.2.2.2.2.2.2.2.2.1) (v.2.2.2.2.2.2.2.2.2.2.2.2.1) (v.2.2.2.2.2.2.2.2.2.2.2.2.2.2.1)).bind (fun u => if u.1 = 0 then some (u.2.1, (u.2.2.1, u.2.2.2.1, u.2.2.2.2.1, u.2.2.2.2.2.1, u.2.2.2.2.2.2.1, u.2.2.2.2.2.2.2.1, u.2.2.2.2.2.2.2.2.1, u.2.2.2.2.2.2.2.2.2.1, u.2.2.2.2.2.2.2.2.2.2.1, u.2.2.2.2.2.2.2.2.2.2.2.1, u.2.2.2.2.2.2.2.2.2.2.2.2.1, v.2.2.2.2.2.2.2.2.2.2.2.1, u.2.2.2.2.2.2.2.2.2.2.2.2.2.1, v.2.2.2.2.2.2.2.2.2.2.2.2.2.1, u.2.2.2.2.2.2.2.2.2.2.2.2.2.2, v.2.2.2.2.2.2.2.2.2.2.2.2.2.2.2)) else (excO u.1).bind (fun x => some (x, (u.2.2.1, u.2.2.2.1, u.2.2.2.2.1, u.2.2.2.2.2.1, u.2.2.2.2.2.2.1, u.2.2.2.2.2.2.2.1, u.2.2.2.2.2.2.2.2.1, u.2.2.2.2.2.2.2.2.2.1, u.2.2.2.2.2.2.2.2.2.2.1, u.2.2.2.2.2.2.2.2.2.2.2.1, u.2.2.2.2.2.2.2.2.2.2.2.2.1, v.2.2.2.2.2.2.2.2.2.2.2.1, u.2.2.2.2.2.2.2.2.2.2.2.2.2.1, v.2.2.2.2.2.2.2.2.2.2.2.2.2.1, u.2.2.2.2.2.2.2.2.2.2.2.2.2.2, v.2.2.2.2.2.2.2.2.2.2.2.2.2.2.2))))
set_option maxRecDepth 100000 in
set_option maxHeartbeats 4000000 in
theorem arm_load {p : Program} {l : Launch} {e : Env} {s : State} {m : MethodId} {below : List Frame} {meth : Method} {c : Code} {A : Nat → Prop} {ls : Array Slot} {E : Ev} (hst : l.stackTraces = false) (k : KA) (v : KV) (what xa xb xc xd xe : Int32) (r : Int32 × KV) (hf : F_arm_load v = some r) (hx : p.tables.exec = Jvm.exec) (hb : c.code = cL_call) (hr : meth.sig.returnType = some .int) (hml : c.maxLocals = 8) (hown : s.vm.findClass RL = some m.cls) (hg : ∀ w ∈ GA, w.before ([.ref k.1, .int what, .int xa, .int xb, .int xc, .int xd, .int xe] : List Value).toArray s = true) (hlocks : meth.locks = false) (hE : EX E A s s.heap) (hN : NX s) (htb : c.exceptionTable.toList = tableOf hhC) (hK : KX E s) (hA : ∀ q : Nat, s.heap.size ≤ q → A q) (hP : va_P E.1 vwCl (W_K E k v) s.heap) (hD : va_D A (W_K E k v)) (hS : va_S A s.heap s.heap []) (hl : lv_has ls 8 [(0, .ref k.1), (1, .int what), (2, .int xa), (3, .int xb), (4, .int xc), (5, .int xd), (6, .int xe)]) : W p l e rm_L_call s m ([.ref k.1, .int what, .int xa, .int xb, .int xc, .int xd, .int xe] : List Value).toArray below meth c s.heap [] 0 0 (vx_MQ below (QW E (some (.int r.1)) (W_K E k r.2) A) (fun _ _ _ => False) ([.ref k.1, .int what, .int xa, .int xb, .int xc, .int xd, .int xe] : List Value).toArray s 3 (6 * 3) A) (F0 m 255 ls []) := by
  unfold F_arm_load at hf
  obtain ⟨u, hu, hf⟩ := bn hf
  refine lv_aload_n hx hb dL_call_255 rfl (lv_at hl 0 rfl) ?_
  have hP : va_P E.1 vwCl (W_K E k v ++ []) s.heap := by rw [List.append_nil]; exact hP
  have hD : va_D A (W_K E k v ++ []) := by rw [List.append_nil]; exact hD
  refine lk_X (As := []) (rest := []) (wr := []) hx hb hml hown hg (k_X8_load E l hst k v  u hu) cy_X8_load ml_L_45 ⟨⟨rfl, rfl⟩, Nat.le_of_ble_eq_true rfl, Nat.le_of_ble_eq_true rfl⟩ hK hE hP hD hS hA (W_Ka E k _ _) rfl rfl rfl hl.1 rfl (Nat.le_of_ble_eq_true rfl) dL_call_256 ⟨Nat.le_of_ble_eq_true rfl, Nat.le_of_ble_eq_true rfl⟩ [.int u.2.1] rfl (fun h0 H locs hP hD hS => ?_) (fun h0 H locs ce q9 hP hD hS hce hcv hcl => ?_)
  · rw [List.append_nil] at hP
    have hf := it h0 hf
    obtain rfl := Option.some.inj hf
    exact lm_yret hx hb hr rfl hlocks hP hS dL_call_259 (Nat.le_of_ble_eq_true rfl) (Nat.le_of_ble_eq_true rfl)
  · rw [List.append_nil] at hP
    have hf := ie (Nat.pos_iff_ne_zero.mp h0) hf
    obtain ⟨x, hx9, hf⟩ := bn hf
    obtain rfl := Option.some.inj hf
    exact lc_any (i1 := 55) (i2 := 99) (i3 := 11) (i4 := 143) hx hb hr hml hown hg hlocks hE hN htb (by decide +kernel) (by decide +kernel) (by decide +kernel) (by decide +kernel) hx9 hce hcv hcl hP hS hl (Nat.le_of_ble_eq_true rfl) (Nat.le_of_ble_eq_true rfl)
def F_arm_append (v : KV) (xa : Int32) (xb : Int32) (xc : Int32) (xd : Int32) (xe : Int32) : Option (Int32 × KV) := (F_X8_append (v.1) (v.2.2.2.2.2.2.2.2.2.2.2.2.2.2.1) xa xb xc xd xe).bind (fun u => if u.1 = 0 then some (u.2.1, (v.1, v.2.1, v.2.2.1, v.2.2.2.1, v.2.2.2.2.1, v.2.2.2.2.2.1, v.2.2.2.2.2.2.1, v.2.2.2.2.2.2.2.1, v.2.2.2.2.2.2.2.2.1, v.2.2.2.2.2.2.2.2.2.1, v.2.2.2.2.2.2.2.2.2.2.1, v.2.2.2.2.2.2.2.2.2.2.2.1, v.2.2.2.2.2.2.2.2.2.2.2.2.1, v.2.2.2.2.2.2.2.2.2.2.2.2.2.1, u.2.2, v.2.2.2.2.2.2.2.2.2.2.2.2.2.2.2)) else (excO u.1).bind (fun x => some (x, (v.1, v.2.1, v.2.2.1, v.2.2.2.1, v.2.2.2.2.1, v.2.2.2.2.2.1, v.2.2.2.2.2.2.1, v.2.2.2.2.2.2.2.1, v.2.2.2.2.2.2.2.2.1, v.2.2.2.2.2.2.2.2.2.1, v.2.2.2.2.2.2.2.2.2.2.1, v.2.2.2.2.2.2.2.2.2.2.2.1, v.2.2.2.2.2.2.2.2.2.2.2.2.1, v.2.2.2.2.2.2.2.2.2.2.2.2.2.1, u.2.2, v.2.2.2.2.2.2.2.2.2.2.2.2.2.2.2))))
set_option maxRecDepth 100000 in
set_option maxHeartbeats 4000000 in
theorem arm_append {p : Program} {l : Launch} {e : Env} {s : State} {m : MethodId} {below : List Frame} {meth : Method} {c : Code} {A : Nat → Prop} {ls : Array Slot} {E : Ev} (hst : l.stackTraces = false) (k : KA) (v : KV) (what xa xb xc xd xe : Int32) (r : Int32 × KV) (hf : F_arm_append v xa xb xc xd xe = some r) (hx : p.tables.exec = Jvm.exec) (hb : c.code = cL_call) (hr : meth.sig.returnType = some .int) (hml : c.maxLocals = 8) (hown : s.vm.findClass RL = some m.cls) (hg : ∀ w ∈ GA, w.before ([.ref k.1, .int what, .int xa, .int xb, .int xc, .int xd, .int xe] : List Value).toArray s = true) (hlocks : meth.locks = false) (hE : EX E A s s.heap) (hN : NX s) (htb : c.exceptionTable.toList = tableOf hhC) (hK : KX E s) (hA : ∀ q : Nat, s.heap.size ≤ q → A q) (hP : va_P E.1 vwCl (W_K E k v) s.heap) (hD : va_D A (W_K E k v)) (hS : va_S A s.heap s.heap []) (hl : lv_has ls 8 [(0, .ref k.1), (1, .int what), (2, .int xa), (3, .int xb), (4, .int xc), (5, .int xd), (6, .int xe)]) : W p l e rm_L_call s m ([.ref k.1, .int what, .int xa, .int xb, .int xc, .int xd, .int xe] : List Value).toArray below meth c s.heap [] 0 0 (vx_MQ below (QW E (some (.int r.1)) (W_K E k r.2) A) (fun _ _ _ => False) ([.ref k.1, .int what, .int xa, .int xb, .int xc, .int xd, .int xe] : List Value).toArray s 3 (6 * 3) A) (F0 m 260 ls []) := by
  unfold F_arm_append at hf
  obtain ⟨u, hu, hf⟩ := bn hf
  refine lv_aload_n hx hb dL_call_260 rfl (lv_at hl 0 rfl) ?_
  refine lv_iload_n hx hb dL_call_261 rfl (lv_at hl 2 rfl) ?_
  refine lv_iload_n hx hb dL_call_262 rfl (lv_at hl 3 rfl) ?_
  refine lv_iload hx hb dL_call_263 (lv_at hl 4 rfl) ?_
  refine lv_iload hx hb dL_call_265 (lv_at hl 5 rfl) ?_
  refine lv_iload hx hb dL_call_267 (lv_at hl 6 rfl) ?_
  have hP : va_P E.1 vwCl (W_K E k v ++ []) s.heap := by rw [List.append_nil]; exact hP
  have hD : va_D A (W_K E k v ++ []) := by rw [List.append_nil]; exact hD
  refine lk_X (As := [.int xa, .int xb, .int xc, .int xd, .int xe]) (rest := []) (wr := []) hx hb hml hown hg (k_X8_append E l hst k v xa xb xc xd xe u hu) cy_X8_append ml_L_48 ⟨⟨rfl, rfl⟩, Nat.le_of_ble_eq_true rfl, Nat.le_of_ble_eq_true rfl⟩ hK hE hP hD hS hA (W_Ka E k _ _) rfl rfl rfl hl.1 rfl (Nat.le_of_ble_eq_true rfl) dL_call_269 ⟨Nat.le_of_ble_eq_true rfl, Nat.le_of_ble_eq_true rfl⟩ [.int u.2.1] rfl (fun h0 H locs hP hD hS => ?_) (fun h0 H locs ce q9 hP hD hS hce hcv hcl => ?_)
  · rw [List.append_nil] at hP
    have hf := it h0 hf
    obtain rfl := Option.some.inj hf
    exact lm_yret hx hb hr rfl hlocks hP hS dL_call_272 (Nat.le_of_ble_eq_true rfl) (Nat.le_of_ble_eq_true rfl)
  · rw [List.append_nil] at hP
    have hf := ie (Nat.pos_iff_ne_zero.mp h0) hf
    obtain ⟨x, hx9, hf⟩ := bn hf
    obtain rfl := Option.some.inj hf
    exact lc_any (i1 := 56) (i2 := 100) (i3 := 12) (i4 := 144) hx hb hr hml hown hg hlocks hE hN htb (by decide +kernel) (by decide +kernel) (by decide +kernel) (by decide +kernel) hx9 hce hcv hcl hP hS hl (Nat.le_of_ble_eq_true rfl) (Nat.le_of_ble_eq_true rfl)
def F_arm_shorten (v : KV) (xa : Int32) : Option (Int32 × KV) := (F_X8_shorten (v.1) (v.2.2.2.2.2.2.2.2.2.2.2.2.2.2.1) xa).bind (fun u => if u.1 = 0 then some (u.2.1, (v.1, v.2.1, v.2.2.1, v.2.2.2.1, v.2.2.2.2.1, v.2.2.2.2.2.1, v.2.2.2.2.2.2.1, v.2.2.2.2.2.2.2.1, v.2.2.2.2.2.2.2.2.1, v.2.2.2.2.2.2.2.2.2.1, v.2.2.2.2.2.2.2.2.2.2.1, v.2.2.2.2.2.2.2.2.2.2.2.1, v.2.2.2.2.2.2.2.2.2.2.2.2.1, v.2.2.2.2.2.2.2.2.2.2.2.2.2.1, u.2.2, v.2.2.2.2.2.2.2.2.2.2.2.2.2.2.2)) else (excO u.1).bind (fun x => some (x, (v.1, v.2.1, v.2.2.1, v.2.2.2.1, v.2.2.2.2.1, v.2.2.2.2.2.1, v.2.2.2.2.2.2.1, v.2.2.2.2.2.2.2.1, v.2.2.2.2.2.2.2.2.1, v.2.2.2.2.2.2.2.2.2.1, v.2.2.2.2.2.2.2.2.2.2.1, v.2.2.2.2.2.2.2.2.2.2.2.1, v.2.2.2.2.2.2.2.2.2.2.2.2.1, v.2.2.2.2.2.2.2.2.2.2.2.2.2.1, u.2.2, v.2.2.2.2.2.2.2.2.2.2.2.2.2.2.2))))
set_option maxRecDepth 100000 in
set_option maxHeartbeats 4000000 in
theorem arm_shorten {p : Program} {l : Launch} {e : Env} {s : State} {m : MethodId} {below : List Frame} {meth : Method} {c : Code} {A : Nat → Prop} {ls : Array Slot} {E : Ev} (hst : l.stackTraces = false) (k : KA) (v : KV) (what xa xb xc xd xe : Int32) (r : Int32 × KV) (hf : F_arm_shorten v xa = some r) (hx : p.tables.exec = Jvm.exec) (hb : c.code = cL_call) (hr : meth.sig.returnType = some .int) (hml : c.maxLocals = 8) (hown : s.vm.findClass RL = some m.cls) (hg : ∀ w ∈ GA, w.before ([.ref k.1, .int what, .int xa, .int xb, .int xc, .int xd, .int xe] : List Value).toArray s = true) (hlocks : meth.locks = false) (hE : EX E A s s.heap) (hN : NX s) (htb : c.exceptionTable.toList = tableOf hhC) (hK : KX E s) (hA : ∀ q : Nat, s.heap.size ≤ q → A q) (hP : va_P E.1 vwCl (W_K E k v) s.heap) (hD : va_D A (W_K E k v)) (hS : va_S A s.heap s.heap []) (hl : lv_has ls 8 [(0, .ref k.1), (1, .int what), (2, .int xa), (3, .int xb), (4, .int xc), (5, .int xd), (6, .int xe)]) : W p l e rm_L_call s m ([.ref k.1, .int what, .int xa, .int xb, .int xc, .int xd, .int xe] : List Value).toArray below meth c s.heap [] 0 0 (vx_MQ below (QW E (some (.int r.1)) (W_K E k r.2) A) (fun _ _ _ => False) ([.ref k.1, .int what, .int xa, .int xb, .int xc, .int xd, .int xe] : List Value).toArray s 3 (6 * 3) A) (F0 m 273 ls []) := by
  unfold F_arm_shorten at hf
  obtain ⟨u, hu, hf⟩ := bn hf
  refine lv_aload_n hx hb dL_call_273 rfl (lv_at hl 0 rfl) ?_
  refine lv_iload_n hx hb dL_call_274 rfl (lv_at hl 2 rfl) ?_
  have hP : va_P E.1 vwCl (W_K E k v ++ []) s.heap := by rw [List.append_nil]; exact hP
  have hD : va_D A (W_K E k v ++ []) := by rw [List.append_nil]; exact hD
  refine lk_X (As := [.int xa]) (rest := []) (wr := []) hx hb hml hown hg (k_X8_shorten E l hst k v xa u hu) cy_X8_shorten ml_L_52 ⟨⟨rfl, rfl⟩, Nat.le_of_ble_eq_true rfl, Nat.le_of_ble_eq_true rfl⟩ hK hE hP hD hS hA (W_Ka E k _ _) rfl rfl rfl hl.1 rfl (Nat.le_of_ble_eq_true rfl) dL_call_275 ⟨Nat.le_of_ble_eq_true rfl, Nat.le_of_ble_eq_true rfl⟩ [.int u.2.1] rfl (fun h0 H locs hP hD hS => ?_) (fun h0 H locs ce q9 hP hD hS hce hcv hcl => ?_)
  · rw [List.append_nil] at hP
    have hf := it h0 hf
    obtain rfl := Option.some.inj hf
    exact lm_yret hx hb hr rfl hlocks hP hS dL_call_278 (Nat.le_of_ble_eq_true rfl) (Nat.le_of_ble_eq_true rfl)
  · rw [List.append_nil] at hP
    have hf := ie (Nat.pos_iff_ne_zero.mp h0) hf
    obtain ⟨x, hx9, hf⟩ := bn hf
    obtain rfl := Option.some.inj hf
    exact lc_any (i1 := 57) (i2 := 101) (i3 := 13) (i4 := 145) hx hb hr hml hown hg hlocks hE hN htb (by decide +kernel) (by decide +kernel) (by decide +kernel) (by decide +kernel) hx9 hce hcv hcl hP hS hl (Nat.le_of_ble_eq_true rfl) (Nat.le_of_ble_eq_true rfl)
def F_arm_errorOffset (v : KV)  : Option (Int32 × KV) := (F_X8_errorOffset (v.1)).bind (fun u => if u.1 = 0 then some (u.2, v) else (excO u.1).bind (fun x => some (x, v)))
set_option maxRecDepth 100000 in
set_option maxHeartbeats 4000000 in
theorem arm_errorOffset {p : Program} {l : Launch} {e : Env} {s : State} {m : MethodId} {below : List Frame} {meth : Method} {c : Code} {A : Nat → Prop} {ls : Array Slot} {E : Ev} (hst : l.stackTraces = false) (k : KA) (v : KV) (what xa xb xc xd xe : Int32) (r : Int32 × KV) (hf : F_arm_errorOffset v = some r) (hx : p.tables.exec = Jvm.exec) (hb : c.code = cL_call) (hr : meth.sig.returnType = some .int) (hml : c.maxLocals = 8) (hown : s.vm.findClass RL = some m.cls) (hg : ∀ w ∈ GA, w.before ([.ref k.1, .int what, .int xa, .int xb, .int xc, .int xd, .int xe] : List Value).toArray s = true) (hlocks : meth.locks = false) (hE : EX E A s s.heap) (hN : NX s) (htb : c.exceptionTable.toList = tableOf hhC) (hK : KX E s) (hA : ∀ q : Nat, s.heap.size ≤ q → A q) (hP : va_P E.1 vwCl (W_K E k v) s.heap) (hD : va_D A (W_K E k v)) (hS : va_S A s.heap s.heap []) (hl : lv_has ls 8 [(0, .ref k.1), (1, .int what), (2, .int xa), (3, .int xb), (4, .int xc), (5, .int xd), (6, .int xe)]) : W p l e rm_L_call s m ([.ref k.1, .int what, .int xa, .int xb, .int xc, .int xd, .int xe] : List Value).toArray below meth c s.heap [] 0 0 (vx_MQ below (QW E (some (.int r.1)) (W_K E k r.2) A) (fun _ _ _ => False) ([.ref k.1, .int what, .int xa, .int xb, .int xc, .int xd, .int xe] : List Value).toArray s 3 (6 * 3) A) (F0 m 279 ls []) := by
  unfold F_arm_errorOffset at hf
  obtain ⟨u, hu, hf⟩ := bn hf
  refine lv_aload_n hx hb dL_call_279 rfl (lv_at hl 0 rfl) ?_
  have hP : va_P E.1 vwCl (W_K E k v ++ []) s.heap := by rw [List.append_nil]; exact hP
  have hD : va_D A (W_K E k v ++ []) := by rw [List.append_nil]; exact hD
  refine lk_X (As := []) (rest := []) (wr := []) hx hb hml hown hg (k_X8_errorOffset E l hst k v  u hu) cy_X8_errorOffset ml_L_55 ⟨⟨rfl, rfl⟩, Nat.le_of_ble_eq_true rfl, Nat.le_of_ble_eq_true rfl⟩ hK hE hP hD hS hA (W_Ka E k _ _) rfl rfl rfl hl.1 rfl (Nat.le_of_ble_eq_true rfl) dL_call_280 ⟨Nat.le_of_ble_eq_true rfl, Nat.le_of_ble_eq_true rfl⟩ [.int u.2] rfl (fun h0 H locs hP hD hS => ?_) (fun h0 H locs ce q9 hP hD hS hce hcv hcl => ?_)
  · rw [List.append_nil] at hP
    have hf := it h0 hf
    obtain rfl := Option.some.inj hf
    exact lm_yret hx hb hr rfl hlocks hP hS dL_call_283 (Nat.le_of_ble_eq_true rfl) (Nat.le_of_ble_eq_true rfl)
  · rw [List.append_nil] at hP
    have hf := ie (Nat.pos_iff_ne_zero.mp h0) hf
    obtain ⟨x, hx9, hf⟩ := bn hf
    obtain rfl := Option.some.inj hf
    exact lc_any (i1 := 58) (i2 := 102) (i3 := 14) (i4 := 146) hx hb hr hml hown hg hlocks hE hN htb (by decide +kernel) (by decide +kernel) (by decide +kernel) (by decide +kernel) hx9 hce hcv hcl hP hS hl (Nat.le_of_ble_eq_true rfl) (Nat.le_of_ble_eq_true rfl)
def F_arm_nameLength (v : KV) (xa : Int32) : Option (Int32 × KV) := (F_X8_nameLength (v.1) (v.2.2.1) (v.2.2.2.1) xa).bind (fun u => if u.1 = 0 then some (u.2, v) else (excO u.1).bind (fun x => some (x, v)))
set_option maxRecDepth 100000 in
set_option maxHeartbeats 4000000 in
theorem arm_nameLength {p : Program} {l : Launch} {e : Env} {s : State} {m : MethodId} {below : List Frame} {meth : Method} {c : Code} {A : Nat → Prop} {ls : Array Slot} {E : Ev} (hst : l.stackTraces = false) (k : KA) (v : KV) (what xa xb xc xd xe : Int32) (r : Int32 × KV) (hf : F_arm_nameLength v xa = some r) (hx : p.tables.exec = Jvm.exec) (hb : c.code = cL_call) (hr : meth.sig.returnType = some .int) (hml : c.maxLocals = 8) (hown : s.vm.findClass RL = some m.cls) (hg : ∀ w ∈ GA, w.before ([.ref k.1, .int what, .int xa, .int xb, .int xc, .int xd, .int xe] : List Value).toArray s = true) (hlocks : meth.locks = false) (hE : EX E A s s.heap) (hN : NX s) (htb : c.exceptionTable.toList = tableOf hhC) (hK : KX E s) (hA : ∀ q : Nat, s.heap.size ≤ q → A q) (hP : va_P E.1 vwCl (W_K E k v) s.heap) (hD : va_D A (W_K E k v)) (hS : va_S A s.heap s.heap []) (hl : lv_has ls 8 [(0, .ref k.1), (1, .int what), (2, .int xa), (3, .int xb), (4, .int xc), (5, .int xd), (6, .int xe)]) : W p l e rm_L_call s m ([.ref k.1, .int what, .int xa, .int xb, .int xc, .int xd, .int xe] : List Value).toArray below meth c s.heap [] 0 0 (vx_MQ below (QW E (some (.int r.1)) (W_K E k r.2) A) (fun _ _ _ => False) ([.ref k.1, .int what, .int xa, .int xb, .int xc, .int xd, .int xe] : List Value).toArray s 3 (6 * 3) A) (F0 m 284 ls []) := by
  unfold F_arm_nameLength at hf
  obtain ⟨u, hu, hf⟩ := bn hf
  refine lv_aload_n hx hb dL_call_284 rfl (lv_at hl 0 rfl) ?_
  refine lv_iload_n hx hb dL_call_285 rfl (lv_at hl 2 rfl) ?_
  have hP : va_P E.1 vwCl (W_K E k v ++ []) s.heap := by rw [List.append_nil]; exact hP
  have hD : va_D A (W_K E k v ++ []) := by rw [List.append_nil]; exact hD
  refine lk_X (As := [.int xa]) (rest := []) (wr := []) hx hb hml hown hg (k_X8_nameLength E l hst k v xa u hu) cy_X8_nameLength ml_L_58 ⟨⟨rfl, rfl⟩, Nat.le_of_ble_eq_true rfl, Nat.le_of_ble_eq_true rfl⟩ hK hE hP hD hS hA (W_Ka E k _ _) rfl rfl rfl hl.1 rfl (Nat.le_of_ble_eq_true rfl) dL_call_286 ⟨Nat.le_of_ble_eq_true rfl, Nat.le_of_ble_eq_true rfl⟩ [.int u.2] rfl (fun h0 H locs hP hD hS => ?_) (fun h0 H locs ce q9 hP hD hS hce hcv hcl => ?_)
  · rw [List.append_nil] at hP
    have hf := it h0 hf
    obtain rfl := Option.some.inj hf
    exact lm_yret hx hb hr rfl hlocks hP hS dL_call_289 (Nat.le_of_ble_eq_true rfl) (Nat.le_of_ble_eq_true rfl)
  · rw [List.append_nil] at hP
    have hf := ie (Nat.pos_iff_ne_zero.mp h0) hf
    obtain ⟨x, hx9, hf⟩ := bn hf
    obtain rfl := Option.some.inj hf
    exact lc_any (i1 := 59) (i2 := 103) (i3 := 15) (i4 := 147) hx hb hr hml hown hg hlocks hE hN htb (by decide +kernel) (by decide +kernel) (by decide +kernel) (by decide +kernel) hx9 hce hcv hcl hP hS hl (Nat.le_of_ble_eq_true rfl) (Nat.le_of_ble_eq_true rfl)
def F_arm_nameByte (v : KV) (xa : Int32) (xb : Int32) : Option (Int32 × KV) := (F_X8_nameByte (v.1) (v.2.2.1) (v.2.2.2.1) xa xb).bind (fun u => if u.1 = 0 then some (u.2, v) else (excO u.1).bind (fun x => some (x, v)))
set_option maxRecDepth 100000 in
set_option maxHeartbeats 4000000 in
theorem arm_nameByte {p : Program} {l : Launch} {e : Env} {s : State} {m : MethodId} {below : List Frame} {meth : Method} {c : Code} {A : Nat → Prop} {ls : Array Slot} {E : Ev} (hst : l.stackTraces = false) (k : KA) (v : KV) (what xa xb xc xd xe : Int32) (r : Int32 × KV) (hf : F_arm_nameByte v xa xb = some r) (hx : p.tables.exec = Jvm.exec) (hb : c.code = cL_call) (hr : meth.sig.returnType = some .int) (hml : c.maxLocals = 8) (hown : s.vm.findClass RL = some m.cls) (hg : ∀ w ∈ GA, w.before ([.ref k.1, .int what, .int xa, .int xb, .int xc, .int xd, .int xe] : List Value).toArray s = true) (hlocks : meth.locks = false) (hE : EX E A s s.heap) (hN : NX s) (htb : c.exceptionTable.toList = tableOf hhC) (hK : KX E s) (hA : ∀ q : Nat, s.heap.size ≤ q → A q) (hP : va_P E.1 vwCl (W_K E k v) s.heap) (hD : va_D A (W_K E k v)) (hS : va_S A s.heap s.heap []) (hl : lv_has ls 8 [(0, .ref k.1), (1, .int what), (2, .int xa), (3, .int xb), (4, .int xc), (5, .int xd), (6, .int xe)]) : W p l e rm_L_call s m ([.ref k.1, .int what, .int xa, .int xb, .int xc, .int xd, .int xe] : List Value).toArray below meth c s.heap [] 0 0 (vx_MQ below (QW E (some (.int r.1)) (W_K E k r.2) A) (fun _ _ _ => False) ([.ref k.1, .int what, .int xa, .int xb, .int xc, .int xd, .int xe] : List Value).toArray s 3 (6 * 3) A) (F0 m 290 ls []) := by
  unfold F_arm_nameByte at hf
  obtain ⟨u, hu, hf⟩ := bn hf
  refine lv_aload_n hx hb dL_call_290 rfl (lv_at hl 0 rfl) ?_
  refine lv_iload_n hx hb dL_call_291 rfl (lv_at hl 2 rfl) ?_
  refine lv_iload_n hx hb dL_call_292 rfl (lv_at hl 3 rfl) ?_
  have hP : va_P E.1 vwCl (W_K E k v ++ []) s.heap := by rw [List.append_nil]; exact hP
  have hD : va_D A (W_K E k v ++ []) := by rw [List.append_nil]; exact hD
  refine lk_X (As := [.int xa, .int xb]) (rest := []) (wr := []) hx hb hml hown hg (k_X8_nameByte E l hst k v xa xb u hu) cy_X8_nameByte ml_L_61 ⟨⟨rfl, rfl⟩, Nat.le_of_ble_eq_true rfl, Nat.le_of_ble_eq_true rfl⟩ hK hE hP hD hS hA (W_Ka E k _ _) rfl rfl rfl hl.1 rfl (Nat.le_of_ble_eq_true rfl) dL_call_293 ⟨Nat.le_of_ble_eq_true rfl, Nat.le_of_ble_eq_true rfl⟩ [.int u.2] rfl (fun h0 H locs hP hD hS => ?_) (fun h0 H locs ce q9 hP hD hS hce hcv hcl => ?_)
  · rw [List.append_nil] at hP
    have hf := it h0 hf
    obtain rfl := Option.some.inj hf
    exact lm_yret hx hb hr rfl hlocks hP hS dL_call_296 (Nat.le_of_ble_eq_true rfl) (Nat.le_of_ble_eq_true rfl)
  · rw [List.append_nil] at hP
    have hf := ie (Nat.pos_iff_ne_zero.mp h0) hf
    obtain ⟨x, hx9, hf⟩ := bn hf
    obtain rfl := Option.some.inj hf
    exact lc_any (i1 := 60) (i2 := 104) (i3 := 16) (i4 := 148) hx hb hr hml hown hg hlocks hE hN htb (by decide +kernel) (by decide +kernel) (by decide +kernel) (by decide +kernel) hx9 hce hcv hcl hP hS hl (Nat.le_of_ble_eq_true rfl) (Nat.le_of_ble_eq_true rfl)
def F_arm_guestOfInput (v : KV)  : Option (Int32 × KV) := (F_X8_guestOfInput (v.1) (v.2.2.1) (v.2.2.2.1) (v.2.2.2.2.2.2.2.2.2.2.2.2.2.2.1)).bind (fun u => if u.1 = 0 then some (u.2, v) else (excO u.1).bind (fun x => some (x, v)))
set_option maxRecDepth 100000 in
set_option maxHeartbeats 4000000 in
theorem arm_guestOfInput {p : Program} {l : Launch} {e : Env} {s : State} {m : MethodId} {below : List Frame} {meth : Method} {c : Code} {A : Nat → Prop} {ls : Array Slot} {E : Ev} (hst : l.stackTraces = false) (k : KA) (v : KV) (what xa xb xc xd xe : Int32) (r : Int32 × KV) (hf : F_arm_guestOfInput v = some r) (hx : p.tables.exec = Jvm.exec) (hb : c.code = cL_call) (hr : meth.sig.returnType = some .int) (hml : c.maxLocals = 8) (hown : s.vm.findClass RL = some m.cls) (hg : ∀ w ∈ GA, w.before ([.ref k.1, .int what, .int xa, .int xb, .int xc, .int xd, .int xe] : List Value).toArray s = true) (hlocks : meth.locks = false) (hE : EX E A s s.heap) (hN : NX s) (htb : c.exceptionTable.toList = tableOf hhC) (hK : KX E s) (hA : ∀ q : Nat, s.heap.size ≤ q → A q) (hP : va_P E.1 vwCl (W_K E k v) s.heap) (hD : va_D A (W_K E k v)) (hS : va_S A s.heap s.heap []) (hl : lv_has ls 8 [(0, .ref k.1), (1, .int what), (2, .int xa), (3, .int xb), (4, .int xc), (5, .int xd), (6, .int xe)]) : W p l e rm_L_call s m ([.ref k.1, .int what, .int xa, .int xb, .int xc, .int xd, .int xe] : List Value).toArray below meth c s.heap [] 0 0 (vx_MQ below (QW E (some (.int r.1)) (W_K E k r.2) A) (fun _ _ _ => False) ([.ref k.1, .int what, .int xa, .int xb, .int xc, .int xd, .int xe] : List Value).toArray s 3 (6 * 3) A) (F0 m 297 ls []) := by
  unfold F_arm_guestOfInput at hf
  obtain ⟨u, hu, hf⟩ := bn hf
  refine lv_aload_n hx hb dL_call_297 rfl (lv_at hl 0 rfl) ?_
  have hP : va_P E.1 vwCl (W_K E k v ++ []) s.heap := by rw [List.append_nil]; exact hP
  have hD : va_D A (W_K E k v ++ []) := by rw [List.append_nil]; exact hD
  refine lk_X (As := []) (rest := []) (wr := []) hx hb hml hown hg (k_X8_guestOfInput E l hst k v  u hu) cy_X8_guestOfInput ml_L_64 ⟨⟨rfl, rfl⟩, Nat.le_of_ble_eq_true rfl, Nat.le_of_ble_eq_true rfl⟩ hK hE hP hD hS hA (W_Ka E k _ _) rfl rfl rfl hl.1 rfl (Nat.le_of_ble_eq_true rfl) dL_call_298 ⟨Nat.le_of_ble_eq_true rfl, Nat.le_of_ble_eq_true rfl⟩ [.int u.2] rfl (fun h0 H locs hP hD hS => ?_) (fun h0 H locs ce q9 hP hD hS hce hcv hcl => ?_)
  · rw [List.append_nil] at hP
    have hf := it h0 hf
    obtain rfl := Option.some.inj hf
    exact lm_yret hx hb hr rfl hlocks hP hS dL_call_301 (Nat.le_of_ble_eq_true rfl) (Nat.le_of_ble_eq_true rfl)
  · rw [List.append_nil] at hP
    have hf := ie (Nat.pos_iff_ne_zero.mp h0) hf
    obtain ⟨x, hx9, hf⟩ := bn hf
    obtain rfl := Option.some.inj hf
    exact lc_any (i1 := 61) (i2 := 105) (i3 := 17) (i4 := 149) hx hb hr hml hown hg hlocks hE hN htb (by decide +kernel) (by decide +kernel) (by decide +kernel) (by decide +kernel) hx9 hce hcv hcl hP hS hl (Nat.le_of_ble_eq_true rfl) (Nat.le_of_ble_eq_true rfl)
def F_arm_generosity (v : KV) (xa : Int32) : Option (Int32 × KV) := (F_X8_generosity (v.1) (v.2.2.1) (v.2.2.2.1) xa).bind (fun u => if u.1 = 0 then some (u.2, v) else (excO u.1).bind (fun x => some (x, v)))
set_option maxRecDepth 100000 in
set_option maxHeartbeats 4000000 in
theorem arm_generosity {p : Program} {l : Launch} {e : Env} {s : State} {m : MethodId} {below : List Frame} {meth : Method} {c : Code} {A : Nat → Prop} {ls : Array Slot} {E : Ev} (hst : l.stackTraces = false) (k : KA) (v : KV) (what xa xb xc xd xe : Int32) (r : Int32 × KV) (hf : F_arm_generosity v xa = some r) (hx : p.tables.exec = Jvm.exec) (hb : c.code = cL_call) (hr : meth.sig.returnType = some .int) (hml : c.maxLocals = 8) (hown : s.vm.findClass RL = some m.cls) (hg : ∀ w ∈ GA, w.before ([.ref k.1, .int what, .int xa, .int xb, .int xc, .int xd, .int xe] : List Value).toArray s = true) (hlocks : meth.locks = false) (hE : EX E A s s.heap) (hN : NX s) (htb : c.exceptionTable.toList = tableOf hhC) (hK : KX E s) (hA : ∀ q : Nat, s.heap.size ≤ q → A q) (hP : va_P E.1 vwCl (W_K E k v) s.heap) (hD : va_D A (W_K E k v)) (hS : va_S A s.heap s.heap []) (hl : lv_has ls 8 [(0, .ref k.1), (1, .int what), (2, .int xa), (3, .int xb), (4, .int xc), (5, .int xd), (6, .int xe)]) : W p l e rm_L_call s m ([.ref k.1, .int what, .int xa, .int xb, .int xc, .int xd, .int xe] : List Value).toArray below meth c s.heap [] 0 0 (vx_MQ below (QW E (some (.int r.1)) (W_K E k r.2) A) (fun _ _ _ => False) ([.ref k.1, .int what, .int xa, .int xb, .int xc, .int xd, .int xe] : List Value).toArray s 3 (6 * 3) A) (F0 m 302 ls []) := by
  unfold F_arm_generosity at hf
  obtain ⟨u, hu, hf⟩ := bn hf
  refine lv_aload_n hx hb dL_call_302 rfl (lv_at hl 0 rfl) ?_
  refine lv_iload_n hx hb dL_call_303 rfl (lv_at hl 2 rfl) ?_
  have hP : va_P E.1 vwCl (W_K E k v ++ []) s.heap := by rw [List.append_nil]; exact hP
  have hD : va_D A (W_K E k v ++ []) := by rw [List.append_nil]; exact hD
  refine lk_X (As := [.int xa]) (rest := []) (wr := []) hx hb hml hown hg (k_X8_generosity E l hst k v xa u hu) cy_X8_generosity ml_L_67 ⟨⟨rfl, rfl⟩, Nat.le_of_ble_eq_true rfl, Nat.le_of_ble_eq_true rfl⟩ hK hE hP hD hS hA (W_Ka E k _ _) rfl rfl rfl hl.1 rfl (Nat.le_of_ble_eq_true rfl) dL_call_304 ⟨Nat.le_of_ble_eq_true rfl, Nat.le_of_ble_eq_true rfl⟩ [.int u.2] rfl (fun h0 H locs hP hD hS => ?_) (fun h0 H locs ce q9 hP hD hS hce hcv hcl => ?_)
  · rw [List.append_nil] at hP
    have hf := it h0 hf
    obtain rfl := Option.some.inj hf
    exact lm_yret hx hb hr rfl hlocks hP hS dL_call_307 (Nat.le_of_ble_eq_true rfl) (Nat.le_of_ble_eq_true rfl)
  · rw [List.append_nil] at hP
    have hf := ie (Nat.pos_iff_ne_zero.mp h0) hf
    obtain ⟨x, hx9, hf⟩ := bn hf
    obtain rfl := Option.some.inj hf
    exact lc_any (i1 := 62) (i2 := 106) (i3 := 18) (i4 := 150) hx hb hr hml hown hg hlocks hE hN htb (by decide +kernel) (by decide +kernel) (by decide +kernel) (by decide +kernel) hx9 hce hcv hcl hP hS hl (Nat.le_of_ble_eq_true rfl) (Nat.le_of_ble_eq_true rfl)
def F_arm_bark (v : KV) (xa : Int32) : Option (Int32 × KV) := (F_X8_bark (v.1) (v.2.2.1) (v.2.2.2.1) xa).bind (fun u => if u.1 = 0 then some (u.2, v) else (excO u.1).bind (fun x => some (x, v)))
set_option maxRecDepth 100000 in
set_option maxHeartbeats 4000000 in
theorem arm_bark {p : Program} {l : Launch} {e : Env} {s : State} {m : MethodId} {below : List Frame} {meth : Method} {c : Code} {A : Nat → Prop} {ls : Array Slot} {E : Ev} (hst : l.stackTraces = false) (k : KA) (v : KV) (what xa xb xc xd xe : Int32) (r : Int32 × KV) (hf : F_arm_bark v xa = some r) (hx : p.tables.exec = Jvm.exec) (hb : c.code = cL_call) (hr : meth.sig.returnType = some .int) (hml : c.maxLocals = 8) (hown : s.vm.findClass RL = some m.cls) (hg : ∀ w ∈ GA, w.before ([.ref k.1, .int what, .int xa, .int xb, .int xc, .int xd, .int xe] : List Value).toArray s = true) (hlocks : meth.locks = false) (hE : EX E A s s.heap) (hN : NX s) (htb : c.exceptionTable.toList = tableOf hhC) (hK : KX E s) (hA : ∀ q : Nat, s.heap.size ≤ q → A q) (hP : va_P E.1 vwCl (W_K E k v) s.heap) (hD : va_D A (W_K E k v)) (hS : va_S A s.heap s.heap []) (hl : lv_has ls 8 [(0, .ref k.1), (1, .int what), (2, .int xa), (3, .int xb), (4, .int xc), (5, .int xd), (6, .int xe)]) : W p l e rm_L_call s m ([.ref k.1, .int what, .int xa, .int xb, .int xc, .int xd, .int xe] : List Value).toArray below meth c s.heap [] 0 0 (vx_MQ below (QW E (some (.int r.1)) (W_K E k r.2) A) (fun _ _ _ => False) ([.ref k.1, .int what, .int xa, .int xb, .int xc, .int xd, .int xe] : List Value).toArray s 3 (6 * 3) A) (F0 m 308 ls []) := by
  unfold F_arm_bark at hf
  obtain ⟨u, hu, hf⟩ := bn hf
  refine lv_aload_n hx hb dL_call_308 rfl (lv_at hl 0 rfl) ?_
  refine lv_iload_n hx hb dL_call_309 rfl (lv_at hl 2 rfl) ?_
  have hP : va_P E.1 vwCl (W_K E k v ++ []) s.heap := by rw [List.append_nil]; exact hP
  have hD : va_D A (W_K E k v ++ []) := by rw [List.append_nil]; exact hD
  refine lk_X (As := [.int xa]) (rest := []) (wr := []) hx hb hml hown hg (k_X8_bark E l hst k v xa u hu) cy_X8_bark ml_L_70 ⟨⟨rfl, rfl⟩, Nat.le_of_ble_eq_true rfl, Nat.le_of_ble_eq_true rfl⟩ hK hE hP hD hS hA (W_Ka E k _ _) rfl rfl rfl hl.1 rfl (Nat.le_of_ble_eq_true rfl) dL_call_310 ⟨Nat.le_of_ble_eq_true rfl, Nat.le_of_ble_eq_true rfl⟩ [.int u.2] rfl (fun h0 H locs hP hD hS => ?_) (fun h0 H locs ce q9 hP hD hS hce hcv hcl => ?_)
  · rw [List.append_nil] at hP
    have hf := it h0 hf
    obtain rfl := Option.some.inj hf
    exact lm_yret hx hb hr rfl hlocks hP hS dL_call_313 (Nat.le_of_ble_eq_true rfl) (Nat.le_of_ble_eq_true rfl)
  · rw [List.append_nil] at hP
    have hf := ie (Nat.pos_iff_ne_zero.mp h0) hf
    obtain ⟨x, hx9, hf⟩ := bn hf
    obtain rfl := Option.some.inj hf
    exact lc_any (i1 := 63) (i2 := 107) (i3 := 19) (i4 := 151) hx hb hr hml hown hg hlocks hE hN htb (by decide +kernel) (by decide +kernel) (by decide +kernel) (by decide +kernel) hx9 hce hcv hcl hP hS hl (Nat.le_of_ble_eq_true rfl) (Nat.le_of_ble_eq_true rfl)
def F_arm_isOut (v : KV) (xa : Int32) : Option (Int32 × KV) := (F_X8_isOut (v.1) (v.2.2.1) (v.2.2.2.1) xa).bind (fun u => if u.1 = 0 then some ((if u.2 = 0 then 0 else 1), v) else (excO u.1).bind (fun x => some (x, v)))
set_option maxRecDepth 100000 in
set_option maxHeartbeats 4000000 in
theorem arm_isOut {p : Program} {l : Launch} {e : Env} {s : State} {m : MethodId} {below : List Frame} {meth : Method} {c : Code} {A : Nat → Prop} {ls : Array Slot} {E : Ev} (hst : l.stackTraces = false) (k : KA) (v : KV) (what xa xb xc xd xe : Int32) (r : Int32 × KV) (hf : F_arm_isOut v xa = some r) (hx : p.tables.exec = Jvm.exec) (hb : c.code = cL_call) (hr : meth.sig.returnType = some .int) (hml : c.maxLocals = 8) (hown : s.vm.findClass RL = some m.cls) (hg : ∀ w ∈ GA, w.before ([.ref k.1, .int what, .int xa, .int xb, .int xc, .int xd, .int xe] : List Value).toArray s = true) (hlocks : meth.locks = false) (hE : EX E A s s.heap) (hN : NX s) (htb : c.exceptionTable.toList = tableOf hhC) (hK : KX E s) (hA : ∀ q : Nat, s.heap.size ≤ q → A q) (hP : va_P E.1 vwCl (W_K E k v) s.heap) (hD : va_D A (W_K E k v)) (hS : va_S A s.heap s.heap []) (hl : lv_has ls 8 [(0, .ref k.1), (1, .int what), (2, .int xa), (3, .int xb), (4, .int xc), (5, .int xd), (6, .int xe)]) : W p l e rm_L_call s m ([.ref k.1, .int what, .int xa, .int xb, .int xc, .int xd, .int xe] : List Value).toArray below meth c s.heap [] 0 0 (vx_MQ below (QW E (some (.int r.1)) (W_K E k r.2) A) (fun _ _ _ => False) ([.ref k.1, .int what, .int xa, .int xb, .int xc, .int xd, .int xe] : List Value).toArray s 3 (6 * 3) A) (F0 m 314 ls []) := by
  unfold F_arm_isOut at hf
  obtain ⟨u, hu, hf⟩ := bn hf
  refine lv_aload_n hx hb dL_call_314 rfl (lv_at hl 0 rfl) ?_
  refine lv_iload_n hx hb dL_call_315 rfl (lv_at hl 2 rfl) ?_
  have hP : va_P E.1 vwCl (W_K E k v ++ []) s.heap := by rw [List.append_nil]; exact hP
  have hD : va_D A (W_K E k v ++ []) := by rw [List.append_nil]; exact hD
  refine lk_X (As := [.int xa]) (rest := []) (wr := []) hx hb hml hown hg (k_X8_isOut E l hst k v xa u hu) cy_X8_isOut ml_L_73 ⟨⟨rfl, rfl⟩, Nat.le_of_ble_eq_true rfl, Nat.le_of_ble_eq_true rfl⟩ hK hE hP hD hS hA (W_Ka E k _ _) rfl rfl rfl hl.1 rfl (Nat.le_of_ble_eq_true rfl) dL_call_316 ⟨Nat.le_of_ble_eq_true rfl, Nat.le_of_ble_eq_true rfl⟩ [.int u.2] rfl (fun h0 H locs hP hD hS => ?_) (fun h0 H locs ce q9 hP hD hS hce hcv hcl => ?_)
  · rw [List.append_nil] at hP
    have hf := it h0 hf
    refine lv_if_eq (tgt := 326) hx hb dL_call_319 (by decide) (fun cq => ?_) (fun cq => ?_)
    · rw [if_pos cq] at hf
      obtain rfl := Option.some.inj hf
      refine lv_iconst (v := 0) hx hb dL_call_326 (by decide) ?_
      exact lm_yret hx hb hr rfl hlocks hP hS dL_call_327 (Nat.le_of_ble_eq_true rfl) (Nat.le_of_ble_eq_true rfl)
    · rw [if_neg cq] at hf
      obtain rfl := Option.some.inj hf
      refine lv_iconst (v := 1) hx hb dL_call_322 (by decide) ?_
      refine lv_goto (tgt := 327) hx hb dL_call_323 (by decide) ?_
      exact lm_yret hx hb hr rfl hlocks hP hS dL_call_327 (Nat.le_of_ble_eq_true rfl) (Nat.le_of_ble_eq_true rfl)
  · rw [List.append_nil] at hP
    have hf := ie (Nat.pos_iff_ne_zero.mp h0) hf
    obtain ⟨x, hx9, hf⟩ := bn hf
    obtain rfl := Option.some.inj hf
    exact lc_any (i1 := 64) (i2 := 108) (i3 := 20) (i4 := 152) hx hb hr hml hown hg hlocks hE hN htb (by decide +kernel) (by decide +kernel) (by decide +kernel) (by decide +kernel) hx9 hce hcv hcl hP hS hl (Nat.le_of_ble_eq_true rfl) (Nat.le_of_ble_eq_true rfl)
def F_arm_outSince (v : KV) (xa : Int32) : Option (Int32 × KV) := (F_X8_outSince (v.1) (v.2.2.1) (v.2.2.2.1) xa).bind (fun u => if u.1 = 0 then some (u.2, v) else (excO u.1).bind (fun x => some (x, v)))
set_option maxRecDepth 100000 in
set_option maxHeartbeats 4000000 in
theorem arm_outSince {p : Program} {l : Launch} {e : Env} {s : State} {m : MethodId} {below : List Frame} {meth : Method} {c : Code} {A : Nat → Prop} {ls : Array Slot} {E : Ev} (hst : l.stackTraces = false) (k : KA) (v : KV) (what xa xb xc xd xe : Int32) (r : Int32 × KV) (hf : F_arm_outSince v xa = some r) (hx : p.tables.exec = Jvm.exec) (hb : c.code = cL_call) (hr : meth.sig.returnType = some .int) (hml : c.maxLocals = 8) (hown : s.vm.findClass RL = some m.cls) (hg : ∀ w ∈ GA, w.before ([.ref k.1, .int what, .int xa, .int xb, .int xc, .int xd, .int xe] : List Value).toArray s = true) (hlocks : meth.locks = false) (hE : EX E A s s.heap) (hN : NX s) (htb : c.exceptionTable.toList = tableOf hhC) (hK : KX E s) (hA : ∀ q : Nat, s.heap.size ≤ q → A q) (hP : va_P E.1 vwCl (W_K E k v) s.heap) (hD : va_D A (W_K E k v)) (hS : va_S A s.heap s.heap []) (hl : lv_has ls 8 [(0, .ref k.1), (1, .int what), (2, .int xa), (3, .int xb), (4, .int xc), (5, .int xd), (6, .int xe)]) : W p l e rm_L_call s m ([.ref k.1, .int what, .int xa, .int xb, .int xc, .int xd, .int xe] : List Value).toArray below meth c s.heap [] 0 0 (vx_MQ below (QW E (some (.int r.1)) (W_K E k r.2) A) (fun _ _ _ => False) ([.ref k.1, .int what, .int xa, .int xb, .int xc, .int xd, .int xe] : List Value).toArray s 3 (6 * 3) A) (F0 m 328 ls []) := by
  unfold F_arm_outSince at hf
  obtain ⟨u, hu, hf⟩ := bn hf
  refine lv_aload_n hx hb dL_call_328 rfl (lv_at hl 0 rfl) ?_
  refine lv_iload_n hx hb dL_call_329 rfl (lv_at hl 2 rfl) ?_
  have hP : va_P E.1 vwCl (W_K E k v ++ []) s.heap := by rw [List.append_nil]; exact hP
  have hD : va_D A (W_K E k v ++ []) := by rw [List.append_nil]; exact hD
  refine lk_X (As := [.int xa]) (rest := []) (wr := []) hx hb hml hown hg (k_X8_outSince E l hst k v xa u hu) cy_X8_outSince ml_L_77 ⟨⟨rfl, rfl⟩, Nat.le_of_ble_eq_true rfl, Nat.le_of_ble_eq_true rfl⟩ hK hE hP hD hS hA (W_Ka E k _ _) rfl rfl rfl hl.1 rfl (Nat.le_of_ble_eq_true rfl) dL_call_330 ⟨Nat.le_of_ble_eq_true rfl, Nat.le_of_ble_eq_true rfl⟩ [.int u.2] rfl (fun h0 H locs hP hD hS => ?_) (fun h0 H locs ce q9 hP hD hS hce hcv hcl => ?_)
  · rw [List.append_nil] at hP
    have hf := it h0 hf
    obtain rfl := Option.some.inj hf
    exact lm_yret hx hb hr rfl hlocks hP hS dL_call_333 (Nat.le_of_ble_eq_true rfl) (Nat.le_of_ble_eq_true rfl)
  · rw [List.append_nil] at hP
    have hf := ie (Nat.pos_iff_ne_zero.mp h0) hf
    obtain ⟨x, hx9, hf⟩ := bn hf
    obtain rfl := Option.some.inj hf
    exact lc_any (i1 := 65) (i2 := 109) (i3 := 21) (i4 := 153) hx hb hr hml hown hg hlocks hE hN htb (by decide +kernel) (by decide +kernel) (by decide +kernel) (by decide +kernel) hx9 hce hcv hcl hP hS hl (Nat.le_of_ble_eq_true rfl) (Nat.le_of_ble_eq_true rfl)
def F_arm_soak (v : KV) (xa : Int32) : Option (Int32 × KV) := (F_X8_soak (v.1) (v.2.2.1) (v.2.2.2.1) xa).bind (fun u => if u.1 = 0 then some (u.2, v) else (excO u.1).bind (fun x => some (x, v)))
set_option maxRecDepth 100000 in
set_option maxHeartbeats 4000000 in
theorem arm_soak {p : Program} {l : Launch} {e : Env} {s : State} {m : MethodId} {below : List Frame} {meth : Method} {c : Code} {A : Nat → Prop} {ls : Array Slot} {E : Ev} (hst : l.stackTraces = false) (k : KA) (v : KV) (what xa xb xc xd xe : Int32) (r : Int32 × KV) (hf : F_arm_soak v xa = some r) (hx : p.tables.exec = Jvm.exec) (hb : c.code = cL_call) (hr : meth.sig.returnType = some .int) (hml : c.maxLocals = 8) (hown : s.vm.findClass RL = some m.cls) (hg : ∀ w ∈ GA, w.before ([.ref k.1, .int what, .int xa, .int xb, .int xc, .int xd, .int xe] : List Value).toArray s = true) (hlocks : meth.locks = false) (hE : EX E A s s.heap) (hN : NX s) (htb : c.exceptionTable.toList = tableOf hhC) (hK : KX E s) (hA : ∀ q : Nat, s.heap.size ≤ q → A q) (hP : va_P E.1 vwCl (W_K E k v) s.heap) (hD : va_D A (W_K E k v)) (hS : va_S A s.heap s.heap []) (hl : lv_has ls 8 [(0, .ref k.1), (1, .int what), (2, .int xa), (3, .int xb), (4, .int xc), (5, .int xd), (6, .int xe)]) : W p l e rm_L_call s m ([.ref k.1, .int what, .int xa, .int xb, .int xc, .int xd, .int xe] : List Value).toArray below meth c s.heap [] 0 0 (vx_MQ below (QW E (some (.int r.1)) (W_K E k r.2) A) (fun _ _ _ => False) ([.ref k.1, .int what, .int xa, .int xb, .int xc, .int xd, .int xe] : List Value).toArray s 3 (6 * 3) A) (F0 m 334 ls []) := by
  unfold F_arm_soak at hf
  obtain ⟨u, hu, hf⟩ := bn hf
  refine lv_aload_n hx hb dL_call_334 rfl (lv_at hl 0 rfl) ?_
  refine lv_iload_n hx hb dL_call_335 rfl (lv_at hl 2 rfl) ?_
  have hP : va_P E.1 vwCl (W_K E k v ++ []) s.heap := by rw [List.append_nil]; exact hP
  have hD : va_D A (W_K E k v ++ []) := by rw [List.append_nil]; exact hD
  refine lk_X (As := [.int xa]) (rest := []) (wr := []) hx hb hml hown hg (k_X8_soak E l hst k v xa u hu) cy_X8_soak ml_L_80 ⟨⟨rfl, rfl⟩, Nat.le_of_ble_eq_true rfl, Nat.le_of_ble_eq_true rfl⟩ hK hE hP hD hS hA (W_Ka E k _ _) rfl rfl rfl hl.1 rfl (Nat.le_of_ble_eq_true rfl) dL_call_336 ⟨Nat.le_of_ble_eq_true rfl, Nat.le_of_ble_eq_true rfl⟩ [.int u.2] rfl (fun h0 H locs hP hD hS => ?_) (fun h0 H locs ce q9 hP hD hS hce hcv hcl => ?_)
  · rw [List.append_nil] at hP
    have hf := it h0 hf
    obtain rfl := Option.some.inj hf
    exact lm_yret hx hb hr rfl hlocks hP hS dL_call_339 (Nat.le_of_ble_eq_true rfl) (Nat.le_of_ble_eq_true rfl)
  · rw [List.append_nil] at hP
    have hf := ie (Nat.pos_iff_ne_zero.mp h0) hf
    obtain ⟨x, hx9, hf⟩ := bn hf
    obtain rfl := Option.some.inj hf
    exact lc_any (i1 := 66) (i2 := 110) (i3 := 22) (i4 := 154) hx hb hr hml hown hg hlocks hE hN htb (by decide +kernel) (by decide +kernel) (by decide +kernel) (by decide +kernel) hx9 hce hcv hcl hP hS hl (Nat.le_of_ble_eq_true rfl) (Nat.le_of_ble_eq_true rfl)
def F_arm_wouldBark (v : KV) (xa : Int32) : Option (Int32 × KV) := (F_X8_wouldBark (v.1) (v.2.2.1) (v.2.2.2.1) xa).bind (fun u => if u.1 = 0 then some ((if u.2 = 0 then 0 else 1), v) else (excO u.1).bind (fun x => some (x, v)))
set_option maxRecDepth 100000 in
set_option maxHeartbeats 4000000 in
theorem arm_wouldBark {p : Program} {l : Launch} {e : Env} {s : State} {m : MethodId} {below : List Frame} {meth : Method} {c : Code} {A : Nat → Prop} {ls : Array Slot} {E : Ev} (hst : l.stackTraces = false) (k : KA) (v : KV) (what xa xb xc xd xe : Int32) (r : Int32 × KV) (hf : F_arm_wouldBark v xa = some r) (hx : p.tables.exec = Jvm.exec) (hb : c.code = cL_call) (hr : meth.sig.returnType = some .int) (hml : c.maxLocals = 8) (hown : s.vm.findClass RL = some m.cls) (hg : ∀ w ∈ GA, w.before ([.ref k.1, .int what, .int xa, .int xb, .int xc, .int xd, .int xe] : List Value).toArray s = true) (hlocks : meth.locks = false) (hE : EX E A s s.heap) (hN : NX s) (htb : c.exceptionTable.toList = tableOf hhC) (hK : KX E s) (hA : ∀ q : Nat, s.heap.size ≤ q → A q) (hP : va_P E.1 vwCl (W_K E k v) s.heap) (hD : va_D A (W_K E k v)) (hS : va_S A s.heap s.heap []) (hl : lv_has ls 8 [(0, .ref k.1), (1, .int what), (2, .int xa), (3, .int xb), (4, .int xc), (5, .int xd), (6, .int xe)]) : W p l e rm_L_call s m ([.ref k.1, .int what, .int xa, .int xb, .int xc, .int xd, .int xe] : List Value).toArray below meth c s.heap [] 0 0 (vx_MQ below (QW E (some (.int r.1)) (W_K E k r.2) A) (fun _ _ _ => False) ([.ref k.1, .int what, .int xa, .int xb, .int xc, .int xd, .int xe] : List Value).toArray s 3 (6 * 3) A) (F0 m 340 ls []) := by
  unfold F_arm_wouldBark at hf
  obtain ⟨u, hu, hf⟩ := bn hf
  refine lv_aload_n hx hb dL_call_340 rfl (lv_at hl 0 rfl) ?_
  refine lv_iload_n hx hb dL_call_341 rfl (lv_at hl 2 rfl) ?_
  have hP : va_P E.1 vwCl (W_K E k v ++ []) s.heap := by rw [List.append_nil]; exact hP
  have hD : va_D A (W_K E k v ++ []) := by rw [List.append_nil]; exact hD
  refine lk_X (As := [.int xa]) (rest := []) (wr := []) hx hb hml hown hg (k_X8_wouldBark E l hst k v xa u hu) cy_X8_wouldBark ml_L_83 ⟨⟨rfl, rfl⟩, Nat.le_of_ble_eq_true rfl, Nat.le_of_ble_eq_true rfl⟩ hK hE hP hD hS hA (W_Ka E k _ _) rfl rfl rfl hl.1 rfl (Nat.le_of_ble_eq_true rfl) dL_call_342 ⟨Nat.le_of_ble_eq_true rfl, Nat.le_of_ble_eq_true rfl⟩ [.int u.2] rfl (fun h0 H locs hP hD hS => ?_) (fun h0 H locs ce q9 hP hD hS hce hcv hcl => ?_)
  · rw [List.append_nil] at hP
    have hf := it h0 hf
    refine lv_if_eq (tgt := 352) hx hb dL_call_345 (by decide) (fun cq => ?_) (fun cq => ?_)
    · rw [if_pos cq] at hf
      obtain rfl := Option.some.inj hf
      refine lv_iconst (v := 0) hx hb dL_call_352 (by decide) ?_
      exact lm_yret hx hb hr rfl hlocks hP hS dL_call_353 (Nat.le_of_ble_eq_true rfl) (Nat.le_of_ble_eq_true rfl)
    · rw [if_neg cq] at hf
      obtain rfl := Option.some.inj hf
      refine lv_iconst (v := 1) hx hb dL_call_348 (by decide) ?_
      refine lv_goto (tgt := 353) hx hb dL_call_349 (by decide) ?_
      exact lm_yret hx hb hr rfl hlocks hP hS dL_call_353 (Nat.le_of_ble_eq_true rfl) (Nat.le_of_ble_eq_true rfl)
  · rw [List.append_nil] at hP
    have hf := ie (Nat.pos_iff_ne_zero.mp h0) hf
    obtain ⟨x, hx9, hf⟩ := bn hf
    obtain rfl := Option.some.inj hf
    exact lc_any (i1 := 67) (i2 := 111) (i3 := 23) (i4 := 155) hx hb hr hml hown hg hlocks hE hN htb (by decide +kernel) (by decide +kernel) (by decide +kernel) (by decide +kernel) hx9 hce hcv hcl hP hS hl (Nat.le_of_ble_eq_true rfl) (Nat.le_of_ble_eq_true rfl)
def F_arm_ownerOf (v : KV) (xa : Int32) : Option (Int32 × KV) := (F_X8_ownerOf (v.1) (v.2.2.1) (v.2.2.2.2.1) xa).bind (fun u => if u.1 = 0 then some (u.2, v) else (excO u.1).bind (fun x => some (x, v)))
set_option maxRecDepth 100000 in
set_option maxHeartbeats 4000000 in
theorem arm_ownerOf {p : Program} {l : Launch} {e : Env} {s : State} {m : MethodId} {below : List Frame} {meth : Method} {c : Code} {A : Nat → Prop} {ls : Array Slot} {E : Ev} (hst : l.stackTraces = false) (k : KA) (v : KV) (what xa xb xc xd xe : Int32) (r : Int32 × KV) (hf : F_arm_ownerOf v xa = some r) (hx : p.tables.exec = Jvm.exec) (hb : c.code = cL_call) (hr : meth.sig.returnType = some .int) (hml : c.maxLocals = 8) (hown : s.vm.findClass RL = some m.cls) (hg : ∀ w ∈ GA, w.before ([.ref k.1, .int what, .int xa, .int xb, .int xc, .int xd, .int xe] : List Value).toArray s = true) (hlocks : meth.locks = false) (hE : EX E A s s.heap) (hN : NX s) (htb : c.exceptionTable.toList = tableOf hhC) (hK : KX E s) (hA : ∀ q : Nat, s.heap.size ≤ q → A q) (hP : va_P E.1 vwCl (W_K E k v) s.heap) (hD : va_D A (W_K E k v)) (hS : va_S A s.heap s.heap []) (hl : lv_has ls 8 [(0, .ref k.1), (1, .int what), (2, .int xa), (3, .int xb), (4, .int xc), (5, .int xd), (6, .int xe)]) : W p l e rm_L_call s m ([.ref k.1, .int what, .int xa, .int xb, .int xc, .int xd, .int xe] : List Value).toArray below meth c s.heap [] 0 0 (vx_MQ below (QW E (some (.int r.1)) (W_K E k r.2) A) (fun _ _ _ => False) ([.ref k.1, .int what, .int xa, .int xb, .int xc, .int xd, .int xe] : List Value).toArray s 3 (6 * 3) A) (F0 m 354 ls []) := by
  unfold F_arm_ownerOf at hf
  obtain ⟨u, hu, hf⟩ := bn hf
  refine lv_aload_n hx hb dL_call_354 rfl (lv_at hl 0 rfl) ?_
  refine lv_iload_n hx hb dL_call_355 rfl (lv_at hl 2 rfl) ?_
  have hP : va_P E.1 vwCl (W_K E k v ++ []) s.heap := by rw [List.append_nil]; exact hP
  have hD : va_D A (W_K E k v ++ []) := by rw [List.append_nil]; exact hD
  refine lk_X (As := [.int xa]) (rest := []) (wr := []) hx hb hml hown hg (k_X8_ownerOf E l hst k v xa u hu) cy_X8_ownerOf ml_L_86 ⟨⟨rfl, rfl⟩, Nat.le_of_ble_eq_true rfl, Nat.le_of_ble_eq_true rfl⟩ hK hE hP hD hS hA (W_Ka E k _ _) rfl rfl rfl hl.1 rfl (Nat.le_of_ble_eq_true rfl) dL_call_356 ⟨Nat.le_of_ble_eq_true rfl, Nat.le_of_ble_eq_true rfl⟩ [.int u.2] rfl (fun h0 H locs hP hD hS => ?_) (fun h0 H locs ce q9 hP hD hS hce hcv hcl => ?_)
  · rw [List.append_nil] at hP
    have hf := it h0 hf
    obtain rfl := Option.some.inj hf
    exact lm_yret hx hb hr rfl hlocks hP hS dL_call_359 (Nat.le_of_ble_eq_true rfl) (Nat.le_of_ble_eq_true rfl)
  · rw [List.append_nil] at hP
    have hf := ie (Nat.pos_iff_ne_zero.mp h0) hf
    obtain ⟨x, hx9, hf⟩ := bn hf
    obtain rfl := Option.some.inj hf
    exact lc_any (i1 := 68) (i2 := 112) (i3 := 24) (i4 := 156) hx hb hr hml hown hg hlocks hE hN htb (by decide +kernel) (by decide +kernel) (by decide +kernel) (by decide +kernel) hx9 hce hcv hcl hP hS hl (Nat.le_of_ble_eq_true rfl) (Nat.le_of_ble_eq_true rfl)
def F_arm_wetness (v : KV) (xa : Int32) : Option (Int32 × KV) := (F_X8_wetness (v.1) (v.2.2.1) (v.2.2.2.2.1) xa).bind (fun u => if u.1 = 0 then some (u.2, v) else (excO u.1).bind (fun x => some (x, v)))
set_option maxRecDepth 100000 in
set_option maxHeartbeats 4000000 in
theorem arm_wetness {p : Program} {l : Launch} {e : Env} {s : State} {m : MethodId} {below : List Frame} {meth : Method} {c : Code} {A : Nat → Prop} {ls : Array Slot} {E : Ev} (hst : l.stackTraces = false) (k : KA) (v : KV) (what xa xb xc xd xe : Int32) (r : Int32 × KV) (hf : F_arm_wetness v xa = some r) (hx : p.tables.exec = Jvm.exec) (hb : c.code = cL_call) (hr : meth.sig.returnType = some .int) (hml : c.maxLocals = 8) (hown : s.vm.findClass RL = some m.cls) (hg : ∀ w ∈ GA, w.before ([.ref k.1, .int what, .int xa, .int xb, .int xc, .int xd, .int xe] : List Value).toArray s = true) (hlocks : meth.locks = false) (hE : EX E A s s.heap) (hN : NX s) (htb : c.exceptionTable.toList = tableOf hhC) (hK : KX E s) (hA : ∀ q : Nat, s.heap.size ≤ q → A q) (hP : va_P E.1 vwCl (W_K E k v) s.heap) (hD : va_D A (W_K E k v)) (hS : va_S A s.heap s.heap []) (hl : lv_has ls 8 [(0, .ref k.1), (1, .int what), (2, .int xa), (3, .int xb), (4, .int xc), (5, .int xd), (6, .int xe)]) : W p l e rm_L_call s m ([.ref k.1, .int what, .int xa, .int xb, .int xc, .int xd, .int xe] : List Value).toArray below meth c s.heap [] 0 0 (vx_MQ below (QW E (some (.int r.1)) (W_K E k r.2) A) (fun _ _ _ => False) ([.ref k.1, .int what, .int xa, .int xb, .int xc, .int xd, .int xe] : List Value).toArray s 3 (6 * 3) A) (F0 m 360 ls []) := by
  unfold F_arm_wetness at hf
  obtain ⟨u, hu, hf⟩ := bn hf
  refine lv_aload_n hx hb dL_call_360 rfl (lv_at hl 0 rfl) ?_
  refine lv_iload_n hx hb dL_call_361 rfl (lv_at hl 2 rfl) ?_
  have hP : va_P E.1 vwCl (W_K E k v ++ []) s.heap := by rw [List.append_nil]; exact hP
  have hD : va_D A (W_K E k v ++ []) := by rw [List.append_nil]; exact hD
  refine lk_X (As := [.int xa]) (rest := []) (wr := []) hx hb hml hown hg (k_X8_wetness E l hst k v xa u hu) cy_X8_wetness ml_L_89 ⟨⟨rfl, rfl⟩, Nat.le_of_ble_eq_true rfl, Nat.le_of_ble_eq_true rfl⟩ hK hE hP hD hS hA (W_Ka E k _ _) rfl rfl rfl hl.1 rfl (Nat.le_of_ble_eq_true rfl) dL_call_362 ⟨Nat.le_of_ble_eq_true rfl, Nat.le_of_ble_eq_true rfl⟩ [.int u.2] rfl (fun h0 H locs hP hD hS => ?_) (fun h0 H locs ce q9 hP hD hS hce hcv hcl => ?_)
  · rw [List.append_nil] at hP
    have hf := it h0 hf
    obtain rfl := Option.some.inj hf
    exact lm_yret hx hb hr rfl hlocks hP hS dL_call_365 (Nat.le_of_ble_eq_true rfl) (Nat.le_of_ble_eq_true rfl)
  · rw [List.append_nil] at hP
    have hf := ie (Nat.pos_iff_ne_zero.mp h0) hf
    obtain ⟨x, hx9, hf⟩ := bn hf
    obtain rfl := Option.some.inj hf
    exact lc_any (i1 := 69) (i2 := 113) (i3 := 25) (i4 := 157) hx hb hr hml hown hg hlocks hE hN htb (by decide +kernel) (by decide +kernel) (by decide +kernel) (by decide +kernel) hx9 hce hcv hcl hP hS hl (Nat.le_of_ble_eq_true rfl) (Nat.le_of_ble_eq_true rfl)
def F_arm_isInStand (v : KV) (xa : Int32) : Option (Int32 × KV) := (F_X8_isInStand (v.1) (v.2.2.1) (v.2.2.2.2.1) xa).bind (fun u => if u.1 = 0 then some ((if u.2 = 0 then 0 else 1), v) else (excO u.1).bind (fun x => some (x, v)))
set_option maxRecDepth 100000 in
set_option maxHeartbeats 4000000 in
theorem arm_isInStand {p : Program} {l : Launch} {e : Env} {s : State} {m : MethodId} {below : List Frame} {meth : Method} {c : Code} {A : Nat → Prop} {ls : Array Slot} {E : Ev} (hst : l.stackTraces = false) (k : KA) (v : KV) (what xa xb xc xd xe : Int32) (r : Int32 × KV) (hf : F_arm_isInStand v xa = some r) (hx : p.tables.exec = Jvm.exec) (hb : c.code = cL_call) (hr : meth.sig.returnType = some .int) (hml : c.maxLocals = 8) (hown : s.vm.findClass RL = some m.cls) (hg : ∀ w ∈ GA, w.before ([.ref k.1, .int what, .int xa, .int xb, .int xc, .int xd, .int xe] : List Value).toArray s = true) (hlocks : meth.locks = false) (hE : EX E A s s.heap) (hN : NX s) (htb : c.exceptionTable.toList = tableOf hhC) (hK : KX E s) (hA : ∀ q : Nat, s.heap.size ≤ q → A q) (hP : va_P E.1 vwCl (W_K E k v) s.heap) (hD : va_D A (W_K E k v)) (hS : va_S A s.heap s.heap []) (hl : lv_has ls 8 [(0, .ref k.1), (1, .int what), (2, .int xa), (3, .int xb), (4, .int xc), (5, .int xd), (6, .int xe)]) : W p l e rm_L_call s m ([.ref k.1, .int what, .int xa, .int xb, .int xc, .int xd, .int xe] : List Value).toArray below meth c s.heap [] 0 0 (vx_MQ below (QW E (some (.int r.1)) (W_K E k r.2) A) (fun _ _ _ => False) ([.ref k.1, .int what, .int xa, .int xb, .int xc, .int xd, .int xe] : List Value).toArray s 3 (6 * 3) A) (F0 m 366 ls []) := by
  unfold F_arm_isInStand at hf
  obtain ⟨u, hu, hf⟩ := bn hf
  refine lv_aload_n hx hb dL_call_366 rfl (lv_at hl 0 rfl) ?_
  refine lv_iload_n hx hb dL_call_367 rfl (lv_at hl 2 rfl) ?_
  have hP : va_P E.1 vwCl (W_K E k v ++ []) s.heap := by rw [List.append_nil]; exact hP
  have hD : va_D A (W_K E k v ++ []) := by rw [List.append_nil]; exact hD
  refine lk_X (As := [.int xa]) (rest := []) (wr := []) hx hb hml hown hg (k_X8_isInStand E l hst k v xa u hu) cy_X8_isInStand ml_L_92 ⟨⟨rfl, rfl⟩, Nat.le_of_ble_eq_true rfl, Nat.le_of_ble_eq_true rfl⟩ hK hE hP hD hS hA (W_Ka E k _ _) rfl rfl rfl hl.1 rfl (Nat.le_of_ble_eq_true rfl) dL_call_368 ⟨Nat.le_of_ble_eq_true rfl, Nat.le_of_ble_eq_true rfl⟩ [.int u.2] rfl (fun h0 H locs hP hD hS => ?_) (fun h0 H locs ce q9 hP hD hS hce hcv hcl => ?_)
  · rw [List.append_nil] at hP
    have hf := it h0 hf
    refine lv_if_eq (tgt := 378) hx hb dL_call_371 (by decide) (fun cq => ?_) (fun cq => ?_)
    · rw [if_pos cq] at hf
      obtain rfl := Option.some.inj hf
      refine lv_iconst (v := 0) hx hb dL_call_378 (by decide) ?_
      exact lm_yret hx hb hr rfl hlocks hP hS dL_call_379 (Nat.le_of_ble_eq_true rfl) (Nat.le_of_ble_eq_true rfl)
    · rw [if_neg cq] at hf
      obtain rfl := Option.some.inj hf
      refine lv_iconst (v := 1) hx hb dL_call_374 (by decide) ?_
      refine lv_goto (tgt := 379) hx hb dL_call_375 (by decide) ?_
      exact lm_yret hx hb hr rfl hlocks hP hS dL_call_379 (Nat.le_of_ble_eq_true rfl) (Nat.le_of_ble_eq_true rfl)
  · rw [List.append_nil] at hP
    have hf := ie (Nat.pos_iff_ne_zero.mp h0) hf
    obtain ⟨x, hx9, hf⟩ := bn hf
    obtain rfl := Option.some.inj hf
    exact lc_any (i1 := 70) (i2 := 114) (i3 := 26) (i4 := 158) hx hb hr hml hown hg hlocks hE hN htb (by decide +kernel) (by decide +kernel) (by decide +kernel) (by decide +kernel) hx9 hce hcv hcl hP hS hl (Nat.le_of_ble_eq_true rfl) (Nat.le_of_ble_eq_true rfl)
def F_arm_isUsable (v : KV) (xa : Int32) : Option (Int32 × KV) := (F_X8_isUsable (v.1) (v.2.2.1) (v.2.2.2.2.1) xa).bind (fun u => if u.1 = 0 then some ((if u.2 = 0 then 0 else 1), v) else (excO u.1).bind (fun x => some (x, v)))
set_option maxRecDepth 100000 in
set_option maxHeartbeats 4000000 in
theorem arm_isUsable {p : Program} {l : Launch} {e : Env} {s : State} {m : MethodId} {below : List Frame} {meth : Method} {c : Code} {A : Nat → Prop} {ls : Array Slot} {E : Ev} (hst : l.stackTraces = false) (k : KA) (v : KV) (what xa xb xc xd xe : Int32) (r : Int32 × KV) (hf : F_arm_isUsable v xa = some r) (hx : p.tables.exec = Jvm.exec) (hb : c.code = cL_call) (hr : meth.sig.returnType = some .int) (hml : c.maxLocals = 8) (hown : s.vm.findClass RL = some m.cls) (hg : ∀ w ∈ GA, w.before ([.ref k.1, .int what, .int xa, .int xb, .int xc, .int xd, .int xe] : List Value).toArray s = true) (hlocks : meth.locks = false) (hE : EX E A s s.heap) (hN : NX s) (htb : c.exceptionTable.toList = tableOf hhC) (hK : KX E s) (hA : ∀ q : Nat, s.heap.size ≤ q → A q) (hP : va_P E.1 vwCl (W_K E k v) s.heap) (hD : va_D A (W_K E k v)) (hS : va_S A s.heap s.heap []) (hl : lv_has ls 8 [(0, .ref k.1), (1, .int what), (2, .int xa), (3, .int xb), (4, .int xc), (5, .int xd), (6, .int xe)]) : W p l e rm_L_call s m ([.ref k.1, .int what, .int xa, .int xb, .int xc, .int xd, .int xe] : List Value).toArray below meth c s.heap [] 0 0 (vx_MQ below (QW E (some (.int r.1)) (W_K E k r.2) A) (fun _ _ _ => False) ([.ref k.1, .int what, .int xa, .int xb, .int xc, .int xd, .int xe] : List Value).toArray s 3 (6 * 3) A) (F0 m 380 ls []) := by
  unfold F_arm_isUsable at hf
  obtain ⟨u, hu, hf⟩ := bn hf
  refine lv_aload_n hx hb dL_call_380 rfl (lv_at hl 0 rfl) ?_
  refine lv_iload_n hx hb dL_call_381 rfl (lv_at hl 2 rfl) ?_
  have hP : va_P E.1 vwCl (W_K E k v ++ []) s.heap := by rw [List.append_nil]; exact hP
  have hD : va_D A (W_K E k v ++ []) := by rw [List.append_nil]; exact hD
  refine lk_X (As := [.int xa]) (rest := []) (wr := []) hx hb hml hown hg (k_X8_isUsable E l hst k v xa u hu) cy_X8_isUsable ml_L_95 ⟨⟨rfl, rfl⟩, Nat.le_of_ble_eq_true rfl, Nat.le_of_ble_eq_true rfl⟩ hK hE hP hD hS hA (W_Ka E k _ _) rfl rfl rfl hl.1 rfl (Nat.le_of_ble_eq_true rfl) dL_call_382 ⟨Nat.le_of_ble_eq_true rfl, Nat.le_of_ble_eq_true rfl⟩ [.int u.2] rfl (fun h0 H locs hP hD hS => ?_) (fun h0 H locs ce q9 hP hD hS hce hcv hcl => ?_)
  · rw [List.append_nil] at hP
    have hf := it h0 hf
    refine lv_if_eq (tgt := 392) hx hb dL_call_385 (by decide) (fun cq => ?_) (fun cq => ?_)
    · rw [if_pos cq] at hf
      obtain rfl := Option.some.inj hf
      refine lv_iconst (v := 0) hx hb dL_call_392 (by decide) ?_
      exact lm_yret hx hb hr rfl hlocks hP hS dL_call_393 (Nat.le_of_ble_eq_true rfl) (Nat.le_of_ble_eq_true rfl)
    · rw [if_neg cq] at hf
      obtain rfl := Option.some.inj hf
      refine lv_iconst (v := 1) hx hb dL_call_388 (by decide) ?_
      refine lv_goto (tgt := 393) hx hb dL_call_389 (by decide) ?_
      exact lm_yret hx hb hr rfl hlocks hP hS dL_call_393 (Nat.le_of_ble_eq_true rfl) (Nat.le_of_ble_eq_true rfl)
  · rw [List.append_nil] at hP
    have hf := ie (Nat.pos_iff_ne_zero.mp h0) hf
    obtain ⟨x, hx9, hf⟩ := bn hf
    obtain rfl := Option.some.inj hf
    exact lc_any (i1 := 71) (i2 := 115) (i3 := 27) (i4 := 159) hx hb hr hml hown hg hlocks hE hN htb (by decide +kernel) (by decide +kernel) (by decide +kernel) (by decide +kernel) hx9 hce hcv hcl hP hS hl (Nat.le_of_ble_eq_true rfl) (Nat.le_of_ble_eq_true rfl)
def F_arm_carrierOf (v : KV) (xa : Int32) : Option (Int32 × KV) := (F_X8_carrierOf (v.1) (v.2.2.1) (v.2.2.2.2.1) xa).bind (fun u => if u.1 = 0 then some (u.2, v) else (excO u.1).bind (fun x => some (x, v)))
set_option maxRecDepth 100000 in
set_option maxHeartbeats 4000000 in
theorem arm_carrierOf {p : Program} {l : Launch} {e : Env} {s : State} {m : MethodId} {below : List Frame} {meth : Method} {c : Code} {A : Nat → Prop} {ls : Array Slot} {E : Ev} (hst : l.stackTraces = false) (k : KA) (v : KV) (what xa xb xc xd xe : Int32) (r : Int32 × KV) (hf : F_arm_carrierOf v xa = some r) (hx : p.tables.exec = Jvm.exec) (hb : c.code = cL_call) (hr : meth.sig.returnType = some .int) (hml : c.maxLocals = 8) (hown : s.vm.findClass RL = some m.cls) (hg : ∀ w ∈ GA, w.before ([.ref k.1, .int what, .int xa, .int xb, .int xc, .int xd, .int xe] : List Value).toArray s = true) (hlocks : meth.locks = false) (hE : EX E A s s.heap) (hN : NX s) (htb : c.exceptionTable.toList = tableOf hhC) (hK : KX E s) (hA : ∀ q : Nat, s.heap.size ≤ q → A q) (hP : va_P E.1 vwCl (W_K E k v) s.heap) (hD : va_D A (W_K E k v)) (hS : va_S A s.heap s.heap []) (hl : lv_has ls 8 [(0, .ref k.1), (1, .int what), (2, .int xa), (3, .int xb), (4, .int xc), (5, .int xd), (6, .int xe)]) : W p l e rm_L_call s m ([.ref k.1, .int what, .int xa, .int xb, .int xc, .int xd, .int xe] : List Value).toArray below meth c s.heap [] 0 0 (vx_MQ below (QW E (some (.int r.1)) (W_K E k r.2) A) (fun _ _ _ => False) ([.ref k.1, .int what, .int xa, .int xb, .int xc, .int xd, .int xe] : List Value).toArray s 3 (6 * 3) A) (F0 m 394 ls []) := by
  unfold F_arm_carrierOf at hf
  obtain ⟨u, hu, hf⟩ := bn hf
  refine lv_aload_n hx hb dL_call_394 rfl (lv_at hl 0 rfl) ?_
  refine lv_iload_n hx hb dL_call_395 rfl (lv_at hl 2 rfl) ?_
  have hP : va_P E.1 vwCl (W_K E k v ++ []) s.heap := by rw [List.append_nil]; exact hP
  have hD : va_D A (W_K E k v ++ []) := by rw [List.append_nil]; exact hD
  refine lk_X (As := [.int xa]) (rest := []) (wr := []) hx hb hml hown hg (k_X8_carrierOf E l hst k v xa u hu) cy_X8_carrierOf ml_L_98 ⟨⟨rfl, rfl⟩, Nat.le_of_ble_eq_true rfl, Nat.le_of_ble_eq_true rfl⟩ hK hE hP hD hS hA (W_Ka E k _ _) rfl rfl rfl hl.1 rfl (Nat.le_of_ble_eq_true rfl) dL_call_396 ⟨Nat.le_of_ble_eq_true rfl, Nat.le_of_ble_eq_true rfl⟩ [.int u.2] rfl (fun h0 H locs hP hD hS => ?_) (fun h0 H locs ce q9 hP hD hS hce hcv hcl => ?_)
  · rw [List.append_nil] at hP
    have hf := it h0 hf
    obtain rfl := Option.some.inj hf
    exact lm_yret hx hb hr rfl hlocks hP hS dL_call_399 (Nat.le_of_ble_eq_true rfl) (Nat.le_of_ble_eq_true rfl)
  · rw [List.append_nil] at hP
    have hf := ie (Nat.pos_iff_ne_zero.mp h0) hf
    obtain ⟨x, hx9, hf⟩ := bn hf
    obtain rfl := Option.some.inj hf
    exact lc_any (i1 := 72) (i2 := 116) (i3 := 28) (i4 := 160) hx hb hr hml hown hg hlocks hE hN htb (by decide +kernel) (by decide +kernel) (by decide +kernel) (by decide +kernel) hx9 hce hcv hcl hP hS hl (Nat.le_of_ble_eq_true rfl) (Nat.le_of_ble_eq_true rfl)
def F_arm_umbrellaOf (v : KV) (xa : Int32) : Option (Int32 × KV) := (F_X8_umbrellaOf (v.1) (v.2.2.1) (v.2.2.2.1) (v.2.2.2.2.1) xa).bind (fun u => if u.1 = 0 then some (u.2, v) else (excO u.1).bind (fun x => some (x, v)))
set_option maxRecDepth 100000 in
set_option maxHeartbeats 4000000 in
theorem arm_umbrellaOf {p : Program} {l : Launch} {e : Env} {s : State} {m : MethodId} {below : List Frame} {meth : Method} {c : Code} {A : Nat → Prop} {ls : Array Slot} {E : Ev} (hst : l.stackTraces = false) (k : KA) (v : KV) (what xa xb xc xd xe : Int32) (r : Int32 × KV) (hf : F_arm_umbrellaOf v xa = some r) (hx : p.tables.exec = Jvm.exec) (hb : c.code = cL_call) (hr : meth.sig.returnType = some .int) (hml : c.maxLocals = 8) (hown : s.vm.findClass RL = some m.cls) (hg : ∀ w ∈ GA, w.before ([.ref k.1, .int what, .int xa, .int xb, .int xc, .int xd, .int xe] : List Value).toArray s = true) (hlocks : meth.locks = false) (hE : EX E A s s.heap) (hN : NX s) (htb : c.exceptionTable.toList = tableOf hhC) (hK : KX E s) (hA : ∀ q : Nat, s.heap.size ≤ q → A q) (hP : va_P E.1 vwCl (W_K E k v) s.heap) (hD : va_D A (W_K E k v)) (hS : va_S A s.heap s.heap []) (hl : lv_has ls 8 [(0, .ref k.1), (1, .int what), (2, .int xa), (3, .int xb), (4, .int xc), (5, .int xd), (6, .int xe)]) : W p l e rm_L_call s m ([.ref k.1, .int what, .int xa, .int xb, .int xc, .int xd, .int xe] : List Value).toArray below meth c s.heap [] 0 0 (vx_MQ below (QW E (some (.int r.1)) (W_K E k r.2) A) (fun _ _ _ => False) ([.ref k.1, .int what, .int xa, .int xb, .int xc, .int xd, .int xe] : List Value).toArray s 3 (6 * 3) A) (F0 m 400 ls []) := by
  unfold F_arm_umbrellaOf at hf
  obtain ⟨u, hu, hf⟩ := bn hf
  refine lv_aload_n hx hb dL_call_400 rfl (lv_at hl 0 rfl) ?_
  refine lv_iload_n hx hb dL_call_401 rfl (lv_at hl 2 rfl) ?_
  have hP : va_P E.1 vwCl (W_K E k v ++ []) s.heap := by rw [List.append_nil]; exact hP
  have hD : va_D A (W_K E k v ++ []) := by rw [List.append_nil]; exact hD
  refine lk_X (As := [.int xa]) (rest := []) (wr := []) hx hb hml hown hg (k_X8_umbrellaOf E l hst k v xa u hu) cy_X8_umbrellaOf ml_L_101 ⟨⟨rfl, rfl⟩, Nat.le_of_ble_eq_true rfl, Nat.le_of_ble_eq_true rfl⟩ hK hE hP hD hS hA (W_Ka E k _ _) rfl rfl rfl hl.1 rfl (Nat.le_of_ble_eq_true rfl) dL_call_402 ⟨Nat.le_of_ble_eq_true rfl, Nat.le_of_ble_eq_true rfl⟩ [.int u.2] rfl (fun h0 H locs hP hD hS => ?_) (fun h0 H locs ce q9 hP hD hS hce hcv hcl => ?_)
  · rw [List.append_nil] at hP
    have hf := it h0 hf
    obtain rfl := Option.some.inj hf
    exact lm_yret hx hb hr rfl hlocks hP hS dL_call_405 (Nat.le_of_ble_eq_true rfl) (Nat.le_of_ble_eq_true rfl)
  · rw [List.append_nil] at hP
    have hf := ie (Nat.pos_iff_ne_zero.mp h0) hf
    obtain ⟨x, hx9, hf⟩ := bn hf
    obtain rfl := Option.some.inj hf
    exact lc_any (i1 := 73) (i2 := 117) (i3 := 29) (i4 := 161) hx hb hr hml hown hg hlocks hE hN htb (by decide +kernel) (by decide +kernel) (by decide +kernel) (by decide +kernel) hx9 hce hcv hcl hP hS hl (Nat.le_of_ble_eq_true rfl) (Nat.le_of_ble_eq_true rfl)
def F_arm_entryMinute (v : KV) (xa : Int32) : Option (Int32 × KV) := (F_X8_entryMinute (v.1) (v.2.2.1) (v.2.2.2.2.2.1) xa).bind (fun u => if u.1 = 0 then some (u.2, v) else (excO u.1).bind (fun x => some (x, v)))
set_option maxRecDepth 100000 in
set_option maxHeartbeats 4000000 in
theorem arm_entryMinute {p : Program} {l : Launch} {e : Env} {s : State} {m : MethodId} {below : List Frame} {meth : Method} {c : Code} {A : Nat → Prop} {ls : Array Slot} {E : Ev} (hst : l.stackTraces = false) (k : KA) (v : KV) (what xa xb xc xd xe : Int32) (r : Int32 × KV) (hf : F_arm_entryMinute v xa = some r) (hx : p.tables.exec = Jvm.exec) (hb : c.code = cL_call) (hr : meth.sig.returnType = some .int) (hml : c.maxLocals = 8) (hown : s.vm.findClass RL = some m.cls) (hg : ∀ w ∈ GA, w.before ([.ref k.1, .int what, .int xa, .int xb, .int xc, .int xd, .int xe] : List Value).toArray s = true) (hlocks : meth.locks = false) (hE : EX E A s s.heap) (hN : NX s) (htb : c.exceptionTable.toList = tableOf hhC) (hK : KX E s) (hA : ∀ q : Nat, s.heap.size ≤ q → A q) (hP : va_P E.1 vwCl (W_K E k v) s.heap) (hD : va_D A (W_K E k v)) (hS : va_S A s.heap s.heap []) (hl : lv_has ls 8 [(0, .ref k.1), (1, .int what), (2, .int xa), (3, .int xb), (4, .int xc), (5, .int xd), (6, .int xe)]) : W p l e rm_L_call s m ([.ref k.1, .int what, .int xa, .int xb, .int xc, .int xd, .int xe] : List Value).toArray below meth c s.heap [] 0 0 (vx_MQ below (QW E (some (.int r.1)) (W_K E k r.2) A) (fun _ _ _ => False) ([.ref k.1, .int what, .int xa, .int xb, .int xc, .int xd, .int xe] : List Value).toArray s 3 (6 * 3) A) (F0 m 406 ls []) := by
  unfold F_arm_entryMinute at hf
  obtain ⟨u, hu, hf⟩ := bn hf
  refine lv_aload_n hx hb dL_call_406 rfl (lv_at hl 0 rfl) ?_
  refine lv_iload_n hx hb dL_call_407 rfl (lv_at hl 2 rfl) ?_
  have hP : va_P E.1 vwCl (W_K E k v ++ []) s.heap := by rw [List.append_nil]; exact hP
  have hD : va_D A (W_K E k v ++ []) := by rw [List.append_nil]; exact hD
  refine lk_X (As := [.int xa]) (rest := []) (wr := []) hx hb hml hown hg (k_X8_entryMinute E l hst k v xa u hu) cy_X8_entryMinute ml_L_104 ⟨⟨rfl, rfl⟩, Nat.le_of_ble_eq_true rfl, Nat.le_of_ble_eq_true rfl⟩ hK hE hP hD hS hA (W_Ka E k _ _) rfl rfl rfl hl.1 rfl (Nat.le_of_ble_eq_true rfl) dL_call_408 ⟨Nat.le_of_ble_eq_true rfl, Nat.le_of_ble_eq_true rfl⟩ [.int u.2] rfl (fun h0 H locs hP hD hS => ?_) (fun h0 H locs ce q9 hP hD hS hce hcv hcl => ?_)
  · rw [List.append_nil] at hP
    have hf := it h0 hf
    obtain rfl := Option.some.inj hf
    exact lm_yret hx hb hr rfl hlocks hP hS dL_call_411 (Nat.le_of_ble_eq_true rfl) (Nat.le_of_ble_eq_true rfl)
  · rw [List.append_nil] at hP
    have hf := ie (Nat.pos_iff_ne_zero.mp h0) hf
    obtain ⟨x, hx9, hf⟩ := bn hf
    obtain rfl := Option.some.inj hf
    exact lc_any (i1 := 74) (i2 := 118) (i3 := 30) (i4 := 162) hx hb hr hml hown hg hlocks hE hN htb (by decide +kernel) (by decide +kernel) (by decide +kernel) (by decide +kernel) hx9 hce hcv hcl hP hS hl (Nat.le_of_ble_eq_true rfl) (Nat.le_of_ble_eq_true rfl)
def F_arm_entryGuest (v : KV) (xa : Int32) : Option (Int32 × KV) := (F_X8_entryGuest (v.1) (v.2.2.1) (v.2.2.2.2.2.1) xa).bind (fun u => if u.1 = 0 then some (u.2, v) else (excO u.1).bind (fun x => some (x, v)))
set_option maxRecDepth 100000 in
set_option maxHeartbeats 4000000 in
theorem arm_entryGuest {p : Program} {l : Launch} {e : Env} {s : State} {m : MethodId} {below : List Frame} {meth : Method} {c : Code} {A : Nat → Prop} {ls : Array Slot} {E : Ev} (hst : l.stackTraces = false) (k : KA) (v : KV) (what xa xb xc xd xe : Int32) (r : Int32 × KV) (hf : F_arm_entryGuest v xa = some r) (hx : p.tables.exec = Jvm.exec) (hb : c.code = cL_call) (hr : meth.sig.returnType = some .int) (hml : c.maxLocals = 8) (hown : s.vm.findClass RL = some m.cls) (hg : ∀ w ∈ GA, w.before ([.ref k.1, .int what, .int xa, .int xb, .int xc, .int xd, .int xe] : List Value).toArray s = true) (hlocks : meth.locks = false) (hE : EX E A s s.heap) (hN : NX s) (htb : c.exceptionTable.toList = tableOf hhC) (hK : KX E s) (hA : ∀ q : Nat, s.heap.size ≤ q → A q) (hP : va_P E.1 vwCl (W_K E k v) s.heap) (hD : va_D A (W_K E k v)) (hS : va_S A s.heap s.heap []) (hl : lv_has ls 8 [(0, .ref k.1), (1, .int what), (2, .int xa), (3, .int xb), (4, .int xc), (5, .int xd), (6, .int xe)]) : W p l e rm_L_call s m ([.ref k.1, .int what, .int xa, .int xb, .int xc, .int xd, .int xe] : List Value).toArray below meth c s.heap [] 0 0 (vx_MQ below (QW E (some (.int r.1)) (W_K E k r.2) A) (fun _ _ _ => False) ([.ref k.1, .int what, .int xa, .int xb, .int xc, .int xd, .int xe] : List Value).toArray s 3 (6 * 3) A) (F0 m 412 ls []) := by
  unfold F_arm_entryGuest at hf
  obtain ⟨u, hu, hf⟩ := bn hf
  refine lv_aload_n hx hb dL_call_412 rfl (lv_at hl 0 rfl) ?_
  refine lv_iload_n hx hb dL_call_413 rfl (lv_at hl 2 rfl) ?_
  have hP : va_P E.1 vwCl (W_K E k v ++ []) s.heap := by rw [List.append_nil]; exact hP
  have hD : va_D A (W_K E k v ++ []) := by rw [List.append_nil]; exact hD
  refine lk_X (As := [.int xa]) (rest := []) (wr := []) hx hb hml hown hg (k_X8_entryGuest E l hst k v xa u hu) cy_X8_entryGuest ml_L_107 ⟨⟨rfl, rfl⟩, Nat.le_of_ble_eq_true rfl, Nat.le_of_ble_eq_true rfl⟩ hK hE hP hD hS hA (W_Ka E k _ _) rfl rfl rfl hl.1 rfl (Nat.le_of_ble_eq_true rfl) dL_call_414 ⟨Nat.le_of_ble_eq_true rfl, Nat.le_of_ble_eq_true rfl⟩ [.int u.2] rfl (fun h0 H locs hP hD hS => ?_) (fun h0 H locs ce q9 hP hD hS hce hcv hcl => ?_)
  · rw [List.append_nil] at hP
    have hf := it h0 hf
    obtain rfl := Option.some.inj hf
    exact lm_yret hx hb hr rfl hlocks hP hS dL_call_417 (Nat.le_of_ble_eq_true rfl) (Nat.le_of_ble_eq_true rfl)
  · rw [List.append_nil] at hP
    have hf := ie (Nat.pos_iff_ne_zero.mp h0) hf
    obtain ⟨x, hx9, hf⟩ := bn hf
    obtain rfl := Option.some.inj hf
    exact lc_any (i1 := 75) (i2 := 119) (i3 := 31) (i4 := 163) hx hb hr hml hown hg hlocks hE hN htb (by decide +kernel) (by decide +kernel) (by decide +kernel) (by decide +kernel) hx9 hce hcv hcl hP hS hl (Nat.le_of_ble_eq_true rfl) (Nat.le_of_ble_eq_true rfl)
def F_arm_isLeaving (v : KV) (xa : Int32) : Option (Int32 × KV) := (F_X8_isLeaving (v.1) (v.2.2.1) (v.2.2.2.2.2.1) xa).bind (fun u => if u.1 = 0 then some ((if u.2 = 0 then 0 else 1), v) else (excO u.1).bind (fun x => some (x, v)))
set_option maxRecDepth 100000 in
set_option maxHeartbeats 4000000 in
theorem arm_isLeaving {p : Program} {l : Launch} {e : Env} {s : State} {m : MethodId} {below : List Frame} {meth : Method} {c : Code} {A : Nat → Prop} {ls : Array Slot} {E : Ev} (hst : l.stackTraces = false) (k : KA) (v : KV) (what xa xb xc xd xe : Int32) (r : Int32 × KV) (hf : F_arm_isLeaving v xa = some r) (hx : p.tables.exec = Jvm.exec) (hb : c.code = cL_call) (hr : meth.sig.returnType = some .int) (hml : c.maxLocals = 8) (hown : s.vm.findClass RL = some m.cls) (hg : ∀ w ∈ GA, w.before ([.ref k.1, .int what, .int xa, .int xb, .int xc, .int xd, .int xe] : List Value).toArray s = true) (hlocks : meth.locks = false) (hE : EX E A s s.heap) (hN : NX s) (htb : c.exceptionTable.toList = tableOf hhC) (hK : KX E s) (hA : ∀ q : Nat, s.heap.size ≤ q → A q) (hP : va_P E.1 vwCl (W_K E k v) s.heap) (hD : va_D A (W_K E k v)) (hS : va_S A s.heap s.heap []) (hl : lv_has ls 8 [(0, .ref k.1), (1, .int what), (2, .int xa), (3, .int xb), (4, .int xc), (5, .int xd), (6, .int xe)]) : W p l e rm_L_call s m ([.ref k.1, .int what, .int xa, .int xb, .int xc, .int xd, .int xe] : List Value).toArray below meth c s.heap [] 0 0 (vx_MQ below (QW E (some (.int r.1)) (W_K E k r.2) A) (fun _ _ _ => False) ([.ref k.1, .int what, .int xa, .int xb, .int xc, .int xd, .int xe] : List Value).toArray s 3 (6 * 3) A) (F0 m 418 ls []) := by
  unfold F_arm_isLeaving at hf
  obtain ⟨u, hu, hf⟩ := bn hf
  refine lv_aload_n hx hb dL_call_418 rfl (lv_at hl 0 rfl) ?_
  refine lv_iload_n hx hb dL_call_419 rfl (lv_at hl 2 rfl) ?_
  have hP : va_P E.1 vwCl (W_K E k v ++ []) s.heap := by rw [List.append_nil]; exact hP
  have hD : va_D A (W_K E k v ++ []) := by rw [List.append_nil]; exact hD
  refine lk_X (As := [.int xa]) (rest := []) (wr := []) hx hb hml hown hg (k_X8_isLeaving E l hst k v xa u hu) cy_X8_isLeaving ml_L_110 ⟨⟨rfl, rfl⟩, Nat.le_of_ble_eq_true rfl, Nat.le_of_ble_eq_true rfl⟩ hK hE hP hD hS hA (W_Ka E k _ _) rfl rfl rfl hl.1 rfl (Nat.le_of_ble_eq_true rfl) dL_call_420 ⟨Nat.le_of_ble_eq_true rfl, Nat.le_of_ble_eq_true rfl⟩ [.int u.2] rfl (fun h0 H locs hP hD hS => ?_) (fun h0 H locs ce q9 hP hD hS hce hcv hcl => ?_)
  · rw [List.append_nil] at hP
    have hf := it h0 hf
    refine lv_if_eq (tgt := 430) hx hb dL_call_423 (by decide) (fun cq => ?_) (fun cq => ?_)
    · rw [if_pos cq] at hf
      obtain rfl := Option.some.inj hf
      refine lv_iconst (v := 0) hx hb dL_call_430 (by decide) ?_
      exact lm_yret hx hb hr rfl hlocks hP hS dL_call_431 (Nat.le_of_ble_eq_true rfl) (Nat.le_of_ble_eq_true rfl)
    · rw [if_neg cq] at hf
      obtain rfl := Option.some.inj hf
      refine lv_iconst (v := 1) hx hb dL_call_426 (by decide) ?_
      refine lv_goto (tgt := 431) hx hb dL_call_427 (by decide) ?_
      exact lm_yret hx hb hr rfl hlocks hP hS dL_call_431 (Nat.le_of_ble_eq_true rfl) (Nat.le_of_ble_eq_true rfl)
  · rw [List.append_nil] at hP
    have hf := ie (Nat.pos_iff_ne_zero.mp h0) hf
    obtain ⟨x, hx9, hf⟩ := bn hf
    obtain rfl := Option.some.inj hf
    exact lc_any (i1 := 76) (i2 := 120) (i3 := 32) (i4 := 164) hx hb hr hml hown hg hlocks hE hN htb (by decide +kernel) (by decide +kernel) (by decide +kernel) (by decide +kernel) hx9 hce hcv hcl hP hS hl (Nat.le_of_ble_eq_true rfl) (Nat.le_of_ble_eq_true rfl)
def F_arm_wasOut (v : KV) (xa : Int32) (xb : Int32) : Option (Int32 × KV) := (F_X8_wasOut (v.1) (v.2.2.1) (v.2.2.2.1) (v.2.2.2.2.2.1) xa xb).bind (fun u => if u.1 = 0 then some ((if u.2 = 0 then 0 else 1), v) else (excO u.1).bind (fun x => some (x, v)))
set_option maxRecDepth 100000 in
set_option maxHeartbeats 4000000 in
theorem arm_wasOut {p : Program} {l : Launch} {e : Env} {s : State} {m : MethodId} {below : List Frame} {meth : Method} {c : Code} {A : Nat → Prop} {ls : Array Slot} {E : Ev} (hst : l.stackTraces = false) (k : KA) (v : KV) (what xa xb xc xd xe : Int32) (r : Int32 × KV) (hf : F_arm_wasOut v xa xb = some r) (hx : p.tables.exec = Jvm.exec) (hb : c.code = cL_call) (hr : meth.sig.returnType = some .int) (hml : c.maxLocals = 8) (hown : s.vm.findClass RL = some m.cls) (hg : ∀ w ∈ GA, w.before ([.ref k.1, .int what, .int xa, .int xb, .int xc, .int xd, .int xe] : List Value).toArray s = true) (hlocks : meth.locks = false) (hE : EX E A s s.heap) (hN : NX s) (htb : c.exceptionTable.toList = tableOf hhC) (hK : KX E s) (hA : ∀ q : Nat, s.heap.size ≤ q → A q) (hP : va_P E.1 vwCl (W_K E k v) s.heap) (hD : va_D A (W_K E k v)) (hS : va_S A s.heap s.heap []) (hl : lv_has ls 8 [(0, .ref k.1), (1, .int what), (2, .int xa), (3, .int xb), (4, .int xc), (5, .int xd), (6, .int xe)]) : W p l e rm_L_call s m ([.ref k.1, .int what, .int xa, .int xb, .int xc, .int xd, .int xe] : List Value).toArray below meth c s.heap [] 0 0 (vx_MQ below (QW E (some (.int r.1)) (W_K E k r.2) A) (fun _ _ _ => False) ([.ref k.1, .int what, .int xa, .int xb, .int xc, .int xd, .int xe] : List Value).toArray s 3 (6 * 3) A) (F0 m 432 ls []) := by
  unfold F_arm_wasOut at hf
  obtain ⟨u, hu, hf⟩ := bn hf
  refine lv_aload_n hx hb dL_call_432 rfl (lv_at hl 0 rfl) ?_
  refine lv_iload_n hx hb dL_call_433 rfl (lv_at hl 2 rfl) ?_
  refine lv_iload_n hx hb dL_call_434 rfl (lv_at hl 3 rfl) ?_
  have hP : va_P E.1 vwCl (W_K E k v ++ []) s.heap := by rw [List.append_nil]; exact hP
  have hD : va_D A (W_K E k v ++ []) := by rw [List.append_nil]; exact hD
  refine lk_X (As := [.int xa, .int xb]) (rest := []) (wr := []) hx hb hml hown hg (k_X8_wasOut E l hst k v xa xb u hu) cy_X8_wasOut ml_L_113 ⟨⟨rfl, rfl⟩, Nat.le_of_ble_eq_true rfl, Nat.le_of_ble_eq_true rfl⟩ hK hE hP hD hS hA (W_Ka E k _ _) rfl rfl rfl hl.1 rfl (Nat.le_of_ble_eq_true rfl) dL_call_435 ⟨Nat.le_of_ble_eq_true rfl, Nat.le_of_ble_eq_true rfl⟩ [.int u.2] rfl (fun h0 H locs hP hD hS => ?_) (fun h0 H locs ce q9 hP hD hS hce hcv hcl => ?_)
  · rw [List.append_nil] at hP
    have hf := it h0 hf
    refine lv_if_eq (tgt := 445) hx hb dL_call_438 (by decide) (fun cq => ?_) (fun cq => ?_)
    · rw [if_pos cq] at hf
      obtain rfl := Option.some.inj hf
      refine lv_iconst (v := 0) hx hb dL_call_445 (by decide) ?_
      exact lm_yret hx hb hr rfl hlocks hP hS dL_call_446 (Nat.le_of_ble_eq_true rfl) (Nat.le_of_ble_eq_true rfl)
    · rw [if_neg cq] at hf
      obtain rfl := Option.some.inj hf
      refine lv_iconst (v := 1) hx hb dL_call_441 (by decide) ?_
      refine lv_goto (tgt := 446) hx hb dL_call_442 (by decide) ?_
      exact lm_yret hx hb hr rfl hlocks hP hS dL_call_446 (Nat.le_of_ble_eq_true rfl) (Nat.le_of_ble_eq_true rfl)
  · rw [List.append_nil] at hP
    have hf := ie (Nat.pos_iff_ne_zero.mp h0) hf
    obtain ⟨x, hx9, hf⟩ := bn hf
    obtain rfl := Option.some.inj hf
    exact lc_any (i1 := 77) (i2 := 121) (i3 := 33) (i4 := 165) hx hb hr hml hown hg hlocks hE hN htb (by decide +kernel) (by decide +kernel) (by decide +kernel) (by decide +kernel) hx9 hce hcv hcl hP hS hl (Nat.le_of_ble_eq_true rfl) (Nat.le_of_ble_eq_true rfl)
def F_arm_hasAlibi (v : KV) (xa : Int32) (xb : Int32) (xc : Int32) : Option (Int32 × KV) := (F_X8_hasAlibi (v.1) (v.2.2.1) (v.2.2.2.1) (v.2.2.2.2.2.1) xa xb xc).bind (fun u => if u.1 = 0 then some ((if u.2 = 0 then 0 else 1), v) else (excO u.1).bind (fun x => some (x, v)))
set_option maxRecDepth 100000 in
set_option maxHeartbeats 4000000 in
theorem arm_hasAlibi {p : Program} {l : Launch} {e : Env} {s : State} {m : MethodId} {below : List Frame} {meth : Method} {c : Code} {A : Nat → Prop} {ls : Array Slot} {E : Ev} (hst : l.stackTraces = false) (k : KA) (v : KV) (what xa xb xc xd xe : Int32) (r : Int32 × KV) (hf : F_arm_hasAlibi v xa xb xc = some r) (hx : p.tables.exec = Jvm.exec) (hb : c.code = cL_call) (hr : meth.sig.returnType = some .int) (hml : c.maxLocals = 8) (hown : s.vm.findClass RL = some m.cls) (hg : ∀ w ∈ GA, w.before ([.ref k.1, .int what, .int xa, .int xb, .int xc, .int xd, .int xe] : List Value).toArray s = true) (hlocks : meth.locks = false) (hE : EX E A s s.heap) (hN : NX s) (htb : c.exceptionTable.toList = tableOf hhC) (hK : KX E s) (hA : ∀ q : Nat, s.heap.size ≤ q → A q) (hP : va_P E.1 vwCl (W_K E k v) s.heap) (hD : va_D A (W_K E k v)) (hS : va_S A s.heap s.heap []) (hl : lv_has ls 8 [(0, .ref k.1), (1, .int what), (2, .int xa), (3, .int xb), (4, .int xc), (5, .int xd), (6, .int xe)]) : W p l e rm_L_call s m ([.ref k.1, .int what, .int xa, .int xb, .int xc, .int xd, .int xe] : List Value).toArray below meth c s.heap [] 0 0 (vx_MQ below (QW E (some (.int r.1)) (W_K E k r.2) A) (fun _ _ _ => False) ([.ref k.1, .int what, .int xa, .int xb, .int xc, .int xd, .int xe] : List Value).toArray s 3 (6 * 3) A) (F0 m 447 ls []) := by
  unfold F_arm_hasAlibi at hf
  obtain ⟨u, hu, hf⟩ := bn hf
  refine lv_aload_n hx hb dL_call_447 rfl (lv_at hl 0 rfl) ?_
  refine lv_iload_n hx hb dL_call_448 rfl (lv_at hl 2 rfl) ?_
  refine lv_iload_n hx hb dL_call_449 rfl (lv_at hl 3 rfl) ?_
  refine lv_iload hx hb dL_call_450 (lv_at hl 4 rfl) ?_
  have hP : va_P E.1 vwCl (W_K E k v ++ []) s.heap := by rw [List.append_nil]; exact hP
  have hD : va_D A (W_K E k v ++ []) := by rw [List.append_nil]; exact hD
  refine lk_X (As := [.int xa, .int xb, .int xc]) (rest := []) (wr := []) hx hb hml hown hg (k_X8_hasAlibi E l hst k v xa xb xc u hu) cy_X8_hasAlibi ml_L_117 ⟨⟨rfl, rfl⟩, Nat.le_of_ble_eq_true rfl, Nat.le_of_ble_eq_true rfl⟩ hK hE hP hD hS hA (W_Ka E k _ _) rfl rfl rfl hl.1 rfl (Nat.le_of_ble_eq_true rfl) dL_call_452 ⟨Nat.le_of_ble_eq_true rfl, Nat.le_of_ble_eq_true rfl⟩ [.int u.2] rfl (fun h0 H locs hP hD hS => ?_) (fun h0 H locs ce q9 hP hD hS hce hcv hcl => ?_)
  · rw [List.append_nil] at hP
    have hf := it h0 hf
    refine lv_if_eq (tgt := 462) hx hb dL_call_455 (by decide) (fun cq => ?_) (fun cq => ?_)
    · rw [if_pos cq] at hf
      obtain rfl := Option.some.inj hf
      refine lv_iconst (v := 0) hx hb dL_call_462 (by decide) ?_
      exact lm_yret hx hb hr rfl hlocks hP hS dL_call_463 (Nat.le_of_ble_eq_true rfl) (Nat.le_of_ble_eq_true rfl)
    · rw [if_neg cq] at hf
      obtain rfl := Option.some.inj hf
      refine lv_iconst (v := 1) hx hb dL_call_458 (by decide) ?_
      refine lv_goto (tgt := 463) hx hb dL_call_459 (by decide) ?_
      exact lm_yret hx hb hr rfl hlocks hP hS dL_call_463 (Nat.le_of_ble_eq_true rfl) (Nat.le_of_ble_eq_true rfl)
  · rw [List.append_nil] at hP
    have hf := ie (Nat.pos_iff_ne_zero.mp h0) hf
    obtain ⟨x, hx9, hf⟩ := bn hf
    obtain rfl := Option.some.inj hf
    exact lc_any (i1 := 78) (i2 := 122) (i3 := 34) (i4 := 166) hx hb hr hml hown hg hlocks hE hN htb (by decide +kernel) (by decide +kernel) (by decide +kernel) (by decide +kernel) hx9 hce hcv hcl hP hS hl (Nat.le_of_ble_eq_true rfl) (Nat.le_of_ble_eq_true rfl)
def F_arm_suspects (v : KV) (xa : Int32) (xb : Int32) : Option (Int32 × KV) := (F_X8_suspects (v.1) (v.2.2.1) (v.2.2.2.1) (v.2.2.2.2.2.1) xa xb).bind (fun u => if u.1 = 0 then some (u.2, v) else (excO u.1).bind (fun x => some (x, v)))
set_option maxRecDepth 100000 in
set_option maxHeartbeats 4000000 in
theorem arm_suspects {p : Program} {l : Launch} {e : Env} {s : State} {m : MethodId} {below : List Frame} {meth : Method} {c : Code} {A : Nat → Prop} {ls : Array Slot} {E : Ev} (hst : l.stackTraces = false) (k : KA) (v : KV) (what xa xb xc xd xe : Int32) (r : Int32 × KV) (hf : F_arm_suspects v xa xb = some r) (hx : p.tables.exec = Jvm.exec) (hb : c.code = cL_call) (hr : meth.sig.returnType = some .int) (hml : c.maxLocals = 8) (hown : s.vm.findClass RL = some m.cls) (hg : ∀ w ∈ GA, w.before ([.ref k.1, .int what, .int xa, .int xb, .int xc, .int xd, .int xe] : List Value).toArray s = true) (hlocks : meth.locks = false) (hE : EX E A s s.heap) (hN : NX s) (htb : c.exceptionTable.toList = tableOf hhC) (hK : KX E s) (hA : ∀ q : Nat, s.heap.size ≤ q → A q) (hP : va_P E.1 vwCl (W_K E k v) s.heap) (hD : va_D A (W_K E k v)) (hS : va_S A s.heap s.heap []) (hl : lv_has ls 8 [(0, .ref k.1), (1, .int what), (2, .int xa), (3, .int xb), (4, .int xc), (5, .int xd), (6, .int xe)]) : W p l e rm_L_call s m ([.ref k.1, .int what, .int xa, .int xb, .int xc, .int xd, .int xe] : List Value).toArray below meth c s.heap [] 0 0 (vx_MQ below (QW E (some (.int r.1)) (W_K E k r.2) A) (fun _ _ _ => False) ([.ref k.1, .int what, .int xa, .int xb, .int xc, .int xd, .int xe] : List Value).toArray s 3 (6 * 3) A) (F0 m 464 ls []) := by
  unfold F_arm_suspects at hf
  obtain ⟨u, hu, hf⟩ := bn hf
  refine lv_aload_n hx hb dL_call_464 rfl (lv_at hl 0 rfl) ?_
  refine lv_iload_n hx hb dL_call_465 rfl (lv_at hl 2 rfl) ?_
  refine lv_iload_n hx hb dL_call_466 rfl (lv_at hl 3 rfl) ?_
  have hP : va_P E.1 vwCl (W_K E k v ++ []) s.heap := by rw [List.append_nil]; exact hP
  have hD : va_D A (W_K E k v ++ []) := by rw [List.append_nil]; exact hD
  refine lk_X (As := [.int xa, .int xb]) (rest := []) (wr := []) hx hb hml hown hg (k_X8_suspects E l hst k v xa xb u hu) cy_X8_suspects ml_L_121 ⟨⟨rfl, rfl⟩, Nat.le_of_ble_eq_true rfl, Nat.le_of_ble_eq_true rfl⟩ hK hE hP hD hS hA (W_Ka E k _ _) rfl rfl rfl hl.1 rfl (Nat.le_of_ble_eq_true rfl) dL_call_467 ⟨Nat.le_of_ble_eq_true rfl, Nat.le_of_ble_eq_true rfl⟩ [.int u.2] rfl (fun h0 H locs hP hD hS => ?_) (fun h0 H locs ce q9 hP hD hS hce hcv hcl => ?_)
  · rw [List.append_nil] at hP
    have hf := it h0 hf
    obtain rfl := Option.some.inj hf
    exact lm_yret hx hb hr rfl hlocks hP hS dL_call_470 (Nat.le_of_ble_eq_true rfl) (Nat.le_of_ble_eq_true rfl)
  · rw [List.append_nil] at hP
    have hf := ie (Nat.pos_iff_ne_zero.mp h0) hf
    obtain ⟨x, hx9, hf⟩ := bn hf
    obtain rfl := Option.some.inj hf
    exact lc_any (i1 := 79) (i2 := 123) (i3 := 35) (i4 := 167) hx hb hr hml hown hg hlocks hE hN htb (by decide +kernel) (by decide +kernel) (by decide +kernel) (by decide +kernel) hx9 hce hcv hcl hP hS hl (Nat.le_of_ble_eq_true rfl) (Nat.le_of_ble_eq_true rfl)
def F_arm_culprit (v : KV) (xa : Int32) (xb : Int32) : Option (Int32 × KV) := (F_X8_culprit (v.1) (v.2.2.1) (v.2.2.2.1) (v.2.2.2.2.2.1) xa xb).bind (fun u => if u.1 = 0 then some (u.2, v) else (excO u.1).bind (fun x => some (x, v)))
set_option maxRecDepth 100000 in
set_option maxHeartbeats 4000000 in
theorem arm_culprit {p : Program} {l : Launch} {e : Env} {s : State} {m : MethodId} {below : List Frame} {meth : Method} {c : Code} {A : Nat → Prop} {ls : Array Slot} {E : Ev} (hst : l.stackTraces = false) (k : KA) (v : KV) (what xa xb xc xd xe : Int32) (r : Int32 × KV) (hf : F_arm_culprit v xa xb = some r) (hx : p.tables.exec = Jvm.exec) (hb : c.code = cL_call) (hr : meth.sig.returnType = some .int) (hml : c.maxLocals = 8) (hown : s.vm.findClass RL = some m.cls) (hg : ∀ w ∈ GA, w.before ([.ref k.1, .int what, .int xa, .int xb, .int xc, .int xd, .int xe] : List Value).toArray s = true) (hlocks : meth.locks = false) (hE : EX E A s s.heap) (hN : NX s) (htb : c.exceptionTable.toList = tableOf hhC) (hK : KX E s) (hA : ∀ q : Nat, s.heap.size ≤ q → A q) (hP : va_P E.1 vwCl (W_K E k v) s.heap) (hD : va_D A (W_K E k v)) (hS : va_S A s.heap s.heap []) (hl : lv_has ls 8 [(0, .ref k.1), (1, .int what), (2, .int xa), (3, .int xb), (4, .int xc), (5, .int xd), (6, .int xe)]) : W p l e rm_L_call s m ([.ref k.1, .int what, .int xa, .int xb, .int xc, .int xd, .int xe] : List Value).toArray below meth c s.heap [] 0 0 (vx_MQ below (QW E (some (.int r.1)) (W_K E k r.2) A) (fun _ _ _ => False) ([.ref k.1, .int what, .int xa, .int xb, .int xc, .int xd, .int xe] : List Value).toArray s 3 (6 * 3) A) (F0 m 471 ls []) := by
  unfold F_arm_culprit at hf
  obtain ⟨u, hu, hf⟩ := bn hf
  refine lv_aload_n hx hb dL_call_471 rfl (lv_at hl 0 rfl) ?_
  refine lv_iload_n hx hb dL_call_472 rfl (lv_at hl 2 rfl) ?_
  refine lv_iload_n hx hb dL_call_473 rfl (lv_at hl 3 rfl) ?_
  have hP : va_P E.1 vwCl (W_K E k v ++ []) s.heap := by rw [List.append_nil]; exact hP
  have hD : va_D A (W_K E k v ++ []) := by rw [List.append_nil]; exact hD
  refine lk_X (As := [.int xa, .int xb]) (rest := []) (wr := []) hx hb hml hown hg (k_X8_culprit E l hst k v xa xb u hu) cy_X8_culprit ml_L_124 ⟨⟨rfl, rfl⟩, Nat.le_of_ble_eq_true rfl, Nat.le_of_ble_eq_true rfl⟩ hK hE hP hD hS hA (W_Ka E k _ _) rfl rfl rfl hl.1 rfl (Nat.le_of_ble_eq_true rfl) dL_call_474 ⟨Nat.le_of_ble_eq_true rfl, Nat.le_of_ble_eq_true rfl⟩ [.int u.2] rfl (fun h0 H locs hP hD hS => ?_) (fun h0 H locs ce q9 hP hD hS hce hcv hcl => ?_)
  · rw [List.append_nil] at hP
    have hf := it h0 hf
    obtain rfl := Option.some.inj hf
    exact lm_yret hx hb hr rfl hlocks hP hS dL_call_477 (Nat.le_of_ble_eq_true rfl) (Nat.le_of_ble_eq_true rfl)
  · rw [List.append_nil] at hP
    have hf := ie (Nat.pos_iff_ne_zero.mp h0) hf
    obtain ⟨x, hx9, hf⟩ := bn hf
    obtain rfl := Option.some.inj hf
    exact lc_any (i1 := 80) (i2 := 124) (i3 := 36) (i4 := 168) hx hb hr hml hown hg hlocks hE hN htb (by decide +kernel) (by decide +kernel) (by decide +kernel) (by decide +kernel) hx9 hce hcv hcl hP hS hl (Nat.le_of_ble_eq_true rfl) (Nat.le_of_ble_eq_true rfl)
def F_arm_minutesOut (v : KV) (xa : Int32) : Option (Int32 × KV) := (F_X8_minutesOut (v.1) (v.2.2.1) (v.2.2.2.1) (v.2.2.2.2.2.1) xa).bind (fun u => if u.1 = 0 then some (u.2, v) else (excO u.1).bind (fun x => some (x, v)))
set_option maxRecDepth 100000 in
set_option maxHeartbeats 4000000 in
theorem arm_minutesOut {p : Program} {l : Launch} {e : Env} {s : State} {m : MethodId} {below : List Frame} {meth : Method} {c : Code} {A : Nat → Prop} {ls : Array Slot} {E : Ev} (hst : l.stackTraces = false) (k : KA) (v : KV) (what xa xb xc xd xe : Int32) (r : Int32 × KV) (hf : F_arm_minutesOut v xa = some r) (hx : p.tables.exec = Jvm.exec) (hb : c.code = cL_call) (hr : meth.sig.returnType = some .int) (hml : c.maxLocals = 8) (hown : s.vm.findClass RL = some m.cls) (hg : ∀ w ∈ GA, w.before ([.ref k.1, .int what, .int xa, .int xb, .int xc, .int xd, .int xe] : List Value).toArray s = true) (hlocks : meth.locks = false) (hE : EX E A s s.heap) (hN : NX s) (htb : c.exceptionTable.toList = tableOf hhC) (hK : KX E s) (hA : ∀ q : Nat, s.heap.size ≤ q → A q) (hP : va_P E.1 vwCl (W_K E k v) s.heap) (hD : va_D A (W_K E k v)) (hS : va_S A s.heap s.heap []) (hl : lv_has ls 8 [(0, .ref k.1), (1, .int what), (2, .int xa), (3, .int xb), (4, .int xc), (5, .int xd), (6, .int xe)]) : W p l e rm_L_call s m ([.ref k.1, .int what, .int xa, .int xb, .int xc, .int xd, .int xe] : List Value).toArray below meth c s.heap [] 0 0 (vx_MQ below (QW E (some (.int r.1)) (W_K E k r.2) A) (fun _ _ _ => False) ([.ref k.1, .int what, .int xa, .int xb, .int xc, .int xd, .int xe] : List Value).toArray s 3 (6 * 3) A) (F0 m 478 ls []) := by
  unfold F_arm_minutesOut at hf
  obtain ⟨u, hu, hf⟩ := bn hf
  refine lv_aload_n hx hb dL_call_478 rfl (lv_at hl 0 rfl) ?_
  refine lv_iload_n hx hb dL_call_479 rfl (lv_at hl 2 rfl) ?_
  have hP : va_P E.1 vwCl (W_K E k v ++ []) s.heap := by rw [List.append_nil]; exact hP
  have hD : va_D A (W_K E k v ++ []) := by rw [List.append_nil]; exact hD
  refine lk_X (As := [.int xa]) (rest := []) (wr := []) hx hb hml hown hg (k_X8_minutesOut E l hst k v xa u hu) cy_X8_minutesOut ml_L_127 ⟨⟨rfl, rfl⟩, Nat.le_of_ble_eq_true rfl, Nat.le_of_ble_eq_true rfl⟩ hK hE hP hD hS hA (W_Ka E k _ _) rfl rfl rfl hl.1 rfl (Nat.le_of_ble_eq_true rfl) dL_call_480 ⟨Nat.le_of_ble_eq_true rfl, Nat.le_of_ble_eq_true rfl⟩ [.int u.2] rfl (fun h0 H locs hP hD hS => ?_) (fun h0 H locs ce q9 hP hD hS hce hcv hcl => ?_)
  · rw [List.append_nil] at hP
    have hf := it h0 hf
    obtain rfl := Option.some.inj hf
    exact lm_yret hx hb hr rfl hlocks hP hS dL_call_483 (Nat.le_of_ble_eq_true rfl) (Nat.le_of_ble_eq_true rfl)
  · rw [List.append_nil] at hP
    have hf := ie (Nat.pos_iff_ne_zero.mp h0) hf
    obtain ⟨x, hx9, hf⟩ := bn hf
    obtain rfl := Option.some.inj hf
    exact lc_any (i1 := 81) (i2 := 125) (i3 := 37) (i4 := 169) hx hb hr hml hown hg hlocks hE hN htb (by decide +kernel) (by decide +kernel) (by decide +kernel) (by decide +kernel) hx9 hce hcv hcl hP hS hl (Nat.le_of_ble_eq_true rfl) (Nat.le_of_ble_eq_true rfl)
def F_arm_minutesTogether (v : KV) (xa : Int32) (xb : Int32) : Option (Int32 × KV) := (F_X8_minutesTogether (v.1) (v.2.2.1) (v.2.2.2.1) (v.2.2.2.2.2.1) xa xb).bind (fun u => if u.1 = 0 then some (u.2, v) else (excO u.1).bind (fun x => some (x, v)))
set_option maxRecDepth 100000 in
set_option maxHeartbeats 4000000 in
theorem arm_minutesTogether {p : Program} {l : Launch} {e : Env} {s : State} {m : MethodId} {below : List Frame} {meth : Method} {c : Code} {A : Nat → Prop} {ls : Array Slot} {E : Ev} (hst : l.stackTraces = false) (k : KA) (v : KV) (what xa xb xc xd xe : Int32) (r : Int32 × KV) (hf : F_arm_minutesTogether v xa xb = some r) (hx : p.tables.exec = Jvm.exec) (hb : c.code = cL_call) (hr : meth.sig.returnType = some .int) (hml : c.maxLocals = 8) (hown : s.vm.findClass RL = some m.cls) (hg : ∀ w ∈ GA, w.before ([.ref k.1, .int what, .int xa, .int xb, .int xc, .int xd, .int xe] : List Value).toArray s = true) (hlocks : meth.locks = false) (hE : EX E A s s.heap) (hN : NX s) (htb : c.exceptionTable.toList = tableOf hhC) (hK : KX E s) (hA : ∀ q : Nat, s.heap.size ≤ q → A q) (hP : va_P E.1 vwCl (W_K E k v) s.heap) (hD : va_D A (W_K E k v)) (hS : va_S A s.heap s.heap []) (hl : lv_has ls 8 [(0, .ref k.1), (1, .int what), (2, .int xa), (3, .int xb), (4, .int xc), (5, .int xd), (6, .int xe)]) : W p l e rm_L_call s m ([.ref k.1, .int what, .int xa, .int xb, .int xc, .int xd, .int xe] : List Value).toArray below meth c s.heap [] 0 0 (vx_MQ below (QW E (some (.int r.1)) (W_K E k r.2) A) (fun _ _ _ => False) ([.ref k.1, .int what, .int xa, .int xb, .int xc, .int xd, .int xe] : List Value).toArray s 3 (6 * 3) A) (F0 m 484 ls []) := by
  unfold F_arm_minutesTogether at hf
  obtain ⟨u, hu, hf⟩ := bn hf
  refine lv_aload_n hx hb dL_call_484 rfl (lv_at hl 0 rfl) ?_
  refine lv_iload_n hx hb dL_call_485 rfl (lv_at hl 2 rfl) ?_
  refine lv_iload_n hx hb dL_call_486 rfl (lv_at hl 3 rfl) ?_
  have hP : va_P E.1 vwCl (W_K E k v ++ []) s.heap := by rw [List.append_nil]; exact hP
  have hD : va_D A (W_K E k v ++ []) := by rw [List.append_nil]; exact hD
  refine lk_X (As := [.int xa, .int xb]) (rest := []) (wr := []) hx hb hml hown hg (k_X8_minutesTogether E l hst k v xa xb u hu) cy_X8_minutesTogether ml_L_130 ⟨⟨rfl, rfl⟩, Nat.le_of_ble_eq_true rfl, Nat.le_of_ble_eq_true rfl⟩ hK hE hP hD hS hA (W_Ka E k _ _) rfl rfl rfl hl.1 rfl (Nat.le_of_ble_eq_true rfl) dL_call_487 ⟨Nat.le_of_ble_eq_true rfl, Nat.le_of_ble_eq_true rfl⟩ [.int u.2] rfl (fun h0 H locs hP hD hS => ?_) (fun h0 H locs ce q9 hP hD hS hce hcv hcl => ?_)
  · rw [List.append_nil] at hP
    have hf := it h0 hf
    obtain rfl := Option.some.inj hf
    exact lm_yret hx hb hr rfl hlocks hP hS dL_call_490 (Nat.le_of_ble_eq_true rfl) (Nat.le_of_ble_eq_true rfl)
  · rw [List.append_nil] at hP
    have hf := ie (Nat.pos_iff_ne_zero.mp h0) hf
    obtain ⟨x, hx9, hf⟩ := bn hf
    obtain rfl := Option.some.inj hf
    exact lc_any (i1 := 82) (i2 := 126) (i3 := 38) (i4 := 170) hx hb hr hml hown hg hlocks hE hN htb (by decide +kernel) (by decide +kernel) (by decide +kernel) (by decide +kernel) hx9 hce hcv hcl hP hS hl (Nat.le_of_ble_eq_true rfl) (Nat.le_of_ble_eq_true rfl)
def F_arm_umbrellaFor (v : KV) (xa : Int32) : Option (Int32 × KV) := (F_X8_umbrellaFor (v.1) (v.2.2.1) (v.2.2.2.1) (v.2.2.2.2.1) xa).bind (fun u => if u.1 = 0 then some (u.2, v) else (excO u.1).bind (fun x => some (x, v)))
set_option maxRecDepth 100000 in
set_option maxHeartbeats 4000000 in
theorem arm_umbrellaFor {p : Program} {l : Launch} {e : Env} {s : State} {m : MethodId} {below : List Frame} {meth : Method} {c : Code} {A : Nat → Prop} {ls : Array Slot} {E : Ev} (hst : l.stackTraces = false) (k : KA) (v : KV) (what xa xb xc xd xe : Int32) (r : Int32 × KV) (hf : F_arm_umbrellaFor v xa = some r) (hx : p.tables.exec = Jvm.exec) (hb : c.code = cL_call) (hr : meth.sig.returnType = some .int) (hml : c.maxLocals = 8) (hown : s.vm.findClass RL = some m.cls) (hg : ∀ w ∈ GA, w.before ([.ref k.1, .int what, .int xa, .int xb, .int xc, .int xd, .int xe] : List Value).toArray s = true) (hlocks : meth.locks = false) (hE : EX E A s s.heap) (hN : NX s) (htb : c.exceptionTable.toList = tableOf hhC) (hK : KX E s) (hA : ∀ q : Nat, s.heap.size ≤ q → A q) (hP : va_P E.1 vwCl (W_K E k v) s.heap) (hD : va_D A (W_K E k v)) (hS : va_S A s.heap s.heap []) (hl : lv_has ls 8 [(0, .ref k.1), (1, .int what), (2, .int xa), (3, .int xb), (4, .int xc), (5, .int xd), (6, .int xe)]) : W p l e rm_L_call s m ([.ref k.1, .int what, .int xa, .int xb, .int xc, .int xd, .int xe] : List Value).toArray below meth c s.heap [] 0 0 (vx_MQ below (QW E (some (.int r.1)) (W_K E k r.2) A) (fun _ _ _ => False) ([.ref k.1, .int what, .int xa, .int xb, .int xc, .int xd, .int xe] : List Value).toArray s 3 (6 * 3) A) (F0 m 491 ls []) := by
  unfold F_arm_umbrellaFor at hf
  obtain ⟨u, hu, hf⟩ := bn hf
  refine lv_aload_n hx hb dL_call_491 rfl (lv_at hl 0 rfl) ?_
  refine lv_iload_n hx hb dL_call_492 rfl (lv_at hl 2 rfl) ?_
  have hP : va_P E.1 vwCl (W_K E k v ++ []) s.heap := by rw [List.append_nil]; exact hP
  have hD : va_D A (W_K E k v ++ []) := by rw [List.append_nil]; exact hD
  refine lk_X (As := [.int xa]) (rest := []) (wr := []) hx hb hml hown hg (k_X8_umbrellaFor E l hst k v xa u hu) cy_X8_umbrellaFor ml_L_133 ⟨⟨rfl, rfl⟩, Nat.le_of_ble_eq_true rfl, Nat.le_of_ble_eq_true rfl⟩ hK hE hP hD hS hA (W_Ka E k _ _) rfl rfl rfl hl.1 rfl (Nat.le_of_ble_eq_true rfl) dL_call_493 ⟨Nat.le_of_ble_eq_true rfl, Nat.le_of_ble_eq_true rfl⟩ [.int u.2] rfl (fun h0 H locs hP hD hS => ?_) (fun h0 H locs ce q9 hP hD hS hce hcv hcl => ?_)
  · rw [List.append_nil] at hP
    have hf := it h0 hf
    obtain rfl := Option.some.inj hf
    exact lm_yret hx hb hr rfl hlocks hP hS dL_call_496 (Nat.le_of_ble_eq_true rfl) (Nat.le_of_ble_eq_true rfl)
  · rw [List.append_nil] at hP
    have hf := ie (Nat.pos_iff_ne_zero.mp h0) hf
    obtain ⟨x, hx9, hf⟩ := bn hf
    obtain rfl := Option.some.inj hf
    exact lc_any (i1 := 83) (i2 := 127) (i3 := 39) (i4 := 171) hx hb hr hml hown hg hlocks hE hN htb (by decide +kernel) (by decide +kernel) (by decide +kernel) (by decide +kernel) hx9 hce hcv hcl hP hS hl (Nat.le_of_ble_eq_true rfl) (Nat.le_of_ble_eq_true rfl)
def F_arm_tipOf (v : KV) (xa : Int32) : Option (Int32 × KV) := (F_X8_tipOf (v.1) (v.2.2.1) (v.2.2.2.1) (v.2.2.2.2.2.1) xa).bind (fun u => if u.1 = 0 then some (u.2, v) else (excO u.1).bind (fun x => some (x, v)))
set_option maxRecDepth 100000 in
set_option maxHeartbeats 4000000 in
theorem arm_tipOf {p : Program} {l : Launch} {e : Env} {s : State} {m : MethodId} {below : List Frame} {meth : Method} {c : Code} {A : Nat → Prop} {ls : Array Slot} {E : Ev} (hst : l.stackTraces = false) (k : KA) (v : KV) (what xa xb xc xd xe : Int32) (r : Int32 × KV) (hf : F_arm_tipOf v xa = some r) (hx : p.tables.exec = Jvm.exec) (hb : c.code = cL_call) (hr : meth.sig.returnType = some .int) (hml : c.maxLocals = 8) (hown : s.vm.findClass RL = some m.cls) (hg : ∀ w ∈ GA, w.before ([.ref k.1, .int what, .int xa, .int xb, .int xc, .int xd, .int xe] : List Value).toArray s = true) (hlocks : meth.locks = false) (hE : EX E A s s.heap) (hN : NX s) (htb : c.exceptionTable.toList = tableOf hhC) (hK : KX E s) (hA : ∀ q : Nat, s.heap.size ≤ q → A q) (hP : va_P E.1 vwCl (W_K E k v) s.heap) (hD : va_D A (W_K E k v)) (hS : va_S A s.heap s.heap []) (hl : lv_has ls 8 [(0, .ref k.1), (1, .int what), (2, .int xa), (3, .int xb), (4, .int xc), (5, .int xd), (6, .int xe)]) : W p l e rm_L_call s m ([.ref k.1, .int what, .int xa, .int xb, .int xc, .int xd, .int xe] : List Value).toArray below meth c s.heap [] 0 0 (vx_MQ below (QW E (some (.int r.1)) (W_K E k r.2) A) (fun _ _ _ => False) ([.ref k.1, .int what, .int xa, .int xb, .int xc, .int xd, .int xe] : List Value).toArray s 3 (6 * 3) A) (F0 m 497 ls []) := by
  unfold F_arm_tipOf at hf
  obtain ⟨u, hu, hf⟩ := bn hf
  refine lv_aload_n hx hb dL_call_497 rfl (lv_at hl 0 rfl) ?_
  refine lv_iload_n hx hb dL_call_498 rfl (lv_at hl 2 rfl) ?_
  have hP : va_P E.1 vwCl (W_K E k v ++ []) s.heap := by rw [List.append_nil]; exact hP
  have hD : va_D A (W_K E k v ++ []) := by rw [List.append_nil]; exact hD
  refine lk_X (As := [.int xa]) (rest := []) (wr := []) hx hb hml hown hg (k_X8_tipOf E l hst k v xa u hu) cy_X8_tipOf ml_L_136 ⟨⟨rfl, rfl⟩, Nat.le_of_ble_eq_true rfl, Nat.le_of_ble_eq_true rfl⟩ hK hE hP hD hS hA (W_Ka E k _ _) rfl rfl rfl hl.1 rfl (Nat.le_of_ble_eq_true rfl) dL_call_499 ⟨Nat.le_of_ble_eq_true rfl, Nat.le_of_ble_eq_true rfl⟩ [.int u.2] rfl (fun h0 H locs hP hD hS => ?_) (fun h0 H locs ce q9 hP hD hS hce hcv hcl => ?_)
  · rw [List.append_nil] at hP
    have hf := it h0 hf
    obtain rfl := Option.some.inj hf
    exact lm_yret hx hb hr rfl hlocks hP hS dL_call_502 (Nat.le_of_ble_eq_true rfl) (Nat.le_of_ble_eq_true rfl)
  · rw [List.append_nil] at hP
    have hf := ie (Nat.pos_iff_ne_zero.mp h0) hf
    obtain ⟨x, hx9, hf⟩ := bn hf
    obtain rfl := Option.some.inj hf
    exact lc_any (i1 := 84) (i2 := 128) (i3 := 40) (i4 := 172) hx hb hr hml hown hg hlocks hE hN htb (by decide +kernel) (by decide +kernel) (by decide +kernel) (by decide +kernel) hx9 hce hcv hcl hP hS hl (Nat.le_of_ble_eq_true rfl) (Nat.le_of_ble_eq_true rfl)
def F_arm_complaintsAfter (v : KV) (xa : Int32) : Option (Int32 × KV) := (F_X8_complaintsAfter (v.1) (v.2.2.1) (v.2.2.2.1) xa).bind (fun u => if u.1 = 0 then some (u.2, v) else (excO u.1).bind (fun x => some (x, v)))
set_option maxRecDepth 100000 in
set_option maxHeartbeats 4000000 in
theorem arm_complaintsAfter {p : Program} {l : Launch} {e : Env} {s : State} {m : MethodId} {below : List Frame} {meth : Method} {c : Code} {A : Nat → Prop} {ls : Array Slot} {E : Ev} (hst : l.stackTraces = false) (k : KA) (v : KV) (what xa xb xc xd xe : Int32) (r : Int32 × KV) (hf : F_arm_complaintsAfter v xa = some r) (hx : p.tables.exec = Jvm.exec) (hb : c.code = cL_call) (hr : meth.sig.returnType = some .int) (hml : c.maxLocals = 8) (hown : s.vm.findClass RL = some m.cls) (hg : ∀ w ∈ GA, w.before ([.ref k.1, .int what, .int xa, .int xb, .int xc, .int xd, .int xe] : List Value).toArray s = true) (hlocks : meth.locks = false) (hE : EX E A s s.heap) (hN : NX s) (htb : c.exceptionTable.toList = tableOf hhC) (hK : KX E s) (hA : ∀ q : Nat, s.heap.size ≤ q → A q) (hP : va_P E.1 vwCl (W_K E k v) s.heap) (hD : va_D A (W_K E k v)) (hS : va_S A s.heap s.heap []) (hl : lv_has ls 8 [(0, .ref k.1), (1, .int what), (2, .int xa), (3, .int xb), (4, .int xc), (5, .int xd), (6, .int xe)]) : W p l e rm_L_call s m ([.ref k.1, .int what, .int xa, .int xb, .int xc, .int xd, .int xe] : List Value).toArray below meth c s.heap [] 0 0 (vx_MQ below (QW E (some (.int r.1)) (W_K E k r.2) A) (fun _ _ _ => False) ([.ref k.1, .int what, .int xa, .int xb, .int xc, .int xd, .int xe] : List Value).toArray s 3 (6 * 3) A) (F0 m 503 ls []) := by
  unfold F_arm_complaintsAfter at hf
  obtain ⟨u, hu, hf⟩ := bn hf
  refine lv_aload_n hx hb dL_call_503 rfl (lv_at hl 0 rfl) ?_
  refine lv_iload_n hx hb dL_call_504 rfl (lv_at hl 2 rfl) ?_
  have hP : va_P E.1 vwCl (W_K E k v ++ []) s.heap := by rw [List.append_nil]; exact hP
  have hD : va_D A (W_K E k v ++ []) := by rw [List.append_nil]; exact hD
  refine lk_X (As := [.int xa]) (rest := []) (wr := []) hx hb hml hown hg (k_X8_complaintsAfter E l hst k v xa u hu) cy_X8_complaintsAfter ml_L_139 ⟨⟨rfl, rfl⟩, Nat.le_of_ble_eq_true rfl, Nat.le_of_ble_eq_true rfl⟩ hK hE hP hD hS hA (W_Ka E k _ _) rfl rfl rfl hl.1 rfl (Nat.le_of_ble_eq_true rfl) dL_call_505 ⟨Nat.le_of_ble_eq_true rfl, Nat.le_of_ble_eq_true rfl⟩ [.int u.2] rfl (fun h0 H locs hP hD hS => ?_) (fun h0 H locs ce q9 hP hD hS hce hcv hcl => ?_)
  · rw [List.append_nil] at hP
    have hf := it h0 hf
    obtain rfl := Option.some.inj hf
    exact lm_yret hx hb hr rfl hlocks hP hS dL_call_508 (Nat.le_of_ble_eq_true rfl) (Nat.le_of_ble_eq_true rfl)
  · rw [List.append_nil] at hP
    have hf := ie (Nat.pos_iff_ne_zero.mp h0) hf
    obtain ⟨x, hx9, hf⟩ := bn hf
    obtain rfl := Option.some.inj hf
    exact lc_any (i1 := 85) (i2 := 129) (i3 := 41) (i4 := 173) hx hb hr hml hown hg hlocks hE hN htb (by decide +kernel) (by decide +kernel) (by decide +kernel) (by decide +kernel) hx9 hce hcv hcl hP hS hl (Nat.le_of_ble_eq_true rfl) (Nat.le_of_ble_eq_true rfl)
def F_arm_writeEntries (v : KV) (xa : Int32) : Option (Int32 × KV) := (F_X8_writeEntries (v.1) (v.2.2.1) (v.2.2.2.1) (v.2.2.2.2.2.1) (v.2.2.2.2.2.2.2.2.2.2.2.2.2.2.2) xa).bind (fun u => if u.1 = 0 then some (u.2.1, (v.1, v.2.1, v.2.2.1, v.2.2.2.1, v.2.2.2.2.1, v.2.2.2.2.2.1, v.2.2.2.2.2.2.1, v.2.2.2.2.2.2.2.1, v.2.2.2.2.2.2.2.2.1, v.2.2.2.2.2.2.2.2.2.1, v.2.2.2.2.2.2.2.2.2.2.1, v.2.2.2.2.2.2.2.2.2.2.2.1, v.2.2.2.2.2.2.2.2.2.2.2.2.1, v.2.2.2.2.2.2.2.2.2.2.2.2.2.1, v.2.2.2.2.2.2.2.2.2.2.2.2.2.2.1, u.2.2)) else (excO u.1).bind (fun x => some (x, (v.1, v.2.1, v.2.2.1, v.2.2.2.1, v.2.2.2.2.1, v.2.2.2.2.2.1, v.2.2.2.2.2.2.1, v.2.2.2.2.2.2.2.1, v.2.2.2.2.2.2.2.2.1, v.2.2.2.2.2.2.2.2.2.1, v.2.2.2.2.2.2.2.2.2.2.1, v.2.2.2.2.2.2.2.2.2.2.2.1, v.2.2.2.2.2.2.2.2.2.2.2.2.1, v.2.2.2.2.2.2.2.2.2.2.2.2.2.1, v.2.2.2.2.2.2.2.2.2.2.2.2.2.2.1, u.2.2))))
set_option maxRecDepth 100000 in
set_option maxHeartbeats 4000000 in
theorem arm_writeEntries {p : Program} {l : Launch} {e : Env} {s : State} {m : MethodId} {below : List Frame} {meth : Method} {c : Code} {A : Nat → Prop} {ls : Array Slot} {E : Ev} (hst : l.stackTraces = false) (k : KA) (v : KV) (what xa xb xc xd xe : Int32) (r : Int32 × KV) (hf : F_arm_writeEntries v xa = some r) (hx : p.tables.exec = Jvm.exec) (hb : c.code = cL_call) (hr : meth.sig.returnType = some .int) (hml : c.maxLocals = 8) (hown : s.vm.findClass RL = some m.cls) (hg : ∀ w ∈ GA, w.before ([.ref k.1, .int what, .int xa, .int xb, .int xc, .int xd, .int xe] : List Value).toArray s = true) (hlocks : meth.locks = false) (hE : EX E A s s.heap) (hN : NX s) (htb : c.exceptionTable.toList = tableOf hhC) (hK : KX E s) (hA : ∀ q : Nat, s.heap.size ≤ q → A q) (hP : va_P E.1 vwCl (W_K E k v) s.heap) (hD : va_D A (W_K E k v)) (hS : va_S A s.heap s.heap []) (hl : lv_has ls 8 [(0, .ref k.1), (1, .int what), (2, .int xa), (3, .int xb), (4, .int xc), (5, .int xd), (6, .int xe)]) : W p l e rm_L_call s m ([.ref k.1, .int what, .int xa, .int xb, .int xc, .int xd, .int xe] : List Value).toArray below meth c s.heap [] 0 0 (vx_MQ below (QW E (some (.int r.1)) (W_K E k r.2) A) (fun _ _ _ => False) ([.ref k.1, .int what, .int xa, .int xb, .int xc, .int xd, .int xe] : List Value).toArray s 3 (6 * 3) A) (F0 m 509 ls []) := by
  unfold F_arm_writeEntries at hf
  obtain ⟨u, hu, hf⟩ := bn hf
  refine lv_aload_n hx hb dL_call_509 rfl (lv_at hl 0 rfl) ?_
  refine lv_iload_n hx hb dL_call_510 rfl (lv_at hl 2 rfl) ?_
  have hP : va_P E.1 vwCl (W_K E k v ++ []) s.heap := by rw [List.append_nil]; exact hP
  have hD : va_D A (W_K E k v ++ []) := by rw [List.append_nil]; exact hD
  refine lk_X (As := [.int xa]) (rest := []) (wr := []) hx hb hml hown hg (k_X8_writeEntries E l hst k v xa u hu) cy_X8_writeEntries ml_L_142 ⟨⟨rfl, rfl⟩, Nat.le_of_ble_eq_true rfl, Nat.le_of_ble_eq_true rfl⟩ hK hE hP hD hS hA (W_Ka E k _ _) rfl rfl rfl hl.1 rfl (Nat.le_of_ble_eq_true rfl) dL_call_511 ⟨Nat.le_of_ble_eq_true rfl, Nat.le_of_ble_eq_true rfl⟩ [.int u.2.1] rfl (fun h0 H locs hP hD hS => ?_) (fun h0 H locs ce q9 hP hD hS hce hcv hcl => ?_)
  · rw [List.append_nil] at hP
    have hf := it h0 hf
    obtain rfl := Option.some.inj hf
    exact lm_yret hx hb hr rfl hlocks hP hS dL_call_514 (Nat.le_of_ble_eq_true rfl) (Nat.le_of_ble_eq_true rfl)
  · rw [List.append_nil] at hP
    have hf := ie (Nat.pos_iff_ne_zero.mp h0) hf
    obtain ⟨x, hx9, hf⟩ := bn hf
    obtain rfl := Option.some.inj hf
    exact lc_any (i1 := 86) (i2 := 130) (i3 := 42) (i4 := 174) hx hb hr hml hown hg hlocks hE hN htb (by decide +kernel) (by decide +kernel) (by decide +kernel) (by decide +kernel) hx9 hce hcv hcl hP hS hl (Nat.le_of_ble_eq_true rfl) (Nat.le_of_ble_eq_true rfl)
def F_arm_writtenByte (v : KV) (xa : Int32) : Option (Int32 × KV) := (F_X8_writtenByte (v.1) (v.2.2.2.2.2.2.2.2.2.2.2.2.2.2.2) xa).bind (fun u => if u.1 = 0 then some (u.2, v) else (excO u.1).bind (fun x => some (x, v)))
set_option maxRecDepth 100000 in
set_option maxHeartbeats 4000000 in
theorem arm_writtenByte {p : Program} {l : Launch} {e : Env} {s : State} {m : MethodId} {below : List Frame} {meth : Method} {c : Code} {A : Nat → Prop} {ls : Array Slot} {E : Ev} (hst : l.stackTraces = false) (k : KA) (v : KV) (what xa xb xc xd xe : Int32) (r : Int32 × KV) (hf : F_arm_writtenByte v xa = some r) (hx : p.tables.exec = Jvm.exec) (hb : c.code = cL_call) (hr : meth.sig.returnType = some .int) (hml : c.maxLocals = 8) (hown : s.vm.findClass RL = some m.cls) (hg : ∀ w ∈ GA, w.before ([.ref k.1, .int what, .int xa, .int xb, .int xc, .int xd, .int xe] : List Value).toArray s = true) (hlocks : meth.locks = false) (hE : EX E A s s.heap) (hN : NX s) (htb : c.exceptionTable.toList = tableOf hhC) (hK : KX E s) (hA : ∀ q : Nat, s.heap.size ≤ q → A q) (hP : va_P E.1 vwCl (W_K E k v) s.heap) (hD : va_D A (W_K E k v)) (hS : va_S A s.heap s.heap []) (hl : lv_has ls 8 [(0, .ref k.1), (1, .int what), (2, .int xa), (3, .int xb), (4, .int xc), (5, .int xd), (6, .int xe)]) : W p l e rm_L_call s m ([.ref k.1, .int what, .int xa, .int xb, .int xc, .int xd, .int xe] : List Value).toArray below meth c s.heap [] 0 0 (vx_MQ below (QW E (some (.int r.1)) (W_K E k r.2) A) (fun _ _ _ => False) ([.ref k.1, .int what, .int xa, .int xb, .int xc, .int xd, .int xe] : List Value).toArray s 3 (6 * 3) A) (F0 m 515 ls []) := by
  unfold F_arm_writtenByte at hf
  obtain ⟨u, hu, hf⟩ := bn hf
  refine lv_aload_n hx hb dL_call_515 rfl (lv_at hl 0 rfl) ?_
  refine lv_iload_n hx hb dL_call_516 rfl (lv_at hl 2 rfl) ?_
  have hP : va_P E.1 vwCl (W_K E k v ++ []) s.heap := by rw [List.append_nil]; exact hP
  have hD : va_D A (W_K E k v ++ []) := by rw [List.append_nil]; exact hD
  refine lk_X (As := [.int xa]) (rest := []) (wr := []) hx hb hml hown hg (k_X8_writtenByte E l hst k v xa u hu) cy_X8_writtenByte ml_L_145 ⟨⟨rfl, rfl⟩, Nat.le_of_ble_eq_true rfl, Nat.le_of_ble_eq_true rfl⟩ hK hE hP hD hS hA (W_Ka E k _ _) rfl rfl rfl hl.1 rfl (Nat.le_of_ble_eq_true rfl) dL_call_517 ⟨Nat.le_of_ble_eq_true rfl, Nat.le_of_ble_eq_true rfl⟩ [.int u.2] rfl (fun h0 H locs hP hD hS => ?_) (fun h0 H locs ce q9 hP hD hS hce hcv hcl => ?_)
  · rw [List.append_nil] at hP
    have hf := it h0 hf
    obtain rfl := Option.some.inj hf
    exact lm_yret hx hb hr rfl hlocks hP hS dL_call_520 (Nat.le_of_ble_eq_true rfl) (Nat.le_of_ble_eq_true rfl)
  · rw [List.append_nil] at hP
    have hf := ie (Nat.pos_iff_ne_zero.mp h0) hf
    obtain ⟨x, hx9, hf⟩ := bn hf
    obtain rfl := Option.some.inj hf
    exact lc_any (i1 := 87) (i2 := 131) (i3 := 43) (i4 := 175) hx hb hr hml hown hg hlocks hE hN htb (by decide +kernel) (by decide +kernel) (by decide +kernel) (by decide +kernel) hx9 hce hcv hcl hP hS hl (Nat.le_of_ble_eq_true rfl) (Nat.le_of_ble_eq_true rfl)
def F_K_call (v : KV) (what xa xb xc xd xe : Int32) : Option (Int32 × KV) := if what = 0 then F_arm_addGuest v xa xb else (if what = 1 then F_arm_addUmbrella v xa xb else (if what = 2 then F_arm_leave v xa else (if what = 3 then F_arm_comeBack v xa else (if what = 4 then F_arm_passMinutes v xa else (if what = 5 then F_arm_walkDog v xa else (if what = 6 then F_arm_setRain v xa else (if what = 7 then F_arm_setNoiseLimit v xa else (if what = 8 then F_arm_undo v else (if what = 9 then F_arm_saveSnapshot v xa else (if what = 10 then F_arm_restoreSnapshot v xa else (if what = 11 then F_arm_load v else (if what = 12 then F_arm_append v xa xb xc xd xe else (if what = 13 then F_arm_shorten v xa else (if what = 14 then F_arm_errorOffset v else (if what = 15 then F_arm_nameLength v xa else (if what = 16 then F_arm_nameByte v xa xb else (if what = 17 then F_arm_guestOfInput v else (if what = 18 then F_arm_generosity v xa else (if what = 19 then F_arm_bark v xa else (if what = 20 then F_arm_isOut v xa else (if what = 21 then F_arm_outSince v xa else (if what = 22 then F_arm_soak v xa else (if what = 23 then F_arm_wouldBark v xa else (if what = 24 then F_arm_ownerOf v xa else (if what = 25 then F_arm_wetness v xa else (if what = 26 then F_arm_isInStand v xa else (if what = 27 then F_arm_isUsable v xa else (if what = 28 then F_arm_carrierOf v xa else (if what = 29 then F_arm_umbrellaOf v xa else (if what = 30 then F_arm_entryMinute v xa else (if what = 31 then F_arm_entryGuest v xa else (if what = 32 then F_arm_isLeaving v xa else (if what = 33 then F_arm_wasOut v xa xb else (if what = 34 then F_arm_hasAlibi v xa xb xc else (if what = 35 then F_arm_suspects v xa xb else (if what = 36 then F_arm_culprit v xa xb else (if what = 37 then F_arm_minutesOut v xa else (if what = 38 then F_arm_minutesTogether v xa xb else (if what = 39 then F_arm_umbrellaFor v xa else (if what = 40 then F_arm_tipOf v xa else (if what = 41 then F_arm_complaintsAfter v xa else (if what = 42 then F_arm_writeEntries v xa else (F_arm_writtenByte v xa)))))))))))))))))))))))))))))))))))))))))))
theorem wh_out {x : Int32} (h : ∀ j : Nat, j < 43 → x ≠ nI j) : x.toInt < 0 ∨ 42 < x.toInt := by
  refine Decidable.byContradiction fun hn => ?_
  have h1 : 0 ≤ x.toInt ∧ x.toInt ≤ 42 := by omega
  refine h x.toInt.toNat (by omega) (Int32.toInt_inj.mp ?_)
  rw [nI_toInt (by omega)]
  omega
theorem cw_L_call : CW yL_call cL_call 8 (some .int) hhC 7 := ⟨GA_of (tb2 (List.mem_of_getElem? (i := 232) rfl)) (by decide +kernel), GA_of (tb2 (List.mem_of_getElem? (i := 231) (by decide +kernel))) (by decide +kernel), ini_L, rfl, by decide +kernel⟩
set_option maxRecDepth 100000 in
set_option maxHeartbeats 8000000 in
theorem c_K_call (E : Ev) (l : Launch) (hst : l.stackTraces = false) (k : KA) (v : KV) (what xa xb xc xd xe : Int32) (r : Int32 × KV) (hf : F_K_call v what xa xb xc xd xe = some r) : LM E l yL_call (.codeWith yL_call cL_call 8 (some .int) hhC :: GA) rm_L_call [.ref k.1, .int what, .int xa, .int xb, .int xc, .int xd, .int xe] (W_K E k v) (some (.int r.1)) (W_K E k r.2) 3 := by
  refine LM.of (own := RL) rfl (by decide) (Nat.le_of_ble_eq_true rfl) ?_
  intro p e s m below meth c A ls hx hb hr hml hown hg hlocks hK hE hN hA htb hP hD hS hl
  have hl : lv_has ls 8 [(0, .ref k.1), (1, .int what), (2, .int xa), (3, .int xb), (4, .int xc), (5, .int xd), (6, .int xe)] := hl
  unfold F_K_call at hf
  refine lv_iload_n hx hb dL_call_0 rfl (lv_at hl 1 rfl) ?_
  by_cases h0 : what = 0
  · have hf := it h0 hf
    refine lv_tableIn (tgt := 188) hx hb dL_call_1 (by rw [h0]; decide) (by rw [h0]; decide) (off := 187) (by rw [h0]; rfl) (by decide) ?_
    exact arm_addGuest hst k v what xa xb xc xd xe r hf hx hb hr hml hown hg hlocks hE hN htb hK hA hP hD hS hl
  have hf := ie h0 hf
  by_cases h1 : what = 1
  · have hf := it h1 hf
    refine lv_tableIn (tgt := 195) hx hb dL_call_1 (by rw [h1]; decide) (by rw [h1]; decide) (off := 194) (by rw [h1]; rfl) (by decide) ?_
    exact arm_addUmbrella hst k v what xa xb xc xd xe r hf hx hb hr hml hown hg hlocks hE hN htb hK hA hP hD hS hl
  have hf := ie h1 hf
  by_cases h2 : what = 2
  · have hf := it h2 hf
    refine lv_tableIn (tgt := 202) hx hb dL_call_1 (by rw [h2]; decide) (by rw [h2]; decide) (off := 201) (by rw [h2]; rfl) (by decide) ?_
    exact arm_leave hst k v what xa xb xc xd xe r hf hx hb hr hml hown hg hlocks hE hN htb hK hA hP hD hS hl
  have hf := ie h2 hf
  by_cases h3 : what = 3
  · have hf := it h3 hf
    refine lv_tableIn (tgt := 208) hx hb dL_call_1 (by rw [h3]; decide) (by rw [h3]; decide) (off := 207) (by rw [h3]; rfl) (by decide) ?_
    exact arm_comeBack hst k v what xa xb xc xd xe r hf hx hb hr hml hown hg hlocks hE hN htb hK hA hP hD hS hl
  have hf := ie h3 hf
  by_cases h4 : what = 4
  · have hf := it h4 hf
    refine lv_tableIn (tgt := 214) hx hb dL_call_1 (by rw [h4]; decide) (by rw [h4]; decide) (off := 213) (by rw [h4]; rfl) (by decide) ?_
    exact arm_passMinutes hst k v what xa xb xc xd xe r hf hx hb hr hml hown hg hlocks hE hN htb hK hA hP hD hS hl
  have hf := ie h4 hf
  by_cases h5 : what = 5
  · have hf := it h5 hf
    refine lv_tableIn (tgt := 220) hx hb dL_call_1 (by rw [h5]; decide) (by rw [h5]; decide) (off := 219) (by rw [h5]; rfl) (by decide) ?_
    exact arm_walkDog hst k v what xa xb xc xd xe r hf hx hb hr hml hown hg hlocks hE hN htb hK hA hP hD hS hl
  have hf := ie h5 hf
  by_cases h6 : what = 6
  · have hf := it h6 hf
    refine lv_tableIn (tgt := 226) hx hb dL_call_1 (by rw [h6]; decide) (by rw [h6]; decide) (off := 225) (by rw [h6]; rfl) (by decide) ?_
    exact arm_setRain hst k v what xa xb xc xd xe r hf hx hb hr hml hown hg hlocks hE hN htb hK hA hP hD hS hl
  have hf := ie h6 hf
  by_cases h7 : what = 7
  · have hf := it h7 hf
    refine lv_tableIn (tgt := 232) hx hb dL_call_1 (by rw [h7]; decide) (by rw [h7]; decide) (off := 231) (by rw [h7]; rfl) (by decide) ?_
    exact arm_setNoiseLimit hst k v what xa xb xc xd xe r hf hx hb hr hml hown hg hlocks hE hN htb hK hA hP hD hS hl
  have hf := ie h7 hf
  by_cases h8 : what = 8
  · have hf := it h8 hf
    refine lv_tableIn (tgt := 238) hx hb dL_call_1 (by rw [h8]; decide) (by rw [h8]; decide) (off := 237) (by rw [h8]; rfl) (by decide) ?_
    exact arm_undo hst k v what xa xb xc xd xe r hf hx hb hr hml hown hg hlocks hE hN htb hK hA hP hD hS hl
  have hf := ie h8 hf
  by_cases h9 : what = 9
  · have hf := it h9 hf
    refine lv_tableIn (tgt := 243) hx hb dL_call_1 (by rw [h9]; decide) (by rw [h9]; decide) (off := 242) (by rw [h9]; rfl) (by decide) ?_
    exact arm_saveSnapshot hst k v what xa xb xc xd xe r hf hx hb hr hml hown hg hlocks hE hN htb hK hA hP hD hS hl
  have hf := ie h9 hf
  by_cases h10 : what = 10
  · have hf := it h10 hf
    refine lv_tableIn (tgt := 249) hx hb dL_call_1 (by rw [h10]; decide) (by rw [h10]; decide) (off := 248) (by rw [h10]; rfl) (by decide) ?_
    exact arm_restoreSnapshot hst k v what xa xb xc xd xe r hf hx hb hr hml hown hg hlocks hE hN htb hK hA hP hD hS hl
  have hf := ie h10 hf
  by_cases h11 : what = 11
  · have hf := it h11 hf
    refine lv_tableIn (tgt := 255) hx hb dL_call_1 (by rw [h11]; decide) (by rw [h11]; decide) (off := 254) (by rw [h11]; rfl) (by decide) ?_
    exact arm_load hst k v what xa xb xc xd xe r hf hx hb hr hml hown hg hlocks hE hN htb hK hA hP hD hS hl
  have hf := ie h11 hf
  by_cases h12 : what = 12
  · have hf := it h12 hf
    refine lv_tableIn (tgt := 260) hx hb dL_call_1 (by rw [h12]; decide) (by rw [h12]; decide) (off := 259) (by rw [h12]; rfl) (by decide) ?_
    exact arm_append hst k v what xa xb xc xd xe r hf hx hb hr hml hown hg hlocks hE hN htb hK hA hP hD hS hl
  have hf := ie h12 hf
  by_cases h13 : what = 13
  · have hf := it h13 hf
    refine lv_tableIn (tgt := 273) hx hb dL_call_1 (by rw [h13]; decide) (by rw [h13]; decide) (off := 272) (by rw [h13]; rfl) (by decide) ?_
    exact arm_shorten hst k v what xa xb xc xd xe r hf hx hb hr hml hown hg hlocks hE hN htb hK hA hP hD hS hl
  have hf := ie h13 hf
  by_cases h14 : what = 14
  · have hf := it h14 hf
    refine lv_tableIn (tgt := 279) hx hb dL_call_1 (by rw [h14]; decide) (by rw [h14]; decide) (off := 278) (by rw [h14]; rfl) (by decide) ?_
    exact arm_errorOffset hst k v what xa xb xc xd xe r hf hx hb hr hml hown hg hlocks hE hN htb hK hA hP hD hS hl
  have hf := ie h14 hf
  by_cases h15 : what = 15
  · have hf := it h15 hf
    refine lv_tableIn (tgt := 284) hx hb dL_call_1 (by rw [h15]; decide) (by rw [h15]; decide) (off := 283) (by rw [h15]; rfl) (by decide) ?_
    exact arm_nameLength hst k v what xa xb xc xd xe r hf hx hb hr hml hown hg hlocks hE hN htb hK hA hP hD hS hl
  have hf := ie h15 hf
  by_cases h16 : what = 16
  · have hf := it h16 hf
    refine lv_tableIn (tgt := 290) hx hb dL_call_1 (by rw [h16]; decide) (by rw [h16]; decide) (off := 289) (by rw [h16]; rfl) (by decide) ?_
    exact arm_nameByte hst k v what xa xb xc xd xe r hf hx hb hr hml hown hg hlocks hE hN htb hK hA hP hD hS hl
  have hf := ie h16 hf
  by_cases h17 : what = 17
  · have hf := it h17 hf
    refine lv_tableIn (tgt := 297) hx hb dL_call_1 (by rw [h17]; decide) (by rw [h17]; decide) (off := 296) (by rw [h17]; rfl) (by decide) ?_
    exact arm_guestOfInput hst k v what xa xb xc xd xe r hf hx hb hr hml hown hg hlocks hE hN htb hK hA hP hD hS hl
  have hf := ie h17 hf
  by_cases h18 : what = 18
  · have hf := it h18 hf
    refine lv_tableIn (tgt := 302) hx hb dL_call_1 (by rw [h18]; decide) (by rw [h18]; decide) (off := 301) (by rw [h18]; rfl) (by decide) ?_
    exact arm_generosity hst k v what xa xb xc xd xe r hf hx hb hr hml hown hg hlocks hE hN htb hK hA hP hD hS hl
  have hf := ie h18 hf
  by_cases h19 : what = 19
  · have hf := it h19 hf
    refine lv_tableIn (tgt := 308) hx hb dL_call_1 (by rw [h19]; decide) (by rw [h19]; decide) (off := 307) (by rw [h19]; rfl) (by decide) ?_
    exact arm_bark hst k v what xa xb xc xd xe r hf hx hb hr hml hown hg hlocks hE hN htb hK hA hP hD hS hl
  have hf := ie h19 hf
  by_cases h20 : what = 20
  · have hf := it h20 hf
    refine lv_tableIn (tgt := 314) hx hb dL_call_1 (by rw [h20]; decide) (by rw [h20]; decide) (off := 313) (by rw [h20]; rfl) (by decide) ?_
    exact arm_isOut hst k v what xa xb xc xd xe r hf hx hb hr hml hown hg hlocks hE hN htb hK hA hP hD hS hl
  have hf := ie h20 hf
  by_cases h21 : what = 21
  · have hf := it h21 hf
    refine lv_tableIn (tgt := 328) hx hb dL_call_1 (by rw [h21]; decide) (by rw [h21]; decide) (off := 327) (by rw [h21]; rfl) (by decide) ?_
    exact arm_outSince hst k v what xa xb xc xd xe r hf hx hb hr hml hown hg hlocks hE hN htb hK hA hP hD hS hl
  have hf := ie h21 hf
  by_cases h22 : what = 22
  · have hf := it h22 hf
    refine lv_tableIn (tgt := 334) hx hb dL_call_1 (by rw [h22]; decide) (by rw [h22]; decide) (off := 333) (by rw [h22]; rfl) (by decide) ?_
    exact arm_soak hst k v what xa xb xc xd xe r hf hx hb hr hml hown hg hlocks hE hN htb hK hA hP hD hS hl
  have hf := ie h22 hf
  by_cases h23 : what = 23
  · have hf := it h23 hf
    refine lv_tableIn (tgt := 340) hx hb dL_call_1 (by rw [h23]; decide) (by rw [h23]; decide) (off := 339) (by rw [h23]; rfl) (by decide) ?_
    exact arm_wouldBark hst k v what xa xb xc xd xe r hf hx hb hr hml hown hg hlocks hE hN htb hK hA hP hD hS hl
  have hf := ie h23 hf
  by_cases h24 : what = 24
  · have hf := it h24 hf
    refine lv_tableIn (tgt := 354) hx hb dL_call_1 (by rw [h24]; decide) (by rw [h24]; decide) (off := 353) (by rw [h24]; rfl) (by decide) ?_
    exact arm_ownerOf hst k v what xa xb xc xd xe r hf hx hb hr hml hown hg hlocks hE hN htb hK hA hP hD hS hl
  have hf := ie h24 hf
  by_cases h25 : what = 25
  · have hf := it h25 hf
    refine lv_tableIn (tgt := 360) hx hb dL_call_1 (by rw [h25]; decide) (by rw [h25]; decide) (off := 359) (by rw [h25]; rfl) (by decide) ?_
    exact arm_wetness hst k v what xa xb xc xd xe r hf hx hb hr hml hown hg hlocks hE hN htb hK hA hP hD hS hl
  have hf := ie h25 hf
  by_cases h26 : what = 26
  · have hf := it h26 hf
    refine lv_tableIn (tgt := 366) hx hb dL_call_1 (by rw [h26]; decide) (by rw [h26]; decide) (off := 365) (by rw [h26]; rfl) (by decide) ?_
    exact arm_isInStand hst k v what xa xb xc xd xe r hf hx hb hr hml hown hg hlocks hE hN htb hK hA hP hD hS hl
  have hf := ie h26 hf
  by_cases h27 : what = 27
  · have hf := it h27 hf
    refine lv_tableIn (tgt := 380) hx hb dL_call_1 (by rw [h27]; decide) (by rw [h27]; decide) (off := 379) (by rw [h27]; rfl) (by decide) ?_
    exact arm_isUsable hst k v what xa xb xc xd xe r hf hx hb hr hml hown hg hlocks hE hN htb hK hA hP hD hS hl
  have hf := ie h27 hf
  by_cases h28 : what = 28
  · have hf := it h28 hf
    refine lv_tableIn (tgt := 394) hx hb dL_call_1 (by rw [h28]; decide) (by rw [h28]; decide) (off := 393) (by rw [h28]; rfl) (by decide) ?_
    exact arm_carrierOf hst k v what xa xb xc xd xe r hf hx hb hr hml hown hg hlocks hE hN htb hK hA hP hD hS hl
  have hf := ie h28 hf
  by_cases h29 : what = 29
  · have hf := it h29 hf
    refine lv_tableIn (tgt := 400) hx hb dL_call_1 (by rw [h29]; decide) (by rw [h29]; decide) (off := 399) (by rw [h29]; rfl) (by decide) ?_
    exact arm_umbrellaOf hst k v what xa xb xc xd xe r hf hx hb hr hml hown hg hlocks hE hN htb hK hA hP hD hS hl
  have hf := ie h29 hf
  by_cases h30 : what = 30
  · have hf := it h30 hf
    refine lv_tableIn (tgt := 406) hx hb dL_call_1 (by rw [h30]; decide) (by rw [h30]; decide) (off := 405) (by rw [h30]; rfl) (by decide) ?_
    exact arm_entryMinute hst k v what xa xb xc xd xe r hf hx hb hr hml hown hg hlocks hE hN htb hK hA hP hD hS hl
  have hf := ie h30 hf
  by_cases h31 : what = 31
  · have hf := it h31 hf
    refine lv_tableIn (tgt := 412) hx hb dL_call_1 (by rw [h31]; decide) (by rw [h31]; decide) (off := 411) (by rw [h31]; rfl) (by decide) ?_
    exact arm_entryGuest hst k v what xa xb xc xd xe r hf hx hb hr hml hown hg hlocks hE hN htb hK hA hP hD hS hl
  have hf := ie h31 hf
  by_cases h32 : what = 32
  · have hf := it h32 hf
    refine lv_tableIn (tgt := 418) hx hb dL_call_1 (by rw [h32]; decide) (by rw [h32]; decide) (off := 417) (by rw [h32]; rfl) (by decide) ?_
    exact arm_isLeaving hst k v what xa xb xc xd xe r hf hx hb hr hml hown hg hlocks hE hN htb hK hA hP hD hS hl
  have hf := ie h32 hf
  by_cases h33 : what = 33
  · have hf := it h33 hf
    refine lv_tableIn (tgt := 432) hx hb dL_call_1 (by rw [h33]; decide) (by rw [h33]; decide) (off := 431) (by rw [h33]; rfl) (by decide) ?_
    exact arm_wasOut hst k v what xa xb xc xd xe r hf hx hb hr hml hown hg hlocks hE hN htb hK hA hP hD hS hl
  have hf := ie h33 hf
  by_cases h34 : what = 34
  · have hf := it h34 hf
    refine lv_tableIn (tgt := 447) hx hb dL_call_1 (by rw [h34]; decide) (by rw [h34]; decide) (off := 446) (by rw [h34]; rfl) (by decide) ?_
    exact arm_hasAlibi hst k v what xa xb xc xd xe r hf hx hb hr hml hown hg hlocks hE hN htb hK hA hP hD hS hl
  have hf := ie h34 hf
  by_cases h35 : what = 35
  · have hf := it h35 hf
    refine lv_tableIn (tgt := 464) hx hb dL_call_1 (by rw [h35]; decide) (by rw [h35]; decide) (off := 463) (by rw [h35]; rfl) (by decide) ?_
    exact arm_suspects hst k v what xa xb xc xd xe r hf hx hb hr hml hown hg hlocks hE hN htb hK hA hP hD hS hl
  have hf := ie h35 hf
  by_cases h36 : what = 36
  · have hf := it h36 hf
    refine lv_tableIn (tgt := 471) hx hb dL_call_1 (by rw [h36]; decide) (by rw [h36]; decide) (off := 470) (by rw [h36]; rfl) (by decide) ?_
    exact arm_culprit hst k v what xa xb xc xd xe r hf hx hb hr hml hown hg hlocks hE hN htb hK hA hP hD hS hl
  have hf := ie h36 hf
  by_cases h37 : what = 37
  · have hf := it h37 hf
    refine lv_tableIn (tgt := 478) hx hb dL_call_1 (by rw [h37]; decide) (by rw [h37]; decide) (off := 477) (by rw [h37]; rfl) (by decide) ?_
    exact arm_minutesOut hst k v what xa xb xc xd xe r hf hx hb hr hml hown hg hlocks hE hN htb hK hA hP hD hS hl
  have hf := ie h37 hf
  by_cases h38 : what = 38
  · have hf := it h38 hf
    refine lv_tableIn (tgt := 484) hx hb dL_call_1 (by rw [h38]; decide) (by rw [h38]; decide) (off := 483) (by rw [h38]; rfl) (by decide) ?_
    exact arm_minutesTogether hst k v what xa xb xc xd xe r hf hx hb hr hml hown hg hlocks hE hN htb hK hA hP hD hS hl
  have hf := ie h38 hf
  by_cases h39 : what = 39
  · have hf := it h39 hf
    refine lv_tableIn (tgt := 491) hx hb dL_call_1 (by rw [h39]; decide) (by rw [h39]; decide) (off := 490) (by rw [h39]; rfl) (by decide) ?_
    exact arm_umbrellaFor hst k v what xa xb xc xd xe r hf hx hb hr hml hown hg hlocks hE hN htb hK hA hP hD hS hl
  have hf := ie h39 hf
  by_cases h40 : what = 40
  · have hf := it h40 hf
    refine lv_tableIn (tgt := 497) hx hb dL_call_1 (by rw [h40]; decide) (by rw [h40]; decide) (off := 496) (by rw [h40]; rfl) (by decide) ?_
    exact arm_tipOf hst k v what xa xb xc xd xe r hf hx hb hr hml hown hg hlocks hE hN htb hK hA hP hD hS hl
  have hf := ie h40 hf
  by_cases h41 : what = 41
  · have hf := it h41 hf
    refine lv_tableIn (tgt := 503) hx hb dL_call_1 (by rw [h41]; decide) (by rw [h41]; decide) (off := 502) (by rw [h41]; rfl) (by decide) ?_
    exact arm_complaintsAfter hst k v what xa xb xc xd xe r hf hx hb hr hml hown hg hlocks hE hN htb hK hA hP hD hS hl
  have hf := ie h41 hf
  by_cases h42 : what = 42
  · have hf := it h42 hf
    refine lv_tableIn (tgt := 509) hx hb dL_call_1 (by rw [h42]; decide) (by rw [h42]; decide) (off := 508) (by rw [h42]; rfl) (by decide) ?_
    exact arm_writeEntries hst k v what xa xb xc xd xe r hf hx hb hr hml hown hg hlocks hE hN htb hK hA hP hD hS hl
  have hf := ie h42 hf
  refine lv_tableOut (tgt := 515) hx hb dL_call_1 (wh_out fun j hj => ?_) (by decide) ?_
  · match j, hj with
    | 0, _ => exact h0
    | 1, _ => exact h1
    | 2, _ => exact h2
    | 3, _ => exact h3
    | 4, _ => exact h4
    | 5, _ => exact h5
    | 6, _ => exact h6
    | 7, _ => exact h7
    | 8, _ => exact h8
    | 9, _ => exact h9
    | 10, _ => exact h10
    | 11, _ => exact h11
    | 12, _ => exact h12
    | 13, _ => exact h13
    | 14, _ => exact h14
    | 15, _ => exact h15
    | 16, _ => exact h16
    | 17, _ => exact h17
    | 18, _ => exact h18
    | 19, _ => exact h19
    | 20, _ => exact h20
    | 21, _ => exact h21
    | 22, _ => exact h22
    | 23, _ => exact h23
    | 24, _ => exact h24
    | 25, _ => exact h25
    | 26, _ => exact h26
    | 27, _ => exact h27
    | 28, _ => exact h28
    | 29, _ => exact h29
    | 30, _ => exact h30
    | 31, _ => exact h31
    | 32, _ => exact h32
    | 33, _ => exact h33
    | 34, _ => exact h34
    | 35, _ => exact h35
    | 36, _ => exact h36
    | 37, _ => exact h37
    | 38, _ => exact h38
    | 39, _ => exact h39
    | 40, _ => exact h40
    | 41, _ => exact h41
    | 42, _ => exact h42
    | j + 43, hj => exact absurd hj (by omega)
  · exact arm_writtenByte hst k v what xa xb xc xd xe r hf hx hb hr hml hown hg hlocks hE hN htb hK hA hP hD hS hl
