/-! texts: the JDK's length and charAt on the constants-/
theorem ini_J0 : Cond.initialized RJ0 ∈ GA := GA_of (tb1 (List.mem_of_getElem? (i := 10) (by decide +kernel))) (by decide +kernel)
theorem ini_J1 : Cond.initialized RJ1 ∈ GA := GA_of (tb1 (List.mem_of_getElem? (i := 11) (by decide +kernel))) (by decide +kernel)
theorem ini_J3 : Cond.initialized RJ3 ∈ GA := GA_of (tb1 (List.mem_of_getElem? (i := 12) (by decide +kernel))) (by decide +kernel)
theorem ml_J0_335 : Cond.methodLink RJ0 335 yJ0_coder_7d493 ∈ GA := GA_of (tb2 (List.mem_of_getElem? (i := 29) (by decide +kernel))) (by decide +kernel)
theorem ml_J0_492 : Cond.methodLink RJ0 492 yJ0_isLatin1_aae02 ∈ GA := GA_of (tb2 (List.mem_of_getElem? (i := 39) (by decide +kernel))) (by decide +kernel)
theorem ml_J0_495 : Cond.methodLink RJ0 495 yJ1_charAt_3b067 ∈ GA := GA_of (tb2 (List.mem_of_getElem? (i := 43) (by decide +kernel))) (by decide +kernel)
theorem ml_J0_1059 : Cond.methodLink RJ0 1059 yJ3_checkIndex_8e157 ∈ GA := GA_of (tb2 (List.mem_of_getElem? (i := 51) (by decide +kernel))) (by decide +kernel)
theorem ml_J1_9 : Cond.methodLink RJ1 9 yJ0_checkIndex_df160 ∈ GA := GA_of (tb2 (List.mem_of_getElem? (i := 46) (by decide +kernel))) (by decide +kernel)
theorem cy_J0_length_8abf5 : CY yJ0_length_8abf5 RJ0 cJ0_length_8abf5 1 (some .int) 0 := ⟨GA_of (tb2 (List.mem_of_getElem? (i := 28) (by decide +kernel))) (by decide +kernel), ⟨GA_of (tb2 (List.mem_of_getElem? (i := 26) (by decide +kernel))) (by decide +kernel), GA_of (tb2 (List.mem_of_getElem? (i := 27) (by decide +kernel))) (by decide +kernel)⟩, ini_J0, rfl, by decide +kernel⟩
theorem cy_J0_charAt_5068e : CY yJ0_charAt_5068e RJ0 cJ0_charAt_5068e 2 (some .char) 1 := ⟨GA_of (tb2 (List.mem_of_getElem? (i := 38) (by decide +kernel))) (by decide +kernel), ⟨GA_of (tb2 (List.mem_of_getElem? (i := 36) (by decide +kernel))) (by decide +kernel), GA_of (tb2 (List.mem_of_getElem? (i := 37) (by decide +kernel))) (by decide +kernel)⟩, ini_J0, rfl, by decide +kernel⟩
theorem cy_J0_coder_7d493 : CY yJ0_coder_7d493 RJ0 cJ0_coder_7d493 1 (some .byte) 0 := ⟨GA_of (tb2 (List.mem_of_getElem? (i := 32) (by decide +kernel))) (by decide +kernel), ⟨GA_of (tb2 (List.mem_of_getElem? (i := 30) (by decide +kernel))) (by decide +kernel), GA_of (tb2 (List.mem_of_getElem? (i := 31) (by decide +kernel))) (by decide +kernel)⟩, ini_J0, rfl, by decide +kernel⟩
theorem cy_J0_isLatin1_aae02 : CY yJ0_isLatin1_aae02 RJ0 cJ0_isLatin1_aae02 1 (some .boolean) 0 := ⟨GA_of (tb2 (List.mem_of_getElem? (i := 42) (by decide +kernel))) (by decide +kernel), ⟨GA_of (tb2 (List.mem_of_getElem? (i := 40) (by decide +kernel))) (by decide +kernel), GA_of (tb2 (List.mem_of_getElem? (i := 41) (by decide +kernel))) (by decide +kernel)⟩, ini_J0, rfl, by decide +kernel⟩
theorem cs_J0_checkIndex_df160 : CS yJ0_checkIndex_df160 RJ0 cJ0_checkIndex_df160 2 none 2 := ⟨GA_of (tb2 (List.mem_of_getElem? (i := 48) (by decide +kernel))) (by decide +kernel), GA_of (tb2 (List.mem_of_getElem? (i := 47) (by decide +kernel))) (by decide +kernel), ini_J0, rfl, by decide +kernel⟩
theorem cs_J1_charAt_3b067 : CS yJ1_charAt_3b067 RJ1 cJ1_charAt_3b067 2 (some .char) 2 := ⟨GA_of (tb2 (List.mem_of_getElem? (i := 45) (by decide +kernel))) (by decide +kernel), GA_of (tb2 (List.mem_of_getElem? (i := 44) (by decide +kernel))) (by decide +kernel), ini_J1, rfl, by decide +kernel⟩
theorem cs_J3_checkIndex_8e157 : CS yJ3_checkIndex_8e157 RJ3 cJ3_checkIndex_8e157 3 (some .int) 3 := ⟨GA_of (tb2 (List.mem_of_getElem? (i := 53) (by decide +kernel))) (by decide +kernel), GA_of (tb2 (List.mem_of_getElem? (i := 52) (by decide +kernel))) (by decide +kernel), ini_J3, rfl, by decide +kernel⟩
theorem mf_J0_38 : Cond.fieldLink RJ0 38 "java/lang/String" "COMPACT_STRINGS" "Z" ∈ GA := GA_of (tb2 (List.mem_of_getElem? (i := 33) (by decide +kernel))) (by decide +kernel)
theorem mf_J0_1053 : Cond.fieldLink RJ0 1053 "jdk/internal/util/Preconditions" "SIOOBE_FORMATTER" "Ljava/util/function/BiFunction;" ∈ GA := GA_of (tb2 (List.mem_of_getElem? (i := 49) (by decide +kernel))) (by decide +kernel)
theorem mf_J0_9 : Cond.fieldLink RJ0 9 "java/lang/String" "value" "[B" ∈ GA := GA_of (tb6 (List.mem_of_getElem? (i := 37) (by decide +kernel))) (by decide +kernel)
theorem mf_J0_15 : Cond.fieldLink RJ0 15 "java/lang/String" "coder" "B" ∈ GA := GA_of (tb6 (List.mem_of_getElem? (i := 38) (by decide +kernel))) (by decide +kernel)
/-- the sign j of the constant i -/
def chS (i : Nat) (j : Int32) : Int32 := (bytS.getD i []).getD j.toNatClampNeg 0
theorem chS_ok : ∀ i, i < 16 → ∀ j, j < lenS.getD i 0 → ((((bytS.getD i []).getD j 0 &&& 255).toUInt32 % 65536).toInt32 = (bytS.getD i []).getD j 0) ∧ (0 ≤ (bytS.getD i []).getD j 0 ∧ (bytS.getD i []).getD j 0 < 128) := by decide +kernel
theorem lenS_ok : ∀ i, i < 16 → lenS.getD i 0 < 200 ∧ (nI (lenS.getD i 0)) >>> ((0 : Int32) &&& 31) = nI (lenS.getD i 0) := by decide +kernel
theorem nar_char {x : Int32} (h0 : 0 ≤ x) (h1 : x < 128) : narrow .char (.int x) = .int x := by
  obtain ⟨j, hj, rfl⟩ := nI_of (x := x) (by intro h; exact absurd h0 (Int32.not_le.mpr h))
  have hj2 : j < 128 := by
    have := (nI_ltI (a := j) (b := 128) hj (by decide)).mp h1
    exact this
  exact (pk_charN (q := j) (by omega)).1
section
variable {p : Program} {l : Launch} {e : Env} {R : Room} {s : State} {m : MethodId} {args : Array Value} {below : List Frame} {meth : Method} {c : Code} {H : Heap} {locs : List Loc} {cells slots : Nat} {Q : State → Prop}
variable {pc : Nat} {ls : Array Slot} {rest st0 : List Value} {a : Array Value} {A : Nat → Prop} {E : Ev} {cc : ByteArray}
theorem cm_yret {ty : FieldType} {v : Int32} {bs' : va_W} (hx : p.tables.exec = Jvm.exec) (hb : c.code = cc) (hr : meth.sig.returnType = some ty) (hlocks : meth.locks = false) (hP : va_P E.1 vwCl bs' H) (hS : va_S A s.heap H locs) (hn : narrow ty (.int v) = .int v) (hdg : decode cc pc = .ok (.ireturn, 1)) : W p l e R s m args below meth c H locs cells slots (MQ below (QW E (some (.int v)) bs' A) args s cells slots A) (F0 m pc ls [.int v]) :=
  W.zret hx hb hr hn (fun t ht _ => ⟨rfl, by rw [ht]; exact hP, hS.F ht⟩) hS.2.2 hdg hlocks
/-- a method of a text constant is called -/
theorem cm_Vs {own : String} {index n maxL nL i : Nat} {y : MethodName} {bytes : ByteArray} {ret : Option FieldType} {rm : Room} {As : List Value} {w1 : va_W} {v : Option Value}
    (hx : p.tables.exec = Jvm.exec) (hb : c.code = cc) (hml : c.maxLocals = nL) (hown : s.vm.findClass own = some m.cls) (hg : ∀ w ∈ GA, w.before args s = true)
    (hM : CM E l y (.code y bytes maxL ret :: GA) rm (.ref (E.2.2.2.2.2.1 i) :: As) [] v []) (cy : CY y "java/lang/String" bytes maxL ret n) (hlk : Cond.methodLink own index y ∈ GA) (hi : i < 16)
    (hrm : (rm.cells = 0 ∧ rm.slots = 0) ∧ rm.frames + 1 ≤ R.frames ∧ 8 + (maxL + 11) + rm.locals ≤ R.locals)
    (hK : KX E s) (hE : EX E A s s.heap) (hP : va_P E.1 vwCl w1 H) (hD : va_D A w1) (hS : va_S A s.heap H locs) (hA : ∀ q, s.heap.size ≤ q → A q)
    (hn : As.length = n) (hsize : ls.size = nL) (hst : st0 = As.reverse ++ .ref (E.2.2.2.2.2.1 i) :: rest) (hW : (rest.map fun v => v.category).sum ≤ 8) (hdg : decode cc pc = .ok (.invokevirtual index, 3)) (hc : cells ≤ R.cells ∧ slots ≤ R.slots)
    (st1 : List Value) (hs1 : v.toList ++ rest = st1) (kk : ∀ (H1 : Heap) (locs1 : List Loc), va_P E.1 vwCl w1 H1 → va_D A w1 → va_S A s.heap H1 locs1 → W p l e R s m args below meth c H1 locs1 cells slots Q (F0 m (pc + 3) ls st1)) : W p l e R s m args below meth c H locs cells slots Q (F0 m pc ls st0) := by
  obtain ⟨y1, ⟨y2, y3⟩, y4, y5, y6⟩ := cy
  have hpk : bk_pick [] w1 = [] := by cases w1 <;> rfl
  have hmx : bk_mix [] w1 [] = w1 := by cases w1 <;> rfl
  have hFc := bk_free [] hD hS hA hpk
  have hG : GoodIn GA (wsV own index "java/lang/String" y (.code y bytes maxL ret :: GA)) := by
    intro w hw
    simp only [wsV, List.cons_append, List.nil_append, List.mem_cons] at hw
    rcases hw with rfl | rfl | rfl | rfl | rfl | hw
    · exact GA_good _ hlk
    · exact GA_good _ y2
    · exact GA_good _ y3
    · exact GA_good _ y4
    · exact GA_good _ y1
    · exact GA_good _ hw
  refine cm_go (va_runV (As := As) (rest := rest) (n := n) ⟨hx, hb, hml, hown, hg⟩ (hM H.size) (cwV (C := "java/lang/String") n hg hG rfl hrm.1.1 hrm.1.2 ⟨y5, y6⟩ hrm.2) ⟨PW.blind, vk_recv hE.1 hi hS, fun U hU hW => ⟨rfl, PW.of [] hK hE hP hD hS hA hpk hU hW⟩⟩ rfl hn hsize hst (lv_room hW) hdg hc) hS (fun q _ h => hFc q h) hFc (fun H1 locs1 hP1 hk1 hS1 => ?_)
  obtain ⟨hP2, hD2⟩ := bk_join [] hP hD hpk hmx rfl hk1 hP1
  rw [hs1]
  exact kk H1 locs1 hP2 hD2 hS1
/-- a static method of another class is called -/
theorem cm_SX {own C : String} {index n maxL nL : Nat} {y : MethodName} {bytes : ByteArray} {ret : Option FieldType} {rm : Room} {As : List Value} {w1 w2 bs bs' : va_W} {v : Option Value}
    (hx : p.tables.exec = Jvm.exec) (hb : c.code = cc) (hml : c.maxLocals = nL) (hown : s.vm.findClass own = some m.cls) (hg : ∀ w ∈ GA, w.before args s = true)
    (hM : CM E l y (.code y bytes maxL ret :: GA) rm As bs v bs') (cy : CS y C bytes maxL ret n) (hlk : Cond.methodLink own index y ∈ GA)
    (hrm : (rm.cells = 0 ∧ rm.slots = 0) ∧ rm.frames + 1 ≤ R.frames ∧ 8 + (maxL + 11) + rm.locals ≤ R.locals)
    (hK : KX E s) (hE : EX E A s s.heap) (hP : va_P E.1 vwCl w1 H) (hD : va_D A w1) (hS : va_S A s.heap H locs) (hA : ∀ q, s.heap.size ≤ q → A q)
    (mk : List Bool) (hpk : bk_pick mk w1 = bs) (hmx : bk_mix mk w1 bs' = w2) (hadr : bs'.map Prod.fst = bs.map Prod.fst)
    (hn : As.length = n) (hsize : ls.size = nL) (hst : st0 = As.reverse ++ rest) (hW : (rest.map fun v => v.category).sum ≤ 8) (hdg : decode cc pc = .ok (.invokestatic index, 3)) (hc : cells ≤ R.cells ∧ slots ≤ R.slots)
    (st1 : List Value) (hs1 : v.toList ++ rest = st1) (kk : ∀ (H1 : Heap) (locs1 : List Loc), va_P E.1 vwCl w2 H1 → va_D A w2 → va_S A s.heap H1 locs1 → W p l e R s m args below meth c H1 locs1 cells slots Q (F0 m (pc + 3) ls st1)) : W p l e R s m args below meth c H locs cells slots Q (F0 m pc ls st0) := by
  obtain ⟨y1, y2, y4, y5, y6⟩ := cy
  have hFc := bk_free mk hD hS hA hpk
  have cb : CallB R s args own index y bytes maxL ret (.code y bytes maxL ret :: GA) rm 0 0 n := callB_of n hg (GA_cons y1) rfl hrm.1.1 hrm.1.2 (by rw [y5]; exact hg _ y4) (hg _ hlk) y6 hrm.2
  refine cm_go (va_runS (As := As) (rest := rest) (n := n) ⟨hx, hb, hml, hown, hg⟩ (hM H.size) ⟨cb, hg _ y2⟩ ⟨PW.blind, fun U hU hW => ⟨rfl, PW.of mk hK hE hP hD hS hA hpk hU hW⟩⟩ rfl hn hsize hst (lv_room hW) hdg hc) hS (fun q _ h => hFc q h) hFc (fun H1 locs1 hP1 hk1 hS1 => ?_)
  obtain ⟨hP2, hD2⟩ := bk_join mk hP hD hpk hmx hadr hk1 hP1
  rw [hs1]
  exact kk H1 locs1 hP2 hD2 hS1
end
abbrev adK (E : Ev) : Nat → Nat := E.2.2.2.2.2.1
abbrev rJ0 : Room := { frames := 0, cells := 0, slots := 0, locals := 0 }
abbrev rJ1 : Room := { frames := 1, cells := 0, slots := 0, locals := 22 }
abbrev rJ2 : Room := { frames := 2, cells := 0, slots := 0, locals := 43 }
abbrev rJ3 : Room := { frames := 3, cells := 0, slots := 0, locals := 64 }
abbrev rJ4 : Room := { frames := 4, cells := 0, slots := 0, locals := 85 }
set_option maxHeartbeats 4000000 in
theorem c_coder (E : Ev) (l : Launch) (i : Nat) (hi : i < 16) : CM E l yJ0_coder_7d493 (.code yJ0_coder_7d493 cJ0_coder_7d493 1 (some .byte) :: GA) rJ0 [.ref (E.2.2.2.2.2.1 i)] [] (some (.int 0)) [] := by
  refine CM.of (own := RJ0) rfl (by decide) (Nat.le_of_ble_eq_true rfl) ?_
  intro p e s m below meth c A ls hx hb hr hml hown hg hlocks hK hE hA hP hD hS hl
  have hl : lv_has ls 1 [(0, .ref (E.2.2.2.2.2.1 i))] := hl
  refine va_gets hx hb hE.2.1 hS hown (hg _ mf_J0_38) (fun _ h => h) dJ0_coder_7d493_0 ?_
  refine lv_if_eq (tgt := 13) hx hb dJ0_coder_7d493_3 (by decide) (fun c => absurd c (by decide)) (fun c => ?_)
  refine lv_aload_n hx hb dJ0_coder_7d493_6 rfl (lv_at hl 0 rfl) ?_
  refine vk_getf hx hb (hE.1.1 i hi).2.1 hS hown (hg _ mf_J0_15) (fun _ h => h) dJ0_coder_7d493_7 ?_
  refine lv_goto (tgt := 14) hx hb dJ0_coder_7d493_10 (by decide) ?_
  exact cm_yret hx hb hr hlocks hP hS rfl dJ0_coder_7d493_14
set_option maxHeartbeats 4000000 in
theorem c_isLatin1 (E : Ev) (l : Launch) (i : Nat) (hi : i < 16) : CM E l yJ0_isLatin1_aae02 (.code yJ0_isLatin1_aae02 cJ0_isLatin1_aae02 1 (some .boolean) :: GA) rJ0 [.ref (E.2.2.2.2.2.1 i)] [] (some (.int 1)) [] := by
  refine CM.of (own := RJ0) rfl (by decide) (Nat.le_of_ble_eq_true rfl) ?_
  intro p e s m below meth c A ls hx hb hr hml hown hg hlocks hK hE hA hP hD hS hl
  have hl : lv_has ls 1 [(0, .ref (E.2.2.2.2.2.1 i))] := hl
  refine va_gets hx hb hE.2.1 hS hown (hg _ mf_J0_38) (fun _ h => h) dJ0_isLatin1_aae02_0 ?_
  refine lv_if_eq (tgt := 17) hx hb dJ0_isLatin1_aae02_3 (by decide) (fun c => absurd c (by decide)) (fun c => ?_)
  refine lv_aload_n hx hb dJ0_isLatin1_aae02_6 rfl (lv_at hl 0 rfl) ?_
  refine vk_getf hx hb (hE.1.1 i hi).2.1 hS hown (hg _ mf_J0_15) (fun _ h => h) dJ0_isLatin1_aae02_7 ?_
  refine lv_if_ne (tgt := 17) hx hb dJ0_isLatin1_aae02_10 (by decide) (fun c => absurd rfl c) (fun c => ?_)
  refine lv_iconst (v := 1) hx hb dJ0_isLatin1_aae02_13 (by decide) ?_
  refine lv_goto (tgt := 18) hx hb dJ0_isLatin1_aae02_14 (by decide) ?_
  exact cm_yret hx hb hr hlocks hP hS rfl dJ0_isLatin1_aae02_18
set_option maxHeartbeats 4000000 in
theorem c_length (E : Ev) (l : Launch) (i : Nat) (hi : i < 16) : CM E l yJ0_length_8abf5 (.code yJ0_length_8abf5 cJ0_length_8abf5 1 (some .int) :: GA) rJ1 [.ref (E.2.2.2.2.2.1 i)] [] (some (.int (nI (lenS.getD i 0)))) [] := by
  refine CM.of (own := RJ0) rfl (by decide) (Nat.le_of_ble_eq_true rfl) ?_
  intro p e s m below meth c A ls hx hb hr hml hown hg hlocks hK hE hA hP hD hS hl
  have hl : lv_has ls 1 [(0, .ref (E.2.2.2.2.2.1 i))] := hl
  refine lv_aload_n hx hb dJ0_length_8abf5_0 rfl (lv_at hl 0 rfl) ?_
  refine vk_getf hx hb (hE.1.1 i hi).2.2.1 hS hown (hg _ mf_J0_9) (fun _ h => h) dJ0_length_8abf5_1 ?_
  refine va_tlen hx hb (hE.1.1 i hi).2.2.2 hS rfl dJ0_length_8abf5_4 ?_
  refine lv_aload_n hx hb dJ0_length_8abf5_5 rfl (lv_at hl 0 rfl) ?_
  refine cm_Vs (As := []) (rest := [.int (nI (lenS.getD i 0))]) (i := i) hx hb hml hown hg (c_coder E l i hi) cy_J0_coder_7d493 ml_J0_335 hi ⟨⟨rfl, rfl⟩, Nat.le_of_ble_eq_true rfl, Nat.le_of_ble_eq_true rfl⟩ hK hE hP hD hS hA rfl hl.1 rfl (Nat.le_of_ble_eq_true rfl) dJ0_length_8abf5_6 ⟨Nat.le_refl _, Nat.le_refl _⟩ [.int 0, .int (nI (lenS.getD i 0))] rfl (fun H locs hP hD hS => ?_)
  refine lv_ishr hx hb dJ0_length_8abf5_9 ?_
  rw [(lenS_ok i hi).2]
  exact cm_yret hx hb hr hlocks hP hS rfl dJ0_length_8abf5_10
set_option maxHeartbeats 4000000 in
theorem c_pcheck (E : Ev) (l : Launch) (j n : Int32) (w : Value) (hw : w = .null ∨ ∃ q, w = .ref q) (h0 : ¬ j < 0) (h1 : j < n) : CM E l yJ3_checkIndex_8e157 (.code yJ3_checkIndex_8e157 cJ3_checkIndex_8e157 3 (some .int) :: GA) rJ0 [.int j, .int n, w] [] (some (.int j)) [] := by
  have hcat : w.category = 1 := by rcases hw with rfl | ⟨q, rfl⟩ <;> rfl
  refine CM.of (own := RJ3) rfl (by decide) (by rcases hw with rfl | ⟨q, rfl⟩ <;> exact Nat.le_of_ble_eq_true rfl) ?_
  intro p e s m below meth c A ls hx hb hr hml hown hg hlocks hK hE hA hP hD hS hl
  have hl : lv_has ls 3 [(0, .int j), (1, .int n), (2, w)] := hl
  refine lv_iload_n hx hb dJ3_checkIndex_8e157_0 rfl (lv_at hl 0 rfl) ?_
  refine lv_if_lt (tgt := 9) hx hb dJ3_checkIndex_8e157_1 (by decide) (fun c => absurd c h0) (fun c => ?_)
  refine lv_iload_n hx hb dJ3_checkIndex_8e157_4 rfl (lv_at hl 0 rfl) ?_
  refine lv_iload_n hx hb dJ3_checkIndex_8e157_5 rfl (lv_at hl 1 rfl) ?_
  refine lv_icmp_lt (tgt := 16) hx hb dJ3_checkIndex_8e157_6 (by decide) (fun c => ?_) (fun c => absurd h1 c)
  refine lv_iload_n hx hb dJ3_checkIndex_8e157_16 rfl (lv_at hl 0 rfl) ?_
  exact cm_iret hx hb hr hlocks hP hS dJ3_checkIndex_8e157_17
set_option maxHeartbeats 4000000 in
theorem c_scheck (E : Ev) (l : Launch) (j n : Int32) (h0 : ¬ j < 0) (h1 : j < n) : CM E l yJ0_checkIndex_df160 (.code yJ0_checkIndex_df160 cJ0_checkIndex_df160 2 none :: GA) rJ1 [.int j, .int n] [] none [] := by
  refine CM.of (own := RJ0) rfl (by decide) (Nat.le_of_ble_eq_true rfl) ?_
  intro p e s m below meth c A ls hx hb hr hml hown hg hlocks hK hE hA hP hD hS hl
  have hl : lv_has ls 2 [(0, .int j), (1, .int n)] := hl
  refine lv_iload_n hx hb dJ0_checkIndex_df160_0 rfl (lv_at hl 0 rfl) ?_
  refine lv_iload_n hx hb dJ0_checkIndex_df160_1 rfl (lv_at hl 1 rfl) ?_
  have key : ∀ w : Value, (w = .null ∨ ∃ q, w = .ref q) → va_Z "jdk/internal/util/Preconditions" "SIOOBE_FORMATTER" "Ljava/util/function/BiFunction;" w A s s.heap → W p l e rJ1 s m ([.int j, .int n] : List Value).toArray below meth c s.heap [] 0 0 (MQ below (QW E none [] A) ([.int j, .int n] : List Value).toArray s 0 0 A) (F0 m 2 ls [.int n, .int j]) := by
    intro w hw hZ
    refine va_gets hx hb hZ hS hown (hg _ mf_J0_1053) (fun _ h => h) dJ0_checkIndex_df160_2 ?_
    refine cm_SX (As := [.int j, .int n, w]) (rest := []) (w2 := []) hx hb hml hown hg (c_pcheck E l j n w hw h0 h1) cs_J3_checkIndex_8e157 ml_J0_1059 ⟨⟨rfl, rfl⟩, Nat.le_of_ble_eq_true rfl, Nat.le_of_ble_eq_true rfl⟩ hK hE hP hD hS hA [] rfl rfl rfl rfl hl.1 rfl (Nat.le_of_ble_eq_true rfl) dJ0_checkIndex_df160_5 ⟨Nat.le_refl _, Nat.le_refl _⟩ [.int j] rfl (fun H locs hP hD hS => ?_)
    refine lv_pop hx hb dJ0_checkIndex_df160_8 rfl ?_
    exact cm_vret hx hb hr hlocks hP hS dJ0_checkIndex_df160_9
  rcases hE.2.2.1 with hZ | ⟨q, hZ⟩
  · exact key _ (Or.inl rfl) hZ
  · exact key _ (Or.inr ⟨q, rfl⟩) hZ
set_option maxHeartbeats 4000000 in
theorem c_l1char (E : Ev) (l : Launch) (i : Nat) (hi : i < 16) (j : Int32) (hj : vp_in j (lenS.getD i 0)) : CM E l yJ1_charAt_3b067 (.code yJ1_charAt_3b067 cJ1_charAt_3b067 2 (some .char) :: GA) rJ2 [.ref (E.2.2.2.2.2.2.1 i), .int j] [] (some (.int (chS i j))) [] := by
  refine CM.of (own := RJ1) rfl (by decide) (Nat.le_of_ble_eq_true rfl) ?_
  intro p e s m below meth c A ls hx hb hr hml hown hg hlocks hK hE hA hP hD hS hl
  have hl : lv_has ls 2 [(0, .ref (E.2.2.2.2.2.2.1 i)), (1, .int j)] := hl
  have hlen := (lenS_ok i hi).1
  obtain ⟨k, hk, ek⟩ := vp_in_of hj (by omega)
  have h0 : ¬ j < 0 := fun h => hj (Or.inl h)
  have h1 : j < nI (lenS.getD i 0) := by rw [ek]; exact nI_lt hk (by omega)
  have hc := chS_ok i hi k hk
  have hcl : j.toNatClampNeg = k := by rw [ek]; exact nI_clamp (by omega)
  refine lv_iload_n hx hb dJ1_charAt_3b067_0 rfl (lv_at hl 1 rfl) ?_
  refine lv_aload_n hx hb dJ1_charAt_3b067_1 rfl (lv_at hl 0 rfl) ?_
  refine va_tlen hx hb (hE.1.1 i hi).2.2.2 hS rfl dJ1_charAt_3b067_2 ?_
  refine cm_SX (As := [.int j, .int (nI (lenS.getD i 0))]) (rest := []) (w2 := []) hx hb hml hown hg (c_scheck E l j _ h0 h1) cs_J0_checkIndex_df160 ml_J1_9 ⟨⟨rfl, rfl⟩, Nat.le_of_ble_eq_true rfl, Nat.le_of_ble_eq_true rfl⟩ hK hE hP hD hS hA [] rfl rfl rfl rfl hl.1 rfl (Nat.le_of_ble_eq_true rfl) dJ1_charAt_3b067_3 ⟨Nat.le_refl _, Nat.le_refl _⟩ [] rfl (fun H locs hP hD hS => ?_)
  refine lv_aload_n hx hb dJ1_charAt_3b067_6 rfl (lv_at hl 0 rfl) ?_
  refine lv_iload_n hx hb dJ1_charAt_3b067_7 rfl (lv_at hl 1 rfl) ?_
  refine va_tb hx hb (hE.1.1 i hi).2.2.2 hS hj rfl dJ1_charAt_3b067_8 ?_
  refine lv_sipush (v := 255) hx hb dJ1_charAt_3b067_9 (by decide) ?_
  refine lv_iand hx hb dJ1_charAt_3b067_12 ?_
  refine lv_i2c (v := chS i j) hx hb dJ1_charAt_3b067_13 (by unfold chS; rw [hcl]; exact hc.1) ?_
  exact cm_yret hx hb hr hlocks hP hS (by unfold chS; rw [hcl]; exact nar_char hc.2.1 hc.2.2) dJ1_charAt_3b067_14
set_option maxHeartbeats 4000000 in
theorem c_charAt (E : Ev) (l : Launch) (i : Nat) (hi : i < 16) (j : Int32) (hj : vp_in j (lenS.getD i 0)) : CM E l yJ0_charAt_5068e (.code yJ0_charAt_5068e cJ0_charAt_5068e 2 (some .char) :: GA) rJ3 [.ref (E.2.2.2.2.2.1 i), .int j] [] (some (.int (chS i j))) [] := by
  refine CM.of (own := RJ0) rfl (by decide) (Nat.le_of_ble_eq_true rfl) ?_
  intro p e s m below meth c A ls hx hb hr hml hown hg hlocks hK hE hA hP hD hS hl
  have hl : lv_has ls 2 [(0, .ref (E.2.2.2.2.2.1 i)), (1, .int j)] := hl
  have hlen := (lenS_ok i hi).1
  obtain ⟨k, hk, ek⟩ := vp_in_of hj (by omega)
  have hc := chS_ok i hi k hk
  have hcl : j.toNatClampNeg = k := by rw [ek]; exact nI_clamp (by omega)
  refine lv_aload_n hx hb dJ0_charAt_5068e_0 rfl (lv_at hl 0 rfl) ?_
  refine cm_Vs (As := []) (rest := []) (i := i) hx hb hml hown hg (c_isLatin1 E l i hi) cy_J0_isLatin1_aae02 ml_J0_492 hi ⟨⟨rfl, rfl⟩, Nat.le_of_ble_eq_true rfl, Nat.le_of_ble_eq_true rfl⟩ hK hE hP hD hS hA rfl hl.1 rfl (Nat.le_of_ble_eq_true rfl) dJ0_charAt_5068e_1 ⟨Nat.le_refl _, Nat.le_refl _⟩ [.int 1] rfl (fun H locs hP hD hS => ?_)
  refine lv_if_eq (tgt := 16) hx hb dJ0_charAt_5068e_4 (by decide) (fun c => absurd c (by decide)) (fun c => ?_)
  refine lv_aload_n hx hb dJ0_charAt_5068e_7 rfl (lv_at hl 0 rfl) ?_
  refine vk_getf hx hb (hE.1.1 i hi).2.2.1 hS hown (hg _ mf_J0_9) (fun _ h => h) dJ0_charAt_5068e_8 ?_
  refine lv_iload_n hx hb dJ0_charAt_5068e_11 rfl (lv_at hl 1 rfl) ?_
  refine cm_SX (As := [.ref (E.2.2.2.2.2.2.1 i), .int j]) (rest := []) (w2 := []) hx hb hml hown hg (c_l1char E l i hi j hj) cs_J1_charAt_3b067 ml_J0_495 ⟨⟨rfl, rfl⟩, Nat.le_of_ble_eq_true rfl, Nat.le_of_ble_eq_true rfl⟩ hK hE hP hD hS hA [] rfl rfl rfl rfl hl.1 rfl (Nat.le_of_ble_eq_true rfl) dJ0_charAt_5068e_12 ⟨Nat.le_refl _, Nat.le_refl _⟩ [.int (chS i j)] rfl (fun H locs hP hD hS => ?_)
  exact cm_yret hx hb hr hlocks hP hS (by unfold chS; rw [hcl]; exact nar_char hc.2.1 hc.2.2) dJ0_charAt_5068e_15
