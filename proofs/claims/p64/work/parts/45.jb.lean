/-! the JDK's builders of texts: words, contract PM (it returns v, its world becomes some bs' with post), calls, ends -/
theorem ini_J4 : Cond.initialized RJ4 ∈ GA := GA_of (tb1 (List.mem_of_getElem? (i := 24) (by decide +kernel))) (by decide +kernel)
theorem ini_J5 : Cond.initialized RJ5 ∈ GA := GA_of (tb1 (List.mem_of_getElem? (i := 23) (by decide +kernel))) (by decide +kernel)
theorem ini_J6 : Cond.initialized RJ6 ∈ GA := GA_of (tb1 (List.mem_of_getElem? (i := 28) (by decide +kernel))) (by decide +kernel)
theorem ini_J7 : Cond.initialized RJ7 ∈ GA := GA_of (tb1 (List.mem_of_getElem? (i := 26) (by decide +kernel))) (by decide +kernel)
theorem ini_J8 : Cond.initialized RJ8 ∈ GA := GA_of (tb1 (List.mem_of_getElem? (i := 25) (by decide +kernel))) (by decide +kernel)
set_option maxRecDepth 20000 in
theorem inG_J0 : ∀ w ∈ u_ws RJ0 TJ0 4, w ∈ GA := by
  intro w h
  obtain ⟨k, hk, rfl⟩ := List.mem_map.mp h
  have hk := List.mem_range.mp hk
  match k, hk with
  | 0, _ => exact GA_of (tb6 (List.mem_of_getElem? (i := 39) (by decide +kernel))) (by decide +kernel)
  | 1, _ => exact GA_of (tb6 (List.mem_of_getElem? (i := 41) (by decide +kernel))) (by decide +kernel)
  | 2, _ => exact GA_of (tb6 (List.mem_of_getElem? (i := 43) (by decide +kernel))) (by decide +kernel)
  | 3, _ => exact GA_of (tb6 (List.mem_of_getElem? (i := 45) (by decide +kernel))) (by decide +kernel)
  | k + 4, hk => exact absurd hk (by omega)
set_option maxRecDepth 20000 in
theorem inG_J4 : ∀ w ∈ u_ws RJ4 TJ4 4, w ∈ GA := by
  intro w h
  obtain ⟨k, hk, rfl⟩ := List.mem_map.mp h
  have hk := List.mem_range.mp hk
  match k, hk with
  | 0, _ => exact GA_of (tb5 (List.mem_of_getElem? (i := 158) (by decide +kernel))) (by decide +kernel)
  | 1, _ => exact GA_of (tb5 (List.mem_of_getElem? (i := 160) (by decide +kernel))) (by decide +kernel)
  | 2, _ => exact GA_of (tb5 (List.mem_of_getElem? (i := 162) (by decide +kernel))) (by decide +kernel)
  | 3, _ => exact GA_of (tb5 (List.mem_of_getElem? (i := 164) (by decide +kernel))) (by decide +kernel)
  | k + 4, hk => exact absurd hk (by omega)
theorem ml_J5_3 : Cond.methodLink RJ5 3 objectInit ∈ GA := GA_of (tb5 (List.mem_of_getElem? (i := 43) (by decide +kernel))) (by decide +kernel)
theorem ml_J5_26 : Cond.methodLink RJ5 26 yJ2_newBytesFor_77867 ∈ GA := GA_of (tb5 (List.mem_of_getElem? (i := 48) (by decide +kernel))) (by decide +kernel)
theorem ml_J5_32 : Cond.methodLink RJ5 32 yJ0_length_8abf5 ∈ GA := GA_of (tb5 (List.mem_of_getElem? (i := 44) (by decide +kernel))) (by decide +kernel)
theorem ml_J5_40 : Cond.methodLink RJ5 40 yJ0_coder_7d493 ∈ GA := GA_of (tb5 (List.mem_of_getElem? (i := 47) (by decide +kernel))) (by decide +kernel)
theorem ml_J5_43 : Cond.methodLink RJ5 43 yJ5_append_cf1ce ∈ GA := GA_of (tb5 (List.mem_of_getElem? (i := 55) (by decide +kernel))) (by decide +kernel)
theorem ml_J5_83 : Cond.methodLink RJ5 83 yJ5_isLatin1_aae02 ∈ GA := GA_of (tb5 (List.mem_of_getElem? (i := 100) (by decide +kernel))) (by decide +kernel)
theorem ml_J5_100 : Cond.methodLink RJ5 100 yJ5_ensureCapacityInternal_d00df ∈ GA := GA_of (tb5 (List.mem_of_getElem? (i := 72) (by decide +kernel))) (by decide +kernel)
theorem ml_J5_104 : Cond.methodLink RJ5 104 yJ5_newCapacity_0f7a4 ∈ GA := GA_of (tb5 (List.mem_of_getElem? (i := 76) (by decide +kernel))) (by decide +kernel)
theorem ml_J5_108 : Cond.methodLink RJ5 108 yJ7_copyOf_9075b ∈ GA := GA_of (tb5 (List.mem_of_getElem? (i := 88) (by decide +kernel))) (by decide +kernel)
theorem ml_J5_114 : Cond.methodLink RJ5 114 yJ8_newLength_cabcc ∈ GA := GA_of (tb5 (List.mem_of_getElem? (i := 80) (by decide +kernel))) (by decide +kernel)
theorem ml_J5_125 : Cond.methodLink RJ5 125 yJ1_inflate_0e8fd ∈ GA := GA_of (tb5 (List.mem_of_getElem? (i := 133) (by decide +kernel))) (by decide +kernel)
theorem ml_J5_191 : Cond.methodLink RJ5 191 yJ1_canEncode_fc78d ∈ GA := GA_of (tb5 (List.mem_of_getElem? (i := 198) (by decide +kernel))) (by decide +kernel)
theorem ml_J5_195 : Cond.methodLink RJ5 195 yJ5_inflate_da8c8 ∈ GA := GA_of (tb5 (List.mem_of_getElem? (i := 129) (by decide +kernel))) (by decide +kernel)
theorem ml_J5_197 : Cond.methodLink RJ5 197 yJ2_putCharSB_b72d1 ∈ GA := GA_of (tb5 (List.mem_of_getElem? (i := 201) (by decide +kernel))) (by decide +kernel)
theorem ml_J5_204 : Cond.methodLink RJ5 204 yJ5_appendNull_278bc ∈ GA := GA_of (tb5 (List.mem_of_getElem? (i := 68) (by decide +kernel))) (by decide +kernel)
theorem ml_J5_208 : Cond.methodLink RJ5 208 yJ5_putStringAt_47b60 ∈ GA := GA_of (tb5 (List.mem_of_getElem? (i := 121) (by decide +kernel))) (by decide +kernel)
theorem ml_J5_226 : Cond.methodLink RJ5 226 yJ2_putCharsAt_cd4e5 ∈ GA := GA_of (tb5 (List.mem_of_getElem? (i := 106) (by decide +kernel))) (by decide +kernel)
theorem ml_J5_245 : Cond.methodLink RJ5 245 yJ6_stringSize_0f7a4 ∈ GA := GA_of (tb5 (List.mem_of_getElem? (i := 173) (by decide +kernel))) (by decide +kernel)
theorem ml_J5_248 : Cond.methodLink RJ5 248 yJ6_getChars_ba4f3 ∈ GA := GA_of (tb5 (List.mem_of_getElem? (i := 176) (by decide +kernel))) (by decide +kernel)
theorem ml_J5_251 : Cond.methodLink RJ5 251 yJ2_getChars_46870 ∈ GA := GA_of (tb5 (List.mem_of_getElem? (i := 183) (by decide +kernel))) (by decide +kernel)
theorem ml_J5_397 : Cond.methodLink RJ5 397 yJ5_inflateIfNeededFor_a7421 ∈ GA := GA_of (tb5 (List.mem_of_getElem? (i := 125) (by decide +kernel))) (by decide +kernel)
theorem ml_J5_399 : Cond.methodLink RJ5 399 yJ0_getBytes_840e7 ∈ GA := GA_of (tb5 (List.mem_of_getElem? (i := 148) (by decide +kernel))) (by decide +kernel)
theorem ml_J0_1 : Cond.methodLink RJ0 1 objectInit ∈ GA := GA_of (tb5 (List.mem_of_getElem? (i := 235) (by decide +kernel))) (by decide +kernel)
theorem ml_J0_47 : Cond.methodLink RJ0 47 yJ2_coderFromArrayLen_85cad ∈ GA := GA_of (tb6 (List.mem_of_getElem? (i := 34) (by decide +kernel))) (by decide +kernel)
theorem ml_J0_54 : Cond.methodLink RJ0 54 yJ7_copyOfRange_39247 ∈ GA := GA_of (tb6 (List.mem_of_getElem? (i := 10) (by decide +kernel))) (by decide +kernel)
theorem ml_J0_106 : Cond.methodLink RJ0 106 yJ1_inflate_0e8fd ∈ GA := GA_of (tb5 (List.mem_of_getElem? (i := 153) (by decide +kernel))) (by decide +kernel)
theorem ml_J0_212 : Cond.methodLink RJ0 212 arraycopyName ∈ GA := GA_of (tb5 (List.mem_of_getElem? (i := 152) (by decide +kernel))) (by decide +kernel)
theorem ml_J0_489 : Cond.methodLink RJ0 489 yJ0_init_db425 ∈ GA := GA_of (tb5 (List.mem_of_getElem? (i := 232) (by decide +kernel))) (by decide +kernel)
theorem ml_J0_498 : Cond.methodLink RJ0 498 yJ2_charAt_3b067 ∈ GA := GA_of (tb2 (List.mem_of_getElem? (i := 54) (by decide +kernel))) (by decide +kernel)
theorem ml_J0_549 : Cond.methodLink RJ0 549 yJ5_length_8abf5 ∈ GA := GA_of (tb6 (List.mem_of_getElem? (i := 1) (by decide +kernel))) (by decide +kernel)
theorem ml_J0_552 : Cond.methodLink RJ0 552 yJ5_getValue_6d5f1 ∈ GA := GA_of (tb5 (List.mem_of_getElem? (i := 236) (by decide +kernel))) (by decide +kernel)
theorem ml_J0_1047 : Cond.methodLink RJ0 1047 yJ5_isLatin1_aae02 ∈ GA := GA_of (tb6 (List.mem_of_getElem? (i := 9) (by decide +kernel))) (by decide +kernel)
theorem ml_J0_1051 : Cond.methodLink RJ0 1051 yJ2_compress_39247 ∈ GA := GA_of (tb6 (List.mem_of_getElem? (i := 27) (by decide +kernel))) (by decide +kernel)
theorem ml_J0_1062 : Cond.methodLink RJ0 1062 yJ3_checkFromToIndex_8c36e ∈ GA := GA_of (tb5 (List.mem_of_getElem? (i := 115) (by decide +kernel))) (by decide +kernel)
theorem ml_J0_1065 : Cond.methodLink RJ0 1065 yJ3_checkFromIndexSize_8c36e ∈ GA := GA_of (tb5 (List.mem_of_getElem? (i := 145) (by decide +kernel))) (by decide +kernel)
theorem ml_J4_1 : Cond.methodLink RJ4 1 yJ5_init_d00df ∈ GA := GA_of (tb5 (List.mem_of_getElem? (i := 219) (by decide +kernel))) (by decide +kernel)
theorem ml_J4_7 : Cond.methodLink RJ4 7 yJ5_init_a7421 ∈ GA := GA_of (tb5 (List.mem_of_getElem? (i := 40) (by decide +kernel))) (by decide +kernel)
theorem ml_J4_23 : Cond.methodLink RJ4 23 yJ4_append_15ec4 ∈ GA := GA_of (tb5 (List.mem_of_getElem? (i := 61) (by decide +kernel))) (by decide +kernel)
theorem ml_J4_29 : Cond.methodLink RJ4 29 yJ5_append_cf1ce ∈ GA := GA_of (tb5 (List.mem_of_getElem? (i := 65) (by decide +kernel))) (by decide +kernel)
theorem ml_J4_50 : Cond.methodLink RJ4 50 yJ5_append_3fe6f ∈ GA := GA_of (tb5 (List.mem_of_getElem? (i := 195) (by decide +kernel))) (by decide +kernel)
theorem ml_J4_53 : Cond.methodLink RJ4 53 yJ5_append_c97b9 ∈ GA := GA_of (tb5 (List.mem_of_getElem? (i := 170) (by decide +kernel))) (by decide +kernel)
theorem ml_J4_137 : Cond.methodLink RJ4 137 yJ0_init_81219 ∈ GA := GA_of (tb5 (List.mem_of_getElem? (i := 229) (by decide +kernel))) (by decide +kernel)
theorem ml_J4_343 : Cond.methodLink RJ4 343 yJ5_length_8abf5 ∈ GA := GA_of (tb6 (List.mem_of_getElem? (i := 7) (by decide +kernel))) (by decide +kernel)
theorem ml_J1_240 : Cond.methodLink RJ1 240 yJ2_inflate_0e8fd ∈ GA := GA_of (tb5 (List.mem_of_getElem? (i := 136) (by decide +kernel))) (by decide +kernel)
theorem ml_J7_47 : Cond.methodLink RJ7 47 yJ4_init_da8c8 ∈ GA := GA_of (tb6 (List.mem_of_getElem? (i := 21) (by decide +kernel))) (by decide +kernel)
theorem ml_J7_50 : Cond.methodLink RJ7 50 yJ4_append_15ec4 ∈ GA := GA_of (tb6 (List.mem_of_getElem? (i := 24) (by decide +kernel))) (by decide +kernel)
theorem ml_J7_54 : Cond.methodLink RJ7 54 yJ4_append_bf812 ∈ GA := GA_of (tb6 (List.mem_of_getElem? (i := 22) (by decide +kernel))) (by decide +kernel)
theorem ml_J7_61 : Cond.methodLink RJ7 61 yJ4_toString_0e30d ∈ GA := GA_of (tb6 (List.mem_of_getElem? (i := 25) (by decide +kernel))) (by decide +kernel)
theorem ml_J7_150 : Cond.methodLink RJ7 150 arraycopyName ∈ GA := GA_of (tb5 (List.mem_of_getElem? (i := 99) (by decide +kernel))) (by decide +kernel)
theorem ml_J7_304 : Cond.methodLink RJ7 304 Lib.Math.min.name ∈ GA := GA_of (tb5 (List.mem_of_getElem? (i := 98) (by decide +kernel))) (by decide +kernel)
theorem ml_J7_339 : Cond.methodLink RJ7 339 yJ7_copyOfRangeByte_39247 ∈ GA := GA_of (tb6 (List.mem_of_getElem? (i := 13) (by decide +kernel))) (by decide +kernel)
theorem ml_J7_343 : Cond.methodLink RJ7 343 yJ7_checkLength_df160 ∈ GA := GA_of (tb6 (List.mem_of_getElem? (i := 16) (by decide +kernel))) (by decide +kernel)
theorem ml_J8_194 : Cond.methodLink RJ8 194 Lib.Math.max.name ∈ GA := GA_of (tb5 (List.mem_of_getElem? (i := 83) (by decide +kernel))) (by decide +kernel)
theorem ml_J8_201 : Cond.methodLink RJ8 201 yJ8_hugeLength_7cf53 ∈ GA := GA_of (tb5 (List.mem_of_getElem? (i := 85) (by decide +kernel))) (by decide +kernel)
theorem mf_J5_15 : Cond.fieldLink RJ5 15 "java/lang/AbstractStringBuilder" "value" "[B" ∈ GA := GA_of (tb5 (List.mem_of_getElem? (i := 154) (by decide +kernel))) (by decide +kernel)
theorem mf_J5_18 : Cond.fieldLink RJ5 18 "java/lang/String" "COMPACT_STRINGS" "Z" ∈ GA := GA_of (tb5 (List.mem_of_getElem? (i := 105) (by decide +kernel))) (by decide +kernel)
theorem mf_J5_22 : Cond.fieldLink RJ5 22 "java/lang/AbstractStringBuilder" "coder" "B" ∈ GA := GA_of (tb5 (List.mem_of_getElem? (i := 155) (by decide +kernel))) (by decide +kernel)
theorem mf_J5_79 : Cond.fieldLink RJ5 79 "java/lang/AbstractStringBuilder" "count" "I" ∈ GA := GA_of (tb5 (List.mem_of_getElem? (i := 157) (by decide +kernel))) (by decide +kernel)
theorem mf_J6_83 : Cond.fieldLink RJ6 83 "java/lang/Integer" "DigitOnes" "[B" ∈ GA := GA_of (tb5 (List.mem_of_getElem? (i := 179) (by decide +kernel))) (by decide +kernel)
theorem mf_J6_87 : Cond.fieldLink RJ6 87 "java/lang/Integer" "DigitTens" "[B" ∈ GA := GA_of (tb5 (List.mem_of_getElem? (i := 181) (by decide +kernel))) (by decide +kernel)
theorem mf_J0_1048 : Cond.fieldLink RJ0 1048 "java/lang/AbstractStringBuilder" "maybeLatin1" "Z" ∈ GA := GA_of (tb5 (List.mem_of_getElem? (i := 156) (by decide +kernel))) (by decide +kernel)
theorem kc_J5_38 : Cond.constant RJ5 38 2147483631 ∈ GA := GA_of (tb5 (List.mem_of_getElem? (i := 45) (by decide +kernel))) (by decide +kernel)
theorem kc_J5_39 : Cond.constant RJ5 39 2147483647 ∈ GA := GA_of (tb5 (List.mem_of_getElem? (i := 46) (by decide +kernel))) (by decide +kernel)
theorem kc_J8_200 : Cond.constant RJ8 200 2147483639 ∈ GA := GA_of (tb5 (List.mem_of_getElem? (i := 84) (by decide +kernel))) (by decide +kernel)
theorem kc_L_199 : Cond.constant RL 199 1103515245 ∈ GA := GA_of (tb5 (List.mem_of_getElem? (i := 212) (by decide +kernel))) (by decide +kernel)
theorem kc_L_283 : Cond.constant RL 283 65535 ∈ GA := GA_of (tb6 (List.mem_of_getElem? (i := 127) (by decide +kernel))) (by decide +kernel)
theorem kc_L_292 : Cond.constant RL 292 2147483647 ∈ GA := GA_of (tb6 (List.mem_of_getElem? (i := 137) (by decide +kernel))) (by decide +kernel)
def privJ : List MethodName := [yJ5_ensureCapacityInternal_d00df, yJ5_newCapacity_0f7a4, yJ5_inflateIfNeededFor_a7421, yJ5_putStringAt_47b60]
/-- what the builders' methods need besides: an array of texts can be made, arrays of bytes can be copied, private methods of the builder's class above are found -/
def XO (U : State) : Prop := va_AO "java/lang/String" U ∧ va_Nw (.castable "[B" "java/lang/Cloneable") U ∧ ∀ y ∈ privJ, va_Nw (.selects RJ4 y y) U
theorem XO.warm {s U : State} (hW : s.WarmedH U.vm) (h : XO s) : XO U := ⟨va_AO.moved (u := s) (U := U) hW.alike h.1, va_Nw.warmC hW h.2.1, fun y hy => word_at (c := .selects RJ4 y y) hW (Or.inl rfl) (h.2.2 y hy)⟩
theorem XO.same {s U : State} (hv : s.vm = U.vm) (h : XO s) : XO U := ⟨va_AO.moved (u := s) (U := U) (by rw [hv]; exact Vm.Alike.refl U.vm) h.1, va_Nw.same rfl hv h.2.1, fun y hy => va_Nw.same (w := .selects RJ4 y y) rfl hv (h.2.2 y hy)⟩
def CV (y : MethodName) (C : String) (bytes : ByteArray) (maxL : Nat) (ret : Option FieldType) (n : Nat) : Prop :=
  Cond.code y bytes maxL ret ∈ GA ∧ Cond.instanceMethod y ∈ GA ∧ (∀ (args : Array Value) (s : State), (∀ w ∈ GA, w.before args s = true) → XO s → (Cond.selects C y y).before args s = true) ∧ Cond.initialized y.cls ∈ GA ∧ (y.cls ≠ "java/lang/invoke/MethodHandle" ∧ y.cls ≠ "java/lang/invoke/VarHandle" ∧ (parseMethodDescriptor y.desc).map (fun d => d.parameters.length) = some n)
/-- a private method of the builders' own class, called on a builder -/
theorem sel_priv {C : String} {x y : MethodName} {args : Array Value} {s : State} (hy : y.cls ≠ "java/lang/invoke/MethodHandle" ∧ y.cls ≠ "java/lang/invoke/VarHandle") (hxy : x.cls = y.cls) (hs : (Cond.selects C x x).before args s = true) (hpriv : (Cond.privateMethod y).before args s = true) (hinst : (Cond.instanceMethod y).before args s = true) : (Cond.selects C y y).before args s = true := by
  obtain ⟨c2, r2, m2, q1, q2, q3, q4, kP, hkP, hkPi⟩ := Cond.selects_spec (show (Cond.selects C x x).holds args s none s [] = true from hs)
  obtain ⟨mk, methM, hnamed, hmethM, -, -⟩ := Cond.instanceMethod_spec hinst
  have hfound : s.methodFound? y.cls y.name y.desc = some mk := State.methodFound?_of_named hnamed hy
  have hsel : selectMethod {} s.vm c2 mk = .method mk := selectMethod_private hmethM (Cond.privateMethod_at hpriv mk methM hnamed hmethM)
  have hcls : mk.cls = m2.cls := Option.some.inj ((findClass_of_methodNamed hnamed).symm.trans (hxy ▸ findClass_of_methodNamed q3))
  simp only [Cond.before, Cond.holds, Cond.value, q1, hfound, hnamed, hsel, hcls, hkP]
  simp
  exact hkPi
theorem cx_J5_length_8abf5 : Cond.code yJ5_length_8abf5 cJ5_length_8abf5 1 (some .int) ∈ GA ∧ Cond.instanceMethod yJ5_length_8abf5 ∈ GA := ⟨GA_of (tb6 (List.mem_of_getElem? (i := 8) (by decide +kernel))) (by decide +kernel), GA_of (tb6 (List.mem_of_getElem? (i := 2) (by decide +kernel))) (by decide +kernel)⟩
theorem cv_J5_ensureCapacityInternal_d00df : CV yJ5_ensureCapacityInternal_d00df RJ4 cJ5_ensureCapacityInternal_d00df 3 none 1 := ⟨GA_of (tb5 (List.mem_of_getElem? (i := 75) (by decide +kernel))) (by decide +kernel), GA_of (tb5 (List.mem_of_getElem? (i := 74) (by decide +kernel))) (by decide +kernel), fun _ _ _ h => va_Nw.use rfl (h.2.2 _ (by decide +kernel)), ini_J5, by decide +kernel⟩
theorem cv_J5_newCapacity_0f7a4 : CV yJ5_newCapacity_0f7a4 RJ4 cJ5_newCapacity_0f7a4 6 (some .int) 1 := ⟨GA_of (tb5 (List.mem_of_getElem? (i := 79) (by decide +kernel))) (by decide +kernel), GA_of (tb5 (List.mem_of_getElem? (i := 78) (by decide +kernel))) (by decide +kernel), fun _ _ _ h => va_Nw.use rfl (h.2.2 _ (by decide +kernel)), ini_J5, by decide +kernel⟩
theorem cx_J5_append_cf1ce : Cond.code yJ5_append_cf1ce cJ5_append_cf1ce 3 (some (.object "java/lang/AbstractStringBuilder")) ∈ GA ∧ Cond.instanceMethod yJ5_append_cf1ce ∈ GA := ⟨GA_of (tb5 (List.mem_of_getElem? (i := 67) (by decide +kernel))) (by decide +kernel), GA_of (tb5 (List.mem_of_getElem? (i := 56) (by decide +kernel))) (by decide +kernel)⟩
theorem cx_J5_append_3fe6f : Cond.code yJ5_append_3fe6f cJ5_append_3fe6f 2 (some (.object "java/lang/AbstractStringBuilder")) ∈ GA ∧ Cond.instanceMethod yJ5_append_3fe6f ∈ GA := ⟨GA_of (tb5 (List.mem_of_getElem? (i := 197) (by decide +kernel))) (by decide +kernel), GA_of (tb5 (List.mem_of_getElem? (i := 196) (by decide +kernel))) (by decide +kernel)⟩
theorem cx_J5_append_c97b9 : Cond.code yJ5_append_c97b9 cJ5_append_c97b9 4 (some (.object "java/lang/AbstractStringBuilder")) ∈ GA ∧ Cond.instanceMethod yJ5_append_c97b9 ∈ GA := ⟨GA_of (tb5 (List.mem_of_getElem? (i := 172) (by decide +kernel))) (by decide +kernel), GA_of (tb5 (List.mem_of_getElem? (i := 171) (by decide +kernel))) (by decide +kernel)⟩
theorem cv_J5_getValue_6d5f1 : CV yJ5_getValue_6d5f1 RJ4 cJ5_getValue_6d5f1 1 (some (.array .byte)) 0 := ⟨GA_of (tb6 (List.mem_of_getElem? (i := 0) (by decide +kernel))) (by decide +kernel), GA_of (tb5 (List.mem_of_getElem? (i := 237) (by decide +kernel))) (by decide +kernel), fun _ _ h _ => h _ (GA_of (tb5 (List.mem_of_getElem? (i := 239) (by decide +kernel))) (by decide +kernel)), ini_J5, by decide +kernel⟩
theorem cv_J5_isLatin1_aae02 : CV yJ5_isLatin1_aae02 RJ4 cJ5_isLatin1_aae02 1 (some .boolean) 0 := ⟨GA_of (tb5 (List.mem_of_getElem? (i := 104) (by decide +kernel))) (by decide +kernel), GA_of (tb5 (List.mem_of_getElem? (i := 101) (by decide +kernel))) (by decide +kernel), fun _ _ h _ => h _ (GA_of (tb5 (List.mem_of_getElem? (i := 103) (by decide +kernel))) (by decide +kernel)), ini_J5, by decide +kernel⟩
theorem cv_J5_inflateIfNeededFor_a7421 : CV yJ5_inflateIfNeededFor_a7421 RJ4 cJ5_inflateIfNeededFor_a7421 2 none 1 := ⟨GA_of (tb5 (List.mem_of_getElem? (i := 128) (by decide +kernel))) (by decide +kernel), GA_of (tb5 (List.mem_of_getElem? (i := 127) (by decide +kernel))) (by decide +kernel), fun _ _ _ h => va_Nw.use rfl (h.2.2 _ (by decide +kernel)), ini_J5, by decide +kernel⟩
theorem cv_J5_putStringAt_47b60 : CV yJ5_putStringAt_47b60 RJ4 cJ5_putStringAt_47b60 3 none 2 := ⟨GA_of (tb5 (List.mem_of_getElem? (i := 124) (by decide +kernel))) (by decide +kernel), GA_of (tb5 (List.mem_of_getElem? (i := 123) (by decide +kernel))) (by decide +kernel), fun _ _ _ h => va_Nw.use rfl (h.2.2 _ (by decide +kernel)), ini_J5, by decide +kernel⟩
theorem cs_J6_getChars_ba4f3 : CS yJ6_getChars_ba4f3 RJ6 cJ6_getChars_ba4f3 7 (some .int) 3 := ⟨GA_of (tb5 (List.mem_of_getElem? (i := 178) (by decide +kernel))) (by decide +kernel), GA_of (tb5 (List.mem_of_getElem? (i := 177) (by decide +kernel))) (by decide +kernel), ini_J6, rfl, by decide +kernel⟩
theorem cs_J6_stringSize_0f7a4 : CS yJ6_stringSize_0f7a4 RJ6 cJ6_stringSize_0f7a4 4 (some .int) 1 := ⟨GA_of (tb5 (List.mem_of_getElem? (i := 175) (by decide +kernel))) (by decide +kernel), GA_of (tb5 (List.mem_of_getElem? (i := 174) (by decide +kernel))) (by decide +kernel), ini_J6, rfl, by decide +kernel⟩
theorem cv_J0_getBytes_840e7 : CV yJ0_getBytes_840e7 RJ0 cJ0_getBytes_840e7 4 none 3 := ⟨GA_of (tb5 (List.mem_of_getElem? (i := 151) (by decide +kernel))) (by decide +kernel), GA_of (tb5 (List.mem_of_getElem? (i := 149) (by decide +kernel))) (by decide +kernel), fun _ _ h _ => h _ (GA_of (tb5 (List.mem_of_getElem? (i := 150) (by decide +kernel))) (by decide +kernel)), ini_J0, by decide +kernel⟩
theorem cv_J4_append_15ec4 : CV yJ4_append_15ec4 RJ4 cJ4_append_15ec4 2 (some (.object "java/lang/StringBuilder")) 1 := ⟨GA_of (tb5 (List.mem_of_getElem? (i := 64) (by decide +kernel))) (by decide +kernel), GA_of (tb5 (List.mem_of_getElem? (i := 62) (by decide +kernel))) (by decide +kernel), fun _ _ h _ => h _ (GA_of (tb5 (List.mem_of_getElem? (i := 63) (by decide +kernel))) (by decide +kernel)), ini_J4, by decide +kernel⟩
theorem cv_J4_append_cf468 : CV yJ4_append_cf468 RJ4 cJ4_append_cf468 2 (some (.object "java/lang/StringBuilder")) 1 := ⟨GA_of (tb5 (List.mem_of_getElem? (i := 194) (by decide +kernel))) (by decide +kernel), GA_of (tb5 (List.mem_of_getElem? (i := 192) (by decide +kernel))) (by decide +kernel), fun _ _ h _ => h _ (GA_of (tb5 (List.mem_of_getElem? (i := 193) (by decide +kernel))) (by decide +kernel)), ini_J4, by decide +kernel⟩
theorem cv_J4_append_bf812 : CV yJ4_append_bf812 RJ4 cJ4_append_bf812 2 (some (.object "java/lang/StringBuilder")) 1 := ⟨GA_of (tb5 (List.mem_of_getElem? (i := 169) (by decide +kernel))) (by decide +kernel), GA_of (tb5 (List.mem_of_getElem? (i := 167) (by decide +kernel))) (by decide +kernel), fun _ _ h _ => h _ (GA_of (tb5 (List.mem_of_getElem? (i := 168) (by decide +kernel))) (by decide +kernel)), ini_J4, by decide +kernel⟩
theorem cv_J4_toString_0e30d : CV yJ4_toString_0e30d RJ4 cJ4_toString_0e30d 1 (some (.object "java/lang/String")) 0 := ⟨GA_of (tb5 (List.mem_of_getElem? (i := 226) (by decide +kernel))) (by decide +kernel), GA_of (tb5 (List.mem_of_getElem? (i := 224) (by decide +kernel))) (by decide +kernel), fun _ _ h _ => h _ (GA_of (tb5 (List.mem_of_getElem? (i := 225) (by decide +kernel))) (by decide +kernel)), ini_J4, by decide +kernel⟩
theorem cx_J4_append_cf1ce : Cond.code yJ4_append_cf1ce cJ4_append_cf1ce 2 (some (.object "java/lang/AbstractStringBuilder")) ∈ GA ∧ Cond.instanceMethod yJ4_append_cf1ce ∈ GA := ⟨GA_of (tb5 (List.mem_of_getElem? (i := 60) (by decide +kernel))) (by decide +kernel), GA_of (tb5 (List.mem_of_getElem? (i := 59) (by decide +kernel))) (by decide +kernel)⟩
theorem cx_J4_length_8abf5 : Cond.code yJ4_length_8abf5 cJ4_length_8abf5 1 (some .int) ∈ GA ∧ Cond.instanceMethod yJ4_length_8abf5 ∈ GA := ⟨GA_of (tb6 (List.mem_of_getElem? (i := 6) (by decide +kernel))) (by decide +kernel), GA_of (tb6 (List.mem_of_getElem? (i := 5) (by decide +kernel))) (by decide +kernel)⟩
theorem cs_J1_canEncode_fc78d : CS yJ1_canEncode_fc78d RJ1 cJ1_canEncode_fc78d 1 (some .boolean) 1 := ⟨GA_of (tb5 (List.mem_of_getElem? (i := 200) (by decide +kernel))) (by decide +kernel), GA_of (tb5 (List.mem_of_getElem? (i := 199) (by decide +kernel))) (by decide +kernel), ini_J1, rfl, by decide +kernel⟩
theorem cs_J7_copyOf_9075b : CS yJ7_copyOf_9075b RJ7 cJ7_copyOf_9075b 3 (some (.array .byte)) 2 := ⟨GA_of (tb5 (List.mem_of_getElem? (i := 90) (by decide +kernel))) (by decide +kernel), GA_of (tb5 (List.mem_of_getElem? (i := 89) (by decide +kernel))) (by decide +kernel), ini_J7, rfl, by decide +kernel⟩
theorem cs_J7_checkLength_df160 : CS yJ7_checkLength_df160 RJ7 cJ7_checkLength_df160 2 none 2 := ⟨GA_of (tb6 (List.mem_of_getElem? (i := 18) (by decide +kernel))) (by decide +kernel), GA_of (tb6 (List.mem_of_getElem? (i := 17) (by decide +kernel))) (by decide +kernel), ini_J7, rfl, by decide +kernel⟩
theorem cs_J7_copyOfRange_39247 : CS yJ7_copyOfRange_39247 RJ7 cJ7_copyOfRange_39247 3 (some (.array .byte)) 3 := ⟨GA_of (tb6 (List.mem_of_getElem? (i := 12) (by decide +kernel))) (by decide +kernel), GA_of (tb6 (List.mem_of_getElem? (i := 11) (by decide +kernel))) (by decide +kernel), ini_J7, rfl, by decide +kernel⟩
theorem cs_J7_copyOfRangeByte_39247 : CS yJ7_copyOfRangeByte_39247 RJ7 cJ7_copyOfRangeByte_39247 5 (some (.array .byte)) 3 := ⟨GA_of (tb6 (List.mem_of_getElem? (i := 15) (by decide +kernel))) (by decide +kernel), GA_of (tb6 (List.mem_of_getElem? (i := 14) (by decide +kernel))) (by decide +kernel), ini_J7, rfl, by decide +kernel⟩
theorem cs_J8_newLength_cabcc : CS yJ8_newLength_cabcc RJ8 cJ8_newLength_cabcc 4 (some .int) 3 := ⟨GA_of (tb5 (List.mem_of_getElem? (i := 82) (by decide +kernel))) (by decide +kernel), GA_of (tb5 (List.mem_of_getElem? (i := 81) (by decide +kernel))) (by decide +kernel), ini_J8, rfl, by decide +kernel⟩
theorem cv_J0_length_8abf5 : CV yJ0_length_8abf5 RJ0 cJ0_length_8abf5 1 (some .int) 0 := ⟨GA_of (tb2 (List.mem_of_getElem? (i := 28) (by decide +kernel))) (by decide +kernel), GA_of (tb2 (List.mem_of_getElem? (i := 26) (by decide +kernel))) (by decide +kernel), fun _ _ h _ => h _ (GA_of (tb2 (List.mem_of_getElem? (i := 27) (by decide +kernel))) (by decide +kernel)), ini_J0, by decide +kernel⟩
theorem cv_J0_coder_7d493 : CV yJ0_coder_7d493 RJ0 cJ0_coder_7d493 1 (some .byte) 0 := ⟨GA_of (tb2 (List.mem_of_getElem? (i := 32) (by decide +kernel))) (by decide +kernel), GA_of (tb2 (List.mem_of_getElem? (i := 30) (by decide +kernel))) (by decide +kernel), fun _ _ h _ => h _ (GA_of (tb2 (List.mem_of_getElem? (i := 31) (by decide +kernel))) (by decide +kernel)), ini_J0, by decide +kernel⟩
theorem cv_J0_charAt_5068e : CV yJ0_charAt_5068e RJ0 cJ0_charAt_5068e 2 (some .char) 1 := ⟨GA_of (tb2 (List.mem_of_getElem? (i := 38) (by decide +kernel))) (by decide +kernel), GA_of (tb2 (List.mem_of_getElem? (i := 36) (by decide +kernel))) (by decide +kernel), fun _ _ h _ => h _ (GA_of (tb2 (List.mem_of_getElem? (i := 37) (by decide +kernel))) (by decide +kernel)), ini_J0, by decide +kernel⟩
theorem cv_J0_isLatin1_aae02 : CV yJ0_isLatin1_aae02 RJ0 cJ0_isLatin1_aae02 1 (some .boolean) 0 := ⟨GA_of (tb2 (List.mem_of_getElem? (i := 42) (by decide +kernel))) (by decide +kernel), GA_of (tb2 (List.mem_of_getElem? (i := 40) (by decide +kernel))) (by decide +kernel), fun _ _ h _ => h _ (GA_of (tb2 (List.mem_of_getElem? (i := 41) (by decide +kernel))) (by decide +kernel)), ini_J0, by decide +kernel⟩
theorem ci_J5_init_d00df : CI yJ5_init_d00df cJ5_init_d00df 2 1 := ⟨GA_of (tb5 (List.mem_of_getElem? (i := 221) (by decide +kernel))) (by decide +kernel), GA_of (tb5 (List.mem_of_getElem? (i := 220) (by decide +kernel))) (by decide +kernel), ini_J5, rfl, by decide +kernel⟩
theorem ci_J5_init_a7421 : CI yJ5_init_a7421 cJ5_init_a7421 5 1 := ⟨GA_of (tb5 (List.mem_of_getElem? (i := 42) (by decide +kernel))) (by decide +kernel), GA_of (tb5 (List.mem_of_getElem? (i := 41) (by decide +kernel))) (by decide +kernel), ini_J5, rfl, by decide +kernel⟩
theorem ci_J0_init_81219 : CI yJ0_init_81219 cJ0_init_81219 2 1 := ⟨GA_of (tb5 (List.mem_of_getElem? (i := 231) (by decide +kernel))) (by decide +kernel), GA_of (tb5 (List.mem_of_getElem? (i := 230) (by decide +kernel))) (by decide +kernel), ini_J0, rfl, by decide +kernel⟩
theorem ci_J0_init_db425 : CI yJ0_init_db425 cJ0_init_db425 5 2 := ⟨GA_of (tb5 (List.mem_of_getElem? (i := 234) (by decide +kernel))) (by decide +kernel), GA_of (tb5 (List.mem_of_getElem? (i := 233) (by decide +kernel))) (by decide +kernel), ini_J0, rfl, by decide +kernel⟩
theorem ci_J4_init_da8c8 : CI yJ4_init_da8c8 cJ4_init_da8c8 1 0 := ⟨GA_of (tb5 (List.mem_of_getElem? (i := 218) (by decide +kernel))) (by decide +kernel), GA_of (tb5 (List.mem_of_getElem? (i := 217) (by decide +kernel))) (by decide +kernel), ini_J4, rfl, by decide +kernel⟩
theorem ci_J4_init_a7421 : CI yJ4_init_a7421 cJ4_init_a7421 2 1 := ⟨GA_of (tb5 (List.mem_of_getElem? (i := 39) (by decide +kernel))) (by decide +kernel), GA_of (tb5 (List.mem_of_getElem? (i := 38) (by decide +kernel))) (by decide +kernel), ini_J4, rfl, by decide +kernel⟩
theorem sm_J5_append_cf1ce : Cond.sameMethod RJ5 RJ5 "append" "(Ljava/lang/String;)Ljava/lang/AbstractStringBuilder;" ∈ GA := GA_of (tb5 (List.mem_of_getElem? (i := 57) (by decide +kernel))) (by decide +kernel)
theorem sm_J5_isLatin1_aae02 : Cond.sameMethod RJ5 RJ5 "isLatin1" "()Z" ∈ GA := GA_of (tb5 (List.mem_of_getElem? (i := 102) (by decide +kernel))) (by decide +kernel)
theorem sm_J5_getValue_6d5f1 : Cond.sameMethod RJ5 RJ5 "getValue" "()[B" ∈ GA := GA_of (tb5 (List.mem_of_getElem? (i := 238) (by decide +kernel))) (by decide +kernel)
theorem sm_J5_length_8abf5 : Cond.sameMethod RJ5 RJ5 "length" "()I" ∈ GA := GA_of (tb6 (List.mem_of_getElem? (i := 3) (by decide +kernel))) (by decide +kernel)
theorem sm_J5_appendNull_278bc : Cond.sameMethod RJ5 RJ5 "appendNull" "()Ljava/lang/AbstractStringBuilder;" ∈ GA := GA_of (tb6 (List.mem_of_getElem? (i := 139) (by decide +kernel))) (by decide +kernel)
theorem sm_J5_ensureCapacityInternal_d00df : Cond.sameMethod RJ5 RJ5 "ensureCapacityInternal" "(I)V" ∈ GA := GA_of (tb6 (List.mem_of_getElem? (i := 140) (by decide +kernel))) (by decide +kernel)
theorem sm_J5_newCapacity_0f7a4 : Cond.sameMethod RJ5 RJ5 "newCapacity" "(I)I" ∈ GA := GA_of (tb6 (List.mem_of_getElem? (i := 141) (by decide +kernel))) (by decide +kernel)
theorem sm_J5_putStringAt_47b60 : Cond.sameMethod RJ5 RJ5 "putStringAt" "(ILjava/lang/String;)V" ∈ GA := GA_of (tb6 (List.mem_of_getElem? (i := 142) (by decide +kernel))) (by decide +kernel)
theorem sm_J5_inflateIfNeededFor_a7421 : Cond.sameMethod RJ5 RJ5 "inflateIfNeededFor" "(Ljava/lang/String;)V" ∈ GA := GA_of (tb6 (List.mem_of_getElem? (i := 143) (by decide +kernel))) (by decide +kernel)
theorem sm_J5_inflate_da8c8 : Cond.sameMethod RJ5 RJ5 "inflate" "()V" ∈ GA := GA_of (tb6 (List.mem_of_getElem? (i := 144) (by decide +kernel))) (by decide +kernel)
theorem sm_J5_append_c97b9 : Cond.sameMethod RJ5 RJ5 "append" "(I)Ljava/lang/AbstractStringBuilder;" ∈ GA := GA_of (tb6 (List.mem_of_getElem? (i := 145) (by decide +kernel))) (by decide +kernel)
theorem sm_J5_append_3fe6f : Cond.sameMethod RJ5 RJ5 "append" "(C)Ljava/lang/AbstractStringBuilder;" ∈ GA := GA_of (tb6 (List.mem_of_getElem? (i := 146) (by decide +kernel))) (by decide +kernel)
theorem sup_J4 : Cond.superclass RJ4 RJ5 ∈ GA := GA_of (tb5 (List.mem_of_getElem? (i := 66) (by decide +kernel))) (by decide +kernel)
theorem sx_J4_length_8abf5 : Cond.selects RJ4 yJ5_length_8abf5 yJ4_length_8abf5 ∈ GA := GA_of (tb6 (List.mem_of_getElem? (i := 4) (by decide +kernel))) (by decide +kernel)
theorem sx_J4_append_cf1ce : Cond.selects RJ4 yJ5_append_cf1ce yJ4_append_cf1ce ∈ GA := GA_of (tb5 (List.mem_of_getElem? (i := 58) (by decide +kernel))) (by decide +kernel)
def PQ (E : Ev) (bs : va_W) (A : Nat → Prop) (post : Option Value → va_W → Prop) : Array Value → State → Outcome → State → Prop := fun _ st oc t => ∃ v, oc = .returned v ∧ (∃ bs', post v bs' ∧ va_P E.1 vwCl bs' t.heap ∧ va_D A bs') ∧ va_F A st t
def PM (E : Ev) (l : Launch) (y : MethodName) (ws : List Cond) (rm : Room) (as : List Value) (bs : va_W) (mc ms : Nat) (post : Option Value → va_W → Prop) : Prop :=
  ∀ sz : Nat, Met l y ws rm (va_Pc as (fun U => PW E bs sz U ∧ XO U)) (PQ E bs (va_A bs sz) post) mc ms (va_A bs sz)
theorem pm_pre {E : Ev} {A : Nat → Prop} {wr b : va_W} {H : Heap} {locs : List Loc} {s U : State} (hK : KX E s) (hE : EX E A s s.heap) (hO : XO s) (hP : va_P E.1 vwCl (wr ++ b) H) (hD : va_D A (wr ++ b)) (hS : va_S A s.heap H locs) (hA : ∀ q, s.heap.size ≤ q → A q) (hU : U.heap = H) (hW : s.WarmedH U.vm) : PW E b H.size U ∧ XO U := by
  have hn := bk_nodup hD
  rw [List.map_append, List.nodup_append] at hn
  exact ⟨⟨by rw [hU], by rw [hU]; exact bk_P fun x hx => bk_at hP (List.mem_append_right _ hx), hK.warm hW, (bk_Dp hn.2.1 (fun x hx => List.mem_append_right _ hx) hD).weaken fun _ _ _ _ => trivial, by rw [hU]; exact hE.go hS hW (nm_sub hD hS hA)⟩, hO.warm hW⟩
theorem pm_blind {E : Ev} {as : List Value} {b : va_W} {sz : Nat} : FrameBlind (va_Pc as (fun U => PW E b sz U ∧ XO U)) := fun _ U g mk h => ⟨h.1, (PW.blind _ U g mk ⟨h.1, h.2.1⟩).2, XO.same (s := U) (U := U.calling g mk _) rfl h.2.2⟩
section
variable {p : Program} {l : Launch} {e : Env} {R : Room} {s : State} {m : MethodId} {args : Array Value} {below : List Frame} {meth : Method} {c : Code} {H : Heap} {locs : List Loc} {cells slots : Nat} {Q : State → Prop}
variable {pc : Nat} {ls : Array Slot} {rest st0 : List Value} {a : Array Value} {A : Nat → Prop} {E : Ev} {cc : ByteArray} {mc ms : Nat}
theorem pm_go {post : Option Value → va_W → Prop} {wr bs : va_W} (hr : va_Run p l e R s m args below meth c H locs cells slots mc ms (F0 m pc ls st0) rest (PQ E bs (va_A bs H.size) post a) (va_A bs H.size)) (hP : va_P E.1 vwCl (wr ++ bs) H) (hD : va_D A (wr ++ bs)) (hS : va_S A s.heap H locs) (hA : ∀ q, s.heap.size ≤ q → A q)
    (kk : ∀ (v : Option Value) (bs' : va_W) (H1 : Heap) (locs1 : List Loc), post v bs' → va_P E.1 vwCl (wr ++ bs') H1 → va_D A (wr ++ bs') → va_S A s.heap H1 locs1 → W p l e R s m args below meth c H1 locs1 (cells + mc) (slots + ms) Q (F0 m (pc + 3) ls (v.toList ++ rest))) : W p l e R s m args below meth c H locs cells slots Q (F0 m pc ls st0) := by
  have hF := nm_sub hD hS hA
  intro T hT X
  obtain ⟨v9, st₀, t, T', L, h0, X', hL, e1, e2, ⟨v8, hv, ⟨bs', hp, hb, hd⟩, hz, hk⟩, st⟩ := hr T hT X
  cases hv
  rw [h0] at hz hk
  have hk' : ∀ q : Nat, q < H.size → ¬ va_A bs H.size q → T'.heap[q]? = H[q]? := fun q h1 h2 => by rw [e1]; exact hk q h1 h2
  obtain ⟨hP2, hD2⟩ := nm_join hP hD hk' hF (by rw [e1]; exact hb) hd
  obtain ⟨t2, a1, b1⟩ := kk v9 bs' T'.heap (locs ++ L) hp hP2 hD2
    ⟨Nat.le_trans hS.1 (by rw [e1]; exact hz), fun q h1 h2 => by rw [hk' q (Nat.lt_of_lt_of_le h1 hS.1) (fun z => h2 (hF q z))]; exact hS.2.1 q h1 h2, fun q hq => by
      rcases List.mem_append.mp hq with h | h
      · exact hS.2.2 q h
      · exact hF _ (hL q h)⟩ T' rfl X'
  exact ⟨t2, st t2 a1, b1⟩
/-- a method is called on an object of the world -/
theorem pm_V {own C : String} {index n maxL nL : Nat} {y : MethodName} {bytes : ByteArray} {ret : Option FieldType} {rm : Room} {b : Nat} {As : List Value} {wr bs : va_W} {post : Option Value → va_W → Prop}
    (hx : p.tables.exec = Jvm.exec) (hb : c.code = cc) (hml : c.maxLocals = nL) (hown : s.vm.findClass own = some m.cls) (hg : ∀ w ∈ GA, w.before args s = true)
    (hM : PM E l y (.code y bytes maxL ret :: GA) rm (.ref b :: As) bs mc ms post) (cy : CV y C bytes maxL ret n) (hlk : Cond.methodLink own index y ∈ GA)
    (hrm : (rm.cells = mc ∧ rm.slots = ms) ∧ rm.frames + 1 ≤ R.frames ∧ 8 + (maxL + 11) + rm.locals ≤ R.locals)
    (hK : KX E s) (hE : EX E A s s.heap) (hO : XO s) (hP : va_P E.1 vwCl (wr ++ bs) H) (hD : va_D A (wr ++ bs)) (hS : va_S A s.heap H locs) (hA : ∀ q, s.heap.size ≤ q → A q)
    (q0 : Nat) {ci : Nat} {fs : List Value} {T : u_T} {N : Nat} (hq : (wr ++ bs)[q0]? = some (b, .inr (ci, fs))) (hci : vwCl[ci]? = some (C, T, N))
    (hn : As.length = n) (hsize : ls.size = nL) (hst : st0 = As.reverse ++ .ref b :: rest) (hW : (rest.map fun v => v.category).sum ≤ 8) (hdg : decode cc pc = .ok (.invokevirtual index, 3)) (hc : cells + mc ≤ R.cells ∧ slots + ms ≤ R.slots)
    (kk : ∀ (v : Option Value) (bs' : va_W) (H1 : Heap) (locs1 : List Loc), post v bs' → va_P E.1 vwCl (wr ++ bs') H1 → va_D A (wr ++ bs') → va_S A s.heap H1 locs1 → W p l e R s m args below meth c H1 locs1 (cells + mc) (slots + ms) Q (F0 m (pc + 3) ls (v.toList ++ rest))) : W p l e R s m args below meth c H locs cells slots Q (F0 m pc ls st0) := by
  obtain ⟨y1, y2, y3, y4, y6⟩ := cy
  have cb : CallB R s args own index y bytes maxL ret (.code y bytes maxL ret :: GA) rm mc ms n := callB_of n hg (GA_cons y1) rfl hrm.1.1 hrm.1.2 (hg _ y4) (hg _ hlk) y6 hrm.2
  exact pm_go (va_runV (As := As) (rest := rest) (n := n) (C := C) ⟨hx, hb, hml, hown, hg⟩ (hM H.size) ⟨cb, hg _ y2, y3 _ _ hg hO⟩ ⟨pm_blind, va_recv hK.1 hP hci hq, fun U hU hW => ⟨rfl, pm_pre hK hE hO hP hD hS hA hU hW⟩⟩ rfl hn hsize hst (lv_room hW) hdg hc) hP hD hS hA kk
/-- a method that the builder's class overrides is called (x: as it is named, y: as it is chosen) -/
theorem pm_O {own C owner : String} {index n maxL m0 nL : Nat} {x y : MethodName} {bytes b0 : ByteArray} {ret r0 : Option FieldType} {rm : Room} {b : Nat} {As : List Value} {wr bs : va_W} {post : Option Value → va_W → Prop}
    (hx : p.tables.exec = Jvm.exec) (hb : c.code = cc) (hml : c.maxLocals = nL) (hown : s.vm.findClass own = some m.cls) (hg : ∀ w ∈ GA, w.before args s = true)
    (hM : PM E l y (.code y bytes maxL ret :: GA) rm (.ref b :: As) bs mc ms post) (hcy : Cond.code y bytes maxL ret ∈ GA ∧ Cond.instanceMethod y ∈ GA) (hcx : Cond.code x b0 m0 r0 ∈ GA ∧ Cond.instanceMethod x ∈ GA) (hxo : x.cls = owner) (hsm : Cond.sameMethod owner owner x.name x.desc ∈ GA) (hse : Cond.selects C x y ∈ GA) (hiy : Cond.initialized y.cls ∈ GA) (hd : owner ≠ "java/lang/invoke/MethodHandle" ∧ owner ≠ "java/lang/invoke/VarHandle" ∧ (parseMethodDescriptor x.desc).map (fun d => d.parameters.length) = some n) (hlk : Cond.methodLink own index x ∈ GA)
    (hrm : (rm.cells = mc ∧ rm.slots = ms) ∧ rm.frames + 1 ≤ R.frames ∧ 8 + (maxL + 11) + rm.locals ≤ R.locals)
    (hK : KX E s) (hE : EX E A s s.heap) (hO : XO s) (hP : va_P E.1 vwCl (wr ++ bs) H) (hD : va_D A (wr ++ bs)) (hS : va_S A s.heap H locs) (hA : ∀ q, s.heap.size ≤ q → A q)
    (q0 : Nat) {ci : Nat} {fs : List Value} {T : u_T} {N : Nat} (hq : (wr ++ bs)[q0]? = some (b, .inr (ci, fs))) (hci : vwCl[ci]? = some (C, T, N))
    (hn : As.length = n) (hsize : ls.size = nL) (hst : st0 = As.reverse ++ .ref b :: rest) (hW : (rest.map fun v => v.category).sum ≤ 8) (hdg : decode cc pc = .ok (.invokevirtual index, 3)) (hc : cells + mc ≤ R.cells ∧ slots + ms ≤ R.slots)
    (kk : ∀ (v : Option Value) (bs' : va_W) (H1 : Heap) (locs1 : List Loc), post v bs' → va_P E.1 vwCl (wr ++ bs') H1 → va_D A (wr ++ bs') → va_S A s.heap H1 locs1 → W p l e R s m args below meth c H1 locs1 (cells + mc) (slots + ms) Q (F0 m (pc + 3) ls (v.toList ++ rest))) : W p l e R s m args below meth c H locs cells slots Q (F0 m pc ls st0) := by
  subst hxo
  have hG : GoodIn GA (va_wsO own index C x.cls x y (.code y bytes maxL ret :: GA)) := by
    intro w hw
    simp only [va_wsO, List.cons_append, List.nil_append, List.mem_cons] at hw
    rcases hw with rfl | rfl | rfl | rfl | rfl | rfl | rfl | hw
    · exact GA_good _ hlk
    · exact GA_good _ hsm
    · exact GA_good _ hcx.2
    · exact GA_good _ hse
    · exact GA_good _ hcy.2
    · exact GA_good _ hiy
    · exact GA_good _ hcy.1
    · exact GA_good _ hw
  exact pm_go (va_runU (As := As) (rest := rest) (n := n) (C := C) (x := x) (owner := x.cls) ⟨hx, hb, hml, hown, hg⟩ (hM H.size) (va_cwO n hg hG rfl hrm.1.1 hrm.1.2 hcx.1 hd hrm.2) ⟨pm_blind, va_recv hK.1 hP hci hq, fun U hU hW => ⟨rfl, pm_pre hK hE hO hP hD hS hA hU hW⟩⟩ rfl hn hsize hst (lv_room hW) hdg hc) hP hD hS hA kk
/-- a static method is called -/
theorem pm_S {own C : String} {index n maxL nL : Nat} {y : MethodName} {bytes : ByteArray} {ret : Option FieldType} {rm : Room} {As : List Value} {wr bs : va_W} {post : Option Value → va_W → Prop}
    (hx : p.tables.exec = Jvm.exec) (hb : c.code = cc) (hml : c.maxLocals = nL) (hown : s.vm.findClass own = some m.cls) (hg : ∀ w ∈ GA, w.before args s = true)
    (hM : PM E l y (.code y bytes maxL ret :: GA) rm As bs mc ms post) (cy : CS y C bytes maxL ret n) (hlk : Cond.methodLink own index y ∈ GA)
    (hrm : (rm.cells = mc ∧ rm.slots = ms) ∧ rm.frames + 1 ≤ R.frames ∧ 8 + (maxL + 11) + rm.locals ≤ R.locals)
    (hK : KX E s) (hE : EX E A s s.heap) (hO : XO s) (hP : va_P E.1 vwCl (wr ++ bs) H) (hD : va_D A (wr ++ bs)) (hS : va_S A s.heap H locs) (hA : ∀ q, s.heap.size ≤ q → A q)
    (hn : As.length = n) (hsize : ls.size = nL) (hst : st0 = As.reverse ++ rest) (hW : (rest.map fun v => v.category).sum ≤ 8) (hdg : decode cc pc = .ok (.invokestatic index, 3)) (hc : cells + mc ≤ R.cells ∧ slots + ms ≤ R.slots)
    (kk : ∀ (v : Option Value) (bs' : va_W) (H1 : Heap) (locs1 : List Loc), post v bs' → va_P E.1 vwCl (wr ++ bs') H1 → va_D A (wr ++ bs') → va_S A s.heap H1 locs1 → W p l e R s m args below meth c H1 locs1 (cells + mc) (slots + ms) Q (F0 m (pc + 3) ls (v.toList ++ rest))) : W p l e R s m args below meth c H locs cells slots Q (F0 m pc ls st0) := by
  obtain ⟨y1, y2, y4, y5, y6⟩ := cy
  have cb : CallB R s args own index y bytes maxL ret (.code y bytes maxL ret :: GA) rm mc ms n := callB_of n hg (GA_cons y1) rfl hrm.1.1 hrm.1.2 (by rw [y5]; exact hg _ y4) (hg _ hlk) y6 hrm.2
  exact pm_go (va_runS (As := As) (rest := rest) (n := n) ⟨hx, hb, hml, hown, hg⟩ (hM H.size) ⟨cb, hg _ y2⟩ ⟨pm_blind, fun U hU hW => ⟨rfl, pm_pre hK hE hO hP hD hS hA hU hW⟩⟩ rfl hn hsize hst (lv_room hW) hdg hc) hP hD hS hA kk
/-- a constructor is called -/
theorem pm_I {own : String} {index n maxL nL : Nat} {y : MethodName} {bytes : ByteArray} {rm : Room} {b : Nat} {As : List Value} {wr bs : va_W} {post : Option Value → va_W → Prop}
    (hx : p.tables.exec = Jvm.exec) (hb : c.code = cc) (hml : c.maxLocals = nL) (hown : s.vm.findClass own = some m.cls) (hg : ∀ w ∈ GA, w.before args s = true)
    (hM : PM E l y (.code y bytes maxL none :: GA) rm (.ref b :: As) bs mc ms post) (cy : CI y bytes maxL n) (hlk : Cond.methodLink own index y ∈ GA)
    (hrm : (rm.cells = mc ∧ rm.slots = ms) ∧ rm.frames + 1 ≤ R.frames ∧ 8 + (maxL + 11) + rm.locals ≤ R.locals)
    (hK : KX E s) (hE : EX E A s s.heap) (hO : XO s) (hP : va_P E.1 vwCl (wr ++ bs) H) (hD : va_D A (wr ++ bs)) (hS : va_S A s.heap H locs) (hA : ∀ q, s.heap.size ≤ q → A q)
    (hn : As.length = n) (hsize : ls.size = nL) (hst : st0 = As.reverse ++ .ref b :: rest) (hW : (rest.map fun v => v.category).sum ≤ 8) (hdg : decode cc pc = .ok (.invokespecial index, 3)) (hc : cells + mc ≤ R.cells ∧ slots + ms ≤ R.slots)
    (kk : ∀ (v : Option Value) (bs' : va_W) (H1 : Heap) (locs1 : List Loc), post v bs' → va_P E.1 vwCl (wr ++ bs') H1 → va_D A (wr ++ bs') → va_S A s.heap H1 locs1 → W p l e R s m args below meth c H1 locs1 (cells + mc) (slots + ms) Q (F0 m (pc + 3) ls (v.toList ++ rest))) : W p l e R s m args below meth c H locs cells slots Q (F0 m pc ls st0) := by
  obtain ⟨y1, y2, y4, y5, y6⟩ := cy
  exact pm_go (va_runI (As := As) (rest := rest) (n := n) (nL := nL) (cc := cc) (Ts := GA) (own := own) (index := index) ⟨hx, hb, hml, hown, hg⟩ (hM H.size) (cwI n hg (GA_cons y1) rfl hrm.1.1 hrm.1.2 (hg _ y4) (hg _ hlk) (hg _ y2) y5 y6 hrm.2) ⟨pm_blind, fun U hU hW => ⟨rfl, pm_pre hK hE hO hP hD hS hA hU hW⟩⟩ rfl hn hsize hst (lv_room hW) hdg hc) hP hD hS hA kk
/-- the method of the class above is called -/
theorem pm_SU {own C : String} {index n maxL nL : Nat} {y : MethodName} {bytes : ByteArray} {ret : Option FieldType} {rm : Room} {b : Nat} {As : List Value} {wr bs : va_W} {post : Option Value → va_W → Prop}
    (hx : p.tables.exec = Jvm.exec) (hb : c.code = cc) (hml : c.maxLocals = nL) (hown : s.vm.findClass own = some m.cls) (hg : ∀ w ∈ GA, w.before args s = true)
    (hM : PM E l y (.code y bytes maxL ret :: GA) rm (.ref b :: As) bs mc ms post) (hcy : Cond.code y bytes maxL ret ∈ GA ∧ Cond.instanceMethod y ∈ GA) (hsm : Cond.sameMethod y.cls y.cls y.name y.desc ∈ GA) (hsu : Cond.superclass own y.cls ∈ GA) (hiy : Cond.initialized y.cls ∈ GA) (hd : y.name ≠ "<init>" ∧ (parseMethodDescriptor y.desc).map (fun d => d.parameters.length) = some n) (hlk : Cond.methodLink own index y ∈ GA)
    (hrm : (rm.cells = mc ∧ rm.slots = ms) ∧ rm.frames + 1 ≤ R.frames ∧ 8 + (maxL + 11) + rm.locals ≤ R.locals)
    (hK : KX E s) (hE : EX E A s s.heap) (hO : XO s) (hP : va_P E.1 vwCl (wr ++ bs) H) (hD : va_D A (wr ++ bs)) (hS : va_S A s.heap H locs) (hA : ∀ q, s.heap.size ≤ q → A q)
    (q0 : Nat) {ci : Nat} {fs : List Value} {T : u_T} {N : Nat} (hq : (wr ++ bs)[q0]? = some (b, .inr (ci, fs))) (hci : vwCl[ci]? = some (C, T, N))
    (hn : As.length = n) (hsize : ls.size = nL) (hst : st0 = As.reverse ++ .ref b :: rest) (hW : (rest.map fun v => v.category).sum ≤ 8) (hdg : decode cc pc = .ok (.invokespecial index, 3)) (hc : cells + mc ≤ R.cells ∧ slots + ms ≤ R.slots)
    (kk : ∀ (v : Option Value) (bs' : va_W) (H1 : Heap) (locs1 : List Loc), post v bs' → va_P E.1 vwCl (wr ++ bs') H1 → va_D A (wr ++ bs') → va_S A s.heap H1 locs1 → W p l e R s m args below meth c H1 locs1 (cells + mc) (slots + ms) Q (F0 m (pc + 3) ls (v.toList ++ rest))) : W p l e R s m args below meth c H locs cells slots Q (F0 m pc ls st0) := by
  have hG : GoodIn GA (va_wsSU own index y (.code y bytes maxL ret :: GA)) := by
    intro w hw
    simp only [va_wsSU, List.cons_append, List.nil_append, List.mem_cons] at hw
    rcases hw with rfl | rfl | rfl | rfl | rfl | rfl | hw
    · exact GA_good _ hlk
    · exact GA_good _ hsm
    · exact GA_good _ hsu
    · exact GA_good _ hcy.2
    · exact GA_good _ hiy
    · exact GA_good _ hcy.1
    · exact GA_good _ hw
  exact pm_go (va_runSU (As := As) (rest := rest) (n := n) (C := C) (hK.1.1 ci _ hci).2 ⟨hx, hb, hml, hown, hg⟩ (hM H.size) (va_cwSU n hg hG rfl hrm.1.1 hrm.1.2 hd hrm.2) ⟨pm_blind, va_recv hK.1 hP hci hq, fun U hU hW => ⟨rfl, pm_pre hK hE hO hP hD hS hA hU hW⟩⟩ rfl hn hsize hst (lv_room hW) hdg hc) hP hD hS hA kk
theorem pm_Vs {own : String} {index n maxL nL i : Nat} {y : MethodName} {bytes : ByteArray} {ret : Option FieldType} {rm : Room} {As : List Value} {wr bs : va_W} {post : Option Value → va_W → Prop}
    (hx : p.tables.exec = Jvm.exec) (hb : c.code = cc) (hml : c.maxLocals = nL) (hown : s.vm.findClass own = some m.cls) (hg : ∀ w ∈ GA, w.before args s = true)
    (hM : PM E l y (.code y bytes maxL ret :: GA) rm (.ref (E.2.2.2.2.2.1 i) :: As) bs mc ms post) (cy : CV y "java/lang/String" bytes maxL ret n) (hlk : Cond.methodLink own index y ∈ GA) (hi : i < 16)
    (hrm : (rm.cells = mc ∧ rm.slots = ms) ∧ rm.frames + 1 ≤ R.frames ∧ 8 + (maxL + 11) + rm.locals ≤ R.locals)
    (hK : KX E s) (hE : EX E A s s.heap) (hO : XO s) (hP : va_P E.1 vwCl (wr ++ bs) H) (hD : va_D A (wr ++ bs)) (hS : va_S A s.heap H locs) (hA : ∀ q, s.heap.size ≤ q → A q)
    (hn : As.length = n) (hsize : ls.size = nL) (hst : st0 = As.reverse ++ .ref (E.2.2.2.2.2.1 i) :: rest) (hW : (rest.map fun v => v.category).sum ≤ 8) (hdg : decode cc pc = .ok (.invokevirtual index, 3)) (hc : cells + mc ≤ R.cells ∧ slots + ms ≤ R.slots)
    (kk : ∀ (v : Option Value) (bs' : va_W) (H1 : Heap) (locs1 : List Loc), post v bs' → va_P E.1 vwCl (wr ++ bs') H1 → va_D A (wr ++ bs') → va_S A s.heap H1 locs1 → W p l e R s m args below meth c H1 locs1 (cells + mc) (slots + ms) Q (F0 m (pc + 3) ls (v.toList ++ rest))) : W p l e R s m args below meth c H locs cells slots Q (F0 m pc ls st0) := by
  obtain ⟨y1, y2, y3, y4, y6⟩ := cy
  have cb : CallB R s args own index y bytes maxL ret (.code y bytes maxL ret :: GA) rm mc ms n := callB_of n hg (GA_cons y1) rfl hrm.1.1 hrm.1.2 (hg _ y4) (hg _ hlk) y6 hrm.2
  exact pm_go (va_runV (As := As) (rest := rest) (n := n) (C := "java/lang/String") ⟨hx, hb, hml, hown, hg⟩ (hM H.size) ⟨cb, hg _ y2, y3 _ _ hg hO⟩ ⟨pm_blind, vk_recv hE.1 hi hS, fun U hU hW => ⟨rfl, pm_pre hK hE hO hP hD hS hA hU hW⟩⟩ rfl hn hsize hst (lv_room hW) hdg hc) hP hD hS hA kk
theorem ab_st {w1 w2 : va_W} {a n : Nat} {f : Nat → Int32} {i x : Int32} (hx : p.tables.exec = Jvm.exec) (hb : c.code = cc) (hK : KX E s) (hP : va_P E.1 vwCl w1 H) (hD : va_D A w1) (hS : va_S A s.heap H locs) (q0 : Nat) (ha : w1[q0]? = some (a, .inl (E.2.2.2.1, n, .inl f))) (hin : vp_in i n) (hn : vp_nar .byte x = x) (hw : w1.set q0 (a, .inl (E.2.2.2.1, n, .inl (upd f i.toNatClampNeg x))) = w2) (hdg : decode cc pc = .ok (.bastore, 1)) (kk : ∀ (H1 : Heap) (locs1 : List Loc), va_P E.1 vwCl w2 H1 → va_D A w2 → va_S A s.heap H1 locs1 → W p l e R s m args below meth c H1 locs1 cells slots Q (F0 m (pc + 1) ls rest)) : W p l e R s m args below meth c H locs cells slots Q (F0 m pc ls (.int x :: .int i :: .ref a :: rest)) := by
  subst hw
  rw [← hn] at kk
  exact va_bast hx hb hK.1 hP hD hS q0 2 ha rfl hin hdg kk
theorem ab_cp {own : String} {index nL : Nat} {w1 w2 : va_W} {a a0 n0 n1 : Nat} {f g : Nat → Int32} {sp dp n : Int32} (hx : p.tables.exec = Jvm.exec) (hb : c.code = cc) (hml : c.maxLocals = nL) (hsize : ls.size = nL) (hown : s.vm.findClass own = some m.cls) (hg : ∀ w ∈ GA, w.before args s = true) (hlk : Cond.methodLink own index arraycopyName ∈ GA) (hK : KX E s) (hP : va_P E.1 vwCl w1 H) (hD : va_D A w1) (hS : va_S A s.heap H locs) (q0 q1 : Nat) (ha0 : w1[q0]? = some (a0, .inl (E.2.2.2.1, n0, .inl f))) (ha1 : w1[q1]? = some (a, .inl (E.2.2.2.1, n1, .inl g)))
    (h1 : ¬ sp < 0) (h2 : ¬ dp < 0) (h3 : ¬ n < 0) (h4 : sp.toNatClampNeg + n.toNatClampNeg ≤ n0) (h5 : dp.toNatClampNeg + n.toNatClampNeg ≤ n1) (hfit : sb_Fit f) (hfr : 1 ≤ R.frames) (hlo : (rest.map fun v => v.category).sum + (nativeFrameWords "java/lang/System" "arraycopy" 5 + 11) ≤ R.locals)
    (hw : w1.set q1 (a, .inl (E.2.2.2.1, n1, .inl (va_cpy f g sp.toNatClampNeg dp.toNatClampNeg n.toNatClampNeg))) = w2) (hdg : decode cc pc = .ok (.invokestatic index, 3)) (kk : ∀ (H1 : Heap) (locs1 : List Loc), va_P E.1 vwCl w2 H1 → va_D A w2 → va_S A s.heap H1 locs1 → W p l e R s m args below meth c H1 locs1 cells slots Q (F0 m (pc + 3) ls rest)) : W p l e R s m args below meth c H locs cells slots Q (F0 m pc ls (.int n :: .int dp :: .ref a :: .int sp :: .ref a0 :: rest)) := by
  subst hw
  exact va_copyi hx hb (hml.trans hsize.symm) hown (hg _ hlk) (hg _ nt_acp) (hg _ st_acp) (hg _ ini_Sys) hK.1 hP hD hS q0 q1 2 2 ha0 ha1 rfl rfl rfl h1 h2 h3 h4 h5 (fun i _ => hfit _) hfr hlo hdg kk
theorem pm_vret {post : Option Value → va_W → Prop} {bs bs' : va_W} (hx : p.tables.exec = Jvm.exec) (hb : c.code = cc) (hr : meth.sig.returnType = none) (hlocks : meth.locks = false) (hp : post none bs') (hP : va_P E.1 vwCl bs' H) (hD : va_D A bs') (hS : va_S A s.heap H locs) (hdg : decode cc pc = .ok (.return_, 1)) (hc : cells ≤ mc) (hs : slots ≤ ms) : W p l e R s m args below meth c H locs cells slots (MQ below (PQ E bs A post) args s mc ms A) (F0 m pc ls []) :=
  W.widen hc hs (W.vret hx hb hr (fun t ht _ => ⟨none, rfl, ⟨bs', hp, by rw [ht]; exact hP, hD⟩, hS.F ht⟩) hS.2.2 hdg hlocks)
theorem pm_yret {post : Option Value → va_W → Prop} {bs bs' : va_W} {ty : FieldType} {v : Int32} (hx : p.tables.exec = Jvm.exec) (hb : c.code = cc) (hr : meth.sig.returnType = some ty) (hn : narrow ty (.int v) = .int v) (hlocks : meth.locks = false) (hp : post (some (.int v)) bs') (hP : va_P E.1 vwCl bs' H) (hD : va_D A bs') (hS : va_S A s.heap H locs) (hdg : decode cc pc = .ok (.ireturn, 1)) (hc : cells ≤ mc) (hs : slots ≤ ms) : W p l e R s m args below meth c H locs cells slots (MQ below (PQ E bs A post) args s mc ms A) (F0 m pc ls [.int v]) :=
  W.widen hc hs (W.zret hx hb hr hn (fun t ht _ => ⟨_, rfl, ⟨bs', hp, by rw [ht]; exact hP, hD⟩, hS.F ht⟩) hS.2.2 hdg hlocks)
theorem pm_aret {post : Option Value → va_W → Prop} {bs bs' : va_W} {rt : FieldType} {v : Nat} (hx : p.tables.exec = Jvm.exec) (hb : c.code = cc) (hr : meth.sig.returnType = some rt) (hrt : (∃ n, rt = .object n) ∨ ∃ t, rt = .array t) (hlocks : meth.locks = false) (hp : post (some (.ref v)) bs') (hP : va_P E.1 vwCl bs' H) (hD : va_D A bs') (hS : va_S A s.heap H locs) (hdg : decode cc pc = .ok (.areturn, 1)) (hc : cells ≤ mc) (hs : slots ≤ ms) : W p l e R s m args below meth c H locs cells slots (MQ below (PQ E bs A post) args s mc ms A) (F0 m pc ls [.ref v]) :=
  W.widen hc hs (W.aret hx hb hr hrt (Or.inr ⟨v, rfl⟩) (fun t ht _ => ⟨_, rfl, ⟨bs', hp, by rw [ht]; exact hP, hD⟩, hS.F ht⟩) hS.2.2 hdg hlocks)
end
theorem PM.of {E : Ev} {l : Launch} {y : MethodName} {cc : ByteArray} {maxL : Nat} {ret : Option FieldType} {rm : Room} {as : List Value} {bs : va_W} {mc ms : Nat} {post : Option Value → va_W → Prop} {own : String} (hown : y.cls = own) (hy : plainName y.cls = true) (hn : (lg_sl as).length ≤ maxL)
    (body : ∀ (p : Program) (e : Env) (s : State) (m : MethodId) (below : List Frame) (meth : Method) (c : Code) (A : Nat → Prop) (ls : Array Slot), p.tables.exec = Jvm.exec → c.code = cc → meth.sig.returnType = ret → c.maxLocals = maxL → s.vm.findClass own = some m.cls → (∀ w ∈ GA, w.before as.toArray s = true) → meth.locks = false → meth.name = y.name → KX E s → EX E A s s.heap → XO s → (∀ q : Nat, s.heap.size ≤ q → A q) → va_P E.1 vwCl bs s.heap → va_D A bs → va_S A s.heap s.heap [] → lv_has ls maxL (lv_args 0 as) →
      W p l e rm s m as.toArray below meth c s.heap [] 0 0 (MQ below (PQ E bs A post) as.toArray s mc ms A) (F0 m 0 ls [])) : PM E l y (.code y cc maxL ret :: GA) rm as bs mc ms post := by
  intro sz
  refine Met.ofW (cc := cc) (maxL := maxL) (ret := ret) hy rfl ?_
  intro p e s m args below meth c s₁ B hml hv
  obtain ⟨rfl, ⟨hsz, hP, hK, hD0, hE⟩, hO⟩ := hv
  subst hown
  subst hsz
  have hts := atoms_spec (ws := .code y cc maxL ret :: GA) B.pre
  rw [lg_entry_eq]
  exact body p e s m below meth c _ _ B.exec B.bytes B.returns hml (findClass_of_methodNamed B.named) (fun w h => hts w (List.mem_cons_of_mem _ h)) B.notSynchronized (name_of_methodNamed B.named B.method).1 hK hE hO (fun q h => Or.inr h) hP hD0.self va_S.rf (lv_entry as hn)
