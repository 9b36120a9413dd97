/-! numbers appended; builders and texts made -/
def B_J6_stringSize_0f7a4_16 (rec : Int32 → Int32 → Int32 → Int32 → Option (Int32)) (y0 : Int32) (x1 : Int32) (x2 : Int32) (x3 : Int32) : Option (Int32) := (if 10 ≤ x3 then (some (10 + x1)) else (if y0 ≤ x2 then (rec y0 x1 (10 * x2) (x3 + 1)) else (some (x3 + x1))))
def L_J6_stringSize_0f7a4_16 : Nat → Int32 → Int32 → Int32 → Int32 → Option (Int32)
  | 0 => fun _ _ _ _ => none
  | n + 1 => fun y0 x1 x2 x3 => B_J6_stringSize_0f7a4_16 (L_J6_stringSize_0f7a4_16 n) y0 x1 x2 x3
def F_J6_stringSize_0f7a4 (x0 : Int32) : Option (Int32) := (if x0 < 0 then (L_J6_stringSize_0f7a4_16 FU x0 1 (-10) 1) else (L_J6_stringSize_0f7a4_16 FU (-x0) 0 (-10) 1))
abbrev rm_J6_stringSize_0f7a4 : Room := { frames := 0, cells := 0, slots := 0, locals := 0 }
set_option maxHeartbeats 4000000 in
set_option maxRecDepth 100000 in
theorem c_J6_stringSize_0f7a4 (E : Ev) (l : Launch) (x0 : Int32) (r : Int32) (hf : F_J6_stringSize_0f7a4 x0 = some r) : CM E l yJ6_stringSize_0f7a4 (.code yJ6_stringSize_0f7a4 cJ6_stringSize_0f7a4 4 (some .int) :: GA) rm_J6_stringSize_0f7a4 [.int x0] [] (some (.int r)) [] := by
  refine CM.of (own := RJ6) rfl (by decide) (Nat.le_of_ble_eq_true rfl) ?_
  intro p e s m below meth c A ls hx hb hr hml hown hg hlocks hK hE hA hP hD hS hl
  have hl : lv_has ls 4 [(0, .int x0)] := hl
  have lp_16 : ∀ (n : Nat) (y0 : Int32) (x1 : Int32) (x2 : Int32) (x3 : Int32) (H : Heap) (locs : List Loc) (ls : Array Slot), L_J6_stringSize_0f7a4_16 n y0 x1 x2 x3 = some r → va_P E.1 vwCl [] H → va_D A [] → va_S A s.heap H locs → lv_has ls 4 [(0, .int y0), (1, .int x1), (2, .int x2), (3, .int x3)] → W p l e rm_J6_stringSize_0f7a4 s m ([.int x0] : List Value).toArray below meth c H locs 0 0 (MQ below (QW E (some (.int r)) [] A) ([.int x0] : List Value).toArray s 0 0 A) (F0 m 16 ls []) := by
    intro n
    induction n with
    | zero => intro y0 x1 x2 x3 H locs ls hf; cases hf
    | succ n ih =>
      intro y0 x1 x2 x3 H locs ls hf hP hD hS hl
      replace hf : B_J6_stringSize_0f7a4_16 (L_J6_stringSize_0f7a4_16 n) y0 x1 x2 x3 = some r := hf
      unfold B_J6_stringSize_0f7a4_16 at hf
      refine lv_iload_n hx hb dJ6_stringSize_0f7a4_16 rfl (lv_at hl 3 rfl) ?_
      refine lv_bipush (v := 10) hx hb dJ6_stringSize_0f7a4_17 (by decide) ?_
      refine lv_icmp_ge (tgt := 42) hx hb dJ6_stringSize_0f7a4_19 (by decide) (fun cq => ?_) (fun cq => ?_)
      · have hf := it cq hf
        refine lv_bipush (v := 10) hx hb dJ6_stringSize_0f7a4_42 (by decide) ?_
        refine lv_iload_n hx hb dJ6_stringSize_0f7a4_44 rfl (lv_at hl 1 rfl) ?_
        refine lv_iadd hx hb dJ6_stringSize_0f7a4_45 ?_
        obtain rfl := Option.some.inj hf
        exact cm_iret hx hb hr hlocks hP hS dJ6_stringSize_0f7a4_46
      · have hf := ie cq hf
        refine lv_iload_n hx hb dJ6_stringSize_0f7a4_22 rfl (lv_at hl 0 rfl) ?_
        refine lv_iload_n hx hb dJ6_stringSize_0f7a4_23 rfl (lv_at hl 2 rfl) ?_
        refine lv_icmp_le (tgt := 31) hx hb dJ6_stringSize_0f7a4_24 (by decide) (fun cq => ?_) (fun cq => ?_)
        · have hf := it cq hf
          refine lv_bipush (v := 10) hx hb dJ6_stringSize_0f7a4_31 (by decide) ?_
          refine lv_iload_n hx hb dJ6_stringSize_0f7a4_33 rfl (lv_at hl 2 rfl) ?_
          refine lv_imul hx hb dJ6_stringSize_0f7a4_34 ?_
          refine lv_istore_n (lv' := [(2, .int (10 * x2)), (0, .int y0), (1, .int x1), (3, .int x3)]) hx hb dJ6_stringSize_0f7a4_35 rfl hl (by decide) rfl (fun ls hl => ?_)
          refine lv_iinc (v := (x3 + 1)) (lv' := [(3, .int (x3 + 1)), (2, .int (10 * x2)), (0, .int y0), (1, .int x1)]) hx hb dJ6_stringSize_0f7a4_36 hl (k := 3) rfl rfl (by decide) rfl (fun ls hl => ?_)
          refine lv_goto (tgt := 16) hx hb dJ6_stringSize_0f7a4_39 (by decide) ?_
          exact ih _ _ _ _ _ _ _ hf hP hD hS (lv_sub hl [2, 3, 1, 0] rfl)
        · have hf := ie cq hf
          refine lv_iload_n hx hb dJ6_stringSize_0f7a4_27 rfl (lv_at hl 3 rfl) ?_
          refine lv_iload_n hx hb dJ6_stringSize_0f7a4_28 rfl (lv_at hl 1 rfl) ?_
          refine lv_iadd hx hb dJ6_stringSize_0f7a4_29 ?_
          obtain rfl := Option.some.inj hf
          exact cm_iret hx hb hr hlocks hP hS dJ6_stringSize_0f7a4_30
  unfold F_J6_stringSize_0f7a4 at hf
  refine lv_iconst (v := 1) hx hb dJ6_stringSize_0f7a4_0 (by decide) ?_
  refine lv_istore_n (lv' := [(1, .int 1), (0, .int x0)]) hx hb dJ6_stringSize_0f7a4_1 rfl hl (by decide) rfl (fun ls hl => ?_)
  refine lv_iload_n hx hb dJ6_stringSize_0f7a4_2 rfl (lv_at hl 1 rfl) ?_
  refine lv_if_lt (tgt := 11) hx hb dJ6_stringSize_0f7a4_3 (by decide) (fun cq => ?_) (fun cq => ?_)
  · have hf := it cq hf
    refine lv_bipush (v := (-10)) hx hb dJ6_stringSize_0f7a4_11 (by decide) ?_
    refine lv_istore_n (lv' := [(2, .int (-10)), (1, .int 1), (0, .int x0)]) hx hb dJ6_stringSize_0f7a4_13 rfl hl (by decide) rfl (fun ls hl => ?_)
    refine lv_iconst (v := 1) hx hb dJ6_stringSize_0f7a4_14 (by decide) ?_
    refine lv_istore_n (lv' := [(3, .int 1), (2, .int (-10)), (1, .int 1), (0, .int x0)]) hx hb dJ6_stringSize_0f7a4_15 rfl hl (by decide) rfl (fun ls hl => ?_)
    exact lp_16 FU _ _ _ _ _ _ _ hf hP hD hS (lv_sub hl [3, 2, 1, 0] rfl)
  · have hf := ie cq hf
    refine lv_iconst (v := 0) hx hb dJ6_stringSize_0f7a4_6 (by decide) ?_
    refine lv_istore_n (lv' := [(1, .int 0), (0, .int x0)]) hx hb dJ6_stringSize_0f7a4_7 rfl hl (by decide) rfl (fun ls hl => ?_)
    refine lv_iload_n hx hb dJ6_stringSize_0f7a4_8 rfl (lv_at hl 1 rfl) ?_
    refine lv_ineg hx hb dJ6_stringSize_0f7a4_9 ?_
    refine lv_istore_n (lv' := [(0, .int (-x0)), (1, .int 0)]) hx hb dJ6_stringSize_0f7a4_10 rfl hl (by decide) rfl (fun ls hl => ?_)
    refine lv_bipush (v := (-10)) hx hb dJ6_stringSize_0f7a4_11 (by decide) ?_
    refine lv_istore_n (lv' := [(2, .int (-10)), (0, .int (-x0)), (1, .int 0)]) hx hb dJ6_stringSize_0f7a4_13 rfl hl (by decide) rfl (fun ls hl => ?_)
    refine lv_iconst (v := 1) hx hb dJ6_stringSize_0f7a4_14 (by decide) ?_
    refine lv_istore_n (lv' := [(3, .int 1), (2, .int (-10)), (0, .int (-x0)), (1, .int 0)]) hx hb dJ6_stringSize_0f7a4_15 rfl hl (by decide) rfl (fun ls hl => ?_)
    exact lp_16 FU _ _ _ _ _ _ _ hf hP hD hS (lv_sub hl [2, 3, 1, 0] rfl)
theorem ss_ok : ∀ v, v < 1000 → F_J6_stringSize_0f7a4 (nI v) = some (nI (sb_dg v)) := by decide +kernel
theorem dg_tab : ∀ v, v < 1000 → (v < 10 → sb_dg v = 1) ∧ (10 ≤ v → v < 100 → sb_dg v = 2) ∧ (100 ≤ v → sb_dg v = 3) := by decide +kernel
theorem tb_ok : ∀ k, k < 100 → vp_nar .byte (nI (48 + k % 10)) = sb_b (48 + k % 10) ∧ vp_nar .byte (nI (48 + k / 10)) = sb_b (48 + k / 10) ∧ vp_nar .byte (nI (48 + k % 10)) = nI (48 + k % 10) ∧ vp_nar .byte (nI (48 + k / 10)) = nI (48 + k / 10) := by decide +kernel
theorem ml_J7_310 : Cond.methodLink RJ7 310 ⟨"[B", "clone", "()Ljava/lang/Object;"⟩ ∈ GA := GA_of (tb5 (List.mem_of_getElem? (i := 91) (by decide +kernel))) (by decide +kernel)
theorem clone_same : Cond.sameMethod "[B" "java/lang/Object" "clone" "()Ljava/lang/Object;" ∈ GA := GA_of (tb5 (List.mem_of_getElem? (i := 92) (by decide +kernel))) (by decide +kernel)
theorem clone_nat : Cond.native ⟨"java/lang/Object", "clone", "()Ljava/lang/Object;"⟩ ∈ GA := GA_of (tb5 (List.mem_of_getElem? (i := 93) (by decide +kernel))) (by decide +kernel)
theorem clone_inst : Cond.instanceMethod ⟨"java/lang/Object", "clone", "()Ljava/lang/Object;"⟩ ∈ GA := GA_of (tb5 (List.mem_of_getElem? (i := 94) (by decide +kernel))) (by decide +kernel)
theorem clone_sel : Cond.selects "[B" ⟨"[B", "clone", "()Ljava/lang/Object;"⟩ ⟨"java/lang/Object", "clone", "()Ljava/lang/Object;"⟩ ∈ GA := GA_of (tb5 (List.mem_of_getElem? (i := 95) (by decide +kernel))) (by decide +kernel)
theorem cl_B : Cond.classLink RJ7 311 "[B" ∈ GA := GA_of (tb5 (List.mem_of_getElem? (i := 97) (by decide +kernel))) (by decide +kernel)
theorem byte_nm {E : Ev} {s : State} (hK : KX E s) : s.vm.findClass "[B" = some E.2.2.2.1 := (hK.1.2 2 _ rfl).2
theorem byte_fits {cA : ClassId} {n : Nat} {f : Nat → Int32} (hf : sb_Fit f) : ∀ (i : Nat) (v : Value), (vp_cell cA (n, .inl f)).slots[i]? = some v → fits .byte v = true := by
  intro i v h
  have e : vp_cell cA (n, .inl f) = arrV cA n (fun j => .int (f j)) := rfl
  rw [e] at h
  by_cases hi : i < n
  · rw [arrV_read _ _ hi] at h
    cases h
    exact hf i
  · rw [Array.getElem?_eq_none (by rw [arrV_size]; omega)] at h
    cases h
theorem neg_neg32 (x : Int32) : -(-x) = x := Int32.neg_neg
set_option maxHeartbeats 4000000 in
set_option maxRecDepth 100000 in
theorem j_gc1 (E : Ev) (l : Launch) (b mm n x : Nat) (f : Nat → Int32) (hx9 : x < 10) (hn : n + 1 ≤ mm) (hm : mm ≤ 65536) : PM E l yJ6_getChars_ba4f3 (.code yJ6_getChars_ba4f3 cJ6_getChars_ba4f3 7 (some .int) :: GA) { frames := 0, cells := 0, slots := 0, locals := 0 } [.int (nI x), .int (nI (n + 1)), .ref b] [(b, .inl (E.2.2.2.1, mm, .inl f))] 0 0 (fun v bs => ∃ f2 : Nat → Int32, v = some (.int (nI n)) ∧ (sb_Fit f → sb_Fit f2) ∧ (∀ j, j < n → f2 j = f j) ∧ (∀ k, k < sb_dg x → f2 (n + k) = sb_b (sb_dec x k)) ∧ bs = [(b, .inl (E.2.2.2.1, mm, .inl f2))]) := by
  refine PM.of (own := RJ6) rfl (by decide) (Nat.le_of_ble_eq_true rfl) ?_
  intro p e s m below meth c A ls hx hb hr hml hown hg hlocks hin hK hE hO hA hP hD hS hl
  have hl : lv_has ls 7 [(0, .int (nI x)), (1, .int (nI (n + 1))), (2, .ref b)] := hl
  have hO9 := hE.2.2.2.2.2.2.2.2.1
  obtain ⟨tO, hO1, hO2⟩ := hO9
  have hT9 := hE.2.2.2.2.2.2.2.2.2
  obtain ⟨tT, hT1, hT2⟩ := hT9
  refine lv_iload_n hx hb dJ6_getChars_ba4f3_0 rfl (lv_at hl 1 rfl) ?_
  refine lv_istore (lv' := [(5, .int (nI (n + 1))), (0, .int (nI x)), (1, .int (nI (n + 1))), (2, .ref b)]) hx hb dJ6_getChars_ba4f3_1 hl (by decide) rfl (fun ls hl => ?_)
  refine lv_iload_n hx hb dJ6_getChars_ba4f3_3 rfl (lv_at hl 1 rfl) ?_
  refine lv_if_ge (tgt := 11) hx hb dJ6_getChars_ba4f3_4 (by decide) (fun cq => ?_) (fun cq => absurd (nI_pos' (by omega)) cq)
  refine lv_iconst (v := 0) hx hb dJ6_getChars_ba4f3_11 (by decide) ?_
  refine lv_istore (lv' := [(6, .int 0), (5, .int (nI (n + 1))), (0, .int (nI x)), (1, .int (nI (n + 1))), (2, .ref b)]) hx hb dJ6_getChars_ba4f3_12 hl (by decide) rfl (fun ls hl => ?_)
  refine lv_iload hx hb dJ6_getChars_ba4f3_14 (lv_at hl 0 rfl) ?_
  refine lv_if_ne (tgt := 22) hx hb dJ6_getChars_ba4f3_16 (by decide) (fun cq => absurd (rfl) cq) (fun cq => ?_)
  refine lv_iload_n hx hb dJ6_getChars_ba4f3_19 rfl (lv_at hl 2 rfl) ?_
  refine lv_ineg hx hb dJ6_getChars_ba4f3_20 ?_
  refine lv_istore_n (lv' := [(0, .int (-(nI x))), (6, .int 0), (5, .int (nI (n + 1))), (1, .int (nI (n + 1))), (2, .ref b)]) hx hb dJ6_getChars_ba4f3_21 rfl hl (by decide) rfl (fun ls hl => ?_)
  refine lv_iload_n hx hb dJ6_getChars_ba4f3_22 rfl (lv_at hl 0 rfl) ?_
  refine lv_bipush (v := (-100)) hx hb dJ6_getChars_ba4f3_23 (by decide) ?_
  refine lv_icmp_gt (tgt := 72) hx hb dJ6_getChars_ba4f3_25 (by decide) (fun cq => ?_) (fun cq => absurd ((sb_nlt (by decide) (by omega) : -nI 100 < -nI x ↔ x < 100).mpr (by omega)) cq)
  refine lv_aload_n hx hb dJ6_getChars_ba4f3_72 rfl (lv_at hl 4 rfl) ?_
  refine lv_iinc (v := ((nI (n + 1)) + (-1))) (lv' := [(5, .int ((nI (n + 1)) + (-1))), (0, .int (-(nI x))), (6, .int 0), (1, .int (nI (n + 1))), (2, .ref b)]) hx hb dJ6_getChars_ba4f3_73 hl (k := 2) rfl rfl (by decide) rfl (fun ls hl => ?_)
  refine lv_iload hx hb dJ6_getChars_ba4f3_76 (lv_at hl 0 rfl) ?_
  refine va_gets hx hb hO1 hS hown (hg _ mf_J6_83) (fun _ h => h) dJ6_getChars_ba4f3_78 ?_
  refine lv_iload_n hx hb dJ6_getChars_ba4f3_81 rfl (lv_at hl 1 rfl) ?_
  refine lv_ineg hx hb dJ6_getChars_ba4f3_82 ?_
  rw [neg_neg32]
  have em : nI (n + 1) + (-1) = nI n := sb_m1 (by omega)
  rw [em]
  refine va_tb hx hb hO2 hS (by exact vp_in_nI (by omega) (by decide)) (v := .int (nI (48 + x % 10))) (by rw [nI_clamp (by omega)]) dJ6_getChars_ba4f3_83 ?_
  refine ab_st (w2 := [(b, .inl (E.2.2.2.1, mm, .inl (upd f (Int32.toNatClampNeg (nI n)) (nI (48 + x % 10)))))]) hx hb hK hP hD hS 0 rfl (vp_in_nI (by omega) (by omega)) (tb_ok x (by omega)).2.2.1 rfl dJ6_getChars_ba4f3_84 (fun H locs hP hD hS => ?_)
  refine lv_iload_n hx hb dJ6_getChars_ba4f3_85 rfl (lv_at hl 1 rfl) ?_
  refine lv_bipush (v := (-9)) hx hb dJ6_getChars_ba4f3_86 (by decide) ?_
  refine lv_icmp_ge (tgt := 104) hx hb dJ6_getChars_ba4f3_88 (by decide) (fun cq => ?_) (fun cq => absurd ((sb_nle (by decide) (by omega) : -nI 9 ≤ -nI x ↔ x ≤ 9).mpr (by omega)) cq)
  refine lv_iload hx hb dJ6_getChars_ba4f3_104 (lv_at hl 2 rfl) ?_
  refine lv_if_eq (tgt := 118) hx hb dJ6_getChars_ba4f3_106 (by decide) (fun cq => ?_) (fun cq => absurd (rfl) cq)
  refine lv_iload hx hb dJ6_getChars_ba4f3_118 (lv_at hl 0 rfl) ?_
  rw [em]
  exact pm_yret hx hb hr rfl hlocks ⟨_, rfl, fun hf => sb_fitU hf (by rw [← (tb_ok x (by omega)).2.2.1, (tb_ok x (by omega)).1]; exact sb_fitB _), fun k hk => pk_un (by rw [nI_clamp (by omega)]; omega), fun k hk => by have hd := (dg_tab x (by omega)).1 hx9; obtain rfl : k = 0 := (by omega); rw [nI_clamp (by omega), Nat.add_zero, pk_us, sb_dec, hd, ← (tb_ok x (by omega)).2.2.1, (tb_ok x (by omega)).1]; simp, rfl⟩ hP hD hS dJ6_getChars_ba4f3_120 (Nat.le_of_ble_eq_true rfl) (Nat.le_of_ble_eq_true rfl)
set_option maxHeartbeats 4000000 in
set_option maxRecDepth 100000 in
theorem j_gc2 (E : Ev) (l : Launch) (b mm n x : Nat) (f : Nat → Int32) (hx0 : 10 ≤ x) (hx9 : x < 100) (hn : n + 2 ≤ mm) (hm : mm ≤ 65536) : PM E l yJ6_getChars_ba4f3 (.code yJ6_getChars_ba4f3 cJ6_getChars_ba4f3 7 (some .int) :: GA) { frames := 0, cells := 0, slots := 0, locals := 0 } [.int (nI x), .int (nI (n + 2)), .ref b] [(b, .inl (E.2.2.2.1, mm, .inl f))] 0 0 (fun v bs => ∃ f2 : Nat → Int32, v = some (.int (nI n)) ∧ (sb_Fit f → sb_Fit f2) ∧ (∀ j, j < n → f2 j = f j) ∧ (∀ k, k < sb_dg x → f2 (n + k) = sb_b (sb_dec x k)) ∧ bs = [(b, .inl (E.2.2.2.1, mm, .inl f2))]) := by
  refine PM.of (own := RJ6) rfl (by decide) (Nat.le_of_ble_eq_true rfl) ?_
  intro p e s m below meth c A ls hx hb hr hml hown hg hlocks hin hK hE hO hA hP hD hS hl
  have hl : lv_has ls 7 [(0, .int (nI x)), (1, .int (nI (n + 2))), (2, .ref b)] := hl
  have hO9 := hE.2.2.2.2.2.2.2.2.1
  obtain ⟨tO, hO1, hO2⟩ := hO9
  have hT9 := hE.2.2.2.2.2.2.2.2.2
  obtain ⟨tT, hT1, hT2⟩ := hT9
  refine lv_iload_n hx hb dJ6_getChars_ba4f3_0 rfl (lv_at hl 1 rfl) ?_
  refine lv_istore (lv' := [(5, .int (nI (n + 2))), (0, .int (nI x)), (1, .int (nI (n + 2))), (2, .ref b)]) hx hb dJ6_getChars_ba4f3_1 hl (by decide) rfl (fun ls hl => ?_)
  refine lv_iload_n hx hb dJ6_getChars_ba4f3_3 rfl (lv_at hl 1 rfl) ?_
  refine lv_if_ge (tgt := 11) hx hb dJ6_getChars_ba4f3_4 (by decide) (fun cq => ?_) (fun cq => absurd (nI_pos' (by omega)) cq)
  refine lv_iconst (v := 0) hx hb dJ6_getChars_ba4f3_11 (by decide) ?_
  refine lv_istore (lv' := [(6, .int 0), (5, .int (nI (n + 2))), (0, .int (nI x)), (1, .int (nI (n + 2))), (2, .ref b)]) hx hb dJ6_getChars_ba4f3_12 hl (by decide) rfl (fun ls hl => ?_)
  refine lv_iload hx hb dJ6_getChars_ba4f3_14 (lv_at hl 0 rfl) ?_
  refine lv_if_ne (tgt := 22) hx hb dJ6_getChars_ba4f3_16 (by decide) (fun cq => absurd (rfl) cq) (fun cq => ?_)
  refine lv_iload_n hx hb dJ6_getChars_ba4f3_19 rfl (lv_at hl 2 rfl) ?_
  refine lv_ineg hx hb dJ6_getChars_ba4f3_20 ?_
  refine lv_istore_n (lv' := [(0, .int (-(nI x))), (6, .int 0), (5, .int (nI (n + 2))), (1, .int (nI (n + 2))), (2, .ref b)]) hx hb dJ6_getChars_ba4f3_21 rfl hl (by decide) rfl (fun ls hl => ?_)
  refine lv_iload_n hx hb dJ6_getChars_ba4f3_22 rfl (lv_at hl 0 rfl) ?_
  refine lv_bipush (v := (-100)) hx hb dJ6_getChars_ba4f3_23 (by decide) ?_
  refine lv_icmp_gt (tgt := 72) hx hb dJ6_getChars_ba4f3_25 (by decide) (fun cq => ?_) (fun cq => absurd ((sb_nlt (by decide) (by omega) : -nI 100 < -nI x ↔ x < 100).mpr (by omega)) cq)
  refine lv_aload_n hx hb dJ6_getChars_ba4f3_72 rfl (lv_at hl 4 rfl) ?_
  refine lv_iinc (v := ((nI (n + 2)) + (-1))) (lv' := [(5, .int ((nI (n + 2)) + (-1))), (0, .int (-(nI x))), (6, .int 0), (1, .int (nI (n + 2))), (2, .ref b)]) hx hb dJ6_getChars_ba4f3_73 hl (k := 2) rfl rfl (by decide) rfl (fun ls hl => ?_)
  refine lv_iload hx hb dJ6_getChars_ba4f3_76 (lv_at hl 0 rfl) ?_
  refine va_gets hx hb hO1 hS hown (hg _ mf_J6_83) (fun _ h => h) dJ6_getChars_ba4f3_78 ?_
  refine lv_iload_n hx hb dJ6_getChars_ba4f3_81 rfl (lv_at hl 1 rfl) ?_
  refine lv_ineg hx hb dJ6_getChars_ba4f3_82 ?_
  rw [neg_neg32]
  have em : nI (n + 2) + (-1) = nI (n + 1) := sb_m1 (by omega)
  have en : nI (n + 1) + (-1) = nI n := sb_m1 (by omega)
  rw [em]
  refine va_tb hx hb hO2 hS (by exact vp_in_nI (by omega) (by decide)) (v := .int (nI (48 + x % 10))) (by rw [nI_clamp (by omega)]) dJ6_getChars_ba4f3_83 ?_
  refine ab_st (w2 := [(b, .inl (E.2.2.2.1, mm, .inl (upd f (Int32.toNatClampNeg (nI (n + 1))) (nI (48 + x % 10)))))]) hx hb hK hP hD hS 0 rfl (vp_in_nI (by omega) (by omega)) (tb_ok x (by omega)).2.2.1 rfl dJ6_getChars_ba4f3_84 (fun H locs hP hD hS => ?_)
  refine lv_iload_n hx hb dJ6_getChars_ba4f3_85 rfl (lv_at hl 1 rfl) ?_
  refine lv_bipush (v := (-9)) hx hb dJ6_getChars_ba4f3_86 (by decide) ?_
  refine lv_icmp_ge (tgt := 104) hx hb dJ6_getChars_ba4f3_88 (by decide) (fun cq => absurd cq (fun z => absurd ((sb_nle (by decide) (by omega) : -nI 9 ≤ -nI x ↔ x ≤ 9).mp z) (by omega))) (fun cq => ?_)
  refine lv_aload_n hx hb dJ6_getChars_ba4f3_91 rfl (lv_at hl 4 rfl) ?_
  refine lv_iinc (v := (((nI (n + 2)) + (-1)) + (-1))) (lv' := [(5, .int (((nI (n + 2)) + (-1)) + (-1))), (0, .int (-(nI x))), (6, .int 0), (1, .int (nI (n + 2))), (2, .ref b)]) hx hb dJ6_getChars_ba4f3_92 hl (k := 0) rfl rfl (by decide) rfl (fun ls hl => ?_)
  refine lv_iload hx hb dJ6_getChars_ba4f3_95 (lv_at hl 0 rfl) ?_
  refine va_gets hx hb hT1 hS hown (hg _ mf_J6_87) (fun _ h => h) dJ6_getChars_ba4f3_97 ?_
  refine lv_iload_n hx hb dJ6_getChars_ba4f3_100 rfl (lv_at hl 1 rfl) ?_
  refine lv_ineg hx hb dJ6_getChars_ba4f3_101 ?_
  rw [neg_neg32]
  rw [em, en]
  refine va_tb hx hb hT2 hS (by exact vp_in_nI (by omega) (by decide)) (v := .int (nI (48 + x / 10))) (by rw [nI_clamp (by omega)]) dJ6_getChars_ba4f3_102 ?_
  refine ab_st (w2 := [(b, .inl (E.2.2.2.1, mm, .inl (upd (upd f (Int32.toNatClampNeg (nI (n + 1))) (nI (48 + x % 10))) (Int32.toNatClampNeg (nI n)) (nI (48 + x / 10)))))]) hx hb hK hP hD hS 0 rfl (vp_in_nI (by omega) (by omega)) (tb_ok x (by omega)).2.2.2 rfl dJ6_getChars_ba4f3_103 (fun H locs hP hD hS => ?_)
  refine lv_iload hx hb dJ6_getChars_ba4f3_104 (lv_at hl 2 rfl) ?_
  refine lv_if_eq (tgt := 118) hx hb dJ6_getChars_ba4f3_106 (by decide) (fun cq => ?_) (fun cq => absurd (rfl) cq)
  refine lv_iload hx hb dJ6_getChars_ba4f3_118 (lv_at hl 0 rfl) ?_
  rw [em, en]
  exact pm_yret hx hb hr rfl hlocks ⟨_, rfl, (fun hf => sb_fitU (sb_fitU hf (by rw [← (tb_ok x (by omega)).2.2.1, (tb_ok x (by omega)).1]; exact sb_fitB _)) (by rw [← (tb_ok x (by omega)).2.2.2, (tb_ok x (by omega)).2.1]; exact sb_fitB _)), fun k hk => by rw [nI_clamp (by omega), nI_clamp (by omega), pk_un (by omega), pk_un (by omega)], fun k hk => by have hd := (dg_tab x (by omega)).2.1 hx0 hx9; rw [hd] at hk; rw [nI_clamp (by omega), nI_clamp (by omega), sb_dec, hd]; match k, hk with | 0, _ => rw [show n + 0 = n from rfl, pk_us, ← (tb_ok x (by omega)).2.2.2, (tb_ok x (by omega)).2.1]; exact congrArg sb_b (by omega) | 1, _ => rw [pk_un (by omega), pk_us, ← (tb_ok x (by omega)).2.2.1, (tb_ok x (by omega)).1]; simp, rfl⟩ hP hD hS dJ6_getChars_ba4f3_120 (Nat.le_of_ble_eq_true rfl) (Nat.le_of_ble_eq_true rfl)
set_option maxHeartbeats 4000000 in
set_option maxRecDepth 100000 in
theorem j_gc3 (E : Ev) (l : Launch) (b mm n x : Nat) (f : Nat → Int32) (hx0 : 100 ≤ x) (hx9 : x < 1000) (hn : n + 3 ≤ mm) (hm : mm ≤ 65536) : PM E l yJ6_getChars_ba4f3 (.code yJ6_getChars_ba4f3 cJ6_getChars_ba4f3 7 (some .int) :: GA) { frames := 0, cells := 0, slots := 0, locals := 0 } [.int (nI x), .int (nI (n + 3)), .ref b] [(b, .inl (E.2.2.2.1, mm, .inl f))] 0 0 (fun v bs => ∃ f2 : Nat → Int32, v = some (.int (nI n)) ∧ (sb_Fit f → sb_Fit f2) ∧ (∀ j, j < n → f2 j = f j) ∧ (∀ k, k < sb_dg x → f2 (n + k) = sb_b (sb_dec x k)) ∧ bs = [(b, .inl (E.2.2.2.1, mm, .inl f2))]) := by
  refine PM.of (own := RJ6) rfl (by decide) (Nat.le_of_ble_eq_true rfl) ?_
  intro p e s m below meth c A ls hx hb hr hml hown hg hlocks hin hK hE hO hA hP hD hS hl
  have hl : lv_has ls 7 [(0, .int (nI x)), (1, .int (nI (n + 3))), (2, .ref b)] := hl
  have hO9 := hE.2.2.2.2.2.2.2.2.1
  obtain ⟨tO, hO1, hO2⟩ := hO9
  have hT9 := hE.2.2.2.2.2.2.2.2.2
  obtain ⟨tT, hT1, hT2⟩ := hT9
  refine lv_iload_n hx hb dJ6_getChars_ba4f3_0 rfl (lv_at hl 1 rfl) ?_
  refine lv_istore (lv' := [(5, .int (nI (n + 3))), (0, .int (nI x)), (1, .int (nI (n + 3))), (2, .ref b)]) hx hb dJ6_getChars_ba4f3_1 hl (by decide) rfl (fun ls hl => ?_)
  refine lv_iload_n hx hb dJ6_getChars_ba4f3_3 rfl (lv_at hl 1 rfl) ?_
  refine lv_if_ge (tgt := 11) hx hb dJ6_getChars_ba4f3_4 (by decide) (fun cq => ?_) (fun cq => absurd (nI_pos' (by omega)) cq)
  refine lv_iconst (v := 0) hx hb dJ6_getChars_ba4f3_11 (by decide) ?_
  refine lv_istore (lv' := [(6, .int 0), (5, .int (nI (n + 3))), (0, .int (nI x)), (1, .int (nI (n + 3))), (2, .ref b)]) hx hb dJ6_getChars_ba4f3_12 hl (by decide) rfl (fun ls hl => ?_)
  refine lv_iload hx hb dJ6_getChars_ba4f3_14 (lv_at hl 0 rfl) ?_
  refine lv_if_ne (tgt := 22) hx hb dJ6_getChars_ba4f3_16 (by decide) (fun cq => absurd (rfl) cq) (fun cq => ?_)
  refine lv_iload_n hx hb dJ6_getChars_ba4f3_19 rfl (lv_at hl 2 rfl) ?_
  refine lv_ineg hx hb dJ6_getChars_ba4f3_20 ?_
  refine lv_istore_n (lv' := [(0, .int (-(nI x))), (6, .int 0), (5, .int (nI (n + 3))), (1, .int (nI (n + 3))), (2, .ref b)]) hx hb dJ6_getChars_ba4f3_21 rfl hl (by decide) rfl (fun ls hl => ?_)
  refine lv_iload_n hx hb dJ6_getChars_ba4f3_22 rfl (lv_at hl 0 rfl) ?_
  refine lv_bipush (v := (-100)) hx hb dJ6_getChars_ba4f3_23 (by decide) ?_
  refine lv_icmp_gt (tgt := 72) hx hb dJ6_getChars_ba4f3_25 (by decide) (fun cq => absurd cq (fun z => absurd ((sb_nlt (by decide) (by omega) : -nI 100 < -nI x ↔ x < 100).mp z) (by omega))) (fun cq => ?_)
  refine lv_iload_n hx hb dJ6_getChars_ba4f3_28 rfl (lv_at hl 0 rfl) ?_
  refine lv_bipush (v := 100) hx hb dJ6_getChars_ba4f3_29 (by decide) ?_
  refine lv_idiv hx hb dJ6_getChars_ba4f3_31 (by decide) ?_
  rw [sb_ndiv (by omega)]
  refine lv_istore_n (lv' := [(3, .int (-nI (x / 100))), (0, .int (-(nI x))), (6, .int 0), (5, .int (nI (n + 3))), (1, .int (nI (n + 3))), (2, .ref b)]) hx hb dJ6_getChars_ba4f3_32 rfl hl (by decide) rfl (fun ls hl => ?_)
  refine lv_iload_n hx hb dJ6_getChars_ba4f3_33 rfl (lv_at hl 0 rfl) ?_
  refine lv_bipush (v := 100) hx hb dJ6_getChars_ba4f3_34 (by decide) ?_
  refine lv_imul hx hb dJ6_getChars_ba4f3_36 ?_
  refine lv_iload_n hx hb dJ6_getChars_ba4f3_37 rfl (lv_at hl 1 rfl) ?_
  refine lv_isub hx hb dJ6_getChars_ba4f3_38 ?_
  rw [sb_nrem (by omega)]
  have el : nI (n + 3) + (-1) = nI (n + 2) := sb_m1 (by omega)
  have em : nI (n + 2) + (-1) = nI (n + 1) := sb_m1 (by omega)
  have en : nI (n + 1) + (-1) = nI n := sb_m1 (by omega)
  refine lv_istore (lv' := [(4, .int (nI (x % 100))), (3, .int (-nI (x / 100))), (0, .int (-(nI x))), (6, .int 0), (5, .int (nI (n + 3))), (1, .int (nI (n + 3))), (2, .ref b)]) hx hb dJ6_getChars_ba4f3_39 hl (by decide) rfl (fun ls hl => ?_)
  refine lv_iload_n hx hb dJ6_getChars_ba4f3_41 rfl (lv_at hl 1 rfl) ?_
  refine lv_istore_n (lv' := [(0, .int (-nI (x / 100))), (4, .int (nI (x % 100))), (3, .int (-nI (x / 100))), (6, .int 0), (5, .int (nI (n + 3))), (1, .int (nI (n + 3))), (2, .ref b)]) hx hb dJ6_getChars_ba4f3_42 rfl hl (by decide) rfl (fun ls hl => ?_)
  refine lv_aload_n hx hb dJ6_getChars_ba4f3_43 rfl (lv_at hl 6 rfl) ?_
  refine lv_iinc (v := ((nI (n + 3)) + (-1))) (lv' := [(5, .int ((nI (n + 3)) + (-1))), (0, .int (-nI (x / 100))), (4, .int (nI (x % 100))), (3, .int (-nI (x / 100))), (6, .int 0), (1, .int (nI (n + 3))), (2, .ref b)]) hx hb dJ6_getChars_ba4f3_44 hl (k := 4) rfl rfl (by decide) rfl (fun ls hl => ?_)
  refine lv_iload hx hb dJ6_getChars_ba4f3_47 (lv_at hl 0 rfl) ?_
  refine va_gets hx hb hO1 hS hown (hg _ mf_J6_83) (fun _ h => h) dJ6_getChars_ba4f3_49 ?_
  refine lv_iload hx hb dJ6_getChars_ba4f3_52 (lv_at hl 2 rfl) ?_
  rw [el]
  refine va_tb hx hb hO2 hS (by exact vp_in_nI (by omega) (by decide)) (v := .int (nI (48 + x % 100 % 10))) (by rw [nI_clamp (by omega)]) dJ6_getChars_ba4f3_54 ?_
  refine ab_st (w2 := [(b, .inl (E.2.2.2.1, mm, .inl (upd f (Int32.toNatClampNeg (nI (n + 2))) (nI (48 + x % 100 % 10)))))]) hx hb hK hP hD hS 0 rfl (vp_in_nI (by omega) (by omega)) (tb_ok (x % 100) (by omega)).2.2.1 rfl dJ6_getChars_ba4f3_55 (fun H locs hP hD hS => ?_)
  refine lv_aload_n hx hb dJ6_getChars_ba4f3_56 rfl (lv_at hl 6 rfl) ?_
  refine lv_iinc (v := (((nI (n + 3)) + (-1)) + (-1))) (lv' := [(5, .int (((nI (n + 3)) + (-1)) + (-1))), (0, .int (-nI (x / 100))), (4, .int (nI (x % 100))), (3, .int (-nI (x / 100))), (6, .int 0), (1, .int (nI (n + 3))), (2, .ref b)]) hx hb dJ6_getChars_ba4f3_57 hl (k := 0) rfl rfl (by decide) rfl (fun ls hl => ?_)
  refine lv_iload hx hb dJ6_getChars_ba4f3_60 (lv_at hl 0 rfl) ?_
  refine va_gets hx hb hT1 hS hown (hg _ mf_J6_87) (fun _ h => h) dJ6_getChars_ba4f3_62 ?_
  refine lv_iload hx hb dJ6_getChars_ba4f3_65 (lv_at hl 2 rfl) ?_
  rw [el, em]
  refine va_tb hx hb hT2 hS (by exact vp_in_nI (by omega) (by decide)) (v := .int (nI (48 + x % 100 / 10))) (by rw [nI_clamp (by omega)]) dJ6_getChars_ba4f3_67 ?_
  refine ab_st (w2 := [(b, .inl (E.2.2.2.1, mm, .inl (upd (upd f (Int32.toNatClampNeg (nI (n + 2))) (nI (48 + x % 100 % 10))) (Int32.toNatClampNeg (nI (n + 1))) (nI (48 + x % 100 / 10)))))]) hx hb hK hP hD hS 0 rfl (vp_in_nI (by omega) (by omega)) (tb_ok (x % 100) (by omega)).2.2.2 rfl dJ6_getChars_ba4f3_68 (fun H locs hP hD hS => ?_)
  refine lv_goto (tgt := 22) hx hb dJ6_getChars_ba4f3_69 (by decide) ?_
  refine lv_iload_n hx hb dJ6_getChars_ba4f3_22 rfl (lv_at hl 1 rfl) ?_
  refine lv_bipush (v := (-100)) hx hb dJ6_getChars_ba4f3_23 (by decide) ?_
  refine lv_icmp_gt (tgt := 72) hx hb dJ6_getChars_ba4f3_25 (by decide) (fun cq => ?_) (fun cq => absurd ((sb_nlt (by decide) (by omega) : -nI 100 < -nI (x / 100) ↔ x / 100 < 100).mpr (by omega)) cq)
  refine lv_aload_n hx hb dJ6_getChars_ba4f3_72 rfl (lv_at hl 6 rfl) ?_
  refine lv_iinc (v := ((((nI (n + 3)) + (-1)) + (-1)) + (-1))) (lv' := [(5, .int ((((nI (n + 3)) + (-1)) + (-1)) + (-1))), (0, .int (-nI (x / 100))), (4, .int (nI (x % 100))), (3, .int (-nI (x / 100))), (6, .int 0), (1, .int (nI (n + 3))), (2, .ref b)]) hx hb dJ6_getChars_ba4f3_73 hl (k := 0) rfl rfl (by decide) rfl (fun ls hl => ?_)
  refine lv_iload hx hb dJ6_getChars_ba4f3_76 (lv_at hl 0 rfl) ?_
  refine va_gets hx hb hO1 hS hown (hg _ mf_J6_83) (fun _ h => h) dJ6_getChars_ba4f3_78 ?_
  refine lv_iload_n hx hb dJ6_getChars_ba4f3_81 rfl (lv_at hl 1 rfl) ?_
  refine lv_ineg hx hb dJ6_getChars_ba4f3_82 ?_
  rw [neg_neg32]
  rw [el, em, en]
  refine va_tb hx hb hO2 hS (by exact vp_in_nI (by omega) (by decide)) (v := .int (nI (48 + x / 100 % 10))) (by rw [nI_clamp (by omega)]) dJ6_getChars_ba4f3_83 ?_
  refine ab_st (w2 := [(b, .inl (E.2.2.2.1, mm, .inl (upd (upd (upd f (Int32.toNatClampNeg (nI (n + 2))) (nI (48 + x % 100 % 10))) (Int32.toNatClampNeg (nI (n + 1))) (nI (48 + x % 100 / 10))) (Int32.toNatClampNeg (nI n)) (nI (48 + x / 100 % 10)))))]) hx hb hK hP hD hS 0 rfl (vp_in_nI (by omega) (by omega)) (tb_ok (x / 100) (by omega)).2.2.1 rfl dJ6_getChars_ba4f3_84 (fun H locs hP hD hS => ?_)
  refine lv_iload_n hx hb dJ6_getChars_ba4f3_85 rfl (lv_at hl 1 rfl) ?_
  refine lv_bipush (v := (-9)) hx hb dJ6_getChars_ba4f3_86 (by decide) ?_
  refine lv_icmp_ge (tgt := 104) hx hb dJ6_getChars_ba4f3_88 (by decide) (fun cq => ?_) (fun cq => absurd ((sb_nle (by decide) (by omega) : -nI 9 ≤ -nI (x / 100) ↔ x / 100 ≤ 9).mpr (by omega)) cq)
  refine lv_iload hx hb dJ6_getChars_ba4f3_104 (lv_at hl 4 rfl) ?_
  refine lv_if_eq (tgt := 118) hx hb dJ6_getChars_ba4f3_106 (by decide) (fun cq => ?_) (fun cq => absurd (rfl) cq)
  refine lv_iload hx hb dJ6_getChars_ba4f3_118 (lv_at hl 0 rfl) ?_
  rw [el, em, en]
  exact pm_yret hx hb hr rfl hlocks ⟨_, rfl, fun hf => sb_fitU (sb_fitU (sb_fitU hf (by rw [← (tb_ok (x % 100) (by omega)).2.2.1, (tb_ok (x % 100) (by omega)).1]; exact sb_fitB _)) (by rw [← (tb_ok (x % 100) (by omega)).2.2.2, (tb_ok (x % 100) (by omega)).2.1]; exact sb_fitB _)) (by rw [← (tb_ok (x / 100) (by omega)).2.2.1, (tb_ok (x / 100) (by omega)).1]; exact sb_fitB _), fun k hk => by rw [nI_clamp (by omega), nI_clamp (by omega), nI_clamp (by omega), pk_un (by omega), pk_un (by omega), pk_un (by omega)], fun k hk => by have hd := (dg_tab x (by omega)).2.2 hx0; rw [hd] at hk; rw [nI_clamp (by omega), nI_clamp (by omega), nI_clamp (by omega), sb_dec, hd]; match k, hk with | 0, _ => rw [show n + 0 = n from rfl, pk_us, ← (tb_ok (x / 100) (by omega)).2.2.1, (tb_ok (x / 100) (by omega)).1] | 1, _ => rw [pk_un (by omega), pk_us, ← (tb_ok (x % 100) (by omega)).2.2.2, (tb_ok (x % 100) (by omega)).2.1]; exact congrArg sb_b (by omega) | 2, _ => rw [pk_un (by omega), pk_un (by omega), pk_us, ← (tb_ok (x % 100) (by omega)).2.2.1, (tb_ok (x % 100) (by omega)).1]; exact congrArg sb_b (by omega), rfl⟩ hP hD hS dJ6_getChars_ba4f3_120 (Nat.le_of_ble_eq_true rfl) (Nat.le_of_ble_eq_true rfl)
theorem j_gc (E : Ev) (l : Launch) (b mm n x : Nat) (f : Nat → Int32) (hx9 : x < 1000) (hn : n + sb_dg x ≤ mm) (hm : mm ≤ 65536) : PM E l yJ6_getChars_ba4f3 (.code yJ6_getChars_ba4f3 cJ6_getChars_ba4f3 7 (some .int) :: GA) { frames := 0, cells := 0, slots := 0, locals := 0 } [.int (nI x), .int (nI (n + sb_dg x)), .ref b] [(b, .inl (E.2.2.2.1, mm, .inl f))] 0 0 (fun v bs => ∃ f2 : Nat → Int32, v = some (.int (nI n)) ∧ (sb_Fit f → sb_Fit f2) ∧ (∀ j, j < n → f2 j = f j) ∧ (∀ k, k < sb_dg x → f2 (n + k) = sb_b (sb_dec x k)) ∧ bs = [(b, .inl (E.2.2.2.1, mm, .inl f2))]) := by
  obtain ⟨d1, d2, d3⟩ := dg_tab x hx9
  by_cases h1 : x < 10
  · have h := d1 h1
    rw [h] at hn ⊢
    have := j_gc1 E l b mm n x f h1 hn hm
    rw [h] at this
    exact this
  · by_cases h2 : x < 100
    · have h := d2 (by omega) h2
      rw [h] at hn ⊢
      have := j_gc2 E l b mm n x f (by omega) h2 hn hm
      rw [h] at this
      exact this
    · have h := d3 (by omega)
      rw [h] at hn ⊢
      have := j_gc3 E l b mm n x f (by omega) hx9 hn hm
      rw [h] at this
      exact this
set_option maxHeartbeats 4000000 in
set_option maxRecDepth 100000 in
theorem j_ap5I (E : Ev) (l : Launch) (a b mm n x : Nat) (f : Nat → Int32) (t : Nat → Nat) (hx9 : x < 1000) (hnm : n ≤ mm) (hm : mm ≤ 602) (hq : n + sb_dg x ≤ 300) (hL : sb_Lat t n f) (hf : sb_Fit f) : PM E l yJ5_append_c97b9 (.code yJ5_append_c97b9 cJ5_append_c97b9 4 (some (.object "java/lang/AbstractStringBuilder")) :: GA) { frames := 4, cells := 1, slots := 1300, locals := 114 } [.ref a, .int (nI x)] [(a, .inr (10, [.ref b, .int 0, .int 0, .int (nI n)])), (b, .inl (E.2.2.2.1, mm, .inl f))] 1 1300 (fun v bs => ∃ (b2 m2 : Nat) (f2 : Nat → Int32), v = some (.ref a) ∧ n + sb_dg x ≤ m2 ∧ m2 ≤ 602 ∧ sb_Lat (sb_cat t n (sb_dec x)) (n + sb_dg x) f2 ∧ sb_Fit f2 ∧ bs = [(a, .inr (10, [.ref b2, .int 0, .int 0, .int (nI (n + sb_dg x))])), (b2, .inl (E.2.2.2.1, m2, .inl f2))]) := by
  refine PM.of (own := RJ5) rfl (by decide) (Nat.le_of_ble_eq_true rfl) ?_
  intro p e s m below meth c A ls hx hb hr hml hown hg hlocks hin hK hE hO hA hP hD hS hl
  have hl : lv_has ls 4 [(0, .ref a), (1, .int (nI x))] := hl
  refine lv_aload_n hx hb dJ5_append_c97b9_0 rfl (lv_at hl 0 rfl) ?_
  refine va_get (D := E.1) (ci := 10) (C := RJ4) (T := TJ4) (N := 4) hx hb hg inG_J4 hown hK.1 hP 0 rfl rfl 3 (by decide) (hg _ mf_J5_79) (fun _ h => h) rfl dJ5_append_c97b9_1 ?_
  refine lv_istore_n (lv' := [(2, .int (nI n)), (0, .ref a), (1, .int (nI x))]) hx hb dJ5_append_c97b9_4 rfl hl (by decide) rfl (fun ls hl => ?_)
  refine lv_iload_n hx hb dJ5_append_c97b9_5 rfl (lv_at hl 0 rfl) ?_
  refine lv_iload_n hx hb dJ5_append_c97b9_6 rfl (lv_at hl 2 rfl) ?_
  refine cm_SX (As := [.int (nI x)]) (rest := [.int (nI n)]) (w2 := [(a, .inr (10, [.ref b, .int 0, .int 0, .int (nI n)])), (b, .inl (E.2.2.2.1, mm, .inl f))]) hx hb hml hown hg (c_J6_stringSize_0f7a4 E l (nI x) (nI (sb_dg x)) (ss_ok x hx9)) cs_J6_stringSize_0f7a4 ml_J5_245 ⟨⟨rfl, rfl⟩, Nat.le_of_ble_eq_true rfl, Nat.le_of_ble_eq_true rfl⟩ hK hE hP hD hS hA [] rfl rfl rfl rfl hl.1 rfl (Nat.le_of_ble_eq_true rfl) dJ5_append_c97b9_7 ⟨(Nat.le_of_ble_eq_true rfl), (Nat.le_of_ble_eq_true rfl)⟩ [.int (nI (sb_dg x)), .int (nI n)] rfl (fun H locs hP hD hS => ?_)
  refine lv_iadd hx hb dJ5_append_c97b9_10 ?_
  rw [nI_add]
  refine lv_istore_n (lv' := [(3, .int (nI (n + sb_dg x))), (2, .int (nI n)), (0, .ref a), (1, .int (nI x))]) hx hb dJ5_append_c97b9_11 rfl hl (by decide) rfl (fun ls hl => ?_)
  refine lv_aload_n hx hb dJ5_append_c97b9_12 rfl (lv_at hl 2 rfl) ?_
  refine lv_iload_n hx hb dJ5_append_c97b9_13 rfl (lv_at hl 0 rfl) ?_
  refine pm_V (As := [.int (nI (n + sb_dg x))]) (rest := []) (wr := []) (bs := [(a, .inr (10, [.ref b, .int 0, .int 0, .int (nI n)])), (b, .inl (E.2.2.2.1, mm, .inl f))]) hx hb hml hown hg (j_ens E l a b mm (n + sb_dg x) f (nI n) hf hm hq) cv_J5_ensureCapacityInternal_d00df ml_J5_100 ⟨⟨rfl, rfl⟩, Nat.le_of_ble_eq_true rfl, Nat.le_of_ble_eq_true rfl⟩ hK hE hO hP hD hS hA 0 rfl rfl rfl hl.1 rfl (Nat.le_of_ble_eq_true rfl) dJ5_append_c97b9_14 ⟨(by show _ ≤ 1; omega), (by show _ ≤ 1300; omega)⟩ (fun v9 bs9 H locs hp hP hD hS => ?_)
  obtain ⟨b2, f2, rfl, hf2, hk2, rfl⟩ := hp
  have hP : va_P E.1 vwCl [(a, .inr (10, [.ref b2, .int 0, .int 0, .int (nI n)])), (b2, .inl (E.2.2.2.1, (sb_cap (n + sb_dg x) mm), .inl f2))] _ := hP
  have hD : va_D A [(a, .inr (10, [.ref b2, .int 0, .int 0, .int (nI n)])), (b2, .inl (E.2.2.2.1, (sb_cap (n + sb_dg x) mm), .inl f2))] := hD
  have hcap : n + sb_dg x ≤ sb_cap (n + sb_dg x) mm ∧ mm ≤ sb_cap (n + sb_dg x) mm ∧ sb_cap (n + sb_dg x) mm ≤ 602 := ⟨sb_cap_ge _ _, sb_cap_gem _ _, by unfold sb_cap; split <;> (try split) <;> omega⟩
  refine lv_aload_n hx hb dJ5_append_c97b9_17 rfl (lv_at hl 2 rfl) ?_
  have hP : va_P E.1 vwCl ([(b2, .inl (E.2.2.2.1, (sb_cap (n + sb_dg x) mm), .inl f2))] ++ [(a, .inr (10, [.ref b2, .int 0, .int 0, .int (nI n)]))]) _ := hP.sub [1, 0] rfl
  have hD : va_D A ([(b2, .inl (E.2.2.2.1, (sb_cap (n + sb_dg x) mm), .inl f2))] ++ [(a, .inr (10, [.ref b2, .int 0, .int 0, .int (nI n)]))]) := hD.sub [1, 0] rfl rfl
  refine pm_V (As := []) (rest := []) (wr := [(b2, .inl (E.2.2.2.1, (sb_cap (n + sb_dg x) mm), .inl f2))]) (bs := [(a, .inr (10, [.ref b2, .int 0, .int 0, .int (nI n)]))]) hx hb hml hown hg (j_lat E l a b2 (nI n)) cv_J5_isLatin1_aae02 ml_J5_83 ⟨⟨rfl, rfl⟩, Nat.le_of_ble_eq_true rfl, Nat.le_of_ble_eq_true rfl⟩ hK hE hO hP hD hS hA 1 rfl rfl rfl hl.1 rfl (Nat.le_of_ble_eq_true rfl) dJ5_append_c97b9_18 ⟨(by show _ ≤ 1; omega), (by show _ ≤ 1300; omega)⟩ (fun v9 bs9 H locs hp hP hD hS => ?_)
  obtain ⟨rfl, rfl⟩ := hp
  have hP : va_P E.1 vwCl [(b2, .inl (E.2.2.2.1, (sb_cap (n + sb_dg x) mm), .inl f2)), (a, .inr (10, [.ref b2, .int 0, .int 0, .int (nI n)]))] _ := hP
  have hD : va_D A [(b2, .inl (E.2.2.2.1, (sb_cap (n + sb_dg x) mm), .inl f2)), (a, .inr (10, [.ref b2, .int 0, .int 0, .int (nI n)]))] := hD
  refine lv_if_eq (tgt := 37) hx hb dJ5_append_c97b9_21 (by decide) (fun cq => absurd cq (by decide)) (fun cq => ?_)
  refine lv_iload_n hx hb dJ5_append_c97b9_24 rfl (lv_at hl 3 rfl) ?_
  refine lv_iload_n hx hb dJ5_append_c97b9_25 rfl (lv_at hl 0 rfl) ?_
  refine lv_aload_n hx hb dJ5_append_c97b9_26 rfl (lv_at hl 2 rfl) ?_
  refine va_get (D := E.1) (ci := 10) (C := RJ4) (T := TJ4) (N := 4) hx hb hg inG_J4 hown hK.1 hP 1 rfl rfl 0 (by decide) (hg _ mf_J5_15) (fun _ h => h) rfl dJ5_append_c97b9_27 ?_
  have hP : va_P E.1 vwCl ([(a, .inr (10, [.ref b2, .int 0, .int 0, .int (nI n)]))] ++ [(b2, .inl (E.2.2.2.1, (sb_cap (n + sb_dg x) mm), .inl f2))]) _ := hP.sub [1, 0] rfl
  have hD : va_D A ([(a, .inr (10, [.ref b2, .int 0, .int 0, .int (nI n)]))] ++ [(b2, .inl (E.2.2.2.1, (sb_cap (n + sb_dg x) mm), .inl f2))]) := hD.sub [1, 0] rfl rfl
  refine pm_S (As := [.int (nI x), .int (nI (n + sb_dg x)), .ref b2]) (rest := []) (wr := [(a, .inr (10, [.ref b2, .int 0, .int 0, .int (nI n)]))]) (bs := [(b2, .inl (E.2.2.2.1, (sb_cap (n + sb_dg x) mm), .inl f2))]) hx hb hml hown hg (j_gc E l b2 (sb_cap (n + sb_dg x) mm) n x f2 hx9 hcap.1 (by omega)) cs_J6_getChars_ba4f3 ml_J5_248 ⟨⟨rfl, rfl⟩, Nat.le_of_ble_eq_true rfl, Nat.le_of_ble_eq_true rfl⟩ hK hE hO hP hD hS hA rfl hl.1 rfl (Nat.le_of_ble_eq_true rfl) dJ5_append_c97b9_30 ⟨(by show _ ≤ 1; omega), (by show _ ≤ 1300; omega)⟩ (fun v9 bs9 H locs hp hP hD hS => ?_)
  obtain ⟨f3, rfl, hf3, hk3, hd3, rfl⟩ := hp
  have hP : va_P E.1 vwCl [(a, .inr (10, [.ref b2, .int 0, .int 0, .int (nI n)])), (b2, .inl (E.2.2.2.1, (sb_cap (n + sb_dg x) mm), .inl f3))] _ := hP
  have hD : va_D A [(a, .inr (10, [.ref b2, .int 0, .int 0, .int (nI n)])), (b2, .inl (E.2.2.2.1, (sb_cap (n + sb_dg x) mm), .inl f3))] := hD
  refine lv_pop hx hb dJ5_append_c97b9_33 rfl ?_
  refine lv_goto (tgt := 48) hx hb dJ5_append_c97b9_34 (by decide) ?_
  refine lv_aload_n hx hb dJ5_append_c97b9_48 rfl (lv_at hl 2 rfl) ?_
  refine lv_iload_n hx hb dJ5_append_c97b9_49 rfl (lv_at hl 0 rfl) ?_
  refine va_put (D := E.1) (ci := 10) (v := .int (nI (n + sb_dg x))) (ty := .int) (C := RJ4) (T := TJ4) (N := 4) hx hb hg inG_J4 tyJ4 tyJ4_ok nmJ4 hown hK.1 hP hD hS 0 rfl rfl 3 (by decide) (hg _ mf_J5_79) (fun _ h => h) rfl (by decide +kernel) rfl rfl (Nat.le_of_ble_eq_true rfl) dJ5_append_c97b9_50 (fun H locs hP hD hS => ?_)
  have hP : va_P E.1 vwCl [(a, .inr (10, [.ref b2, .int 0, .int 0, .int (nI (n + sb_dg x))])), (b2, .inl (E.2.2.2.1, (sb_cap (n + sb_dg x) mm), .inl f3))] _ := hP
  have hD : va_D A [(a, .inr (10, [.ref b2, .int 0, .int 0, .int (nI (n + sb_dg x))])), (b2, .inl (E.2.2.2.1, (sb_cap (n + sb_dg x) mm), .inl f3))] := hD
  refine lv_aload_n hx hb dJ5_append_c97b9_53 rfl (lv_at hl 2 rfl) ?_
  have hP : va_P E.1 vwCl [(a, .inr (10, [.ref b2, .int 0, .int 0, .int (nI (n + sb_dg x))])), (b2, .inl (E.2.2.2.1, (sb_cap (n + sb_dg x) mm), .inl f3))] _ := hP.sub [0, 1] rfl
  have hD : va_D A [(a, .inr (10, [.ref b2, .int 0, .int 0, .int (nI (n + sb_dg x))])), (b2, .inl (E.2.2.2.1, (sb_cap (n + sb_dg x) mm), .inl f3))] := hD.sub [0, 1] rfl rfl
  exact pm_aret hx hb hr (Or.inl ⟨_, rfl⟩) hlocks ⟨b2, _, f3, rfl, hcap.1, hcap.2.2, sb_latPut hL (fun j hj => (hk3 j hj).trans (hk2 j (by omega))) (fun k hk => ⟨by unfold sb_dec; omega, hd3 k hk⟩), hf3 hf2, rfl⟩ hP hD hS dJ5_append_c97b9_54 (by omega) (by omega)
set_option maxHeartbeats 4000000 in
set_option maxRecDepth 100000 in
theorem j_apI (E : Ev) (l : Launch) (a b mm n x : Nat) (f : Nat → Int32) (t : Nat → Nat) (hx9 : x < 1000) (hnm : n ≤ mm) (hm : mm ≤ 602) (hq : n + sb_dg x ≤ 300) (hL : sb_Lat t n f) (hf : sb_Fit f) : PM E l yJ4_append_bf812 (.code yJ4_append_bf812 cJ4_append_bf812 2 (some (.object "java/lang/StringBuilder")) :: GA) { frames := 5, cells := 1, slots := 1300, locals := 137 } [.ref a, .int (nI x)] [(a, .inr (10, [.ref b, .int 0, .int 0, .int (nI n)])), (b, .inl (E.2.2.2.1, mm, .inl f))] 1 1300 (fun v bs => ∃ (b2 m2 : Nat) (f2 : Nat → Int32), v = some (.ref a) ∧ n + sb_dg x ≤ m2 ∧ m2 ≤ 602 ∧ sb_Lat (sb_cat t n (sb_dec x)) (n + sb_dg x) f2 ∧ sb_Fit f2 ∧ bs = [(a, .inr (10, [.ref b2, .int 0, .int 0, .int (nI (n + sb_dg x))])), (b2, .inl (E.2.2.2.1, m2, .inl f2))]) := by
  refine PM.of (own := RJ4) rfl (by decide) (Nat.le_of_ble_eq_true rfl) ?_
  intro p e s m below meth c A ls hx hb hr hml hown hg hlocks hin hK hE hO hA hP hD hS hl
  have hl : lv_has ls 2 [(0, .ref a), (1, .int (nI x))] := hl
  refine lv_aload_n hx hb dJ4_append_bf812_0 rfl (lv_at hl 0 rfl) ?_
  refine lv_iload_n hx hb dJ4_append_bf812_1 rfl (lv_at hl 1 rfl) ?_
  refine pm_SU (n := 1) (As := [.int (nI x)]) (rest := []) (wr := []) (bs := [(a, .inr (10, [.ref b, .int 0, .int 0, .int (nI n)])), (b, .inl (E.2.2.2.1, mm, .inl f))]) hx hb hml hown hg (j_ap5I E l a b mm n x f t hx9 hnm hm hq hL hf) cx_J5_append_c97b9 sm_J5_append_c97b9 sup_J4 ini_J5 (by decide +kernel) ml_J4_53 ⟨⟨rfl, rfl⟩, Nat.le_of_ble_eq_true rfl, Nat.le_of_ble_eq_true rfl⟩ hK hE hO hP hD hS hA 0 rfl rfl rfl hl.1 rfl (Nat.le_of_ble_eq_true rfl) dJ4_append_bf812_2 ⟨(by show _ ≤ 1; omega), (by show _ ≤ 1300; omega)⟩ (fun v9 bs9 H locs hp hP hD hS => ?_)
  obtain ⟨b2, m2, f2, rfl, h1, h2, h3, h4, rfl⟩ := hp
  have hP : va_P E.1 vwCl [(a, .inr (10, [.ref b2, .int 0, .int 0, .int (nI (n + sb_dg x))])), (b2, .inl (E.2.2.2.1, m2, .inl f2))] _ := hP
  have hD : va_D A [(a, .inr (10, [.ref b2, .int 0, .int 0, .int (nI (n + sb_dg x))])), (b2, .inl (E.2.2.2.1, m2, .inl f2))] := hD
  refine lv_pop hx hb dJ4_append_bf812_5 rfl ?_
  refine lv_aload_n hx hb dJ4_append_bf812_6 rfl (lv_at hl 0 rfl) ?_
  exact pm_aret hx hb hr (Or.inl ⟨_, rfl⟩) hlocks ⟨b2, m2, f2, rfl, h1, h2, h3, h4, rfl⟩ hP hD hS dJ4_append_bf812_7 (by omega) (by omega)
set_option maxHeartbeats 4000000 in
set_option maxRecDepth 100000 in
theorem j_i5 (E : Ev) (l : Launch) (a : Nat)  : PM E l yJ5_init_d00df (.code yJ5_init_d00df cJ5_init_d00df 2 none :: GA) { frames := 1, cells := 1, slots := 1300, locals := 30 } [.ref a, .int 16] [(a, .inr (10, [.null, .int 0, .int 0, .int 0]))] 1 1300 (fun v bs => ∃ (b2 : Nat), v = none ∧ bs = [(a, .inr (10, [.ref b2, .int 0, .int 0, .int (nI 0)])), (b2, .inl (E.2.2.2.1, 16, .inl (fun _ => 0)))]) := by
  refine PM.of (own := RJ5) rfl (by decide) (Nat.le_of_ble_eq_true rfl) ?_
  intro p e s m below meth c A ls hx hb hr hml hown hg hlocks hin hK hE hO hA hP hD hS hl
  have hin : meth.name = "<init>" := hin
  have hl : lv_has ls 2 [(0, .ref a), (1, .int 16)] := hl
  refine lv_aload_n hx hb dJ5_init_d00df_0 rfl (lv_at hl 0 rfl) ?_
  refine W.objInit hx hb hown (hg _ ml_J5_3) (hg _ oi_i) (hg _ oi_c) rfl (by rw [hml]; exact hl.1) rfl dJ5_init_d00df_1 (Nat.le_of_ble_eq_true rfl) (Nat.le_of_ble_eq_true rfl) ?_
  refine W.eq (g2 := F0 m 4 ls []) rfl ?_
  refine va_gets hx hb hE.2.1 hS hown (hg _ mf_J5_18) (fun _ h => h) dJ5_init_d00df_4 ?_
  refine lv_if_eq (tgt := 25) hx hb dJ5_init_d00df_7 (by decide) (fun cq => absurd cq (by decide)) (fun cq => ?_)
  refine lv_aload_n hx hb dJ5_init_d00df_10 rfl (lv_at hl 0 rfl) ?_
  refine lv_iload_n hx hb dJ5_init_d00df_11 rfl (lv_at hl 1 rfl) ?_
  refine nw_b (N := 16) hx hb hg hK hP hD hS hA (by decide) (by decide) (by decide) (by show _ ≤ 1; omega) (by show _ ≤ 1300; omega) dJ5_init_d00df_12 (fun b2 H hP hD hS => ?_)
  have hP : va_P E.1 vwCl [(a, .inr (10, [.null, .int 0, .int 0, .int 0])), (b2, .inl (E.2.2.2.1, 16, .inl (fun _ => 0)))] _ := hP
  have hD : va_D A [(a, .inr (10, [.null, .int 0, .int 0, .int 0])), (b2, .inl (E.2.2.2.1, 16, .inl (fun _ => 0)))] := hD
  refine va_put (D := E.1) (ci := 10) (v := .ref b2) (ty := .array .byte) (C := RJ4) (T := TJ4) (N := 4) hx hb hg inG_J4 tyJ4 tyJ4_ok nmJ4 hown hK.1 hP hD hS 0 rfl rfl 0 (by decide) (hg _ mf_J5_15) (fun _ h => h) rfl (by decide +kernel) rfl rfl (Nat.le_of_ble_eq_true rfl) dJ5_init_d00df_14 (fun H locs hP hD hS => ?_)
  have hP : va_P E.1 vwCl [(a, .inr (10, [.ref b2, .int 0, .int 0, .int 0])), (b2, .inl (E.2.2.2.1, 16, .inl (fun _ => 0)))] _ := hP
  have hD : va_D A [(a, .inr (10, [.ref b2, .int 0, .int 0, .int 0])), (b2, .inl (E.2.2.2.1, 16, .inl (fun _ => 0)))] := hD
  refine lv_aload_n hx hb dJ5_init_d00df_17 rfl (lv_at hl 0 rfl) ?_
  refine lv_iconst (v := 0) hx hb dJ5_init_d00df_18 (by decide) ?_
  refine va_put (D := E.1) (ci := 10) (v := .int 0) (ty := .byte) (C := RJ4) (T := TJ4) (N := 4) hx hb hg inG_J4 tyJ4 tyJ4_ok nmJ4 hown hK.1 hP hD hS 0 rfl rfl 1 (by decide) (hg _ mf_J5_22) (fun _ h => h) rfl (by decide +kernel) rfl rfl (Nat.le_of_ble_eq_true rfl) dJ5_init_d00df_19 (fun H locs hP hD hS => ?_)
  have hP : va_P E.1 vwCl [(a, .inr (10, [.ref b2, .int 0, .int 0, .int 0])), (b2, .inl (E.2.2.2.1, 16, .inl (fun _ => 0)))] _ := hP
  have hD : va_D A [(a, .inr (10, [.ref b2, .int 0, .int 0, .int 0])), (b2, .inl (E.2.2.2.1, 16, .inl (fun _ => 0)))] := hD
  refine lv_goto (tgt := 38) hx hb dJ5_init_d00df_22 (by decide) ?_
  have hP : va_P E.1 vwCl [(a, .inr (10, [.ref b2, .int 0, .int 0, .int 0])), (b2, .inl (E.2.2.2.1, 16, .inl (fun _ => 0)))] _ := hP.sub [0, 1] rfl
  have hD : va_D A [(a, .inr (10, [.ref b2, .int 0, .int 0, .int 0])), (b2, .inl (E.2.2.2.1, 16, .inl (fun _ => 0)))] := hD.sub [0, 1] rfl rfl
  exact pm_vret hx hb hr hlocks ⟨b2, rfl, rfl⟩ hP hD hS dJ5_init_d00df_38 (by omega) (by omega)
set_option maxHeartbeats 4000000 in
set_option maxRecDepth 100000 in
theorem j_i4 (E : Ev) (l : Launch) (a : Nat)  : PM E l yJ4_init_da8c8 (.code yJ4_init_da8c8 cJ4_init_da8c8 1 none :: GA) { frames := 2, cells := 1, slots := 1300, locals := 51 } [.ref a] [(a, .inr (10, [.null, .int 0, .int 0, .int 0]))] 1 1300 (fun v bs => ∃ (b2 : Nat), v = none ∧ bs = [(a, .inr (10, [.ref b2, .int 0, .int 0, .int (nI 0)])), (b2, .inl (E.2.2.2.1, 16, .inl (fun _ => 0)))]) := by
  refine PM.of (own := RJ4) rfl (by decide) (Nat.le_of_ble_eq_true rfl) ?_
  intro p e s m below meth c A ls hx hb hr hml hown hg hlocks hin hK hE hO hA hP hD hS hl
  have hin : meth.name = "<init>" := hin
  have hl : lv_has ls 1 [(0, .ref a)] := hl
  refine lv_aload_n hx hb dJ4_init_da8c8_0 rfl (lv_at hl 0 rfl) ?_
  refine lv_bipush (v := 16) hx hb dJ4_init_da8c8_1 (by decide) ?_
  refine pm_I (As := [.int 16]) (rest := []) (wr := []) (bs := [(a, .inr (10, [.null, .int 0, .int 0, .int 0]))]) hx hb hml hown hg (j_i5 E l a) ci_J5_init_d00df ml_J4_1 ⟨⟨rfl, rfl⟩, Nat.le_of_ble_eq_true rfl, Nat.le_of_ble_eq_true rfl⟩ hK hE hO hP hD hS hA rfl hl.1 rfl (Nat.le_of_ble_eq_true rfl) dJ4_init_da8c8_3 ⟨(by show _ ≤ 1; omega), (by show _ ≤ 1300; omega)⟩ (fun v9 bs9 H locs hp hP hD hS => ?_)
  obtain ⟨b2, rfl, rfl⟩ := hp
  have hP : va_P E.1 vwCl [(a, .inr (10, [.ref b2, .int 0, .int 0, .int (nI 0)])), (b2, .inl (E.2.2.2.1, 16, .inl (fun _ => 0)))] _ := hP
  have hD : va_D A [(a, .inr (10, [.ref b2, .int 0, .int 0, .int (nI 0)])), (b2, .inl (E.2.2.2.1, 16, .inl (fun _ => 0)))] := hD
  exact pm_vret hx hb hr hlocks ⟨b2, rfl, rfl⟩ hP hD hS dJ4_init_da8c8_6 (by omega) (by omega)
set_option maxHeartbeats 4000000 in
set_option maxRecDepth 100000 in
theorem j_i5S (E : Ev) (l : Launch) (a i : Nat) (hi : i < 16) : PM E l yJ5_init_a7421 (.code yJ5_init_a7421 cJ5_init_a7421 5 none :: GA) { frames := 7, cells := 2, slots := 2600, locals := 179 } [.ref a, .ref (E.2.2.2.2.2.1 i)] [(a, .inr (10, [.null, .int 0, .int 0, .int 0]))] 2 2600 (fun v bs => ∃ (b2 m2 : Nat) (f2 : Nat → Int32), v = none ∧ lenS.getD i 0 ≤ m2 ∧ m2 ≤ 602 ∧ sb_Lat (fun j => ((bytS.getD i []).getD j 0).toNatClampNeg) (lenS.getD i 0) f2 ∧ sb_Fit f2 ∧ bs = [(a, .inr (10, [.ref b2, .int 0, .int 0, .int (nI (lenS.getD i 0))])), (b2, .inl (E.2.2.2.1, m2, .inl f2))]) := by
  refine PM.of (own := RJ5) rfl (by decide) (Nat.le_of_ble_eq_true rfl) ?_
  intro p e s m below meth c A ls hx hb hr hml hown hg hlocks hin hK hE hO hA hP hD hS hl
  have hin : meth.name = "<init>" := hin
  have hl : lv_has ls 5 [(0, .ref a), (1, .ref (E.2.2.2.2.2.1 i))] := hl
  refine lv_aload_n hx hb dJ5_init_a7421_0 rfl (lv_at hl 0 rfl) ?_
  refine W.objInit hx hb hown (hg _ ml_J5_3) (hg _ oi_i) (hg _ oi_c) rfl (by rw [hml]; exact hl.1) rfl dJ5_init_a7421_1 (Nat.le_of_ble_eq_true rfl) (Nat.le_of_ble_eq_true rfl) ?_
  refine W.eq (g2 := F0 m 4 ls []) rfl ?_
  refine lv_aload_n hx hb dJ5_init_a7421_4 rfl (lv_at hl 1 rfl) ?_
  refine cm_Vs (As := []) (rest := []) (i := i) hx hb hml hown hg (c_length E l i hi) cy_J0_length_8abf5 ml_J5_32 hi ⟨⟨rfl, rfl⟩, Nat.le_of_ble_eq_true rfl, Nat.le_of_ble_eq_true rfl⟩ hK hE hP hD hS hA rfl hl.1 rfl (Nat.le_of_ble_eq_true rfl) dJ5_init_a7421_5 ⟨(Nat.le_of_ble_eq_true rfl), (Nat.le_of_ble_eq_true rfl)⟩ [.int (nI (lenS.getD i 0))] rfl (fun H locs hP hD hS => ?_)
  have hl9 := (lenS_ok i hi).1
  have hnl : ¬ nI 2147483631 ≤ nI (lenS.getD i 0) := by rw [Int32.le_iff_toInt_le, nI_toInt (by decide), nI_toInt (by omega)]; omega
  refine lv_istore_n (lv' := [(2, .int (nI (lenS.getD i 0))), (0, .ref a), (1, .ref (E.2.2.2.2.2.1 i))]) hx hb dJ5_init_a7421_8 rfl hl (by decide) rfl (fun ls hl => ?_)
  refine lv_iload_n hx hb dJ5_init_a7421_9 rfl (lv_at hl 0 rfl) ?_
  refine lv_ldc (v := 2147483631) hx hb hown (hg _ kc_J5_38) dJ5_init_a7421_10 ?_
  refine lv_icmp_ge (tgt := 22) hx hb dJ5_init_a7421_12 (by decide) (fun cq => absurd cq (hnl)) (fun cq => ?_)
  refine lv_iload_n hx hb dJ5_init_a7421_15 rfl (lv_at hl 0 rfl) ?_
  refine lv_bipush (v := 16) hx hb dJ5_init_a7421_16 (by decide) ?_
  refine lv_iadd hx hb dJ5_init_a7421_18 ?_
  rw [show nI (lenS.getD i 0) + 16 = nI (lenS.getD i 0 + 16) from nI_add _ 16]
  refine lv_goto (tgt := 24) hx hb dJ5_init_a7421_19 (by decide) ?_
  refine lv_istore_n (lv' := [(3, .int (nI (lenS.getD i 0 + 16))), (2, .int (nI (lenS.getD i 0))), (0, .ref a), (1, .ref (E.2.2.2.2.2.1 i))]) hx hb dJ5_init_a7421_24 rfl hl (by decide) rfl (fun ls hl => ?_)
  refine lv_aload_n hx hb dJ5_init_a7421_25 rfl (lv_at hl 3 rfl) ?_
  refine cm_Vs (As := []) (rest := []) (i := i) hx hb hml hown hg (c_coder E l i hi) cy_J0_coder_7d493 ml_J5_40 hi ⟨⟨rfl, rfl⟩, Nat.le_of_ble_eq_true rfl, Nat.le_of_ble_eq_true rfl⟩ hK hE hP hD hS hA rfl hl.1 rfl (Nat.le_of_ble_eq_true rfl) dJ5_init_a7421_26 ⟨(Nat.le_of_ble_eq_true rfl), (Nat.le_of_ble_eq_true rfl)⟩ [.int 0] rfl (fun H locs hP hD hS => ?_)
  refine lv_istore (lv' := [(4, .int 0), (3, .int (nI (lenS.getD i 0 + 16))), (2, .int (nI (lenS.getD i 0))), (0, .ref a), (1, .ref (E.2.2.2.2.2.1 i))]) hx hb dJ5_init_a7421_29 hl (by decide) rfl (fun ls hl => ?_)
  refine lv_aload_n hx hb dJ5_init_a7421_31 rfl (lv_at hl 3 rfl) ?_
  refine lv_iload hx hb dJ5_init_a7421_32 (lv_at hl 0 rfl) ?_
  refine va_put (D := E.1) (ci := 10) (v := .int 0) (ty := .byte) (C := RJ4) (T := TJ4) (N := 4) hx hb hg inG_J4 tyJ4 tyJ4_ok nmJ4 hown hK.1 hP hD hS 0 rfl rfl 1 (by decide) (hg _ mf_J5_22) (fun _ h => h) rfl (by decide +kernel) rfl rfl (Nat.le_of_ble_eq_true rfl) dJ5_init_a7421_34 (fun H locs hP hD hS => ?_)
  have hP : va_P E.1 vwCl [(a, .inr (10, [.null, .int 0, .int 0, .int 0]))] _ := hP
  have hD : va_D A [(a, .inr (10, [.null, .int 0, .int 0, .int 0]))] := hD
  refine lv_aload_n hx hb dJ5_init_a7421_37 rfl (lv_at hl 3 rfl) ?_
  refine lv_iload hx hb dJ5_init_a7421_38 (lv_at hl 0 rfl) ?_
  refine lv_if_ne (tgt := 49) hx hb dJ5_init_a7421_40 (by decide) (fun cq => absurd (rfl) cq) (fun cq => ?_)
  refine lv_iload_n hx hb dJ5_init_a7421_43 rfl (lv_at hl 1 rfl) ?_
  refine nw_b (N := (lenS.getD i 0 + 16)) hx hb hg hK hP hD hS hA (nI_pos (by omega)) (nI_clamp (by omega)) (by omega) (by show _ ≤ 2; omega) (by show _ ≤ 2600; omega) dJ5_init_a7421_44 (fun b1 H hP hD hS => ?_)
  have hP : va_P E.1 vwCl [(a, .inr (10, [.null, .int 0, .int 0, .int 0])), (b1, .inl (E.2.2.2.1, (lenS.getD i 0 + 16), .inl (fun _ => 0)))] _ := hP
  have hD : va_D A [(a, .inr (10, [.null, .int 0, .int 0, .int 0])), (b1, .inl (E.2.2.2.1, (lenS.getD i 0 + 16), .inl (fun _ => 0)))] := hD
  refine lv_goto (tgt := 53) hx hb dJ5_init_a7421_46 (by decide) ?_
  refine va_put (D := E.1) (ci := 10) (v := .ref b1) (ty := .array .byte) (C := RJ4) (T := TJ4) (N := 4) hx hb hg inG_J4 tyJ4 tyJ4_ok nmJ4 hown hK.1 hP hD hS 0 rfl rfl 0 (by decide) (hg _ mf_J5_15) (fun _ h => h) rfl (by decide +kernel) rfl rfl (Nat.le_of_ble_eq_true rfl) dJ5_init_a7421_53 (fun H locs hP hD hS => ?_)
  have hP : va_P E.1 vwCl [(a, .inr (10, [.ref b1, .int 0, .int 0, .int 0])), (b1, .inl (E.2.2.2.1, (lenS.getD i 0 + 16), .inl (fun _ => 0)))] _ := hP
  have hD : va_D A [(a, .inr (10, [.ref b1, .int 0, .int 0, .int 0])), (b1, .inl (E.2.2.2.1, (lenS.getD i 0 + 16), .inl (fun _ => 0)))] := hD
  refine lv_aload_n hx hb dJ5_init_a7421_56 rfl (lv_at hl 3 rfl) ?_
  refine lv_aload_n hx hb dJ5_init_a7421_57 rfl (lv_at hl 4 rfl) ?_
  refine pm_O (n := 1) (owner := RJ5) (As := [.ref (E.2.2.2.2.2.1 i)]) (rest := []) (wr := []) (bs := [(a, .inr (10, [.ref b1, .int 0, .int 0, .int 0])), (b1, .inl (E.2.2.2.1, (lenS.getD i 0 + 16), .inl (fun _ => 0)))]) hx hb hml hown hg (j_apCb E l a b1 (lenS.getD i 0 + 16) 0 i (fun _ => 0) (fun _ => 0) hi (Nat.zero_le _) (by omega) (by omega) (fun j hj => absurd hj (Nat.not_lt_zero j)) sb_fit0) cx_J4_append_cf1ce cx_J5_append_cf1ce rfl sm_J5_append_cf1ce sx_J4_append_cf1ce ini_J4 (by decide +kernel) ml_J5_43 ⟨⟨rfl, rfl⟩, Nat.le_of_ble_eq_true rfl, Nat.le_of_ble_eq_true rfl⟩ hK hE hO hP hD hS hA 0 rfl rfl rfl hl.1 rfl (Nat.le_of_ble_eq_true rfl) dJ5_init_a7421_58 ⟨(by show _ ≤ 2; omega), (by show _ ≤ 2600; omega)⟩ (fun v9 bs9 H locs hp hP hD hS => ?_)
  obtain ⟨b2, m2, f2, rfl, h1, h2, h3, h4, rfl⟩ := hp
  have hP : va_P E.1 vwCl [(a, .inr (10, [.ref b2, .int 0, .int 0, .int (nI (0 + lenS.getD i 0))])), (b2, .inl (E.2.2.2.1, m2, .inl f2))] _ := hP
  have hD : va_D A [(a, .inr (10, [.ref b2, .int 0, .int 0, .int (nI (0 + lenS.getD i 0))])), (b2, .inl (E.2.2.2.1, m2, .inl f2))] := hD
  refine lv_pop hx hb dJ5_init_a7421_61 rfl ?_
  exact pm_vret hx hb hr hlocks ⟨b2, m2, f2, rfl, by omega, h2, fun k hk => by have := h3 k (by omega); unfold sb_cat at this; rw [if_neg (Nat.not_lt_zero k), Nat.sub_zero] at this; exact this, h4, by rw [Nat.zero_add]⟩ hP hD hS dJ5_init_a7421_62 (by omega) (by omega)
set_option maxHeartbeats 4000000 in
set_option maxRecDepth 100000 in
theorem j_i4S (E : Ev) (l : Launch) (a i : Nat) (hi : i < 16) : PM E l yJ4_init_a7421 (.code yJ4_init_a7421 cJ4_init_a7421 2 none :: GA) { frames := 8, cells := 2, slots := 2600, locals := 203 } [.ref a, .ref (E.2.2.2.2.2.1 i)] [(a, .inr (10, [.null, .int 0, .int 0, .int 0]))] 2 2600 (fun v bs => ∃ (b2 m2 : Nat) (f2 : Nat → Int32), v = none ∧ lenS.getD i 0 ≤ m2 ∧ m2 ≤ 602 ∧ sb_Lat (fun j => ((bytS.getD i []).getD j 0).toNatClampNeg) (lenS.getD i 0) f2 ∧ sb_Fit f2 ∧ bs = [(a, .inr (10, [.ref b2, .int 0, .int 0, .int (nI (lenS.getD i 0))])), (b2, .inl (E.2.2.2.1, m2, .inl f2))]) := by
  refine PM.of (own := RJ4) rfl (by decide) (Nat.le_of_ble_eq_true rfl) ?_
  intro p e s m below meth c A ls hx hb hr hml hown hg hlocks hin hK hE hO hA hP hD hS hl
  have hin : meth.name = "<init>" := hin
  have hl : lv_has ls 2 [(0, .ref a), (1, .ref (E.2.2.2.2.2.1 i))] := hl
  refine lv_aload_n hx hb dJ4_init_a7421_0 rfl (lv_at hl 0 rfl) ?_
  refine lv_aload_n hx hb dJ4_init_a7421_1 rfl (lv_at hl 1 rfl) ?_
  refine pm_I (As := [.ref (E.2.2.2.2.2.1 i)]) (rest := []) (wr := []) (bs := [(a, .inr (10, [.null, .int 0, .int 0, .int 0]))]) hx hb hml hown hg (j_i5S E l a i hi) ci_J5_init_a7421 ml_J4_7 ⟨⟨rfl, rfl⟩, Nat.le_of_ble_eq_true rfl, Nat.le_of_ble_eq_true rfl⟩ hK hE hO hP hD hS hA rfl hl.1 rfl (Nat.le_of_ble_eq_true rfl) dJ4_init_a7421_2 ⟨(by show _ ≤ 2; omega), (by show _ ≤ 2600; omega)⟩ (fun v9 bs9 H locs hp hP hD hS => ?_)
  obtain ⟨b2, m2, f2, rfl, h1, h2, h3, h4, rfl⟩ := hp
  have hP : va_P E.1 vwCl [(a, .inr (10, [.ref b2, .int 0, .int 0, .int (nI (lenS.getD i 0))])), (b2, .inl (E.2.2.2.1, m2, .inl f2))] _ := hP
  have hD : va_D A [(a, .inr (10, [.ref b2, .int 0, .int 0, .int (nI (lenS.getD i 0))])), (b2, .inl (E.2.2.2.1, m2, .inl f2))] := hD
  exact pm_vret hx hb hr hlocks ⟨b2, m2, f2, rfl, h1, h2, h3, h4, rfl⟩ hP hD hS dJ4_init_a7421_5 (by omega) (by omega)
set_option maxHeartbeats 4000000 in
set_option maxRecDepth 100000 in
theorem j_chk (E : Ev) (l : Launch) (n : Nat) (hn : n < 2 ^ 31) : PM E l yJ7_checkLength_df160 (.code yJ7_checkLength_df160 cJ7_checkLength_df160 2 none :: GA) { frames := 0, cells := 0, slots := 0, locals := 0 } [.int 0, .int (nI n)] [] 0 0 (fun v bs => v = none ∧ bs = []) := by
  refine PM.of (own := RJ7) rfl (by decide) (Nat.le_of_ble_eq_true rfl) ?_
  intro p e s m below meth c A ls hx hb hr hml hown hg hlocks hin hK hE hO hA hP hD hS hl
  have hl : lv_has ls 2 [(0, .int 0), (1, .int (nI n))] := hl
  refine lv_iload_n hx hb dJ7_checkLength_df160_0 rfl (lv_at hl 1 rfl) ?_
  refine lv_iload_n hx hb dJ7_checkLength_df160_1 rfl (lv_at hl 0 rfl) ?_
  refine lv_icmp_ge (tgt := 37) hx hb dJ7_checkLength_df160_2 (by decide) (fun cq => ?_) (fun cq => absurd ((nI_pos' hn : (nI 0) ≤ nI n)) cq)
  exact pm_vret hx hb hr hlocks ⟨rfl, rfl⟩ hP hD hS dJ7_checkLength_df160_37 (Nat.le_of_ble_eq_true rfl) (Nat.le_of_ble_eq_true rfl)
set_option maxHeartbeats 4000000 in
set_option maxRecDepth 100000 in
theorem j_crb (E : Ev) (l : Launch) (b mm n : Nat) (f : Nat → Int32) (hf : sb_Fit f) (hn : n ≤ mm) (hm : mm ≤ 602) : PM E l yJ7_copyOfRangeByte_39247 (.code yJ7_copyOfRangeByte_39247 cJ7_copyOfRangeByte_39247 5 (some (.array .byte)) :: GA) { frames := 1, cells := 1, slots := 1300, locals := 70 } [.ref b, .int 0, .int (nI n)] [(b, .inl (E.2.2.2.1, mm, .inl f))] 1 1300 (fun v bs => ∃ (b2 : Nat) (f2 : Nat → Int32), v = some (.ref b2) ∧ sb_Fit f2 ∧ (∀ j, j < n → f2 j = f j) ∧ bs = [(b, .inl (E.2.2.2.1, mm, .inl f)), (b2, .inl (E.2.2.2.1, n, .inl f2))]) := by
  refine PM.of (own := RJ7) rfl (by decide) (Nat.le_of_ble_eq_true rfl) ?_
  intro p e s m below meth c A ls hx hb hr hml hown hg hlocks hin hK hE hO hA hP hD hS hl
  have hl : lv_has ls 5 [(0, .ref b), (1, .int 0), (2, .int (nI n))] := hl
  refine lv_iload_n hx hb dJ7_copyOfRangeByte_39247_0 rfl (lv_at hl 1 rfl) ?_
  refine lv_iload_n hx hb dJ7_copyOfRangeByte_39247_1 rfl (lv_at hl 2 rfl) ?_
  refine pm_S (As := [.int 0, .int (nI n)]) (rest := []) (wr := [(b, .inl (E.2.2.2.1, mm, .inl f))]) (bs := []) hx hb hml hown hg (j_chk E l n (by omega)) cs_J7_checkLength_df160 ml_J7_343 ⟨⟨rfl, rfl⟩, Nat.le_of_ble_eq_true rfl, Nat.le_of_ble_eq_true rfl⟩ hK hE hO hP hD hS hA rfl hl.1 rfl (Nat.le_of_ble_eq_true rfl) dJ7_copyOfRangeByte_39247_2 ⟨(Nat.le_of_ble_eq_true rfl), (Nat.le_of_ble_eq_true rfl)⟩ (fun v9 bs9 H locs hp hP hD hS => ?_)
  obtain ⟨rfl, rfl⟩ := hp
  have hP : va_P E.1 vwCl [(b, .inl (E.2.2.2.1, mm, .inl f))] _ := hP
  have hD : va_D A [(b, .inl (E.2.2.2.1, mm, .inl f))] := hD
  refine lv_iload_n hx hb dJ7_copyOfRangeByte_39247_5 rfl (lv_at hl 2 rfl) ?_
  refine lv_iload_n hx hb dJ7_copyOfRangeByte_39247_6 rfl (lv_at hl 1 rfl) ?_
  refine lv_isub hx hb dJ7_copyOfRangeByte_39247_7 ?_
  rw [show nI n - 0 = nI n from pk_sub (b := 0) (by omega)]
  refine lv_istore_n (lv' := [(3, .int (nI n)), (0, .ref b), (1, .int 0), (2, .int (nI n))]) hx hb dJ7_copyOfRangeByte_39247_8 rfl hl (by decide) rfl (fun ls hl => ?_)
  refine lv_iload_n hx hb dJ7_copyOfRangeByte_39247_9 rfl (lv_at hl 0 rfl) ?_
  refine nw_b (N := n) hx hb hg hK hP hD hS hA (nI_pos (by omega)) (nI_clamp (by omega)) (by omega) (by show _ ≤ 1; omega) (by show _ ≤ 1300; omega) dJ7_copyOfRangeByte_39247_10 (fun b2 H hP hD hS => ?_)
  have hP : va_P E.1 vwCl [(b, .inl (E.2.2.2.1, mm, .inl f)), (b2, .inl (E.2.2.2.1, n, .inl (fun _ => 0)))] _ := hP
  have hD : va_D A [(b, .inl (E.2.2.2.1, mm, .inl f)), (b2, .inl (E.2.2.2.1, n, .inl (fun _ => 0)))] := hD
  refine lv_astore (lv' := [(4, .ref b2), (3, .int (nI n)), (0, .ref b), (1, .int 0), (2, .int (nI n))]) hx hb dJ7_copyOfRangeByte_39247_12 hl (by decide) rfl (fun ls hl => ?_)
  refine lv_aload_n hx hb dJ7_copyOfRangeByte_39247_14 rfl (lv_at hl 2 rfl) ?_
  refine lv_iload_n hx hb dJ7_copyOfRangeByte_39247_15 rfl (lv_at hl 3 rfl) ?_
  refine lv_aload hx hb dJ7_copyOfRangeByte_39247_16 (lv_at hl 0 rfl) ?_
  refine lv_iconst (v := 0) hx hb dJ7_copyOfRangeByte_39247_18 (by decide) ?_
  refine lv_aload_n hx hb dJ7_copyOfRangeByte_39247_19 rfl (lv_at hl 2 rfl) ?_
  refine va_alen (v := nI mm) hx hb hK.1 hP 0 2 rfl rfl rfl dJ7_copyOfRangeByte_39247_20 ?_
  refine lv_iload_n hx hb dJ7_copyOfRangeByte_39247_21 rfl (lv_at hl 3 rfl) ?_
  refine lv_isub hx hb dJ7_copyOfRangeByte_39247_22 ?_
  rw [show nI mm - 0 = nI mm from pk_sub (b := 0) (by omega)]
  refine lv_iload_n hx hb dJ7_copyOfRangeByte_39247_23 rfl (lv_at hl 1 rfl) ?_
  refine cm_min hx hb hml hl.1 hown hg ml_J7_304 (Nat.le_of_ble_eq_true rfl) (Nat.le_of_ble_eq_true rfl) ⟨(by show _ ≤ 1; omega), (by show _ ≤ 1300; omega)⟩ dJ7_copyOfRangeByte_39247_24 ?_
  have emin : (if nI n < nI mm then nI n else nI mm) = nI n := by by_cases e : n < mm; rw [if_pos (nI_lt e (by omega))]; rw [if_neg (nI_nlt (by omega) (by omega)), show mm = n by omega]
  rw [emin]
  refine ab_cp (w2 := [(b, .inl (E.2.2.2.1, mm, .inl f)), (b2, .inl (E.2.2.2.1, n, .inl (va_cpy f (fun _ => 0) (Int32.toNatClampNeg 0) (Int32.toNatClampNeg 0) (Int32.toNatClampNeg (nI n)))))]) hx hb hml hl.1 hown hg ml_J7_150 hK hP hD hS 0 1 rfl rfl (by decide) (by decide) (nI_pos (by omega)) (by rw [sb_cl0, nI_clamp (by omega)]; omega) (by rw [sb_cl0, nI_clamp (by omega)]; omega) hf (Nat.le_of_ble_eq_true rfl) (Nat.le_of_ble_eq_true rfl) rfl dJ7_copyOfRangeByte_39247_27 (fun H locs hP hD hS => ?_)
  refine lv_aload hx hb dJ7_copyOfRangeByte_39247_30 (lv_at hl 0 rfl) ?_
  exact pm_aret hx hb hr (Or.inr ⟨_, rfl⟩) hlocks ⟨b2, _, rfl, sb_fitC hf sb_fit0, fun j hj => by rw [sb_cl0, nI_clamp (by omega)]; exact sb_cpy0 hj, rfl⟩ hP hD hS dJ7_copyOfRangeByte_39247_32 (by omega) (by omega)
set_option maxHeartbeats 4000000 in
set_option maxRecDepth 100000 in
theorem j_cr (E : Ev) (l : Launch) (b mm n : Nat) (f : Nat → Int32) (hf : sb_Fit f) (hn : n ≤ mm) (hm : mm ≤ 602) : PM E l yJ7_copyOfRange_39247 (.code yJ7_copyOfRange_39247 cJ7_copyOfRange_39247 3 (some (.array .byte)) :: GA) { frames := 2, cells := 1, slots := 1300, locals := 94 } [.ref b, .int 0, .int (nI n)] [(b, .inl (E.2.2.2.1, mm, .inl f))] 1 1300 (fun v bs => ∃ (b2 : Nat) (f2 : Nat → Int32), v = some (.ref b2) ∧ sb_Fit f2 ∧ (∀ j, j < n → f2 j = f j) ∧ bs = [(b, .inl (E.2.2.2.1, mm, .inl f)), (b2, .inl (E.2.2.2.1, n, .inl f2))]) := by
  refine PM.of (own := RJ7) rfl (by decide) (Nat.le_of_ble_eq_true rfl) ?_
  intro p e s m below meth c A ls hx hb hr hml hown hg hlocks hin hK hE hO hA hP hD hS hl
  have hl : lv_has ls 3 [(0, .ref b), (1, .int 0), (2, .int (nI n))] := hl
  refine lv_iload_n hx hb dJ7_copyOfRange_39247_0 rfl (lv_at hl 1 rfl) ?_
  refine lv_if_ne (tgt := 10) hx hb dJ7_copyOfRange_39247_1 (by decide) (fun cq => absurd (rfl) cq) (fun cq => ?_)
  refine lv_iload_n hx hb dJ7_copyOfRange_39247_4 rfl (lv_at hl 2 rfl) ?_
  refine lv_aload_n hx hb dJ7_copyOfRange_39247_5 rfl (lv_at hl 0 rfl) ?_
  refine va_alen (v := nI mm) hx hb hK.1 hP 0 2 rfl rfl rfl dJ7_copyOfRange_39247_6 ?_
  by_cases h : n = mm
  · refine lv_icmp_eq (tgt := 17) hx hb dJ7_copyOfRange_39247_7 (by decide) (fun cq => ?_) (fun cq => absurd (by rw [h]) cq)
    refine lv_aload_n hx hb dJ7_copyOfRange_39247_17 rfl (lv_at hl 0 rfl) ?_
    refine va_clone (ty := .byte) hx hb (hml.trans hl.1.symm) hown (hg _ ml_J7_310) (hg _ clone_same) (hg _ clone_nat) (hg _ clone_inst) (hg _ clone_sel) hO.2.1 hK.1 hP hD hS hA 0 2 rfl rfl (byte_nm hK) (byte_fits hf) (Nat.le_of_ble_eq_true rfl) (Nat.le_of_ble_eq_true rfl) (by show _ ≤ 1; omega) (by show _ ≤ 1300; omega) dJ7_copyOfRange_39247_18 (fun b2 H hK9 hP hD hS => ?_)
    have hP : va_P E.1 vwCl [(b, .inl (E.2.2.2.1, mm, .inl f)), (b2, .inl (E.2.2.2.1, mm, .inl f))] _ := hP
    have hD : va_D A [(b, .inl (E.2.2.2.1, mm, .inl f)), (b2, .inl (E.2.2.2.1, mm, .inl f))] := hD
    refine va_castA hx hb hown (hg _ cl_B) hP 1 rfl (byte_nm hK) dJ7_copyOfRange_39247_21 ?_
    exact pm_aret hx hb hr (Or.inr ⟨_, rfl⟩) hlocks ⟨b2, f, rfl, hf, fun _ _ => rfl, by rw [h]⟩ hP hD hS dJ7_copyOfRange_39247_24 (by omega) (by omega)
  · refine lv_icmp_eq (tgt := 17) hx hb dJ7_copyOfRange_39247_7 (by decide) (fun cq => absurd cq (fun q => h ((nI_eq (by omega) (by omega)).mp q))) (fun cq => ?_)
    refine lv_aload_n hx hb dJ7_copyOfRange_39247_10 rfl (lv_at hl 0 rfl) ?_
    refine lv_iload_n hx hb dJ7_copyOfRange_39247_11 rfl (lv_at hl 1 rfl) ?_
    refine lv_iload_n hx hb dJ7_copyOfRange_39247_12 rfl (lv_at hl 2 rfl) ?_
    refine pm_S (As := [.ref b, .int 0, .int (nI n)]) (rest := []) (wr := []) (bs := [(b, .inl (E.2.2.2.1, mm, .inl f))]) hx hb hml hown hg (j_crb E l b mm n f hf hn hm) cs_J7_copyOfRangeByte_39247 ml_J7_339 ⟨⟨rfl, rfl⟩, Nat.le_of_ble_eq_true rfl, Nat.le_of_ble_eq_true rfl⟩ hK hE hO hP hD hS hA rfl hl.1 rfl (Nat.le_of_ble_eq_true rfl) dJ7_copyOfRange_39247_13 ⟨(by show _ ≤ 1; omega), (by show _ ≤ 1300; omega)⟩ (fun v9 bs9 H locs hp hP hD hS => ?_)
    obtain ⟨b2, f2, rfl, hf2, hk2, rfl⟩ := hp
    have hP : va_P E.1 vwCl [(b, .inl (E.2.2.2.1, mm, .inl f)), (b2, .inl (E.2.2.2.1, n, .inl f2))] _ := hP
    have hD : va_D A [(b, .inl (E.2.2.2.1, mm, .inl f)), (b2, .inl (E.2.2.2.1, n, .inl f2))] := hD
    exact pm_aret hx hb hr (Or.inr ⟨_, rfl⟩) hlocks ⟨b2, f2, rfl, hf2, hk2, rfl⟩ hP hD hS dJ7_copyOfRange_39247_16 (by omega) (by omega)
set_option maxHeartbeats 4000000 in
set_option maxRecDepth 100000 in
theorem j_si (E : Ev) (l : Launch) (a b mm n q : Nat) (f : Nat → Int32) (hf : sb_Fit f) (hn : n ≤ mm) (hm : mm ≤ 602) : PM E l yJ0_init_db425 (.code yJ0_init_db425 cJ0_init_db425 5 none :: GA) { frames := 3, cells := 1, slots := 1300, locals := 116 } [.ref q, .ref a, .null] [(a, .inr (10, [.ref b, .int 0, .int 0, .int (nI n)])), (b, .inl (E.2.2.2.1, mm, .inl f)), (q, .inr (9, [.null, .int 0, .int 0, .int 0]))] 1 1300 (fun v bs => ∃ (b2 : Nat) (f2 : Nat → Int32), v = none ∧ sb_Fit f2 ∧ (∀ j, j < n → f2 j = f j) ∧ bs = [(a, .inr (10, [.ref b, .int 0, .int 0, .int (nI n)])), (b, .inl (E.2.2.2.1, mm, .inl f)), (q, .inr (9, [.ref b2, .int 0, .int 0, .int 0])), (b2, .inl (E.2.2.2.1, n, .inl f2))]) := by
  refine PM.of (own := RJ0) rfl (by decide) (Nat.le_of_ble_eq_true rfl) ?_
  intro p e s m below meth c A ls hx hb hr hml hown hg hlocks hin hK hE hO hA hP hD hS hl
  have hin : meth.name = "<init>" := hin
  have hl : lv_has ls 5 [(0, .ref q), (1, .ref a), (2, .null)] := hl
  refine lv_aload_n hx hb dJ0_init_db425_0 rfl (lv_at hl 0 rfl) ?_
  refine W.objInit hx hb hown (hg _ ml_J0_1) (hg _ oi_i) (hg _ oi_c) rfl (by rw [hml]; exact hl.1) rfl dJ0_init_db425_1 (Nat.le_of_ble_eq_true rfl) (Nat.le_of_ble_eq_true rfl) ?_
  refine W.eq (g2 := F0 m 4 ls []) rfl ?_
  refine lv_aload_n hx hb dJ0_init_db425_4 rfl (lv_at hl 1 rfl) ?_
  have hP : va_P E.1 vwCl ([(b, .inl (E.2.2.2.1, mm, .inl f)), (q, .inr (9, [.null, .int 0, .int 0, .int 0]))] ++ [(a, .inr (10, [.ref b, .int 0, .int 0, .int (nI n)]))]) _ := hP.sub [1, 2, 0] rfl
  have hD : va_D A ([(b, .inl (E.2.2.2.1, mm, .inl f)), (q, .inr (9, [.null, .int 0, .int 0, .int 0]))] ++ [(a, .inr (10, [.ref b, .int 0, .int 0, .int (nI n)]))]) := hD.sub [1, 2, 0] rfl rfl
  refine pm_V (As := []) (rest := []) (wr := [(b, .inl (E.2.2.2.1, mm, .inl f)), (q, .inr (9, [.null, .int 0, .int 0, .int 0]))]) (bs := [(a, .inr (10, [.ref b, .int 0, .int 0, .int (nI n)]))]) hx hb hml hown hg (j_val E l a b (nI n)) cv_J5_getValue_6d5f1 ml_J0_552 ⟨⟨rfl, rfl⟩, Nat.le_of_ble_eq_true rfl, Nat.le_of_ble_eq_true rfl⟩ hK hE hO hP hD hS hA 2 rfl rfl rfl hl.1 rfl (Nat.le_of_ble_eq_true rfl) dJ0_init_db425_5 ⟨(Nat.le_of_ble_eq_true rfl), (Nat.le_of_ble_eq_true rfl)⟩ (fun v9 bs9 H locs hp hP hD hS => ?_)
  obtain ⟨rfl, rfl⟩ := hp
  have hP : va_P E.1 vwCl [(b, .inl (E.2.2.2.1, mm, .inl f)), (q, .inr (9, [.null, .int 0, .int 0, .int 0])), (a, .inr (10, [.ref b, .int 0, .int 0, .int (nI n)]))] _ := hP
  have hD : va_D A [(b, .inl (E.2.2.2.1, mm, .inl f)), (q, .inr (9, [.null, .int 0, .int 0, .int 0])), (a, .inr (10, [.ref b, .int 0, .int 0, .int (nI n)]))] := hD
  refine lv_astore_n (lv' := [(3, .ref b), (0, .ref q), (1, .ref a), (2, .null)]) hx hb dJ0_init_db425_8 rfl hl (by decide) rfl (fun ls hl => ?_)
  refine lv_aload_n hx hb dJ0_init_db425_9 rfl (lv_at hl 2 rfl) ?_
  refine pm_O (n := 0) (owner := RJ5) (As := []) (rest := []) (wr := [(b, .inl (E.2.2.2.1, mm, .inl f)), (q, .inr (9, [.null, .int 0, .int 0, .int 0]))]) (bs := [(a, .inr (10, [.ref b, .int 0, .int 0, .int (nI n)]))]) hx hb hml hown hg (j_sbl E l a b (nI n)) cx_J4_length_8abf5 cx_J5_length_8abf5 rfl sm_J5_length_8abf5 sx_J4_length_8abf5 ini_J4 (by decide +kernel) ml_J0_549 ⟨⟨rfl, rfl⟩, Nat.le_of_ble_eq_true rfl, Nat.le_of_ble_eq_true rfl⟩ hK hE hO hP hD hS hA 2 rfl rfl rfl hl.1 rfl (Nat.le_of_ble_eq_true rfl) dJ0_init_db425_10 ⟨(Nat.le_of_ble_eq_true rfl), (Nat.le_of_ble_eq_true rfl)⟩ (fun v9 bs9 H locs hp hP hD hS => ?_)
  obtain ⟨rfl, rfl⟩ := hp
  have hP : va_P E.1 vwCl [(b, .inl (E.2.2.2.1, mm, .inl f)), (q, .inr (9, [.null, .int 0, .int 0, .int 0])), (a, .inr (10, [.ref b, .int 0, .int 0, .int (nI n)]))] _ := hP
  have hD : va_D A [(b, .inl (E.2.2.2.1, mm, .inl f)), (q, .inr (9, [.null, .int 0, .int 0, .int 0])), (a, .inr (10, [.ref b, .int 0, .int 0, .int (nI n)]))] := hD
  refine lv_istore (lv' := [(4, .int (nI n)), (3, .ref b), (0, .ref q), (1, .ref a), (2, .null)]) hx hb dJ0_init_db425_13 hl (by decide) rfl (fun ls hl => ?_)
  refine lv_aload_n hx hb dJ0_init_db425_15 rfl (lv_at hl 3 rfl) ?_
  refine pm_V (As := []) (rest := []) (wr := [(b, .inl (E.2.2.2.1, mm, .inl f)), (q, .inr (9, [.null, .int 0, .int 0, .int 0]))]) (bs := [(a, .inr (10, [.ref b, .int 0, .int 0, .int (nI n)]))]) hx hb hml hown hg (j_lat E l a b (nI n)) cv_J5_isLatin1_aae02 ml_J0_1047 ⟨⟨rfl, rfl⟩, Nat.le_of_ble_eq_true rfl, Nat.le_of_ble_eq_true rfl⟩ hK hE hO hP hD hS hA 2 rfl rfl rfl hl.1 rfl (Nat.le_of_ble_eq_true rfl) dJ0_init_db425_16 ⟨(Nat.le_of_ble_eq_true rfl), (Nat.le_of_ble_eq_true rfl)⟩ (fun v9 bs9 H locs hp hP hD hS => ?_)
  obtain ⟨rfl, rfl⟩ := hp
  have hP : va_P E.1 vwCl [(b, .inl (E.2.2.2.1, mm, .inl f)), (q, .inr (9, [.null, .int 0, .int 0, .int 0])), (a, .inr (10, [.ref b, .int 0, .int 0, .int (nI n)]))] _ := hP
  have hD : va_D A [(b, .inl (E.2.2.2.1, mm, .inl f)), (q, .inr (9, [.null, .int 0, .int 0, .int 0])), (a, .inr (10, [.ref b, .int 0, .int 0, .int (nI n)]))] := hD
  refine lv_if_eq (tgt := 41) hx hb dJ0_init_db425_19 (by decide) (fun cq => absurd cq (by decide)) (fun cq => ?_)
  refine lv_aload_n hx hb dJ0_init_db425_22 rfl (lv_at hl 2 rfl) ?_
  refine lv_iconst (v := 0) hx hb dJ0_init_db425_23 (by decide) ?_
  refine va_putF (D := E.1) (ci := 9) (v := .int 0) (ty := .byte) (C := RJ0) (T := TJ0) (N := 4) hx hb hg inG_J0 tyJ0 tyJ0_ok nmJ0 hown hK.1 hP hD hS 1 rfl rfl 1 (by decide) (hg _ mf_J0_15) (fun _ h => h) rfl hin rfl (by decide +kernel) rfl rfl (Nat.le_of_ble_eq_true rfl) dJ0_init_db425_24 (fun H locs hP hD hS => ?_)
  have hP : va_P E.1 vwCl [(b, .inl (E.2.2.2.1, mm, .inl f)), (q, .inr (9, [.null, .int 0, .int 0, .int 0])), (a, .inr (10, [.ref b, .int 0, .int 0, .int (nI n)]))] _ := hP
  have hD : va_D A [(b, .inl (E.2.2.2.1, mm, .inl f)), (q, .inr (9, [.null, .int 0, .int 0, .int 0])), (a, .inr (10, [.ref b, .int 0, .int 0, .int (nI n)]))] := hD
  refine lv_aload_n hx hb dJ0_init_db425_27 rfl (lv_at hl 2 rfl) ?_
  refine lv_aload_n hx hb dJ0_init_db425_28 rfl (lv_at hl 1 rfl) ?_
  refine lv_iconst (v := 0) hx hb dJ0_init_db425_29 (by decide) ?_
  refine lv_iload hx hb dJ0_init_db425_30 (lv_at hl 0 rfl) ?_
  have hP : va_P E.1 vwCl ([(q, .inr (9, [.null, .int 0, .int 0, .int 0])), (a, .inr (10, [.ref b, .int 0, .int 0, .int (nI n)]))] ++ [(b, .inl (E.2.2.2.1, mm, .inl f))]) _ := hP.sub [1, 2, 0] rfl
  have hD : va_D A ([(q, .inr (9, [.null, .int 0, .int 0, .int 0])), (a, .inr (10, [.ref b, .int 0, .int 0, .int (nI n)]))] ++ [(b, .inl (E.2.2.2.1, mm, .inl f))]) := hD.sub [1, 2, 0] rfl rfl
  refine pm_S (As := [.ref b, .int 0, .int (nI n)]) (rest := [.ref q]) (wr := [(q, .inr (9, [.null, .int 0, .int 0, .int 0])), (a, .inr (10, [.ref b, .int 0, .int 0, .int (nI n)]))]) (bs := [(b, .inl (E.2.2.2.1, mm, .inl f))]) hx hb hml hown hg (j_cr E l b mm n f hf hn hm) cs_J7_copyOfRange_39247 ml_J0_54 ⟨⟨rfl, rfl⟩, Nat.le_of_ble_eq_true rfl, Nat.le_of_ble_eq_true rfl⟩ hK hE hO hP hD hS hA rfl hl.1 rfl (Nat.le_of_ble_eq_true rfl) dJ0_init_db425_32 ⟨(by show _ ≤ 1; omega), (by show _ ≤ 1300; omega)⟩ (fun v9 bs9 H locs hp hP hD hS => ?_)
  obtain ⟨b2, f2, rfl, hf2, hk2, rfl⟩ := hp
  have hP : va_P E.1 vwCl [(q, .inr (9, [.null, .int 0, .int 0, .int 0])), (a, .inr (10, [.ref b, .int 0, .int 0, .int (nI n)])), (b, .inl (E.2.2.2.1, mm, .inl f)), (b2, .inl (E.2.2.2.1, n, .inl f2))] _ := hP
  have hD : va_D A [(q, .inr (9, [.null, .int 0, .int 0, .int 0])), (a, .inr (10, [.ref b, .int 0, .int 0, .int (nI n)])), (b, .inl (E.2.2.2.1, mm, .inl f)), (b2, .inl (E.2.2.2.1, n, .inl f2))] := hD
  refine va_putF (D := E.1) (ci := 9) (v := .ref b2) (ty := .array .byte) (C := RJ0) (T := TJ0) (N := 4) hx hb hg inG_J0 tyJ0 tyJ0_ok nmJ0 hown hK.1 hP hD hS 0 rfl rfl 0 (by decide) (hg _ mf_J0_9) (fun _ h => h) rfl hin rfl (by decide +kernel) rfl rfl (Nat.le_of_ble_eq_true rfl) dJ0_init_db425_35 (fun H locs hP hD hS => ?_)
  have hP : va_P E.1 vwCl [(q, .inr (9, [.ref b2, .int 0, .int 0, .int 0])), (a, .inr (10, [.ref b, .int 0, .int 0, .int (nI n)])), (b, .inl (E.2.2.2.1, mm, .inl f)), (b2, .inl (E.2.2.2.1, n, .inl f2))] _ := hP
  have hD : va_D A [(q, .inr (9, [.ref b2, .int 0, .int 0, .int 0])), (a, .inr (10, [.ref b, .int 0, .int 0, .int (nI n)])), (b, .inl (E.2.2.2.1, mm, .inl f)), (b2, .inl (E.2.2.2.1, n, .inl f2))] := hD
  refine lv_goto (tgt := 97) hx hb dJ0_init_db425_38 (by decide) ?_
  have hP : va_P E.1 vwCl [(a, .inr (10, [.ref b, .int 0, .int 0, .int (nI n)])), (b, .inl (E.2.2.2.1, mm, .inl f)), (q, .inr (9, [.ref b2, .int 0, .int 0, .int 0])), (b2, .inl (E.2.2.2.1, n, .inl f2))] _ := hP.sub [1, 2, 0, 3] rfl
  have hD : va_D A [(a, .inr (10, [.ref b, .int 0, .int 0, .int (nI n)])), (b, .inl (E.2.2.2.1, mm, .inl f)), (q, .inr (9, [.ref b2, .int 0, .int 0, .int 0])), (b2, .inl (E.2.2.2.1, n, .inl f2))] := hD.sub [1, 2, 0, 3] rfl rfl
  exact pm_vret hx hb hr hlocks ⟨b2, f2, rfl, hf2, hk2, rfl⟩ hP hD hS dJ0_init_db425_97 (by omega) (by omega)
set_option maxHeartbeats 4000000 in
set_option maxRecDepth 100000 in
theorem j_si1 (E : Ev) (l : Launch) (a b mm n q : Nat) (f : Nat → Int32) (hf : sb_Fit f) (hn : n ≤ mm) (hm : mm ≤ 602) : PM E l yJ0_init_81219 (.code yJ0_init_81219 cJ0_init_81219 2 none :: GA) { frames := 4, cells := 1, slots := 1300, locals := 140 } [.ref q, .ref a] [(a, .inr (10, [.ref b, .int 0, .int 0, .int (nI n)])), (b, .inl (E.2.2.2.1, mm, .inl f)), (q, .inr (9, [.null, .int 0, .int 0, .int 0]))] 1 1300 (fun v bs => ∃ (b2 : Nat) (f2 : Nat → Int32), v = none ∧ sb_Fit f2 ∧ (∀ j, j < n → f2 j = f j) ∧ bs = [(a, .inr (10, [.ref b, .int 0, .int 0, .int (nI n)])), (b, .inl (E.2.2.2.1, mm, .inl f)), (q, .inr (9, [.ref b2, .int 0, .int 0, .int 0])), (b2, .inl (E.2.2.2.1, n, .inl f2))]) := by
  refine PM.of (own := RJ0) rfl (by decide) (Nat.le_of_ble_eq_true rfl) ?_
  intro p e s m below meth c A ls hx hb hr hml hown hg hlocks hin hK hE hO hA hP hD hS hl
  have hin : meth.name = "<init>" := hin
  have hl : lv_has ls 2 [(0, .ref q), (1, .ref a)] := hl
  refine lv_aload_n hx hb dJ0_init_81219_0 rfl (lv_at hl 0 rfl) ?_
  refine lv_aload_n hx hb dJ0_init_81219_1 rfl (lv_at hl 1 rfl) ?_
  refine lv_null hx hb dJ0_init_81219_2 ?_
  refine pm_I (As := [.ref a, .null]) (rest := []) (wr := []) (bs := [(a, .inr (10, [.ref b, .int 0, .int 0, .int (nI n)])), (b, .inl (E.2.2.2.1, mm, .inl f)), (q, .inr (9, [.null, .int 0, .int 0, .int 0]))]) hx hb hml hown hg (j_si E l a b mm n q f hf hn hm) ci_J0_init_db425 ml_J0_489 ⟨⟨rfl, rfl⟩, Nat.le_of_ble_eq_true rfl, Nat.le_of_ble_eq_true rfl⟩ hK hE hO hP hD hS hA rfl hl.1 rfl (Nat.le_of_ble_eq_true rfl) dJ0_init_81219_3 ⟨(by show _ ≤ 1; omega), (by show _ ≤ 1300; omega)⟩ (fun v9 bs9 H locs hp hP hD hS => ?_)
  obtain ⟨b2, f2, rfl, hf2, hk2, rfl⟩ := hp
  have hP : va_P E.1 vwCl [(a, .inr (10, [.ref b, .int 0, .int 0, .int (nI n)])), (b, .inl (E.2.2.2.1, mm, .inl f)), (q, .inr (9, [.ref b2, .int 0, .int 0, .int 0])), (b2, .inl (E.2.2.2.1, n, .inl f2))] _ := hP
  have hD : va_D A [(a, .inr (10, [.ref b, .int 0, .int 0, .int (nI n)])), (b, .inl (E.2.2.2.1, mm, .inl f)), (q, .inr (9, [.ref b2, .int 0, .int 0, .int 0])), (b2, .inl (E.2.2.2.1, n, .inl f2))] := hD
  exact pm_vret hx hb hr hlocks ⟨b2, f2, rfl, hf2, hk2, rfl⟩ hP hD hS dJ0_init_81219_6 (by omega) (by omega)
set_option maxHeartbeats 4000000 in
set_option maxRecDepth 100000 in
theorem j_ts (E : Ev) (l : Launch) (a b mm n : Nat) (f : Nat → Int32) (t : Nat → Nat) (hL : sb_Lat t n f) (hf : sb_Fit f) (hn : n ≤ mm) (hm : mm ≤ 602) : PM E l yJ4_toString_0e30d (.code yJ4_toString_0e30d cJ4_toString_0e30d 1 (some (.object "java/lang/String")) :: GA) { frames := 5, cells := 2, slots := 1310, locals := 161 } [.ref a] [(a, .inr (10, [.ref b, .int 0, .int 0, .int (nI n)])), (b, .inl (E.2.2.2.1, mm, .inl f))] 2 1310 (fun v bs => ∃ (q b2 : Nat) (f2 : Nat → Int32), v = some (.ref q) ∧ sb_Lat t n f2 ∧ sb_Fit f2 ∧ bs = [(a, .inr (10, [.ref b, .int 0, .int 0, .int (nI n)])), (b, .inl (E.2.2.2.1, mm, .inl f)), (q, .inr (9, [.ref b2, .int 0, .int 0, .int 0])), (b2, .inl (E.2.2.2.1, n, .inl f2))]) := by
  refine PM.of (own := RJ4) rfl (by decide) (Nat.le_of_ble_eq_true rfl) ?_
  intro p e s m below meth c A ls hx hb hr hml hown hg hlocks hin hK hE hO hA hP hD hS hl
  have hl : lv_has ls 1 [(0, .ref a)] := hl
  refine va_new (D := E.1) (ci := 9) (fs := [.null, .int 0, .int 0, .int 0]) (C := RJ0) (T := TJ0) (N := 4) hx hb hg inG_J0 tyJ0 tyJ0_ok hown (hg _ cl_J4_18) (hg _ is_J0) (hg _ ini_J0) hK.1 hP hD hS hA rfl (fun j hj => by rcases (show j = 0 ∨ j = 1 ∨ j = 2 ∨ j = 3 by omega) with rfl | rfl | rfl | rfl <;> rfl) (Nat.le_of_ble_eq_true rfl) (Nat.le_of_ble_eq_true rfl) dJ4_toString_0e30d_0 (fun q H hP hD hS => ?_)
  have hP : va_P E.1 vwCl [(a, .inr (10, [.ref b, .int 0, .int 0, .int (nI n)])), (b, .inl (E.2.2.2.1, mm, .inl f)), (q, .inr (9, [.null, .int 0, .int 0, .int 0]))] _ := hP
  have hD : va_D A [(a, .inr (10, [.ref b, .int 0, .int 0, .int (nI n)])), (b, .inl (E.2.2.2.1, mm, .inl f)), (q, .inr (9, [.null, .int 0, .int 0, .int 0]))] := hD
  refine lv_dup hx hb dJ4_toString_0e30d_3 rfl ?_
  refine lv_aload_n hx hb dJ4_toString_0e30d_4 rfl (lv_at hl 0 rfl) ?_
  refine pm_I (As := [.ref a]) (rest := [.ref q]) (wr := []) (bs := [(a, .inr (10, [.ref b, .int 0, .int 0, .int (nI n)])), (b, .inl (E.2.2.2.1, mm, .inl f)), (q, .inr (9, [.null, .int 0, .int 0, .int 0]))]) hx hb hml hown hg (j_si1 E l a b mm n q f hf hn hm) ci_J0_init_81219 ml_J4_137 ⟨⟨rfl, rfl⟩, Nat.le_of_ble_eq_true rfl, Nat.le_of_ble_eq_true rfl⟩ hK hE hO hP hD hS hA rfl hl.1 rfl (Nat.le_of_ble_eq_true rfl) dJ4_toString_0e30d_5 ⟨(by show _ ≤ 2; omega), (by show _ ≤ 1310; omega)⟩ (fun v9 bs9 H locs hp hP hD hS => ?_)
  obtain ⟨b2, f2, rfl, hf2, hk2, rfl⟩ := hp
  have hP : va_P E.1 vwCl [(a, .inr (10, [.ref b, .int 0, .int 0, .int (nI n)])), (b, .inl (E.2.2.2.1, mm, .inl f)), (q, .inr (9, [.ref b2, .int 0, .int 0, .int 0])), (b2, .inl (E.2.2.2.1, n, .inl f2))] _ := hP
  have hD : va_D A [(a, .inr (10, [.ref b, .int 0, .int 0, .int (nI n)])), (b, .inl (E.2.2.2.1, mm, .inl f)), (q, .inr (9, [.ref b2, .int 0, .int 0, .int 0])), (b2, .inl (E.2.2.2.1, n, .inl f2))] := hD
  exact pm_aret hx hb hr (Or.inl ⟨_, rfl⟩) hlocks ⟨q, b2, f2, rfl, sb_latKeep hL hk2, hf2, rfl⟩ hP hD hS dJ4_toString_0e30d_8 (by omega) (by omega)
