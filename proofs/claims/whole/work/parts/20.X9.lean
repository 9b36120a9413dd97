def F_X9_thrown (vM : (Nat → Int32) × Int64) : Option (Int32) := (some (vM.1 3))
abbrev rm_X9_thrown : Room := { frames := 0, cells := 0, slots := 0, locals := 0 }
set_option maxHeartbeats 4000000 in
set_option maxRecDepth 100000 in
theorem c_X9_thrown (E : Ev) (l : Launch) (aM : Nat → Nat) (vM : (Nat → Int32) × Int64) (r : Int32) (hf : F_X9_thrown vM = some r) : CM E l yX9_thrown (.code yX9_thrown cX9_thrown 1 (some .int) :: GA) rm_X9_thrown [.ref (aM 0)] (W_M aM vM) (some (.int r)) (W_M aM vM) := by
  refine CM.of (own := RX9) rfl (by decide) (Nat.le_of_ble_eq_true rfl) ?_
  intro p e s m below meth c A ls hx hb hr hml hown hg hlocks hK hE hA hP hD hS hl
  have hl : lv_has ls 1 [(0, .ref (aM 0))] := hl
  unfold F_X9_thrown at hf
  refine lv_aload_n hx hb dX9_thrown_0 rfl (lv_at hl 0 rfl) ?_
  refine gf_X9_48 hx hb hg hown hK hP 0 rfl rfl dX9_thrown_1 ?_
  obtain rfl := Option.some.inj hf
  exact cm_iret hx hb hr hlocks hP hS dX9_thrown_4
def F_X9_fails (vM : (Nat → Int32) × Int64) (x1 : Int32) : Option (Int32 × ((Nat → Int32) × Int64)) := lt (va_up vM.1 3 x1, vM.2) (fun vM_3 => (some (0, vM_3)))
abbrev rm_X9_fails : Room := { frames := 0, cells := 0, slots := 0, locals := 0 }
set_option maxHeartbeats 4000000 in
set_option maxRecDepth 100000 in
theorem c_X9_fails (E : Ev) (l : Launch) (aM : Nat → Nat) (vM : (Nat → Int32) × Int64) (x1 : Int32) (r : Int32 × ((Nat → Int32) × Int64)) (hf : F_X9_fails vM x1 = some r) : CM E l yX9_fails (.code yX9_fails cX9_fails 2 (some .int) :: GA) rm_X9_fails [.ref (aM 0), .int x1] (W_M aM vM) (some (.int r.1)) (W_M aM r.2) := by
  refine CM.of (own := RX9) rfl (by decide) (Nat.le_of_ble_eq_true rfl) ?_
  intro p e s m below meth c A ls hx hb hr hml hown hg hlocks hK hE hA hP hD hS hl
  have hl : lv_has ls 2 [(0, .ref (aM 0)), (1, .int x1)] := hl
  unfold F_X9_fails at hf
  refine lv_aload_n hx hb dX9_fails_0 rfl (lv_at hl 0 rfl) ?_
  refine lv_iload_n hx hb dX9_fails_1 rfl (lv_at hl 1 rfl) ?_
  refine pf_X9_48 (w2 := (W_M aM (va_up vM.1 3 x1, vM.2))) hx hb hg hown hK hP hD hS 0 rfl (Nat.le_of_ble_eq_true rfl) rfl dX9_fails_2 (fun H locs hP hD hS => ?_)
  obtain ⟨vM_3, hv, hf⟩ := lt_o hf
  rw [← hv] at hP hD
  clear hv
  refine lv_iconst (v := 0) hx hb dX9_fails_5 (by decide) ?_
  obtain rfl := Option.some.inj hf
  exact cm_iret hx hb hr hlocks hP hS dX9_fails_6
def F_X9_isFailed (vM : (Nat → Int32) × Int64) (x1 : Int32) : Option (Int32 × ((Nat → Int32) × Int64)) := lt (va_up vM.1 3 x1, vM.2) (fun vM_3 => (some (0, vM_3)))
abbrev rm_X9_isFailed : Room := { frames := 0, cells := 0, slots := 0, locals := 0 }
set_option maxHeartbeats 4000000 in
set_option maxRecDepth 100000 in
theorem c_X9_isFailed (E : Ev) (l : Launch) (aM : Nat → Nat) (vM : (Nat → Int32) × Int64) (x1 : Int32) (r : Int32 × ((Nat → Int32) × Int64)) (hf : F_X9_isFailed vM x1 = some r) : CM E l yX9_isFailed (.code yX9_isFailed cX9_isFailed 2 (some .boolean) :: GA) rm_X9_isFailed [.ref (aM 0), .int x1] (W_M aM vM) (some (.int r.1)) (W_M aM r.2) := by
  refine CM.of (own := RX9) rfl (by decide) (Nat.le_of_ble_eq_true rfl) ?_
  intro p e s m below meth c A ls hx hb hr hml hown hg hlocks hK hE hA hP hD hS hl
  have hl : lv_has ls 2 [(0, .ref (aM 0)), (1, .int x1)] := hl
  unfold F_X9_isFailed at hf
  refine lv_aload_n hx hb dX9_isFailed_0 rfl (lv_at hl 0 rfl) ?_
  refine lv_iload_n hx hb dX9_isFailed_1 rfl (lv_at hl 1 rfl) ?_
  refine pf_X9_48 (w2 := (W_M aM (va_up vM.1 3 x1, vM.2))) hx hb hg hown hK hP hD hS 0 rfl (Nat.le_of_ble_eq_true rfl) rfl dX9_isFailed_2 (fun H locs hP hD hS => ?_)
  obtain ⟨vM_3, hv, hf⟩ := lt_o hf
  rw [← hv] at hP hD
  clear hv
  refine lv_iconst (v := 0) hx hb dX9_isFailed_5 (by decide) ?_
  obtain rfl := Option.some.inj hf
  exact cm_zret (v := 0) hx hb hr hlocks hP hS rfl dX9_isFailed_6
def F_X9_in (x0 : Int32) (x1 : Int32) (x2 : Int32) : Option (Int32) := (if x0 < x1 then (some 0) else (if x2 < x0 then (some 0) else (some 1)))
abbrev rm_X9_in : Room := { frames := 0, cells := 0, slots := 0, locals := 0 }
set_option maxHeartbeats 4000000 in
set_option maxRecDepth 100000 in
theorem c_X9_in (E : Ev) (l : Launch) (x0 : Int32) (x1 : Int32) (x2 : Int32) (r : Int32) (hf : F_X9_in x0 x1 x2 = some r) : CM E l yX9_in (.code yX9_in cX9_in 3 (some .boolean) :: GA) rm_X9_in [.int x0, .int x1, .int x2] [] (some (.int r)) [] := by
  refine CM.of (own := RX9) rfl (by decide) (Nat.le_of_ble_eq_true rfl) ?_
  intro p e s m below meth c A ls hx hb hr hml hown hg hlocks hK hE hA hP hD hS hl
  have hl : lv_has ls 3 [(0, .int x0), (1, .int x1), (2, .int x2)] := hl
  unfold F_X9_in at hf
  refine lv_iload_n hx hb dX9_in_0 rfl (lv_at hl 1 rfl) ?_
  refine lv_iload_n hx hb dX9_in_1 rfl (lv_at hl 0 rfl) ?_
  refine lv_icmp_gt (tgt := 14) hx hb dX9_in_2 (by decide) (fun cq => ?_) (fun cq => ?_)
  · have hf := it cq hf
    refine lv_iconst (v := 0) hx hb dX9_in_14 (by decide) ?_
    obtain rfl := Option.some.inj hf
    exact cm_zret (v := 0) hx hb hr hlocks hP hS rfl dX9_in_15
  · have hf := ie cq hf
    refine lv_iload_n hx hb dX9_in_5 rfl (lv_at hl 0 rfl) ?_
    refine lv_iload_n hx hb dX9_in_6 rfl (lv_at hl 2 rfl) ?_
    refine lv_icmp_gt (tgt := 14) hx hb dX9_in_7 (by decide) (fun cq => ?_) (fun cq => ?_)
    · have hf := it cq hf
      refine lv_iconst (v := 0) hx hb dX9_in_14 (by decide) ?_
      obtain rfl := Option.some.inj hf
      exact cm_zret (v := 0) hx hb hr hlocks hP hS rfl dX9_in_15
    · have hf := ie cq hf
      refine lv_iconst (v := 1) hx hb dX9_in_10 (by decide) ?_
      refine lv_goto (tgt := 15) hx hb dX9_in_11 (by decide) ?_
      obtain rfl := Option.some.inj hf
      exact cm_zret (v := 1) hx hb hr hlocks hP hS rfl dX9_in_15
def F_X9_less (x0 : Int32) (x1 : Int32) : Option (Int32) := (if x1 ≤ x0 then (some x1) else (some x0))
abbrev rm_X9_less : Room := { frames := 0, cells := 0, slots := 0, locals := 0 }
set_option maxHeartbeats 4000000 in
set_option maxRecDepth 100000 in
theorem c_X9_less (E : Ev) (l : Launch) (x0 : Int32) (x1 : Int32) (r : Int32) (hf : F_X9_less x0 x1 = some r) : CM E l yX9_less (.code yX9_less cX9_less 2 (some .int) :: GA) rm_X9_less [.int x0, .int x1] [] (some (.int r)) [] := by
  refine CM.of (own := RX9) rfl (by decide) (Nat.le_of_ble_eq_true rfl) ?_
  intro p e s m below meth c A ls hx hb hr hml hown hg hlocks hK hE hA hP hD hS hl
  have hl : lv_has ls 2 [(0, .int x0), (1, .int x1)] := hl
  unfold F_X9_less at hf
  refine lv_iload_n hx hb dX9_less_0 rfl (lv_at hl 0 rfl) ?_
  refine lv_iload_n hx hb dX9_less_1 rfl (lv_at hl 1 rfl) ?_
  refine lv_icmp_ge (tgt := 7) hx hb dX9_less_2 (by decide) (fun cq => ?_) (fun cq => ?_)
  · have hf := it cq hf
    refine lv_iload_n hx hb dX9_less_7 rfl (lv_at hl 1 rfl) ?_
    obtain rfl := Option.some.inj hf
    exact cm_iret hx hb hr hlocks hP hS dX9_less_8
  · have hf := ie cq hf
    refine lv_iload_n hx hb dX9_less_5 rfl (lv_at hl 0 rfl) ?_
    obtain rfl := Option.some.inj hf
    exact cm_iret hx hb hr hlocks hP hS dX9_less_6
def F_X9_more (x0 : Int32) (x1 : Int32) : Option (Int32) := (if x0 ≤ x1 then (some x1) else (some x0))
abbrev rm_X9_more : Room := { frames := 0, cells := 0, slots := 0, locals := 0 }
set_option maxHeartbeats 4000000 in
set_option maxRecDepth 100000 in
theorem c_X9_more (E : Ev) (l : Launch) (x0 : Int32) (x1 : Int32) (r : Int32) (hf : F_X9_more x0 x1 = some r) : CM E l yX9_more (.code yX9_more cX9_more 2 (some .int) :: GA) rm_X9_more [.int x0, .int x1] [] (some (.int r)) [] := by
  refine CM.of (own := RX9) rfl (by decide) (Nat.le_of_ble_eq_true rfl) ?_
  intro p e s m below meth c A ls hx hb hr hml hown hg hlocks hK hE hA hP hD hS hl
  have hl : lv_has ls 2 [(0, .int x0), (1, .int x1)] := hl
  unfold F_X9_more at hf
  refine lv_iload_n hx hb dX9_more_0 rfl (lv_at hl 0 rfl) ?_
  refine lv_iload_n hx hb dX9_more_1 rfl (lv_at hl 1 rfl) ?_
  refine lv_icmp_le (tgt := 7) hx hb dX9_more_2 (by decide) (fun cq => ?_) (fun cq => ?_)
  · have hf := it cq hf
    refine lv_iload_n hx hb dX9_more_7 rfl (lv_at hl 1 rfl) ?_
    obtain rfl := Option.some.inj hf
    exact cm_iret hx hb hr hlocks hP hS dX9_more_8
  · have hf := ie cq hf
    refine lv_iload_n hx hb dX9_more_5 rfl (lv_at hl 0 rfl) ?_
    obtain rfl := Option.some.inj hf
    exact cm_iret hx hb hr hlocks hP hS dX9_more_6
def B_X9_layRow_d_3 (rec : Int32 → (Nat → Int32) → Option ((Nat → Int32))) (nS : Nat) (nT : Nat) (vS : Nat → Int32) (x1 : Int32) (x3 : Int32) (x4 : Int32) (vT : Nat → Int32) : Option ((Nat → Int32)) := (if 306 ≤ x4 then (some vT) else ck (x1 + x4) nS (ck (x3 + x4) nT (lt (upd vT (Int32.toNatClampNeg (x3 + x4)) (vS (Int32.toNatClampNeg (x1 + x4)))) (fun vT_4 => (rec (x4 + 1) vT_4)))))
def L_X9_layRow_d_3 (nS : Nat) (nT : Nat) (vS : Nat → Int32) (x1 : Int32) (x3 : Int32) : Nat → Int32 → (Nat → Int32) → Option ((Nat → Int32))
  | 0 => fun _ _ => none
  | n + 1 => fun x4 vT => B_X9_layRow_d_3 (L_X9_layRow_d_3 nS nT vS x1 x3 n) nS nT vS x1 x3 x4 vT
def F_X9_layRow_d (nS : Nat) (nT : Nat) (vS : Nat → Int32) (vT : Nat → Int32) (x1 : Int32) (x3 : Int32) : Option ((Nat → Int32)) := (L_X9_layRow_d_3 nS nT vS x1 x3 FU 0 vT)
abbrev rm_X9_layRow_d : Room := { frames := 0, cells := 0, slots := 0, locals := 0 }
set_option maxHeartbeats 4000000 in
set_option maxRecDepth 100000 in
theorem c_X9_layRow_d (E : Ev) (l : Launch) (aS : Nat) (nS : Nat) (aT : Nat) (nT : Nat) (vS : Nat → Int32) (vT : Nat → Int32) (x1 : Int32) (x3 : Int32) (r : (Nat → Int32)) (hf : F_X9_layRow_d nS nT vS vT x1 x3 = some r) : CM E l yX9_layRow (.code yX9_layRow cX9_layRow 5 none :: GA) rm_X9_layRow_d [.ref aS, .int x1, .ref aT, .int x3] (W_A E aS nS vS ++ (W_A E aT nT vT)) none (W_A E aS nS vS ++ (W_A E aT nT r)) := by
  refine CM.of (own := RX9) rfl (by decide) (Nat.le_of_ble_eq_true rfl) ?_
  intro p e s m below meth c A ls hx hb hr hml hown hg hlocks hK hE hA hP hD hS hl
  have hl : lv_has ls 5 [(0, .ref aS), (1, .int x1), (2, .ref aT), (3, .int x3)] := hl
  have lp_3 : ∀ (n : Nat) (x4 : Int32) (vT : Nat → Int32) (H : Heap) (locs : List Loc) (ls : Array Slot), L_X9_layRow_d_3 nS nT vS x1 x3 n x4 vT = some r → va_P E.1 vwCl (W_A E aS nS vS ++ (W_A E aT nT vT)) H → va_D A (W_A E aS nS vS ++ (W_A E aT nT vT)) → va_S A s.heap H locs → lv_has ls 5 [(0, .ref aS), (1, .int x1), (2, .ref aT), (3, .int x3), (4, .int x4)] → W p l e rm_X9_layRow_d s m ([.ref aS, .int x1, .ref aT, .int x3] : List Value).toArray below meth c H locs 0 0 (MQ below (QW E none (W_A E aS nS vS ++ (W_A E aT nT r)) A) ([.ref aS, .int x1, .ref aT, .int x3] : List Value).toArray s 0 0 A) (F0 m 3 ls []) := by
    intro n
    induction n with
    | zero => intro x4 vT H locs ls hf; cases hf
    | succ n ih =>
      intro x4 vT H locs ls hf hP hD hS hl
      replace hf : B_X9_layRow_d_3 (L_X9_layRow_d_3 nS nT vS x1 x3 n) nS nT vS x1 x3 x4 vT = some r := hf
      unfold B_X9_layRow_d_3 at hf
      refine lv_iload hx hb dX9_layRow_3 (lv_at hl 4 rfl) ?_
      refine lv_sipush (v := 306) hx hb dX9_layRow_5 (by decide) ?_
      refine lv_icmp_ge (tgt := 29) hx hb dX9_layRow_8 (by decide) (fun cq => ?_) (fun cq => ?_)
      · have hf := it cq hf
        obtain rfl := Option.some.inj hf
        exact cm_vret hx hb hr hlocks hP hS dX9_layRow_29
      · have hf := ie cq hf
        refine lv_aload_n hx hb dX9_layRow_11 rfl (lv_at hl 2 rfl) ?_
        refine lv_iload_n hx hb dX9_layRow_12 rfl (lv_at hl 3 rfl) ?_
        refine lv_iload hx hb dX9_layRow_13 (lv_at hl 4 rfl) ?_
        refine lv_iadd hx hb dX9_layRow_15 ?_
        refine lv_aload_n hx hb dX9_layRow_16 rfl (lv_at hl 0 rfl) ?_
        refine lv_iload_n hx hb dX9_layRow_17 rfl (lv_at hl 1 rfl) ?_
        refine lv_iload hx hb dX9_layRow_18 (lv_at hl 4 rfl) ?_
        refine lv_iadd hx hb dX9_layRow_20 ?_
        obtain ⟨hi, hf⟩ := ck_o hf
        refine ar_ld hx hb hK hP 0 rfl hi dX9_layRow_21 ?_
        obtain ⟨hi, hf⟩ := ck_o hf
        refine ar_st (w2 := (W_A E aS nS vS ++ (W_A E aT nT (upd vT (Int32.toNatClampNeg (x3 + x4)) (vS (Int32.toNatClampNeg (x1 + x4))))))) hx hb hK hP hD hS 1 rfl hi rfl dX9_layRow_22 (fun H locs hP hD hS => ?_)
        obtain ⟨vT_4, hv, hf⟩ := lt_o hf
        rw [← hv] at hP hD
        clear hv
        refine lv_iinc (v := (x4 + 1)) (lv' := [(4, .int (x4 + 1)), (0, .ref aS), (1, .int x1), (2, .ref aT), (3, .int x3)]) hx hb dX9_layRow_23 hl (k := 4) rfl rfl (by decide) rfl (fun ls hl => ?_)
        refine lv_goto (tgt := 3) hx hb dX9_layRow_26 (by decide) ?_
        exact ih _ _ _ _ _ hf hP hD hS (lv_sub hl [1, 2, 3, 4, 0] rfl)
  unfold F_X9_layRow_d at hf
  refine lv_iconst (v := 0) hx hb dX9_layRow_0 (by decide) ?_
  refine lv_istore (lv' := [(4, .int 0), (0, .ref aS), (1, .int x1), (2, .ref aT), (3, .int x3)]) hx hb dX9_layRow_1 hl (by decide) rfl (fun ls hl => ?_)
  exact lp_3 FU _ _ _ _ _ hf hP hD hS (lv_sub hl [1, 2, 3, 4, 0] rfl)
def B_X9_layRow_r_3 (rec : Int32 → (Nat → Int32) → Option ((Nat → Int32))) (nT : Nat) (nS : Nat) (vS : Nat → Int32) (x1 : Int32) (x3 : Int32) (x4 : Int32) (vT : Nat → Int32) : Option ((Nat → Int32)) := (if 306 ≤ x4 then (some vT) else ck (x1 + x4) nS (ck (x3 + x4) nT (lt (upd vT (Int32.toNatClampNeg (x3 + x4)) (vS (Int32.toNatClampNeg (x1 + x4)))) (fun vT_4 => (rec (x4 + 1) vT_4)))))
def L_X9_layRow_r_3 (nT : Nat) (nS : Nat) (vS : Nat → Int32) (x1 : Int32) (x3 : Int32) : Nat → Int32 → (Nat → Int32) → Option ((Nat → Int32))
  | 0 => fun _ _ => none
  | n + 1 => fun x4 vT => B_X9_layRow_r_3 (L_X9_layRow_r_3 nT nS vS x1 x3 n) nT nS vS x1 x3 x4 vT
def F_X9_layRow_r (nT : Nat) (nS : Nat) (vT : Nat → Int32) (vS : Nat → Int32) (x1 : Int32) (x3 : Int32) : Option ((Nat → Int32)) := (L_X9_layRow_r_3 nT nS vS x1 x3 FU 0 vT)
abbrev rm_X9_layRow_r : Room := { frames := 0, cells := 0, slots := 0, locals := 0 }
set_option maxHeartbeats 4000000 in
set_option maxRecDepth 100000 in
theorem c_X9_layRow_r (E : Ev) (l : Launch) (aT : Nat) (nT : Nat) (aS : Nat) (nS : Nat) (vT : Nat → Int32) (vS : Nat → Int32) (x1 : Int32) (x3 : Int32) (r : (Nat → Int32)) (hf : F_X9_layRow_r nT nS vT vS x1 x3 = some r) : CM E l yX9_layRow (.code yX9_layRow cX9_layRow 5 none :: GA) rm_X9_layRow_r [.ref aS, .int x1, .ref aT, .int x3] (W_A E aT nT vT ++ (W_A E aS nS vS)) none (W_A E aT nT r ++ (W_A E aS nS vS)) := by
  refine CM.of (own := RX9) rfl (by decide) (Nat.le_of_ble_eq_true rfl) ?_
  intro p e s m below meth c A ls hx hb hr hml hown hg hlocks hK hE hA hP hD hS hl
  have hl : lv_has ls 5 [(0, .ref aS), (1, .int x1), (2, .ref aT), (3, .int x3)] := hl
  have lp_3 : ∀ (n : Nat) (x4 : Int32) (vT : Nat → Int32) (H : Heap) (locs : List Loc) (ls : Array Slot), L_X9_layRow_r_3 nT nS vS x1 x3 n x4 vT = some r → va_P E.1 vwCl (W_A E aT nT vT ++ (W_A E aS nS vS)) H → va_D A (W_A E aT nT vT ++ (W_A E aS nS vS)) → va_S A s.heap H locs → lv_has ls 5 [(0, .ref aS), (1, .int x1), (2, .ref aT), (3, .int x3), (4, .int x4)] → W p l e rm_X9_layRow_r s m ([.ref aS, .int x1, .ref aT, .int x3] : List Value).toArray below meth c H locs 0 0 (MQ below (QW E none (W_A E aT nT r ++ (W_A E aS nS vS)) A) ([.ref aS, .int x1, .ref aT, .int x3] : List Value).toArray s 0 0 A) (F0 m 3 ls []) := by
    intro n
    induction n with
    | zero => intro x4 vT H locs ls hf; cases hf
    | succ n ih =>
      intro x4 vT H locs ls hf hP hD hS hl
      replace hf : B_X9_layRow_r_3 (L_X9_layRow_r_3 nT nS vS x1 x3 n) nT nS vS x1 x3 x4 vT = some r := hf
      unfold B_X9_layRow_r_3 at hf
      refine lv_iload hx hb dX9_layRow_3 (lv_at hl 4 rfl) ?_
      refine lv_sipush (v := 306) hx hb dX9_layRow_5 (by decide) ?_
      refine lv_icmp_ge (tgt := 29) hx hb dX9_layRow_8 (by decide) (fun cq => ?_) (fun cq => ?_)
      · have hf := it cq hf
        obtain rfl := Option.some.inj hf
        exact cm_vret hx hb hr hlocks hP hS dX9_layRow_29
      · have hf := ie cq hf
        refine lv_aload_n hx hb dX9_layRow_11 rfl (lv_at hl 2 rfl) ?_
        refine lv_iload_n hx hb dX9_layRow_12 rfl (lv_at hl 3 rfl) ?_
        refine lv_iload hx hb dX9_layRow_13 (lv_at hl 4 rfl) ?_
        refine lv_iadd hx hb dX9_layRow_15 ?_
        refine lv_aload_n hx hb dX9_layRow_16 rfl (lv_at hl 0 rfl) ?_
        refine lv_iload_n hx hb dX9_layRow_17 rfl (lv_at hl 1 rfl) ?_
        refine lv_iload hx hb dX9_layRow_18 (lv_at hl 4 rfl) ?_
        refine lv_iadd hx hb dX9_layRow_20 ?_
        obtain ⟨hi, hf⟩ := ck_o hf
        refine ar_ld hx hb hK hP 1 rfl hi dX9_layRow_21 ?_
        obtain ⟨hi, hf⟩ := ck_o hf
        refine ar_st (w2 := (W_A E aT nT (upd vT (Int32.toNatClampNeg (x3 + x4)) (vS (Int32.toNatClampNeg (x1 + x4)))) ++ (W_A E aS nS vS))) hx hb hK hP hD hS 0 rfl hi rfl dX9_layRow_22 (fun H locs hP hD hS => ?_)
        obtain ⟨vT_4, hv, hf⟩ := lt_o hf
        rw [← hv] at hP hD
        clear hv
        refine lv_iinc (v := (x4 + 1)) (lv' := [(4, .int (x4 + 1)), (0, .ref aS), (1, .int x1), (2, .ref aT), (3, .int x3)]) hx hb dX9_layRow_23 hl (k := 4) rfl rfl (by decide) rfl (fun ls hl => ?_)
        refine lv_goto (tgt := 3) hx hb dX9_layRow_26 (by decide) ?_
        exact ih _ _ _ _ _ hf hP hD hS (lv_sub hl [1, 2, 3, 4, 0] rfl)
  unfold F_X9_layRow_r at hf
  refine lv_iconst (v := 0) hx hb dX9_layRow_0 (by decide) ?_
  refine lv_istore (lv' := [(4, .int 0), (0, .ref aS), (1, .int x1), (2, .ref aT), (3, .int x3)]) hx hb dX9_layRow_1 hl (by decide) rfl (fun ls hl => ?_)
  exact lp_3 FU _ _ _ _ _ hf hP hD hS (lv_sub hl [1, 2, 3, 4, 0] rfl)
def B_X9_layRow_s_3 (rec : Int32 → (Nat → Int32) → Option ((Nat → Int32))) (nS : Nat) (x1 : Int32) (x3 : Int32) (x4 : Int32) (vS : Nat → Int32) : Option ((Nat → Int32)) := (if 306 ≤ x4 then (some vS) else ck (x1 + x4) nS (ck (x3 + x4) nS (lt (upd vS (Int32.toNatClampNeg (x3 + x4)) (vS (Int32.toNatClampNeg (x1 + x4)))) (fun vS_4 => (rec (x4 + 1) vS_4)))))
def L_X9_layRow_s_3 (nS : Nat) (x1 : Int32) (x3 : Int32) : Nat → Int32 → (Nat → Int32) → Option ((Nat → Int32))
  | 0 => fun _ _ => none
  | n + 1 => fun x4 vS => B_X9_layRow_s_3 (L_X9_layRow_s_3 nS x1 x3 n) nS x1 x3 x4 vS
def F_X9_layRow_s (nS : Nat) (vS : Nat → Int32) (x1 : Int32) (x3 : Int32) : Option ((Nat → Int32)) := (L_X9_layRow_s_3 nS x1 x3 FU 0 vS)
abbrev rm_X9_layRow_s : Room := { frames := 0, cells := 0, slots := 0, locals := 0 }
set_option maxHeartbeats 4000000 in
set_option maxRecDepth 100000 in
theorem c_X9_layRow_s (E : Ev) (l : Launch) (aS : Nat) (nS : Nat) (vS : Nat → Int32) (x1 : Int32) (x3 : Int32) (r : (Nat → Int32)) (hf : F_X9_layRow_s nS vS x1 x3 = some r) : CM E l yX9_layRow (.code yX9_layRow cX9_layRow 5 none :: GA) rm_X9_layRow_s [.ref aS, .int x1, .ref aS, .int x3] (W_A E aS nS vS) none (W_A E aS nS r) := by
  refine CM.of (own := RX9) rfl (by decide) (Nat.le_of_ble_eq_true rfl) ?_
  intro p e s m below meth c A ls hx hb hr hml hown hg hlocks hK hE hA hP hD hS hl
  have hl : lv_has ls 5 [(0, .ref aS), (1, .int x1), (2, .ref aS), (3, .int x3)] := hl
  have lp_3 : ∀ (n : Nat) (x4 : Int32) (vS : Nat → Int32) (H : Heap) (locs : List Loc) (ls : Array Slot), L_X9_layRow_s_3 nS x1 x3 n x4 vS = some r → va_P E.1 vwCl (W_A E aS nS vS) H → va_D A (W_A E aS nS vS) → va_S A s.heap H locs → lv_has ls 5 [(0, .ref aS), (1, .int x1), (2, .ref aS), (3, .int x3), (4, .int x4)] → W p l e rm_X9_layRow_s s m ([.ref aS, .int x1, .ref aS, .int x3] : List Value).toArray below meth c H locs 0 0 (MQ below (QW E none (W_A E aS nS r) A) ([.ref aS, .int x1, .ref aS, .int x3] : List Value).toArray s 0 0 A) (F0 m 3 ls []) := by
    intro n
    induction n with
    | zero => intro x4 vS H locs ls hf; cases hf
    | succ n ih =>
      intro x4 vS H locs ls hf hP hD hS hl
      replace hf : B_X9_layRow_s_3 (L_X9_layRow_s_3 nS x1 x3 n) nS x1 x3 x4 vS = some r := hf
      unfold B_X9_layRow_s_3 at hf
      refine lv_iload hx hb dX9_layRow_3 (lv_at hl 4 rfl) ?_
      refine lv_sipush (v := 306) hx hb dX9_layRow_5 (by decide) ?_
      refine lv_icmp_ge (tgt := 29) hx hb dX9_layRow_8 (by decide) (fun cq => ?_) (fun cq => ?_)
      · have hf := it cq hf
        obtain rfl := Option.some.inj hf
        exact cm_vret hx hb hr hlocks hP hS dX9_layRow_29
      · have hf := ie cq hf
        refine lv_aload_n hx hb dX9_layRow_11 rfl (lv_at hl 2 rfl) ?_
        refine lv_iload_n hx hb dX9_layRow_12 rfl (lv_at hl 3 rfl) ?_
        refine lv_iload hx hb dX9_layRow_13 (lv_at hl 4 rfl) ?_
        refine lv_iadd hx hb dX9_layRow_15 ?_
        refine lv_aload_n hx hb dX9_layRow_16 rfl (lv_at hl 0 rfl) ?_
        refine lv_iload_n hx hb dX9_layRow_17 rfl (lv_at hl 1 rfl) ?_
        refine lv_iload hx hb dX9_layRow_18 (lv_at hl 4 rfl) ?_
        refine lv_iadd hx hb dX9_layRow_20 ?_
        obtain ⟨hi, hf⟩ := ck_o hf
        refine ar_ld hx hb hK hP 0 rfl hi dX9_layRow_21 ?_
        obtain ⟨hi, hf⟩ := ck_o hf
        refine ar_st (w2 := (W_A E aS nS (upd vS (Int32.toNatClampNeg (x3 + x4)) (vS (Int32.toNatClampNeg (x1 + x4)))))) hx hb hK hP hD hS 0 rfl hi rfl dX9_layRow_22 (fun H locs hP hD hS => ?_)
        obtain ⟨vS_4, hv, hf⟩ := lt_o hf
        rw [← hv] at hP hD
        clear hv
        refine lv_iinc (v := (x4 + 1)) (lv' := [(4, .int (x4 + 1)), (0, .ref aS), (1, .int x1), (2, .ref aS), (3, .int x3)]) hx hb dX9_layRow_23 hl (k := 4) rfl rfl (by decide) rfl (fun ls hl => ?_)
        refine lv_goto (tgt := 3) hx hb dX9_layRow_26 (by decide) ?_
        exact ih _ _ _ _ _ hf hP hD hS (lv_sub hl [1, 2, 3, 4, 0] rfl)
  unfold F_X9_layRow_s at hf
  refine lv_iconst (v := 0) hx hb dX9_layRow_0 (by decide) ?_
  refine lv_istore (lv' := [(4, .int 0), (0, .ref aS), (1, .int x1), (2, .ref aS), (3, .int x3)]) hx hb dX9_layRow_1 hl (by decide) rfl (fun ls hl => ?_)
  exact lp_3 FU _ _ _ _ _ hf hP hD hS (lv_sub hl [1, 2, 3, 4, 0] rfl)
def F_X9_takesSpare (vM : (Nat → Int32) × Int64) (vnow : Nat → Int32) (vspare : Nat → Int32) : Option ((Nat → Int32)) := (F_X9_layRow_d 306 306 vnow vspare 0 0).bind (fun u1 => (some u1))
abbrev rm_X9_takesSpare : Room := { frames := 1, cells := 0, slots := 0, locals := 24 }
set_option maxHeartbeats 4000000 in
set_option maxRecDepth 100000 in
theorem c_X9_takesSpare (E : Ev) (l : Launch) (aM : Nat → Nat) (vM : (Nat → Int32) × Int64) (vnow : Nat → Int32) (vspare : Nat → Int32) (r : (Nat → Int32)) (hf : F_X9_takesSpare vM vnow vspare = some r) : CM E l yX9_takesSpare (.code yX9_takesSpare cX9_takesSpare 1 none :: GA) rm_X9_takesSpare [.ref (aM 0)] (W_M aM vM ++ (W_A E (aM 1) 306 vnow ++ (W_A E (aM 3) 306 vspare))) none (W_M aM vM ++ (W_A E (aM 1) 306 vnow ++ (W_A E (aM 3) 306 r))) := by
  refine CM.of (own := RX9) rfl (by decide) (Nat.le_of_ble_eq_true rfl) ?_
  intro p e s m below meth c A ls hx hb hr hml hown hg hlocks hK hE hA hP hD hS hl
  have hl : lv_has ls 1 [(0, .ref (aM 0))] := hl
  unfold F_X9_takesSpare at hf
  refine lv_aload_n hx hb dX9_takesSpare_0 rfl (lv_at hl 0 rfl) ?_
  refine gf_X9_7 hx hb hg hown hK hP 0 rfl rfl dX9_takesSpare_1 ?_
  refine lv_iconst (v := 0) hx hb dX9_takesSpare_4 (by decide) ?_
  refine lv_aload_n hx hb dX9_takesSpare_5 rfl (lv_at hl 0 rfl) ?_
  refine gf_X9_16 hx hb hg hown hK hP 0 rfl rfl dX9_takesSpare_6 ?_
  refine lv_iconst (v := 0) hx hb dX9_takesSpare_9 (by decide) ?_
  obtain ⟨u1, hu1, hf⟩ := bn hf
  refine cm_S (As := [.ref (aM 1), .int 0, .ref (aM 3), .int 0]) (rest := []) (w2 := (W_M aM vM ++ (W_A E (aM 1) 306 vnow ++ (W_A E (aM 3) 306 u1)))) hx hb hml hown hg (c_X9_layRow_d E l (aM 1) 306 (aM 3) 306 vnow vspare 0 0 u1 hu1) cs_X9_layRow ml_X9_51 ⟨⟨rfl, rfl⟩, Nat.le_of_ble_eq_true rfl, Nat.le_of_ble_eq_true rfl⟩ hK hE hP hD hS hA [false, true, true] rfl rfl rfl rfl hl.1 rfl (Nat.le_of_ble_eq_true rfl) dX9_takesSpare_10 ⟨Nat.le_of_ble_eq_true rfl, Nat.le_of_ble_eq_true rfl⟩ [] rfl (fun H locs hP hD hS => ?_)
  obtain rfl := Option.some.inj hf
  exact cm_vret hx hb hr hlocks hP hS dX9_takesSpare_13
def F_X9_guestAt (x0 : Int32) (x1 : Int32) : Option (Int32) := (some ((10 + (8 * x0)) + x1))
abbrev rm_X9_guestAt : Room := { frames := 0, cells := 0, slots := 0, locals := 0 }
set_option maxHeartbeats 4000000 in
set_option maxRecDepth 100000 in
theorem c_X9_guestAt (E : Ev) (l : Launch) (x0 : Int32) (x1 : Int32) (r : Int32) (hf : F_X9_guestAt x0 x1 = some r) : CM E l yX9_guestAt (.code yX9_guestAt cX9_guestAt 2 (some .int) :: GA) rm_X9_guestAt [.int x0, .int x1] [] (some (.int r)) [] := by
  refine CM.of (own := RX9) rfl (by decide) (Nat.le_of_ble_eq_true rfl) ?_
  intro p e s m below meth c A ls hx hb hr hml hown hg hlocks hK hE hA hP hD hS hl
  have hl : lv_has ls 2 [(0, .int x0), (1, .int x1)] := hl
  unfold F_X9_guestAt at hf
  refine lv_bipush (v := 10) hx hb dX9_guestAt_0 (by decide) ?_
  refine lv_bipush (v := 8) hx hb dX9_guestAt_2 (by decide) ?_
  refine lv_iload_n hx hb dX9_guestAt_4 rfl (lv_at hl 0 rfl) ?_
  refine lv_imul hx hb dX9_guestAt_5 ?_
  refine lv_iadd hx hb dX9_guestAt_6 ?_
  refine lv_iload_n hx hb dX9_guestAt_7 rfl (lv_at hl 1 rfl) ?_
  refine lv_iadd hx hb dX9_guestAt_8 ?_
  obtain rfl := Option.some.inj hf
  exact cm_iret hx hb hr hlocks hP hS dX9_guestAt_9
def F_X9_umbrellaAt (x0 : Int32) (x1 : Int32) : Option (Int32) := (some ((90 + (3 * x0)) + x1))
abbrev rm_X9_umbrellaAt : Room := { frames := 0, cells := 0, slots := 0, locals := 0 }
set_option maxHeartbeats 4000000 in
set_option maxRecDepth 100000 in
theorem c_X9_umbrellaAt (E : Ev) (l : Launch) (x0 : Int32) (x1 : Int32) (r : Int32) (hf : F_X9_umbrellaAt x0 x1 = some r) : CM E l yX9_umbrellaAt (.code yX9_umbrellaAt cX9_umbrellaAt 2 (some .int) :: GA) rm_X9_umbrellaAt [.int x0, .int x1] [] (some (.int r)) [] := by
  refine CM.of (own := RX9) rfl (by decide) (Nat.le_of_ble_eq_true rfl) ?_
  intro p e s m below meth c A ls hx hb hr hml hown hg hlocks hK hE hA hP hD hS hl
  have hl : lv_has ls 2 [(0, .int x0), (1, .int x1)] := hl
  unfold F_X9_umbrellaAt at hf
  refine lv_bipush (v := 90) hx hb dX9_umbrellaAt_0 (by decide) ?_
  refine lv_iconst (v := 3) hx hb dX9_umbrellaAt_2 (by decide) ?_
  refine lv_iload_n hx hb dX9_umbrellaAt_3 rfl (lv_at hl 0 rfl) ?_
  refine lv_imul hx hb dX9_umbrellaAt_4 ?_
  refine lv_iadd hx hb dX9_umbrellaAt_5 ?_
  refine lv_iload_n hx hb dX9_umbrellaAt_6 rfl (lv_at hl 1 rfl) ?_
  refine lv_iadd hx hb dX9_umbrellaAt_7 ?_
  obtain rfl := Option.some.inj hf
  exact cm_iret hx hb hr hlocks hP hS dX9_umbrellaAt_8
def F_X9_entryAt (x0 : Int32) (x1 : Int32) : Option (Int32) := (some ((126 + (3 * x0)) + x1))
abbrev rm_X9_entryAt : Room := { frames := 0, cells := 0, slots := 0, locals := 0 }
set_option maxHeartbeats 4000000 in
set_option maxRecDepth 100000 in
theorem c_X9_entryAt (E : Ev) (l : Launch) (x0 : Int32) (x1 : Int32) (r : Int32) (hf : F_X9_entryAt x0 x1 = some r) : CM E l yX9_entryAt (.code yX9_entryAt cX9_entryAt 2 (some .int) :: GA) rm_X9_entryAt [.int x0, .int x1] [] (some (.int r)) [] := by
  refine CM.of (own := RX9) rfl (by decide) (Nat.le_of_ble_eq_true rfl) ?_
  intro p e s m below meth c A ls hx hb hr hml hown hg hlocks hK hE hA hP hD hS hl
  have hl : lv_has ls 2 [(0, .int x0), (1, .int x1)] := hl
  unfold F_X9_entryAt at hf
  refine lv_bipush (v := 126) hx hb dX9_entryAt_0 (by decide) ?_
  refine lv_iconst (v := 3) hx hb dX9_entryAt_2 (by decide) ?_
  refine lv_iload_n hx hb dX9_entryAt_3 rfl (lv_at hl 0 rfl) ?_
  refine lv_imul hx hb dX9_entryAt_4 ?_
  refine lv_iadd hx hb dX9_entryAt_5 ?_
  refine lv_iload_n hx hb dX9_entryAt_6 rfl (lv_at hl 1 rfl) ?_
  refine lv_iadd hx hb dX9_entryAt_7 ?_
  obtain rfl := Option.some.inj hf
  exact cm_iret hx hb hr hlocks hP hS dX9_entryAt_8
def F_X9_isGuest (vM : (Nat → Int32) × Int64) (vnow : Nat → Int32) (x1 : Int32) : Option (Int32) := ck 7 306 ((F_X9_in x1 0 ((vnow (Int32.toNatClampNeg 7)) - 1)).bind (fun u1 => (cn (u1 = 0 ∨ u1 = 1) (some u1))))
abbrev rm_X9_isGuest : Room := { frames := 1, cells := 0, slots := 0, locals := 22 }
set_option maxHeartbeats 4000000 in
set_option maxRecDepth 100000 in
theorem c_X9_isGuest (E : Ev) (l : Launch) (aM : Nat → Nat) (vM : (Nat → Int32) × Int64) (vnow : Nat → Int32) (x1 : Int32) (r : Int32) (hf : F_X9_isGuest vM vnow x1 = some r) : CM E l yX9_isGuest (.code yX9_isGuest cX9_isGuest 2 (some .boolean) :: GA) rm_X9_isGuest [.ref (aM 0), .int x1] (W_M aM vM ++ (W_A E (aM 1) 306 vnow)) (some (.int r)) (W_M aM vM ++ (W_A E (aM 1) 306 vnow)) := by
  refine CM.of (own := RX9) rfl (by decide) (Nat.le_of_ble_eq_true rfl) ?_
  intro p e s m below meth c A ls hx hb hr hml hown hg hlocks hK hE hA hP hD hS hl
  have hl : lv_has ls 2 [(0, .ref (aM 0)), (1, .int x1)] := hl
  unfold F_X9_isGuest at hf
  refine lv_iload_n hx hb dX9_isGuest_0 rfl (lv_at hl 1 rfl) ?_
  refine lv_iconst (v := 0) hx hb dX9_isGuest_1 (by decide) ?_
  refine lv_aload_n hx hb dX9_isGuest_2 rfl (lv_at hl 0 rfl) ?_
  refine gf_X9_7 hx hb hg hown hK hP 0 rfl rfl dX9_isGuest_3 ?_
  refine lv_bipush (v := 7) hx hb dX9_isGuest_6 (by decide) ?_
  obtain ⟨hi, hf⟩ := ck_o hf
  refine ar_ld hx hb hK hP 1 rfl hi dX9_isGuest_8 ?_
  refine lv_iconst (v := 1) hx hb dX9_isGuest_9 (by decide) ?_
  refine lv_isub hx hb dX9_isGuest_10 ?_
  obtain ⟨u1, hu1, hf⟩ := bn hf
  refine cm_S (As := [.int x1, .int 0, .int ((vnow (Int32.toNatClampNeg 7)) - 1)]) (rest := []) (w2 := (W_M aM vM ++ (W_A E (aM 1) 306 vnow))) hx hb hml hown hg (c_X9_in E l x1 0 ((vnow (Int32.toNatClampNeg 7)) - 1) u1 hu1) cs_X9_in ml_X9_55 ⟨⟨rfl, rfl⟩, Nat.le_of_ble_eq_true rfl, Nat.le_of_ble_eq_true rfl⟩ hK hE hP hD hS hA [] rfl rfl rfl rfl hl.1 rfl (Nat.le_of_ble_eq_true rfl) dX9_isGuest_11 ⟨Nat.le_of_ble_eq_true rfl, Nat.le_of_ble_eq_true rfl⟩ [.int u1] rfl (fun H locs hP hD hS => ?_)
  obtain ⟨hz, hf⟩ := cn_o hf
  obtain rfl := Option.some.inj hf
  exact cm_zret (v := u1) hx hb hr hlocks hP hS (nar01 hz) dX9_isGuest_14
def F_X9_isUmbrella (vM : (Nat → Int32) × Int64) (vnow : Nat → Int32) (x1 : Int32) : Option (Int32) := ck 8 306 ((F_X9_in x1 0 ((vnow (Int32.toNatClampNeg 8)) - 1)).bind (fun u1 => (cn (u1 = 0 ∨ u1 = 1) (some u1))))
abbrev rm_X9_isUmbrella : Room := { frames := 1, cells := 0, slots := 0, locals := 22 }
set_option maxHeartbeats 4000000 in
set_option maxRecDepth 100000 in
theorem c_X9_isUmbrella (E : Ev) (l : Launch) (aM : Nat → Nat) (vM : (Nat → Int32) × Int64) (vnow : Nat → Int32) (x1 : Int32) (r : Int32) (hf : F_X9_isUmbrella vM vnow x1 = some r) : CM E l yX9_isUmbrella (.code yX9_isUmbrella cX9_isUmbrella 2 (some .boolean) :: GA) rm_X9_isUmbrella [.ref (aM 0), .int x1] (W_M aM vM ++ (W_A E (aM 1) 306 vnow)) (some (.int r)) (W_M aM vM ++ (W_A E (aM 1) 306 vnow)) := by
  refine CM.of (own := RX9) rfl (by decide) (Nat.le_of_ble_eq_true rfl) ?_
  intro p e s m below meth c A ls hx hb hr hml hown hg hlocks hK hE hA hP hD hS hl
  have hl : lv_has ls 2 [(0, .ref (aM 0)), (1, .int x1)] := hl
  unfold F_X9_isUmbrella at hf
  refine lv_iload_n hx hb dX9_isUmbrella_0 rfl (lv_at hl 1 rfl) ?_
  refine lv_iconst (v := 0) hx hb dX9_isUmbrella_1 (by decide) ?_
  refine lv_aload_n hx hb dX9_isUmbrella_2 rfl (lv_at hl 0 rfl) ?_
  refine gf_X9_7 hx hb hg hown hK hP 0 rfl rfl dX9_isUmbrella_3 ?_
  refine lv_bipush (v := 8) hx hb dX9_isUmbrella_6 (by decide) ?_
  obtain ⟨hi, hf⟩ := ck_o hf
  refine ar_ld hx hb hK hP 1 rfl hi dX9_isUmbrella_8 ?_
  refine lv_iconst (v := 1) hx hb dX9_isUmbrella_9 (by decide) ?_
  refine lv_isub hx hb dX9_isUmbrella_10 ?_
  obtain ⟨u1, hu1, hf⟩ := bn hf
  refine cm_S (As := [.int x1, .int 0, .int ((vnow (Int32.toNatClampNeg 8)) - 1)]) (rest := []) (w2 := (W_M aM vM ++ (W_A E (aM 1) 306 vnow))) hx hb hml hown hg (c_X9_in E l x1 0 ((vnow (Int32.toNatClampNeg 8)) - 1) u1 hu1) cs_X9_in ml_X9_55 ⟨⟨rfl, rfl⟩, Nat.le_of_ble_eq_true rfl, Nat.le_of_ble_eq_true rfl⟩ hK hE hP hD hS hA [] rfl rfl rfl rfl hl.1 rfl (Nat.le_of_ble_eq_true rfl) dX9_isUmbrella_11 ⟨Nat.le_of_ble_eq_true rfl, Nat.le_of_ble_eq_true rfl⟩ [.int u1] rfl (fun H locs hP hD hS => ?_)
  obtain ⟨hz, hf⟩ := cn_o hf
  obtain rfl := Option.some.inj hf
  exact cm_zret (v := u1) hx hb hr hlocks hP hS (nar01 hz) dX9_isUmbrella_14
def F_X9_addsGuest (vS : Nat → Int32) (x1 : Int32) (x2 : Int32) (x3 : Int32) : Option (Int32 × (Nat → Int32)) := ck 7 306 ((F_X9_guestAt (vS (Int32.toNatClampNeg 7)) 0).bind (fun u1 => ck u1 306 (lt (upd vS (Int32.toNatClampNeg u1) x1) (fun vS_19 => (F_X9_guestAt (vS (Int32.toNatClampNeg 7)) 1).bind (fun u2 => ck u2 306 (lt (upd vS_19 (Int32.toNatClampNeg u2) x2) (fun vS_20 => (F_X9_guestAt (vS (Int32.toNatClampNeg 7)) 2).bind (fun u3 => ck u3 306 (lt (upd vS_20 (Int32.toNatClampNeg u3) x3) (fun vS_21 => (F_X9_guestAt (vS (Int32.toNatClampNeg 7)) 3).bind (fun u4 => ck u4 306 (lt (upd vS_21 (Int32.toNatClampNeg u4) 0) (fun vS_22 => (F_X9_guestAt (vS (Int32.toNatClampNeg 7)) 4).bind (fun u5 => ck u5 306 (lt (upd vS_22 (Int32.toNatClampNeg u5) 0) (fun vS_23 => (F_X9_guestAt (vS (Int32.toNatClampNeg 7)) 5).bind (fun u6 => ck u6 306 (lt (upd vS_23 (Int32.toNatClampNeg u6) 0) (fun vS_24 => (F_X9_guestAt (vS (Int32.toNatClampNeg 7)) 6).bind (fun u7 => ck u7 306 (lt (upd vS_24 (Int32.toNatClampNeg u7) (-1)) (fun vS_25 => (F_X9_guestAt (vS (Int32.toNatClampNeg 7)) 7).bind (fun u8 => ck u8 306 (lt (upd vS_25 (Int32.toNatClampNeg u8) 0) (fun vS_26 => ck 7 306 (ck 7 306 (lt (upd vS_26 (Int32.toNatClampNeg 7) ((vS_26 (Int32.toNatClampNeg 7)) + 1)) (fun vS_27 => (some ((vS (Int32.toNatClampNeg 7)), vS_27))))))))))))))))))))))))))))))
abbrev rm_X9_addsGuest : Room := { frames := 1, cells := 0, slots := 0, locals := 21 }
set_option maxHeartbeats 4000000 in
set_option maxRecDepth 100000 in
theorem c_X9_addsGuest (E : Ev) (l : Launch) (aS : Nat) (vS : Nat → Int32) (x1 : Int32) (x2 : Int32) (x3 : Int32) (r : Int32 × (Nat → Int32)) (hf : F_X9_addsGuest vS x1 x2 x3 = some r) : CM E l yX9_addsGuest (.code yX9_addsGuest cX9_addsGuest 5 (some .int) :: GA) rm_X9_addsGuest [.ref aS, .int x1, .int x2, .int x3] (W_A E aS 306 vS) (some (.int r.1)) (W_A E aS 306 r.2) := by
  refine CM.of (own := RX9) rfl (by decide) (Nat.le_of_ble_eq_true rfl) ?_
  intro p e s m below meth c A ls hx hb hr hml hown hg hlocks hK hE hA hP hD hS hl
  have hl : lv_has ls 5 [(0, .ref aS), (1, .int x1), (2, .int x2), (3, .int x3)] := hl
  unfold F_X9_addsGuest at hf
  refine lv_aload_n hx hb dX9_addsGuest_0 rfl (lv_at hl 0 rfl) ?_
  refine lv_bipush (v := 7) hx hb dX9_addsGuest_1 (by decide) ?_
  obtain ⟨hi, hf⟩ := ck_o hf
  refine ar_ld hx hb hK hP 0 rfl hi dX9_addsGuest_3 ?_
  refine lv_istore (lv' := [(4, .int (vS (Int32.toNatClampNeg 7))), (0, .ref aS), (1, .int x1), (2, .int x2), (3, .int x3)]) hx hb dX9_addsGuest_4 hl (by decide) rfl (fun ls hl => ?_)
  refine lv_aload_n hx hb dX9_addsGuest_6 rfl (lv_at hl 1 rfl) ?_
  refine lv_iload hx hb dX9_addsGuest_7 (lv_at hl 0 rfl) ?_
  refine lv_iconst (v := 0) hx hb dX9_addsGuest_9 (by decide) ?_
  obtain ⟨u1, hu1, hf⟩ := bn hf
  refine cm_S (As := [.int (vS (Int32.toNatClampNeg 7)), .int 0]) (rest := [.ref aS]) (w2 := (W_A E aS 306 vS)) hx hb hml hown hg (c_X9_guestAt E l (vS (Int32.toNatClampNeg 7)) 0 u1 hu1) cs_X9_guestAt ml_X9_59 ⟨⟨rfl, rfl⟩, Nat.le_of_ble_eq_true rfl, Nat.le_of_ble_eq_true rfl⟩ hK hE hP hD hS hA [] rfl rfl rfl rfl hl.1 rfl (Nat.le_of_ble_eq_true rfl) dX9_addsGuest_10 ⟨Nat.le_of_ble_eq_true rfl, Nat.le_of_ble_eq_true rfl⟩ [.int u1, .ref aS] rfl (fun H locs hP hD hS => ?_)
  refine lv_iload_n hx hb dX9_addsGuest_13 rfl (lv_at hl 2 rfl) ?_
  obtain ⟨hi, hf⟩ := ck_o hf
  refine ar_st (w2 := (W_A E aS 306 (upd vS (Int32.toNatClampNeg u1) x1))) hx hb hK hP hD hS 0 rfl hi rfl dX9_addsGuest_14 (fun H locs hP hD hS => ?_)
  obtain ⟨vS_19, hv, hf⟩ := lt_o hf
  rw [← hv] at hP hD
  clear hv
  refine lv_aload_n hx hb dX9_addsGuest_15 rfl (lv_at hl 1 rfl) ?_
  refine lv_iload hx hb dX9_addsGuest_16 (lv_at hl 0 rfl) ?_
  refine lv_iconst (v := 1) hx hb dX9_addsGuest_18 (by decide) ?_
  obtain ⟨u2, hu2, hf⟩ := bn hf
  refine cm_S (As := [.int (vS (Int32.toNatClampNeg 7)), .int 1]) (rest := [.ref aS]) (w2 := (W_A E aS 306 vS_19)) hx hb hml hown hg (c_X9_guestAt E l (vS (Int32.toNatClampNeg 7)) 1 u2 hu2) cs_X9_guestAt ml_X9_59 ⟨⟨rfl, rfl⟩, Nat.le_of_ble_eq_true rfl, Nat.le_of_ble_eq_true rfl⟩ hK hE hP hD hS hA [] rfl rfl rfl rfl hl.1 rfl (Nat.le_of_ble_eq_true rfl) dX9_addsGuest_19 ⟨Nat.le_of_ble_eq_true rfl, Nat.le_of_ble_eq_true rfl⟩ [.int u2, .ref aS] rfl (fun H locs hP hD hS => ?_)
  refine lv_iload_n hx hb dX9_addsGuest_22 rfl (lv_at hl 3 rfl) ?_
  obtain ⟨hi, hf⟩ := ck_o hf
  refine ar_st (w2 := (W_A E aS 306 (upd vS_19 (Int32.toNatClampNeg u2) x2))) hx hb hK hP hD hS 0 rfl hi rfl dX9_addsGuest_23 (fun H locs hP hD hS => ?_)
  obtain ⟨vS_20, hv, hf⟩ := lt_o hf
  rw [← hv] at hP hD
  clear hv
  refine lv_aload_n hx hb dX9_addsGuest_24 rfl (lv_at hl 1 rfl) ?_
  refine lv_iload hx hb dX9_addsGuest_25 (lv_at hl 0 rfl) ?_
  refine lv_iconst (v := 2) hx hb dX9_addsGuest_27 (by decide) ?_
  obtain ⟨u3, hu3, hf⟩ := bn hf
  refine cm_S (As := [.int (vS (Int32.toNatClampNeg 7)), .int 2]) (rest := [.ref aS]) (w2 := (W_A E aS 306 vS_20)) hx hb hml hown hg (c_X9_guestAt E l (vS (Int32.toNatClampNeg 7)) 2 u3 hu3) cs_X9_guestAt ml_X9_59 ⟨⟨rfl, rfl⟩, Nat.le_of_ble_eq_true rfl, Nat.le_of_ble_eq_true rfl⟩ hK hE hP hD hS hA [] rfl rfl rfl rfl hl.1 rfl (Nat.le_of_ble_eq_true rfl) dX9_addsGuest_28 ⟨Nat.le_of_ble_eq_true rfl, Nat.le_of_ble_eq_true rfl⟩ [.int u3, .ref aS] rfl (fun H locs hP hD hS => ?_)
  refine lv_iload_n hx hb dX9_addsGuest_31 rfl (lv_at hl 4 rfl) ?_
  obtain ⟨hi, hf⟩ := ck_o hf
  refine ar_st (w2 := (W_A E aS 306 (upd vS_20 (Int32.toNatClampNeg u3) x3))) hx hb hK hP hD hS 0 rfl hi rfl dX9_addsGuest_32 (fun H locs hP hD hS => ?_)
  obtain ⟨vS_21, hv, hf⟩ := lt_o hf
  rw [← hv] at hP hD
  clear hv
  refine lv_aload_n hx hb dX9_addsGuest_33 rfl (lv_at hl 1 rfl) ?_
  refine lv_iload hx hb dX9_addsGuest_34 (lv_at hl 0 rfl) ?_
  refine lv_iconst (v := 3) hx hb dX9_addsGuest_36 (by decide) ?_
  obtain ⟨u4, hu4, hf⟩ := bn hf
  refine cm_S (As := [.int (vS (Int32.toNatClampNeg 7)), .int 3]) (rest := [.ref aS]) (w2 := (W_A E aS 306 vS_21)) hx hb hml hown hg (c_X9_guestAt E l (vS (Int32.toNatClampNeg 7)) 3 u4 hu4) cs_X9_guestAt ml_X9_59 ⟨⟨rfl, rfl⟩, Nat.le_of_ble_eq_true rfl, Nat.le_of_ble_eq_true rfl⟩ hK hE hP hD hS hA [] rfl rfl rfl rfl hl.1 rfl (Nat.le_of_ble_eq_true rfl) dX9_addsGuest_37 ⟨Nat.le_of_ble_eq_true rfl, Nat.le_of_ble_eq_true rfl⟩ [.int u4, .ref aS] rfl (fun H locs hP hD hS => ?_)
  refine lv_iconst (v := 0) hx hb dX9_addsGuest_40 (by decide) ?_
  obtain ⟨hi, hf⟩ := ck_o hf
  refine ar_st (w2 := (W_A E aS 306 (upd vS_21 (Int32.toNatClampNeg u4) 0))) hx hb hK hP hD hS 0 rfl hi rfl dX9_addsGuest_41 (fun H locs hP hD hS => ?_)
  obtain ⟨vS_22, hv, hf⟩ := lt_o hf
  rw [← hv] at hP hD
  clear hv
  refine lv_aload_n hx hb dX9_addsGuest_42 rfl (lv_at hl 1 rfl) ?_
  refine lv_iload hx hb dX9_addsGuest_43 (lv_at hl 0 rfl) ?_
  refine lv_iconst (v := 4) hx hb dX9_addsGuest_45 (by decide) ?_
  obtain ⟨u5, hu5, hf⟩ := bn hf
  refine cm_S (As := [.int (vS (Int32.toNatClampNeg 7)), .int 4]) (rest := [.ref aS]) (w2 := (W_A E aS 306 vS_22)) hx hb hml hown hg (c_X9_guestAt E l (vS (Int32.toNatClampNeg 7)) 4 u5 hu5) cs_X9_guestAt ml_X9_59 ⟨⟨rfl, rfl⟩, Nat.le_of_ble_eq_true rfl, Nat.le_of_ble_eq_true rfl⟩ hK hE hP hD hS hA [] rfl rfl rfl rfl hl.1 rfl (Nat.le_of_ble_eq_true rfl) dX9_addsGuest_46 ⟨Nat.le_of_ble_eq_true rfl, Nat.le_of_ble_eq_true rfl⟩ [.int u5, .ref aS] rfl (fun H locs hP hD hS => ?_)
  refine lv_iconst (v := 0) hx hb dX9_addsGuest_49 (by decide) ?_
  obtain ⟨hi, hf⟩ := ck_o hf
  refine ar_st (w2 := (W_A E aS 306 (upd vS_22 (Int32.toNatClampNeg u5) 0))) hx hb hK hP hD hS 0 rfl hi rfl dX9_addsGuest_50 (fun H locs hP hD hS => ?_)
  obtain ⟨vS_23, hv, hf⟩ := lt_o hf
  rw [← hv] at hP hD
  clear hv
  refine lv_aload_n hx hb dX9_addsGuest_51 rfl (lv_at hl 1 rfl) ?_
  refine lv_iload hx hb dX9_addsGuest_52 (lv_at hl 0 rfl) ?_
  refine lv_iconst (v := 5) hx hb dX9_addsGuest_54 (by decide) ?_
  obtain ⟨u6, hu6, hf⟩ := bn hf
  refine cm_S (As := [.int (vS (Int32.toNatClampNeg 7)), .int 5]) (rest := [.ref aS]) (w2 := (W_A E aS 306 vS_23)) hx hb hml hown hg (c_X9_guestAt E l (vS (Int32.toNatClampNeg 7)) 5 u6 hu6) cs_X9_guestAt ml_X9_59 ⟨⟨rfl, rfl⟩, Nat.le_of_ble_eq_true rfl, Nat.le_of_ble_eq_true rfl⟩ hK hE hP hD hS hA [] rfl rfl rfl rfl hl.1 rfl (Nat.le_of_ble_eq_true rfl) dX9_addsGuest_55 ⟨Nat.le_of_ble_eq_true rfl, Nat.le_of_ble_eq_true rfl⟩ [.int u6, .ref aS] rfl (fun H locs hP hD hS => ?_)
  refine lv_iconst (v := 0) hx hb dX9_addsGuest_58 (by decide) ?_
  obtain ⟨hi, hf⟩ := ck_o hf
  refine ar_st (w2 := (W_A E aS 306 (upd vS_23 (Int32.toNatClampNeg u6) 0))) hx hb hK hP hD hS 0 rfl hi rfl dX9_addsGuest_59 (fun H locs hP hD hS => ?_)
  obtain ⟨vS_24, hv, hf⟩ := lt_o hf
  rw [← hv] at hP hD
  clear hv
  refine lv_aload_n hx hb dX9_addsGuest_60 rfl (lv_at hl 1 rfl) ?_
  refine lv_iload hx hb dX9_addsGuest_61 (lv_at hl 0 rfl) ?_
  refine lv_bipush (v := 6) hx hb dX9_addsGuest_63 (by decide) ?_
  obtain ⟨u7, hu7, hf⟩ := bn hf
  refine cm_S (As := [.int (vS (Int32.toNatClampNeg 7)), .int 6]) (rest := [.ref aS]) (w2 := (W_A E aS 306 vS_24)) hx hb hml hown hg (c_X9_guestAt E l (vS (Int32.toNatClampNeg 7)) 6 u7 hu7) cs_X9_guestAt ml_X9_59 ⟨⟨rfl, rfl⟩, Nat.le_of_ble_eq_true rfl, Nat.le_of_ble_eq_true rfl⟩ hK hE hP hD hS hA [] rfl rfl rfl rfl hl.1 rfl (Nat.le_of_ble_eq_true rfl) dX9_addsGuest_65 ⟨Nat.le_of_ble_eq_true rfl, Nat.le_of_ble_eq_true rfl⟩ [.int u7, .ref aS] rfl (fun H locs hP hD hS => ?_)
  refine lv_iconst (v := (-1)) hx hb dX9_addsGuest_68 (by decide) ?_
  obtain ⟨hi, hf⟩ := ck_o hf
  refine ar_st (w2 := (W_A E aS 306 (upd vS_24 (Int32.toNatClampNeg u7) (-1)))) hx hb hK hP hD hS 0 rfl hi rfl dX9_addsGuest_69 (fun H locs hP hD hS => ?_)
  obtain ⟨vS_25, hv, hf⟩ := lt_o hf
  rw [← hv] at hP hD
  clear hv
  refine lv_aload_n hx hb dX9_addsGuest_70 rfl (lv_at hl 1 rfl) ?_
  refine lv_iload hx hb dX9_addsGuest_71 (lv_at hl 0 rfl) ?_
  refine lv_bipush (v := 7) hx hb dX9_addsGuest_73 (by decide) ?_
  obtain ⟨u8, hu8, hf⟩ := bn hf
  refine cm_S (As := [.int (vS (Int32.toNatClampNeg 7)), .int 7]) (rest := [.ref aS]) (w2 := (W_A E aS 306 vS_25)) hx hb hml hown hg (c_X9_guestAt E l (vS (Int32.toNatClampNeg 7)) 7 u8 hu8) cs_X9_guestAt ml_X9_59 ⟨⟨rfl, rfl⟩, Nat.le_of_ble_eq_true rfl, Nat.le_of_ble_eq_true rfl⟩ hK hE hP hD hS hA [] rfl rfl rfl rfl hl.1 rfl (Nat.le_of_ble_eq_true rfl) dX9_addsGuest_75 ⟨Nat.le_of_ble_eq_true rfl, Nat.le_of_ble_eq_true rfl⟩ [.int u8, .ref aS] rfl (fun H locs hP hD hS => ?_)
  refine lv_iconst (v := 0) hx hb dX9_addsGuest_78 (by decide) ?_
  obtain ⟨hi, hf⟩ := ck_o hf
  refine ar_st (w2 := (W_A E aS 306 (upd vS_25 (Int32.toNatClampNeg u8) 0))) hx hb hK hP hD hS 0 rfl hi rfl dX9_addsGuest_79 (fun H locs hP hD hS => ?_)
  obtain ⟨vS_26, hv, hf⟩ := lt_o hf
  rw [← hv] at hP hD
  clear hv
  refine lv_aload_n hx hb dX9_addsGuest_80 rfl (lv_at hl 1 rfl) ?_
  refine lv_bipush (v := 7) hx hb dX9_addsGuest_81 (by decide) ?_
  refine lv_dup2_11 hx hb dX9_addsGuest_83 rfl rfl ?_
  obtain ⟨hi, hf⟩ := ck_o hf
  refine ar_ld hx hb hK hP 0 rfl hi dX9_addsGuest_84 ?_
  refine lv_iconst (v := 1) hx hb dX9_addsGuest_85 (by decide) ?_
  refine lv_iadd hx hb dX9_addsGuest_86 ?_
  obtain ⟨hi, hf⟩ := ck_o hf
  refine ar_st (w2 := (W_A E aS 306 (upd vS_26 (Int32.toNatClampNeg 7) ((vS_26 (Int32.toNatClampNeg 7)) + 1)))) hx hb hK hP hD hS 0 rfl hi rfl dX9_addsGuest_87 (fun H locs hP hD hS => ?_)
  obtain ⟨vS_27, hv, hf⟩ := lt_o hf
  rw [← hv] at hP hD
  clear hv
  refine lv_iload hx hb dX9_addsGuest_88 (lv_at hl 0 rfl) ?_
  obtain rfl := Option.some.inj hf
  exact cm_iret hx hb hr hlocks hP hS dX9_addsGuest_90
def B_X9_guestBy_2 (rec : Int32 → Option (Int32)) (vS : Nat → Int32) (x1 : Int32) (x2 : Int32) : Option (Int32) := ck 7 306 ((if (vS (Int32.toNatClampNeg 7)) ≤ x2 then (some (-1)) else (F_X9_guestAt x2 0).bind (fun u1 => ck u1 306 ((if (vS (Int32.toNatClampNeg u1)) = x1 then (some x2) else (rec (x2 + 1)))))))
def L_X9_guestBy_2 (vS : Nat → Int32) (x1 : Int32) : Nat → Int32 → Option (Int32)
  | 0 => fun _ => none
  | n + 1 => fun x2 => B_X9_guestBy_2 (L_X9_guestBy_2 vS x1 n) vS x1 x2
def F_X9_guestBy (vS : Nat → Int32) (x1 : Int32) : Option (Int32) := (L_X9_guestBy_2 vS x1 FU 0)
abbrev rm_X9_guestBy : Room := { frames := 1, cells := 0, slots := 0, locals := 21 }
set_option maxHeartbeats 4000000 in
set_option maxRecDepth 100000 in
theorem c_X9_guestBy (E : Ev) (l : Launch) (aS : Nat) (vS : Nat → Int32) (x1 : Int32) (r : Int32) (hf : F_X9_guestBy vS x1 = some r) : CM E l yX9_guestBy (.code yX9_guestBy cX9_guestBy 3 (some .int) :: GA) rm_X9_guestBy [.ref aS, .int x1] (W_A E aS 306 vS) (some (.int r)) (W_A E aS 306 vS) := by
  refine CM.of (own := RX9) rfl (by decide) (Nat.le_of_ble_eq_true rfl) ?_
  intro p e s m below meth c A ls hx hb hr hml hown hg hlocks hK hE hA hP hD hS hl
  have hl : lv_has ls 3 [(0, .ref aS), (1, .int x1)] := hl
  have lp_2 : ∀ (n : Nat) (x2 : Int32) (H : Heap) (locs : List Loc) (ls : Array Slot), L_X9_guestBy_2 vS x1 n x2 = some r → va_P E.1 vwCl (W_A E aS 306 vS) H → va_D A (W_A E aS 306 vS) → va_S A s.heap H locs → lv_has ls 3 [(0, .ref aS), (1, .int x1), (2, .int x2)] → W p l e rm_X9_guestBy s m ([.ref aS, .int x1] : List Value).toArray below meth c H locs 0 0 (MQ below (QW E (some (.int r)) (W_A E aS 306 vS) A) ([.ref aS, .int x1] : List Value).toArray s 0 0 A) (F0 m 2 ls []) := by
    intro n
    induction n with
    | zero => intro x2 H locs ls hf; cases hf
    | succ n ih =>
      intro x2 H locs ls hf hP hD hS hl
      replace hf : B_X9_guestBy_2 (L_X9_guestBy_2 vS x1 n) vS x1 x2 = some r := hf
      unfold B_X9_guestBy_2 at hf
      refine lv_iload_n hx hb dX9_guestBy_2 rfl (lv_at hl 2 rfl) ?_
      refine lv_aload_n hx hb dX9_guestBy_3 rfl (lv_at hl 0 rfl) ?_
      refine lv_bipush (v := 7) hx hb dX9_guestBy_4 (by decide) ?_
      obtain ⟨hi, hf⟩ := ck_o hf
      refine ar_ld hx hb hK hP 0 rfl hi dX9_guestBy_6 ?_
      refine lv_icmp_ge (tgt := 29) hx hb dX9_guestBy_7 (by decide) (fun cq => ?_) (fun cq => ?_)
      · have hf := it cq hf
        refine lv_iconst (v := (-1)) hx hb dX9_guestBy_29 (by decide) ?_
        obtain rfl := Option.some.inj hf
        exact cm_iret hx hb hr hlocks hP hS dX9_guestBy_30
      · have hf := ie cq hf
        refine lv_aload_n hx hb dX9_guestBy_10 rfl (lv_at hl 0 rfl) ?_
        refine lv_iload_n hx hb dX9_guestBy_11 rfl (lv_at hl 2 rfl) ?_
        refine lv_iconst (v := 0) hx hb dX9_guestBy_12 (by decide) ?_
        obtain ⟨u1, hu1, hf⟩ := bn hf
        refine cm_S (As := [.int x2, .int 0]) (rest := [.ref aS]) (w2 := (W_A E aS 306 vS)) hx hb hml hown hg (c_X9_guestAt E l x2 0 u1 hu1) cs_X9_guestAt ml_X9_59 ⟨⟨rfl, rfl⟩, Nat.le_of_ble_eq_true rfl, Nat.le_of_ble_eq_true rfl⟩ hK hE hP hD hS hA [] rfl rfl rfl rfl hl.1 rfl (Nat.le_of_ble_eq_true rfl) dX9_guestBy_13 ⟨Nat.le_of_ble_eq_true rfl, Nat.le_of_ble_eq_true rfl⟩ [.int u1, .ref aS] rfl (fun H locs hP hD hS => ?_)
        obtain ⟨hi, hf⟩ := ck_o hf
        refine ar_ld hx hb hK hP 0 rfl hi dX9_guestBy_16 ?_
        refine lv_iload_n hx hb dX9_guestBy_17 rfl (lv_at hl 1 rfl) ?_
        refine lv_icmp_ne (tgt := 23) hx hb dX9_guestBy_18 (by decide) (fun cq => ?_) (fun cq => ?_)
        · have hf := ie cq hf
          refine lv_iinc (v := (x2 + 1)) (lv' := [(2, .int (x2 + 1)), (0, .ref aS), (1, .int x1)]) hx hb dX9_guestBy_23 hl (k := 2) rfl rfl (by decide) rfl (fun ls hl => ?_)
          refine lv_goto (tgt := 2) hx hb dX9_guestBy_26 (by decide) ?_
          exact ih _ _ _ _ hf hP hD hS (lv_sub hl [1, 2, 0] rfl)
        · have hf := it cq hf
          refine lv_iload_n hx hb dX9_guestBy_21 rfl (lv_at hl 2 rfl) ?_
          obtain rfl := Option.some.inj hf
          exact cm_iret hx hb hr hlocks hP hS dX9_guestBy_22
  unfold F_X9_guestBy at hf
  refine lv_iconst (v := 0) hx hb dX9_guestBy_0 (by decide) ?_
  refine lv_istore_n (lv' := [(2, .int 0), (0, .ref aS), (1, .int x1)]) hx hb dX9_guestBy_1 rfl hl (by decide) rfl (fun ls hl => ?_)
  exact lp_2 FU _ _ _ _ hf hP hD hS (lv_sub hl [1, 2, 0] rfl)
def F_X9_addsUmbrella (vS : Nat → Int32) (x1 : Int32) (x2 : Int32) : Option (Int32 × (Nat → Int32)) := ck 8 306 ((F_X9_umbrellaAt (vS (Int32.toNatClampNeg 8)) 0).bind (fun u1 => ck u1 306 (lt (upd vS (Int32.toNatClampNeg u1) x1) (fun vS_9 => (F_X9_umbrellaAt (vS (Int32.toNatClampNeg 8)) 1).bind (fun u2 => ck u2 306 (lt (upd vS_9 (Int32.toNatClampNeg u2) x2) (fun vS_10 => (F_X9_umbrellaAt (vS (Int32.toNatClampNeg 8)) 2).bind (fun u3 => ck u3 306 (lt (upd vS_10 (Int32.toNatClampNeg u3) (-1)) (fun vS_11 => ck 8 306 (ck 8 306 (lt (upd vS_11 (Int32.toNatClampNeg 8) ((vS_11 (Int32.toNatClampNeg 8)) + 1)) (fun vS_12 => (some ((vS (Int32.toNatClampNeg 8)), vS_12)))))))))))))))
abbrev rm_X9_addsUmbrella : Room := { frames := 1, cells := 0, slots := 0, locals := 21 }
set_option maxHeartbeats 4000000 in
set_option maxRecDepth 100000 in
theorem c_X9_addsUmbrella (E : Ev) (l : Launch) (aS : Nat) (vS : Nat → Int32) (x1 : Int32) (x2 : Int32) (r : Int32 × (Nat → Int32)) (hf : F_X9_addsUmbrella vS x1 x2 = some r) : CM E l yX9_addsUmbrella (.code yX9_addsUmbrella cX9_addsUmbrella 4 (some .int) :: GA) rm_X9_addsUmbrella [.ref aS, .int x1, .int x2] (W_A E aS 306 vS) (some (.int r.1)) (W_A E aS 306 r.2) := by
  refine CM.of (own := RX9) rfl (by decide) (Nat.le_of_ble_eq_true rfl) ?_
  intro p e s m below meth c A ls hx hb hr hml hown hg hlocks hK hE hA hP hD hS hl
  have hl : lv_has ls 4 [(0, .ref aS), (1, .int x1), (2, .int x2)] := hl
  unfold F_X9_addsUmbrella at hf
  refine lv_aload_n hx hb dX9_addsUmbrella_0 rfl (lv_at hl 0 rfl) ?_
  refine lv_bipush (v := 8) hx hb dX9_addsUmbrella_1 (by decide) ?_
  obtain ⟨hi, hf⟩ := ck_o hf
  refine ar_ld hx hb hK hP 0 rfl hi dX9_addsUmbrella_3 ?_
  refine lv_istore_n (lv' := [(3, .int (vS (Int32.toNatClampNeg 8))), (0, .ref aS), (1, .int x1), (2, .int x2)]) hx hb dX9_addsUmbrella_4 rfl hl (by decide) rfl (fun ls hl => ?_)
  refine lv_aload_n hx hb dX9_addsUmbrella_5 rfl (lv_at hl 1 rfl) ?_
  refine lv_iload_n hx hb dX9_addsUmbrella_6 rfl (lv_at hl 0 rfl) ?_
  refine lv_iconst (v := 0) hx hb dX9_addsUmbrella_7 (by decide) ?_
  obtain ⟨u1, hu1, hf⟩ := bn hf
  refine cm_S (As := [.int (vS (Int32.toNatClampNeg 8)), .int 0]) (rest := [.ref aS]) (w2 := (W_A E aS 306 vS)) hx hb hml hown hg (c_X9_umbrellaAt E l (vS (Int32.toNatClampNeg 8)) 0 u1 hu1) cs_X9_umbrellaAt ml_X9_63 ⟨⟨rfl, rfl⟩, Nat.le_of_ble_eq_true rfl, Nat.le_of_ble_eq_true rfl⟩ hK hE hP hD hS hA [] rfl rfl rfl rfl hl.1 rfl (Nat.le_of_ble_eq_true rfl) dX9_addsUmbrella_8 ⟨Nat.le_of_ble_eq_true rfl, Nat.le_of_ble_eq_true rfl⟩ [.int u1, .ref aS] rfl (fun H locs hP hD hS => ?_)
  refine lv_iload_n hx hb dX9_addsUmbrella_11 rfl (lv_at hl 2 rfl) ?_
  obtain ⟨hi, hf⟩ := ck_o hf
  refine ar_st (w2 := (W_A E aS 306 (upd vS (Int32.toNatClampNeg u1) x1))) hx hb hK hP hD hS 0 rfl hi rfl dX9_addsUmbrella_12 (fun H locs hP hD hS => ?_)
  obtain ⟨vS_9, hv, hf⟩ := lt_o hf
  rw [← hv] at hP hD
  clear hv
  refine lv_aload_n hx hb dX9_addsUmbrella_13 rfl (lv_at hl 1 rfl) ?_
  refine lv_iload_n hx hb dX9_addsUmbrella_14 rfl (lv_at hl 0 rfl) ?_
  refine lv_iconst (v := 1) hx hb dX9_addsUmbrella_15 (by decide) ?_
  obtain ⟨u2, hu2, hf⟩ := bn hf
  refine cm_S (As := [.int (vS (Int32.toNatClampNeg 8)), .int 1]) (rest := [.ref aS]) (w2 := (W_A E aS 306 vS_9)) hx hb hml hown hg (c_X9_umbrellaAt E l (vS (Int32.toNatClampNeg 8)) 1 u2 hu2) cs_X9_umbrellaAt ml_X9_63 ⟨⟨rfl, rfl⟩, Nat.le_of_ble_eq_true rfl, Nat.le_of_ble_eq_true rfl⟩ hK hE hP hD hS hA [] rfl rfl rfl rfl hl.1 rfl (Nat.le_of_ble_eq_true rfl) dX9_addsUmbrella_16 ⟨Nat.le_of_ble_eq_true rfl, Nat.le_of_ble_eq_true rfl⟩ [.int u2, .ref aS] rfl (fun H locs hP hD hS => ?_)
  refine lv_iload_n hx hb dX9_addsUmbrella_19 rfl (lv_at hl 3 rfl) ?_
  obtain ⟨hi, hf⟩ := ck_o hf
  refine ar_st (w2 := (W_A E aS 306 (upd vS_9 (Int32.toNatClampNeg u2) x2))) hx hb hK hP hD hS 0 rfl hi rfl dX9_addsUmbrella_20 (fun H locs hP hD hS => ?_)
  obtain ⟨vS_10, hv, hf⟩ := lt_o hf
  rw [← hv] at hP hD
  clear hv
  refine lv_aload_n hx hb dX9_addsUmbrella_21 rfl (lv_at hl 1 rfl) ?_
  refine lv_iload_n hx hb dX9_addsUmbrella_22 rfl (lv_at hl 0 rfl) ?_
  refine lv_iconst (v := 2) hx hb dX9_addsUmbrella_23 (by decide) ?_
  obtain ⟨u3, hu3, hf⟩ := bn hf
  refine cm_S (As := [.int (vS (Int32.toNatClampNeg 8)), .int 2]) (rest := [.ref aS]) (w2 := (W_A E aS 306 vS_10)) hx hb hml hown hg (c_X9_umbrellaAt E l (vS (Int32.toNatClampNeg 8)) 2 u3 hu3) cs_X9_umbrellaAt ml_X9_63 ⟨⟨rfl, rfl⟩, Nat.le_of_ble_eq_true rfl, Nat.le_of_ble_eq_true rfl⟩ hK hE hP hD hS hA [] rfl rfl rfl rfl hl.1 rfl (Nat.le_of_ble_eq_true rfl) dX9_addsUmbrella_24 ⟨Nat.le_of_ble_eq_true rfl, Nat.le_of_ble_eq_true rfl⟩ [.int u3, .ref aS] rfl (fun H locs hP hD hS => ?_)
  refine lv_iconst (v := (-1)) hx hb dX9_addsUmbrella_27 (by decide) ?_
  obtain ⟨hi, hf⟩ := ck_o hf
  refine ar_st (w2 := (W_A E aS 306 (upd vS_10 (Int32.toNatClampNeg u3) (-1)))) hx hb hK hP hD hS 0 rfl hi rfl dX9_addsUmbrella_28 (fun H locs hP hD hS => ?_)
  obtain ⟨vS_11, hv, hf⟩ := lt_o hf
  rw [← hv] at hP hD
  clear hv
  refine lv_aload_n hx hb dX9_addsUmbrella_29 rfl (lv_at hl 1 rfl) ?_
  refine lv_bipush (v := 8) hx hb dX9_addsUmbrella_30 (by decide) ?_
  refine lv_dup2_11 hx hb dX9_addsUmbrella_32 rfl rfl ?_
  obtain ⟨hi, hf⟩ := ck_o hf
  refine ar_ld hx hb hK hP 0 rfl hi dX9_addsUmbrella_33 ?_
  refine lv_iconst (v := 1) hx hb dX9_addsUmbrella_34 (by decide) ?_
  refine lv_iadd hx hb dX9_addsUmbrella_35 ?_
  obtain ⟨hi, hf⟩ := ck_o hf
  refine ar_st (w2 := (W_A E aS 306 (upd vS_11 (Int32.toNatClampNeg 8) ((vS_11 (Int32.toNatClampNeg 8)) + 1)))) hx hb hK hP hD hS 0 rfl hi rfl dX9_addsUmbrella_36 (fun H locs hP hD hS => ?_)
  obtain ⟨vS_12, hv, hf⟩ := lt_o hf
  rw [← hv] at hP hD
  clear hv
  refine lv_iload_n hx hb dX9_addsUmbrella_37 rfl (lv_at hl 0 rfl) ?_
  obtain rfl := Option.some.inj hf
  exact cm_iret hx hb hr hlocks hP hS dX9_addsUmbrella_38
def F_X9_isAway (vS : Nat → Int32) (x1 : Int32) : Option (Int32) := (F_X9_guestAt x1 3).bind (fun u1 => ck u1 306 ((some (if (vS (Int32.toNatClampNeg u1)) = 1 then 1 else 0))))
abbrev rm_X9_isAway : Room := { frames := 1, cells := 0, slots := 0, locals := 21 }
set_option maxHeartbeats 4000000 in
set_option maxRecDepth 100000 in
theorem c_X9_isAway (E : Ev) (l : Launch) (aS : Nat) (vS : Nat → Int32) (x1 : Int32) (r : Int32) (hf : F_X9_isAway vS x1 = some r) : CM E l yX9_isAway (.code yX9_isAway cX9_isAway 2 (some .boolean) :: GA) rm_X9_isAway [.ref aS, .int x1] (W_A E aS 306 vS) (some (.int r)) (W_A E aS 306 vS) := by
  refine CM.of (own := RX9) rfl (by decide) (Nat.le_of_ble_eq_true rfl) ?_
  intro p e s m below meth c A ls hx hb hr hml hown hg hlocks hK hE hA hP hD hS hl
  have hl : lv_has ls 2 [(0, .ref aS), (1, .int x1)] := hl
  unfold F_X9_isAway at hf
  refine lv_aload_n hx hb dX9_isAway_0 rfl (lv_at hl 0 rfl) ?_
  refine lv_iload_n hx hb dX9_isAway_1 rfl (lv_at hl 1 rfl) ?_
  refine lv_iconst (v := 3) hx hb dX9_isAway_2 (by decide) ?_
  obtain ⟨u1, hu1, hf⟩ := bn hf
  refine cm_S (As := [.int x1, .int 3]) (rest := [.ref aS]) (w2 := (W_A E aS 306 vS)) hx hb hml hown hg (c_X9_guestAt E l x1 3 u1 hu1) cs_X9_guestAt ml_X9_59 ⟨⟨rfl, rfl⟩, Nat.le_of_ble_eq_true rfl, Nat.le_of_ble_eq_true rfl⟩ hK hE hP hD hS hA [] rfl rfl rfl rfl hl.1 rfl (Nat.le_of_ble_eq_true rfl) dX9_isAway_3 ⟨Nat.le_of_ble_eq_true rfl, Nat.le_of_ble_eq_true rfl⟩ [.int u1, .ref aS] rfl (fun H locs hP hD hS => ?_)
  obtain ⟨hi, hf⟩ := ck_o hf
  refine ar_ld hx hb hK hP 0 rfl hi dX9_isAway_6 ?_
  refine lv_iconst (v := 1) hx hb dX9_isAway_7 (by decide) ?_
  refine wj (F0 m 16 ls [.int (if (vS (Int32.toNatClampNeg u1)) = 1 then 1 else 0)]) ?_ (fun jk => ?_)
  rotate_left
  · refine lv_icmp_ne (tgt := 15) hx hb dX9_isAway_8 (by decide) (fun cq => ?_) (fun cq => ?_)
    · rw [if_neg cq] at jk
      refine lv_iconst (v := 0) hx hb dX9_isAway_15 (by decide) ?_
      exact jk
    · rw [if_pos cq] at jk
      refine lv_iconst (v := 1) hx hb dX9_isAway_11 (by decide) ?_
      refine lv_goto (tgt := 16) hx hb dX9_isAway_12 (by decide) ?_
      exact jk
  obtain rfl := Option.some.inj hf
  exact cm_zret (v := (if (vS (Int32.toNatClampNeg u1)) = 1 then 1 else 0)) hx hb hr hlocks hP hS (by split <;> rfl) dX9_isAway_16
def F_X9_stands (vS : Nat → Int32) (x1 : Int32) : Option (Int32) := (F_X9_umbrellaAt x1 2).bind (fun u1 => ck u1 306 ((some (if 0 ≤ (vS (Int32.toNatClampNeg u1)) then 0 else 1))))
abbrev rm_X9_stands : Room := { frames := 1, cells := 0, slots := 0, locals := 21 }
set_option maxHeartbeats 4000000 in
set_option maxRecDepth 100000 in
theorem c_X9_stands (E : Ev) (l : Launch) (aS : Nat) (vS : Nat → Int32) (x1 : Int32) (r : Int32) (hf : F_X9_stands vS x1 = some r) : CM E l yX9_stands (.code yX9_stands cX9_stands 2 (some .boolean) :: GA) rm_X9_stands [.ref aS, .int x1] (W_A E aS 306 vS) (some (.int r)) (W_A E aS 306 vS) := by
  refine CM.of (own := RX9) rfl (by decide) (Nat.le_of_ble_eq_true rfl) ?_
  intro p e s m below meth c A ls hx hb hr hml hown hg hlocks hK hE hA hP hD hS hl
  have hl : lv_has ls 2 [(0, .ref aS), (1, .int x1)] := hl
  unfold F_X9_stands at hf
  refine lv_aload_n hx hb dX9_stands_0 rfl (lv_at hl 0 rfl) ?_
  refine lv_iload_n hx hb dX9_stands_1 rfl (lv_at hl 1 rfl) ?_
  refine lv_iconst (v := 2) hx hb dX9_stands_2 (by decide) ?_
  obtain ⟨u1, hu1, hf⟩ := bn hf
  refine cm_S (As := [.int x1, .int 2]) (rest := [.ref aS]) (w2 := (W_A E aS 306 vS)) hx hb hml hown hg (c_X9_umbrellaAt E l x1 2 u1 hu1) cs_X9_umbrellaAt ml_X9_63 ⟨⟨rfl, rfl⟩, Nat.le_of_ble_eq_true rfl, Nat.le_of_ble_eq_true rfl⟩ hK hE hP hD hS hA [] rfl rfl rfl rfl hl.1 rfl (Nat.le_of_ble_eq_true rfl) dX9_stands_3 ⟨Nat.le_of_ble_eq_true rfl, Nat.le_of_ble_eq_true rfl⟩ [.int u1, .ref aS] rfl (fun H locs hP hD hS => ?_)
  obtain ⟨hi, hf⟩ := ck_o hf
  refine ar_ld hx hb hK hP 0 rfl hi dX9_stands_6 ?_
  refine wj (F0 m 15 ls [.int (if 0 ≤ (vS (Int32.toNatClampNeg u1)) then 0 else 1)]) ?_ (fun jk => ?_)
  rotate_left
  · refine lv_if_ge (tgt := 14) hx hb dX9_stands_7 (by decide) (fun cq => ?_) (fun cq => ?_)
    · rw [if_pos cq] at jk
      refine lv_iconst (v := 0) hx hb dX9_stands_14 (by decide) ?_
      exact jk
    · rw [if_neg cq] at jk
      refine lv_iconst (v := 1) hx hb dX9_stands_10 (by decide) ?_
      refine lv_goto (tgt := 15) hx hb dX9_stands_11 (by decide) ?_
      exact jk
  obtain rfl := Option.some.inj hf
  exact cm_zret (v := (if 0 ≤ (vS (Int32.toNatClampNeg u1)) then 0 else 1)) hx hb hr hlocks hP hS (by split <;> rfl) dX9_stands_15
def F_X9_isDry (vS : Nat → Int32) (x1 : Int32) : Option (Int32) := (F_X9_stands vS x1).bind (fun u1 => (if u1 = 0 then (some 0) else (F_X9_umbrellaAt x1 1).bind (fun u2 => ck u2 306 ((if 50 < (vS (Int32.toNatClampNeg u2)) then (some 0) else (some 1))))))
abbrev rm_X9_isDry : Room := { frames := 2, cells := 0, slots := 0, locals := 42 }
set_option maxHeartbeats 4000000 in
set_option maxRecDepth 100000 in
theorem c_X9_isDry (E : Ev) (l : Launch) (aS : Nat) (vS : Nat → Int32) (x1 : Int32) (r : Int32) (hf : F_X9_isDry vS x1 = some r) : CM E l yX9_isDry (.code yX9_isDry cX9_isDry 2 (some .boolean) :: GA) rm_X9_isDry [.ref aS, .int x1] (W_A E aS 306 vS) (some (.int r)) (W_A E aS 306 vS) := by
  refine CM.of (own := RX9) rfl (by decide) (Nat.le_of_ble_eq_true rfl) ?_
  intro p e s m below meth c A ls hx hb hr hml hown hg hlocks hK hE hA hP hD hS hl
  have hl : lv_has ls 2 [(0, .ref aS), (1, .int x1)] := hl
  unfold F_X9_isDry at hf
  refine lv_aload_n hx hb dX9_isDry_0 rfl (lv_at hl 0 rfl) ?_
  refine lv_iload_n hx hb dX9_isDry_1 rfl (lv_at hl 1 rfl) ?_
  obtain ⟨u1, hu1, hf⟩ := bn hf
  refine cm_S (As := [.ref aS, .int x1]) (rest := []) (w2 := (W_A E aS 306 vS)) hx hb hml hown hg (c_X9_stands E l aS vS x1 u1 hu1) cs_X9_stands ml_X9_66 ⟨⟨rfl, rfl⟩, Nat.le_of_ble_eq_true rfl, Nat.le_of_ble_eq_true rfl⟩ hK hE hP hD hS hA [true] rfl rfl rfl rfl hl.1 rfl (Nat.le_of_ble_eq_true rfl) dX9_isDry_2 ⟨Nat.le_of_ble_eq_true rfl, Nat.le_of_ble_eq_true rfl⟩ [.int u1] rfl (fun H locs hP hD hS => ?_)
  refine lv_if_eq (tgt := 24) hx hb dX9_isDry_5 (by decide) (fun cq => ?_) (fun cq => ?_)
  · have hf := it cq hf
    refine lv_iconst (v := 0) hx hb dX9_isDry_24 (by decide) ?_
    obtain rfl := Option.some.inj hf
    exact cm_zret (v := 0) hx hb hr hlocks hP hS rfl dX9_isDry_25
  · have hf := ie cq hf
    refine lv_aload_n hx hb dX9_isDry_8 rfl (lv_at hl 0 rfl) ?_
    refine lv_iload_n hx hb dX9_isDry_9 rfl (lv_at hl 1 rfl) ?_
    refine lv_iconst (v := 1) hx hb dX9_isDry_10 (by decide) ?_
    obtain ⟨u2, hu2, hf⟩ := bn hf
    refine cm_S (As := [.int x1, .int 1]) (rest := [.ref aS]) (w2 := (W_A E aS 306 vS)) hx hb hml hown hg (c_X9_umbrellaAt E l x1 1 u2 hu2) cs_X9_umbrellaAt ml_X9_63 ⟨⟨rfl, rfl⟩, Nat.le_of_ble_eq_true rfl, Nat.le_of_ble_eq_true rfl⟩ hK hE hP hD hS hA [] rfl rfl rfl rfl hl.1 rfl (Nat.le_of_ble_eq_true rfl) dX9_isDry_11 ⟨Nat.le_of_ble_eq_true rfl, Nat.le_of_ble_eq_true rfl⟩ [.int u2, .ref aS] rfl (fun H locs hP hD hS => ?_)
    obtain ⟨hi, hf⟩ := ck_o hf
    refine ar_ld hx hb hK hP 0 rfl hi dX9_isDry_14 ?_
    refine lv_bipush (v := 50) hx hb dX9_isDry_15 (by decide) ?_
    refine lv_icmp_gt (tgt := 24) hx hb dX9_isDry_17 (by decide) (fun cq => ?_) (fun cq => ?_)
    · have hf := it cq hf
      refine lv_iconst (v := 0) hx hb dX9_isDry_24 (by decide) ?_
      obtain rfl := Option.some.inj hf
      exact cm_zret (v := 0) hx hb hr hlocks hP hS rfl dX9_isDry_25
    · have hf := ie cq hf
      refine lv_iconst (v := 1) hx hb dX9_isDry_20 (by decide) ?_
      refine lv_goto (tgt := 25) hx hb dX9_isDry_21 (by decide) ?_
      obtain rfl := Option.some.inj hf
      exact cm_zret (v := 1) hx hb hr hlocks hP hS rfl dX9_isDry_25
def B_X9_ownFor_2 (rec : Int32 → Option (Int32)) (vS : Nat → Int32) (x1 : Int32) (x2 : Int32) : Option (Int32) := ck 8 306 ((if (vS (Int32.toNatClampNeg 8)) ≤ x2 then (some (-1)) else (F_X9_isDry vS x2).bind (fun u1 => (if u1 = 0 then (rec (x2 + 1)) else (F_X9_umbrellaAt x2 0).bind (fun u2 => ck u2 306 ((if (vS (Int32.toNatClampNeg u2)) = x1 then (some x2) else (rec (x2 + 1)))))))))
def L_X9_ownFor_2 (vS : Nat → Int32) (x1 : Int32) : Nat → Int32 → Option (Int32)
  | 0 => fun _ => none
  | n + 1 => fun x2 => B_X9_ownFor_2 (L_X9_ownFor_2 vS x1 n) vS x1 x2
def F_X9_ownFor (vS : Nat → Int32) (x1 : Int32) : Option (Int32) := (L_X9_ownFor_2 vS x1 FU 0)
abbrev rm_X9_ownFor : Room := { frames := 3, cells := 0, slots := 0, locals := 63 }
set_option maxHeartbeats 4000000 in
set_option maxRecDepth 100000 in
theorem c_X9_ownFor (E : Ev) (l : Launch) (aS : Nat) (vS : Nat → Int32) (x1 : Int32) (r : Int32) (hf : F_X9_ownFor vS x1 = some r) : CM E l yX9_ownFor (.code yX9_ownFor cX9_ownFor 3 (some .int) :: GA) rm_X9_ownFor [.ref aS, .int x1] (W_A E aS 306 vS) (some (.int r)) (W_A E aS 306 vS) := by
  refine CM.of (own := RX9) rfl (by decide) (Nat.le_of_ble_eq_true rfl) ?_
  intro p e s m below meth c A ls hx hb hr hml hown hg hlocks hK hE hA hP hD hS hl
  have hl : lv_has ls 3 [(0, .ref aS), (1, .int x1)] := hl
  have lp_2 : ∀ (n : Nat) (x2 : Int32) (H : Heap) (locs : List Loc) (ls : Array Slot), L_X9_ownFor_2 vS x1 n x2 = some r → va_P E.1 vwCl (W_A E aS 306 vS) H → va_D A (W_A E aS 306 vS) → va_S A s.heap H locs → lv_has ls 3 [(0, .ref aS), (1, .int x1), (2, .int x2)] → W p l e rm_X9_ownFor s m ([.ref aS, .int x1] : List Value).toArray below meth c H locs 0 0 (MQ below (QW E (some (.int r)) (W_A E aS 306 vS) A) ([.ref aS, .int x1] : List Value).toArray s 0 0 A) (F0 m 2 ls []) := by
    intro n
    induction n with
    | zero => intro x2 H locs ls hf; cases hf
    | succ n ih =>
      intro x2 H locs ls hf hP hD hS hl
      replace hf : B_X9_ownFor_2 (L_X9_ownFor_2 vS x1 n) vS x1 x2 = some r := hf
      unfold B_X9_ownFor_2 at hf
      refine lv_iload_n hx hb dX9_ownFor_2 rfl (lv_at hl 2 rfl) ?_
      refine lv_aload_n hx hb dX9_ownFor_3 rfl (lv_at hl 0 rfl) ?_
      refine lv_bipush (v := 8) hx hb dX9_ownFor_4 (by decide) ?_
      obtain ⟨hi, hf⟩ := ck_o hf
      refine ar_ld hx hb hK hP 0 rfl hi dX9_ownFor_6 ?_
      refine lv_icmp_ge (tgt := 37) hx hb dX9_ownFor_7 (by decide) (fun cq => ?_) (fun cq => ?_)
      · have hf := it cq hf
        refine lv_iconst (v := (-1)) hx hb dX9_ownFor_37 (by decide) ?_
        obtain rfl := Option.some.inj hf
        exact cm_iret hx hb hr hlocks hP hS dX9_ownFor_38
      · have hf := ie cq hf
        refine lv_aload_n hx hb dX9_ownFor_10 rfl (lv_at hl 0 rfl) ?_
        refine lv_iload_n hx hb dX9_ownFor_11 rfl (lv_at hl 2 rfl) ?_
        obtain ⟨u1, hu1, hf⟩ := bn hf
        refine cm_S (As := [.ref aS, .int x2]) (rest := []) (w2 := (W_A E aS 306 vS)) hx hb hml hown hg (c_X9_isDry E l aS vS x2 u1 hu1) cs_X9_isDry ml_X9_70 ⟨⟨rfl, rfl⟩, Nat.le_of_ble_eq_true rfl, Nat.le_of_ble_eq_true rfl⟩ hK hE hP hD hS hA [true] rfl rfl rfl rfl hl.1 rfl (Nat.le_of_ble_eq_true rfl) dX9_ownFor_12 ⟨Nat.le_of_ble_eq_true rfl, Nat.le_of_ble_eq_true rfl⟩ [.int u1] rfl (fun H locs hP hD hS => ?_)
        refine lv_if_eq (tgt := 31) hx hb dX9_ownFor_15 (by decide) (fun cq => ?_) (fun cq => ?_)
        · have hf := it cq hf
          refine lv_iinc (v := (x2 + 1)) (lv' := [(2, .int (x2 + 1)), (0, .ref aS), (1, .int x1)]) hx hb dX9_ownFor_31 hl (k := 2) rfl rfl (by decide) rfl (fun ls hl => ?_)
          refine lv_goto (tgt := 2) hx hb dX9_ownFor_34 (by decide) ?_
          exact ih _ _ _ _ hf hP hD hS (lv_sub hl [1, 2, 0] rfl)
        · have hf := ie cq hf
          refine lv_aload_n hx hb dX9_ownFor_18 rfl (lv_at hl 0 rfl) ?_
          refine lv_iload_n hx hb dX9_ownFor_19 rfl (lv_at hl 2 rfl) ?_
          refine lv_iconst (v := 0) hx hb dX9_ownFor_20 (by decide) ?_
          obtain ⟨u2, hu2, hf⟩ := bn hf
          refine cm_S (As := [.int x2, .int 0]) (rest := [.ref aS]) (w2 := (W_A E aS 306 vS)) hx hb hml hown hg (c_X9_umbrellaAt E l x2 0 u2 hu2) cs_X9_umbrellaAt ml_X9_63 ⟨⟨rfl, rfl⟩, Nat.le_of_ble_eq_true rfl, Nat.le_of_ble_eq_true rfl⟩ hK hE hP hD hS hA [] rfl rfl rfl rfl hl.1 rfl (Nat.le_of_ble_eq_true rfl) dX9_ownFor_21 ⟨Nat.le_of_ble_eq_true rfl, Nat.le_of_ble_eq_true rfl⟩ [.int u2, .ref aS] rfl (fun H locs hP hD hS => ?_)
          obtain ⟨hi, hf⟩ := ck_o hf
          refine ar_ld hx hb hK hP 0 rfl hi dX9_ownFor_24 ?_
          refine lv_iload_n hx hb dX9_ownFor_25 rfl (lv_at hl 1 rfl) ?_
          refine lv_icmp_ne (tgt := 31) hx hb dX9_ownFor_26 (by decide) (fun cq => ?_) (fun cq => ?_)
          · have hf := ie cq hf
            refine lv_iinc (v := (x2 + 1)) (lv' := [(2, .int (x2 + 1)), (0, .ref aS), (1, .int x1)]) hx hb dX9_ownFor_31 hl (k := 2) rfl rfl (by decide) rfl (fun ls hl => ?_)
            refine lv_goto (tgt := 2) hx hb dX9_ownFor_34 (by decide) ?_
            exact ih _ _ _ _ hf hP hD hS (lv_sub hl [1, 2, 0] rfl)
          · have hf := it cq hf
            refine lv_iload_n hx hb dX9_ownFor_29 rfl (lv_at hl 2 rfl) ?_
            obtain rfl := Option.some.inj hf
            exact cm_iret hx hb hr hlocks hP hS dX9_ownFor_30
  unfold F_X9_ownFor at hf
  refine lv_iconst (v := 0) hx hb dX9_ownFor_0 (by decide) ?_
  refine lv_istore_n (lv' := [(2, .int 0), (0, .ref aS), (1, .int x1)]) hx hb dX9_ownFor_1 rfl hl (by decide) rfl (fun ls hl => ?_)
  exact lp_2 FU _ _ _ _ hf hP hD hS (lv_sub hl [1, 2, 0] rfl)
def B_X9_driest_4 (rec : Int32 → Int32 → Option (Int32)) (vS : Nat → Int32) (x1 : Int32) (x2 : Int32) : Option (Int32) := ck 8 306 ((if (vS (Int32.toNatClampNeg 8)) ≤ x2 then (some x1) else (F_X9_isDry vS x2).bind (fun u1 => (if u1 = 0 then (rec x1 (x2 + 1)) else (if x1 < 0 then (rec x2 (x2 + 1)) else (F_X9_umbrellaAt x2 1).bind (fun u2 => ck u2 306 ((F_X9_umbrellaAt x1 1).bind (fun u3 => ck u3 306 ((if (vS (Int32.toNatClampNeg u3)) ≤ (vS (Int32.toNatClampNeg u2)) then (rec x1 (x2 + 1)) else (rec x2 (x2 + 1))))))))))))
def L_X9_driest_4 (vS : Nat → Int32) : Nat → Int32 → Int32 → Option (Int32)
  | 0 => fun _ _ => none
  | n + 1 => fun x1 x2 => B_X9_driest_4 (L_X9_driest_4 vS n) vS x1 x2
def F_X9_driest (vS : Nat → Int32) : Option (Int32) := (L_X9_driest_4 vS FU (-1) 0)
abbrev rm_X9_driest : Room := { frames := 3, cells := 0, slots := 0, locals := 63 }
set_option maxHeartbeats 4000000 in
set_option maxRecDepth 100000 in
theorem c_X9_driest (E : Ev) (l : Launch) (aS : Nat) (vS : Nat → Int32) (r : Int32) (hf : F_X9_driest vS = some r) : CM E l yX9_driest (.code yX9_driest cX9_driest 3 (some .int) :: GA) rm_X9_driest [.ref aS] (W_A E aS 306 vS) (some (.int r)) (W_A E aS 306 vS) := by
  refine CM.of (own := RX9) rfl (by decide) (Nat.le_of_ble_eq_true rfl) ?_
  intro p e s m below meth c A ls hx hb hr hml hown hg hlocks hK hE hA hP hD hS hl
  have hl : lv_has ls 3 [(0, .ref aS)] := hl
  have lp_4 : ∀ (n : Nat) (x1 : Int32) (x2 : Int32) (H : Heap) (locs : List Loc) (ls : Array Slot), L_X9_driest_4 vS n x1 x2 = some r → va_P E.1 vwCl (W_A E aS 306 vS) H → va_D A (W_A E aS 306 vS) → va_S A s.heap H locs → lv_has ls 3 [(0, .ref aS), (1, .int x1), (2, .int x2)] → W p l e rm_X9_driest s m ([.ref aS] : List Value).toArray below meth c H locs 0 0 (MQ below (QW E (some (.int r)) (W_A E aS 306 vS) A) ([.ref aS] : List Value).toArray s 0 0 A) (F0 m 4 ls []) := by
    intro n
    induction n with
    | zero => intro x1 x2 H locs ls hf; cases hf
    | succ n ih =>
      intro x1 x2 H locs ls hf hP hD hS hl
      replace hf : B_X9_driest_4 (L_X9_driest_4 vS n) vS x1 x2 = some r := hf
      unfold B_X9_driest_4 at hf
      refine lv_iload_n hx hb dX9_driest_4 rfl (lv_at hl 2 rfl) ?_
      refine lv_aload_n hx hb dX9_driest_5 rfl (lv_at hl 0 rfl) ?_
      refine lv_bipush (v := 8) hx hb dX9_driest_6 (by decide) ?_
      obtain ⟨hi, hf⟩ := ck_o hf
      refine ar_ld hx hb hK hP 0 rfl hi dX9_driest_8 ?_
      refine lv_icmp_ge (tgt := 52) hx hb dX9_driest_9 (by decide) (fun cq => ?_) (fun cq => ?_)
      · have hf := it cq hf
        refine lv_iload_n hx hb dX9_driest_52 rfl (lv_at hl 1 rfl) ?_
        obtain rfl := Option.some.inj hf
        exact cm_iret hx hb hr hlocks hP hS dX9_driest_53
      · have hf := ie cq hf
        refine lv_aload_n hx hb dX9_driest_12 rfl (lv_at hl 0 rfl) ?_
        refine lv_iload_n hx hb dX9_driest_13 rfl (lv_at hl 2 rfl) ?_
        obtain ⟨u1, hu1, hf⟩ := bn hf
        refine cm_S (As := [.ref aS, .int x2]) (rest := []) (w2 := (W_A E aS 306 vS)) hx hb hml hown hg (c_X9_isDry E l aS vS x2 u1 hu1) cs_X9_isDry ml_X9_70 ⟨⟨rfl, rfl⟩, Nat.le_of_ble_eq_true rfl, Nat.le_of_ble_eq_true rfl⟩ hK hE hP hD hS hA [true] rfl rfl rfl rfl hl.1 rfl (Nat.le_of_ble_eq_true rfl) dX9_driest_14 ⟨Nat.le_of_ble_eq_true rfl, Nat.le_of_ble_eq_true rfl⟩ [.int u1] rfl (fun H locs hP hD hS => ?_)
        refine lv_if_ne (tgt := 23) hx hb dX9_driest_17 (by decide) (fun cq => ?_) (fun cq => ?_)
        · have hf := ie cq hf
          refine lv_iload_n hx hb dX9_driest_23 rfl (lv_at hl 1 rfl) ?_
          refine lv_if_lt (tgt := 44) hx hb dX9_driest_24 (by decide) (fun cq => ?_) (fun cq => ?_)
          · have hf := it cq hf
            refine lv_iload_n hx hb dX9_driest_44 rfl (lv_at hl 2 rfl) ?_
            refine lv_istore_n (lv' := [(1, .int x2), (0, .ref aS), (2, .int x2)]) hx hb dX9_driest_45 rfl hl (by decide) rfl (fun ls hl => ?_)
            refine lv_iinc (v := (x2 + 1)) (lv' := [(2, .int (x2 + 1)), (1, .int x2), (0, .ref aS)]) hx hb dX9_driest_46 hl (k := 2) rfl rfl (by decide) rfl (fun ls hl => ?_)
            refine lv_goto (tgt := 4) hx hb dX9_driest_49 (by decide) ?_
            exact ih _ _ _ _ _ hf hP hD hS (lv_sub hl [2, 1, 0] rfl)
          · have hf := ie cq hf
            refine lv_aload_n hx hb dX9_driest_27 rfl (lv_at hl 0 rfl) ?_
            refine lv_iload_n hx hb dX9_driest_28 rfl (lv_at hl 2 rfl) ?_
            refine lv_iconst (v := 1) hx hb dX9_driest_29 (by decide) ?_
            obtain ⟨u2, hu2, hf⟩ := bn hf
            refine cm_S (As := [.int x2, .int 1]) (rest := [.ref aS]) (w2 := (W_A E aS 306 vS)) hx hb hml hown hg (c_X9_umbrellaAt E l x2 1 u2 hu2) cs_X9_umbrellaAt ml_X9_63 ⟨⟨rfl, rfl⟩, Nat.le_of_ble_eq_true rfl, Nat.le_of_ble_eq_true rfl⟩ hK hE hP hD hS hA [] rfl rfl rfl rfl hl.1 rfl (Nat.le_of_ble_eq_true rfl) dX9_driest_30 ⟨Nat.le_of_ble_eq_true rfl, Nat.le_of_ble_eq_true rfl⟩ [.int u2, .ref aS] rfl (fun H locs hP hD hS => ?_)
            obtain ⟨hi, hf⟩ := ck_o hf
            refine ar_ld hx hb hK hP 0 rfl hi dX9_driest_33 ?_
            refine lv_aload_n hx hb dX9_driest_34 rfl (lv_at hl 0 rfl) ?_
            refine lv_iload_n hx hb dX9_driest_35 rfl (lv_at hl 1 rfl) ?_
            refine lv_iconst (v := 1) hx hb dX9_driest_36 (by decide) ?_
            obtain ⟨u3, hu3, hf⟩ := bn hf
            refine cm_S (As := [.int x1, .int 1]) (rest := [.ref aS, .int (vS (Int32.toNatClampNeg u2))]) (w2 := (W_A E aS 306 vS)) hx hb hml hown hg (c_X9_umbrellaAt E l x1 1 u3 hu3) cs_X9_umbrellaAt ml_X9_63 ⟨⟨rfl, rfl⟩, Nat.le_of_ble_eq_true rfl, Nat.le_of_ble_eq_true rfl⟩ hK hE hP hD hS hA [] rfl rfl rfl rfl hl.1 rfl (Nat.le_of_ble_eq_true rfl) dX9_driest_37 ⟨Nat.le_of_ble_eq_true rfl, Nat.le_of_ble_eq_true rfl⟩ [.int u3, .ref aS, .int (vS (Int32.toNatClampNeg u2))] rfl (fun H locs hP hD hS => ?_)
            obtain ⟨hi, hf⟩ := ck_o hf
            refine ar_ld hx hb hK hP 0 rfl hi dX9_driest_40 ?_
            refine lv_icmp_ge (tgt := 46) hx hb dX9_driest_41 (by decide) (fun cq => ?_) (fun cq => ?_)
            · have hf := it cq hf
              refine lv_iinc (v := (x2 + 1)) (lv' := [(2, .int (x2 + 1)), (0, .ref aS), (1, .int x1)]) hx hb dX9_driest_46 hl (k := 2) rfl rfl (by decide) rfl (fun ls hl => ?_)
              refine lv_goto (tgt := 4) hx hb dX9_driest_49 (by decide) ?_
              exact ih _ _ _ _ _ hf hP hD hS (lv_sub hl [1, 2, 0] rfl)
            · have hf := ie cq hf
              refine lv_iload_n hx hb dX9_driest_44 rfl (lv_at hl 2 rfl) ?_
              refine lv_istore_n (lv' := [(1, .int x2), (0, .ref aS), (2, .int x2)]) hx hb dX9_driest_45 rfl hl (by decide) rfl (fun ls hl => ?_)
              refine lv_iinc (v := (x2 + 1)) (lv' := [(2, .int (x2 + 1)), (1, .int x2), (0, .ref aS)]) hx hb dX9_driest_46 hl (k := 2) rfl rfl (by decide) rfl (fun ls hl => ?_)
              refine lv_goto (tgt := 4) hx hb dX9_driest_49 (by decide) ?_
              exact ih _ _ _ _ _ hf hP hD hS (lv_sub hl [2, 1, 0] rfl)
        · have hf := it cq hf
          refine lv_goto (tgt := 46) hx hb dX9_driest_20 (by decide) ?_
          refine lv_iinc (v := (x2 + 1)) (lv' := [(2, .int (x2 + 1)), (0, .ref aS), (1, .int x1)]) hx hb dX9_driest_46 hl (k := 2) rfl rfl (by decide) rfl (fun ls hl => ?_)
          refine lv_goto (tgt := 4) hx hb dX9_driest_49 (by decide) ?_
          exact ih _ _ _ _ _ hf hP hD hS (lv_sub hl [1, 2, 0] rfl)
  unfold F_X9_driest at hf
  refine lv_iconst (v := (-1)) hx hb dX9_driest_0 (by decide) ?_
  refine lv_istore_n (lv' := [(1, .int (-1)), (0, .ref aS)]) hx hb dX9_driest_1 rfl hl (by decide) rfl (fun ls hl => ?_)
  refine lv_iconst (v := 0) hx hb dX9_driest_2 (by decide) ?_
  refine lv_istore_n (lv' := [(2, .int 0), (1, .int (-1)), (0, .ref aS)]) hx hb dX9_driest_3 rfl hl (by decide) rfl (fun ls hl => ?_)
  exact lp_4 FU _ _ _ _ _ hf hP hD hS (lv_sub hl [2, 1, 0] rfl)
def F_X9_takenBy (vS : Nat → Int32) (x1 : Int32) : Option (Int32) := ck 1 306 ((if (vS (Int32.toNatClampNeg 1)) = 0 then (some (-1)) else (F_X9_ownFor vS x1).bind (fun u1 => (if 0 ≤ u1 then (some u1) else (F_X9_driest vS).bind (fun u2 => (some u2))))))
abbrev rm_X9_takenBy : Room := { frames := 4, cells := 0, slots := 0, locals := 85 }
set_option maxHeartbeats 4000000 in
set_option maxRecDepth 100000 in
theorem c_X9_takenBy (E : Ev) (l : Launch) (aS : Nat) (vS : Nat → Int32) (x1 : Int32) (r : Int32) (hf : F_X9_takenBy vS x1 = some r) : CM E l yX9_takenBy (.code yX9_takenBy cX9_takenBy 3 (some .int) :: GA) rm_X9_takenBy [.ref aS, .int x1] (W_A E aS 306 vS) (some (.int r)) (W_A E aS 306 vS) := by
  refine CM.of (own := RX9) rfl (by decide) (Nat.le_of_ble_eq_true rfl) ?_
  intro p e s m below meth c A ls hx hb hr hml hown hg hlocks hK hE hA hP hD hS hl
  have hl : lv_has ls 3 [(0, .ref aS), (1, .int x1)] := hl
  unfold F_X9_takenBy at hf
  refine lv_aload_n hx hb dX9_takenBy_0 rfl (lv_at hl 0 rfl) ?_
  refine lv_iconst (v := 1) hx hb dX9_takenBy_1 (by decide) ?_
  obtain ⟨hi, hf⟩ := ck_o hf
  refine ar_ld hx hb hK hP 0 rfl hi dX9_takenBy_2 ?_
  refine lv_if_ne (tgt := 8) hx hb dX9_takenBy_3 (by decide) (fun cq => ?_) (fun cq => ?_)
  · have hf := ie cq hf
    refine lv_aload_n hx hb dX9_takenBy_8 rfl (lv_at hl 0 rfl) ?_
    refine lv_iload_n hx hb dX9_takenBy_9 rfl (lv_at hl 1 rfl) ?_
    obtain ⟨u1, hu1, hf⟩ := bn hf
    refine cm_S (As := [.ref aS, .int x1]) (rest := []) (w2 := (W_A E aS 306 vS)) hx hb hml hown hg (c_X9_ownFor E l aS vS x1 u1 hu1) cs_X9_ownFor ml_X9_73 ⟨⟨rfl, rfl⟩, Nat.le_of_ble_eq_true rfl, Nat.le_of_ble_eq_true rfl⟩ hK hE hP hD hS hA [true] rfl rfl rfl rfl hl.1 rfl (Nat.le_of_ble_eq_true rfl) dX9_takenBy_10 ⟨Nat.le_of_ble_eq_true rfl, Nat.le_of_ble_eq_true rfl⟩ [.int u1] rfl (fun H locs hP hD hS => ?_)
    refine lv_istore_n (lv' := [(2, .int u1), (0, .ref aS), (1, .int x1)]) hx hb dX9_takenBy_13 rfl hl (by decide) rfl (fun ls hl => ?_)
    refine lv_iload_n hx hb dX9_takenBy_14 rfl (lv_at hl 0 rfl) ?_
    refine lv_if_ge (tgt := 23) hx hb dX9_takenBy_15 (by decide) (fun cq => ?_) (fun cq => ?_)
    · have hf := it cq hf
      refine lv_iload_n hx hb dX9_takenBy_23 rfl (lv_at hl 0 rfl) ?_
      obtain rfl := Option.some.inj hf
      exact cm_iret hx hb hr hlocks hP hS dX9_takenBy_24
    · have hf := ie cq hf
      refine lv_aload_n hx hb dX9_takenBy_18 rfl (lv_at hl 1 rfl) ?_
      obtain ⟨u2, hu2, hf⟩ := bn hf
      refine cm_S (As := [.ref aS]) (rest := []) (w2 := (W_A E aS 306 vS)) hx hb hml hown hg (c_X9_driest E l aS vS u2 hu2) cs_X9_driest ml_X9_77 ⟨⟨rfl, rfl⟩, Nat.le_of_ble_eq_true rfl, Nat.le_of_ble_eq_true rfl⟩ hK hE hP hD hS hA [true] rfl rfl rfl rfl hl.1 rfl (Nat.le_of_ble_eq_true rfl) dX9_takenBy_19 ⟨Nat.le_of_ble_eq_true rfl, Nat.le_of_ble_eq_true rfl⟩ [.int u2] rfl (fun H locs hP hD hS => ?_)
      obtain rfl := Option.some.inj hf
      exact cm_iret hx hb hr hlocks hP hS dX9_takenBy_22
  · have hf := it cq hf
    refine lv_iconst (v := (-1)) hx hb dX9_takenBy_6 (by decide) ?_
    obtain rfl := Option.some.inj hf
    exact cm_iret hx hb hr hlocks hP hS dX9_takenBy_7
def B_X9_carriedBy_2 (rec : Int32 → Option (Int32)) (vS : Nat → Int32) (x1 : Int32) (x2 : Int32) : Option (Int32) := ck 8 306 ((if (vS (Int32.toNatClampNeg 8)) ≤ x2 then (some (-1)) else (F_X9_umbrellaAt x2 2).bind (fun u1 => ck u1 306 ((if (vS (Int32.toNatClampNeg u1)) = x1 then (some x2) else (rec (x2 + 1)))))))
def L_X9_carriedBy_2 (vS : Nat → Int32) (x1 : Int32) : Nat → Int32 → Option (Int32)
  | 0 => fun _ => none
  | n + 1 => fun x2 => B_X9_carriedBy_2 (L_X9_carriedBy_2 vS x1 n) vS x1 x2
def F_X9_carriedBy (vS : Nat → Int32) (x1 : Int32) : Option (Int32) := (L_X9_carriedBy_2 vS x1 FU 0)
abbrev rm_X9_carriedBy : Room := { frames := 1, cells := 0, slots := 0, locals := 21 }
set_option maxHeartbeats 4000000 in
set_option maxRecDepth 100000 in
theorem c_X9_carriedBy (E : Ev) (l : Launch) (aS : Nat) (vS : Nat → Int32) (x1 : Int32) (r : Int32) (hf : F_X9_carriedBy vS x1 = some r) : CM E l yX9_carriedBy (.code yX9_carriedBy cX9_carriedBy 3 (some .int) :: GA) rm_X9_carriedBy [.ref aS, .int x1] (W_A E aS 306 vS) (some (.int r)) (W_A E aS 306 vS) := by
  refine CM.of (own := RX9) rfl (by decide) (Nat.le_of_ble_eq_true rfl) ?_
  intro p e s m below meth c A ls hx hb hr hml hown hg hlocks hK hE hA hP hD hS hl
  have hl : lv_has ls 3 [(0, .ref aS), (1, .int x1)] := hl
  have lp_2 : ∀ (n : Nat) (x2 : Int32) (H : Heap) (locs : List Loc) (ls : Array Slot), L_X9_carriedBy_2 vS x1 n x2 = some r → va_P E.1 vwCl (W_A E aS 306 vS) H → va_D A (W_A E aS 306 vS) → va_S A s.heap H locs → lv_has ls 3 [(0, .ref aS), (1, .int x1), (2, .int x2)] → W p l e rm_X9_carriedBy s m ([.ref aS, .int x1] : List Value).toArray below meth c H locs 0 0 (MQ below (QW E (some (.int r)) (W_A E aS 306 vS) A) ([.ref aS, .int x1] : List Value).toArray s 0 0 A) (F0 m 2 ls []) := by
    intro n
    induction n with
    | zero => intro x2 H locs ls hf; cases hf
    | succ n ih =>
      intro x2 H locs ls hf hP hD hS hl
      replace hf : B_X9_carriedBy_2 (L_X9_carriedBy_2 vS x1 n) vS x1 x2 = some r := hf
      unfold B_X9_carriedBy_2 at hf
      refine lv_iload_n hx hb dX9_carriedBy_2 rfl (lv_at hl 2 rfl) ?_
      refine lv_aload_n hx hb dX9_carriedBy_3 rfl (lv_at hl 0 rfl) ?_
      refine lv_bipush (v := 8) hx hb dX9_carriedBy_4 (by decide) ?_
      obtain ⟨hi, hf⟩ := ck_o hf
      refine ar_ld hx hb hK hP 0 rfl hi dX9_carriedBy_6 ?_
      refine lv_icmp_ge (tgt := 29) hx hb dX9_carriedBy_7 (by decide) (fun cq => ?_) (fun cq => ?_)
      · have hf := it cq hf
        refine lv_iconst (v := (-1)) hx hb dX9_carriedBy_29 (by decide) ?_
        obtain rfl := Option.some.inj hf
        exact cm_iret hx hb hr hlocks hP hS dX9_carriedBy_30
      · have hf := ie cq hf
        refine lv_aload_n hx hb dX9_carriedBy_10 rfl (lv_at hl 0 rfl) ?_
        refine lv_iload_n hx hb dX9_carriedBy_11 rfl (lv_at hl 2 rfl) ?_
        refine lv_iconst (v := 2) hx hb dX9_carriedBy_12 (by decide) ?_
        obtain ⟨u1, hu1, hf⟩ := bn hf
        refine cm_S (As := [.int x2, .int 2]) (rest := [.ref aS]) (w2 := (W_A E aS 306 vS)) hx hb hml hown hg (c_X9_umbrellaAt E l x2 2 u1 hu1) cs_X9_umbrellaAt ml_X9_63 ⟨⟨rfl, rfl⟩, Nat.le_of_ble_eq_true rfl, Nat.le_of_ble_eq_true rfl⟩ hK hE hP hD hS hA [] rfl rfl rfl rfl hl.1 rfl (Nat.le_of_ble_eq_true rfl) dX9_carriedBy_13 ⟨Nat.le_of_ble_eq_true rfl, Nat.le_of_ble_eq_true rfl⟩ [.int u1, .ref aS] rfl (fun H locs hP hD hS => ?_)
        obtain ⟨hi, hf⟩ := ck_o hf
        refine ar_ld hx hb hK hP 0 rfl hi dX9_carriedBy_16 ?_
        refine lv_iload_n hx hb dX9_carriedBy_17 rfl (lv_at hl 1 rfl) ?_
        refine lv_icmp_ne (tgt := 23) hx hb dX9_carriedBy_18 (by decide) (fun cq => ?_) (fun cq => ?_)
        · have hf := ie cq hf
          refine lv_iinc (v := (x2 + 1)) (lv' := [(2, .int (x2 + 1)), (0, .ref aS), (1, .int x1)]) hx hb dX9_carriedBy_23 hl (k := 2) rfl rfl (by decide) rfl (fun ls hl => ?_)
          refine lv_goto (tgt := 2) hx hb dX9_carriedBy_26 (by decide) ?_
          exact ih _ _ _ _ hf hP hD hS (lv_sub hl [1, 2, 0] rfl)
        · have hf := it cq hf
          refine lv_iload_n hx hb dX9_carriedBy_21 rfl (lv_at hl 2 rfl) ?_
          obtain rfl := Option.some.inj hf
          exact cm_iret hx hb hr hlocks hP hS dX9_carriedBy_22
  unfold F_X9_carriedBy at hf
  refine lv_iconst (v := 0) hx hb dX9_carriedBy_0 (by decide) ?_
  refine lv_istore_n (lv' := [(2, .int 0), (0, .ref aS), (1, .int x1)]) hx hb dX9_carriedBy_1 rfl hl (by decide) rfl (fun ls hl => ?_)
  exact lp_2 FU _ _ _ _ hf hP hD hS (lv_sub hl [1, 2, 0] rfl)
def B_X9_awayMany_4 (rec : Int32 → Int32 → Option (Int32)) (vS : Nat → Int32) (x1 : Int32) (x2 : Int32) : Option (Int32) := ck 7 306 ((if (vS (Int32.toNatClampNeg 7)) ≤ x2 then (some x1) else (F_X9_guestAt x2 3).bind (fun u1 => ck u1 306 ((rec (x1 + (vS (Int32.toNatClampNeg u1))) (x2 + 1))))))
def L_X9_awayMany_4 (vS : Nat → Int32) : Nat → Int32 → Int32 → Option (Int32)
  | 0 => fun _ _ => none
  | n + 1 => fun x1 x2 => B_X9_awayMany_4 (L_X9_awayMany_4 vS n) vS x1 x2
def F_X9_awayMany (vS : Nat → Int32) : Option (Int32) := (L_X9_awayMany_4 vS FU 0 0)
abbrev rm_X9_awayMany : Room := { frames := 1, cells := 0, slots := 0, locals := 21 }
set_option maxHeartbeats 4000000 in
set_option maxRecDepth 100000 in
theorem c_X9_awayMany (E : Ev) (l : Launch) (aS : Nat) (vS : Nat → Int32) (r : Int32) (hf : F_X9_awayMany vS = some r) : CM E l yX9_awayMany (.code yX9_awayMany cX9_awayMany 3 (some .int) :: GA) rm_X9_awayMany [.ref aS] (W_A E aS 306 vS) (some (.int r)) (W_A E aS 306 vS) := by
  refine CM.of (own := RX9) rfl (by decide) (Nat.le_of_ble_eq_true rfl) ?_
  intro p e s m below meth c A ls hx hb hr hml hown hg hlocks hK hE hA hP hD hS hl
  have hl : lv_has ls 3 [(0, .ref aS)] := hl
  have lp_4 : ∀ (n : Nat) (x1 : Int32) (x2 : Int32) (H : Heap) (locs : List Loc) (ls : Array Slot), L_X9_awayMany_4 vS n x1 x2 = some r → va_P E.1 vwCl (W_A E aS 306 vS) H → va_D A (W_A E aS 306 vS) → va_S A s.heap H locs → lv_has ls 3 [(0, .ref aS), (1, .int x1), (2, .int x2)] → W p l e rm_X9_awayMany s m ([.ref aS] : List Value).toArray below meth c H locs 0 0 (MQ below (QW E (some (.int r)) (W_A E aS 306 vS) A) ([.ref aS] : List Value).toArray s 0 0 A) (F0 m 4 ls []) := by
    intro n
    induction n with
    | zero => intro x1 x2 H locs ls hf; cases hf
    | succ n ih =>
      intro x1 x2 H locs ls hf hP hD hS hl
      replace hf : B_X9_awayMany_4 (L_X9_awayMany_4 vS n) vS x1 x2 = some r := hf
      unfold B_X9_awayMany_4 at hf
      refine lv_iload_n hx hb dX9_awayMany_4 rfl (lv_at hl 2 rfl) ?_
      refine lv_aload_n hx hb dX9_awayMany_5 rfl (lv_at hl 0 rfl) ?_
      refine lv_bipush (v := 7) hx hb dX9_awayMany_6 (by decide) ?_
      obtain ⟨hi, hf⟩ := ck_o hf
      refine ar_ld hx hb hK hP 0 rfl hi dX9_awayMany_8 ?_
      refine lv_icmp_ge (tgt := 28) hx hb dX9_awayMany_9 (by decide) (fun cq => ?_) (fun cq => ?_)
      · have hf := it cq hf
        refine lv_iload_n hx hb dX9_awayMany_28 rfl (lv_at hl 1 rfl) ?_
        obtain rfl := Option.some.inj hf
        exact cm_iret hx hb hr hlocks hP hS dX9_awayMany_29
      · have hf := ie cq hf
        refine lv_iload_n hx hb dX9_awayMany_12 rfl (lv_at hl 1 rfl) ?_
        refine lv_aload_n hx hb dX9_awayMany_13 rfl (lv_at hl 0 rfl) ?_
        refine lv_iload_n hx hb dX9_awayMany_14 rfl (lv_at hl 2 rfl) ?_
        refine lv_iconst (v := 3) hx hb dX9_awayMany_15 (by decide) ?_
        obtain ⟨u1, hu1, hf⟩ := bn hf
        refine cm_S (As := [.int x2, .int 3]) (rest := [.ref aS, .int x1]) (w2 := (W_A E aS 306 vS)) hx hb hml hown hg (c_X9_guestAt E l x2 3 u1 hu1) cs_X9_guestAt ml_X9_59 ⟨⟨rfl, rfl⟩, Nat.le_of_ble_eq_true rfl, Nat.le_of_ble_eq_true rfl⟩ hK hE hP hD hS hA [] rfl rfl rfl rfl hl.1 rfl (Nat.le_of_ble_eq_true rfl) dX9_awayMany_16 ⟨Nat.le_of_ble_eq_true rfl, Nat.le_of_ble_eq_true rfl⟩ [.int u1, .ref aS, .int x1] rfl (fun H locs hP hD hS => ?_)
        obtain ⟨hi, hf⟩ := ck_o hf
        refine ar_ld hx hb hK hP 0 rfl hi dX9_awayMany_19 ?_
        refine lv_iadd hx hb dX9_awayMany_20 ?_
        refine lv_istore_n (lv' := [(1, .int (x1 + (vS (Int32.toNatClampNeg u1)))), (0, .ref aS), (2, .int x2)]) hx hb dX9_awayMany_21 rfl hl (by decide) rfl (fun ls hl => ?_)
        refine lv_iinc (v := (x2 + 1)) (lv' := [(2, .int (x2 + 1)), (1, .int (x1 + (vS (Int32.toNatClampNeg u1)))), (0, .ref aS)]) hx hb dX9_awayMany_22 hl (k := 2) rfl rfl (by decide) rfl (fun ls hl => ?_)
        refine lv_goto (tgt := 4) hx hb dX9_awayMany_25 (by decide) ?_
        exact ih _ _ _ _ _ hf hP hD hS (lv_sub hl [2, 1, 0] rfl)
  unfold F_X9_awayMany at hf
  refine lv_iconst (v := 0) hx hb dX9_awayMany_0 (by decide) ?_
  refine lv_istore_n (lv' := [(1, .int 0), (0, .ref aS)]) hx hb dX9_awayMany_1 rfl hl (by decide) rfl (fun ls hl => ?_)
  refine lv_iconst (v := 0) hx hb dX9_awayMany_2 (by decide) ?_
  refine lv_istore_n (lv' := [(2, .int 0), (1, .int 0), (0, .ref aS)]) hx hb dX9_awayMany_3 rfl hl (by decide) rfl (fun ls hl => ?_)
  exact lp_4 FU _ _ _ _ _ hf hP hD hS (lv_sub hl [2, 1, 0] rfl)
def F_X9_enters (vS : Nat → Int32) (x1 : Int32) (x2 : Int32) : Option ((Nat → Int32)) := ck 9 306 ((F_X9_entryAt (vS (Int32.toNatClampNeg 9)) 0).bind (fun u1 => ck 0 306 (ck u1 306 (lt (upd vS (Int32.toNatClampNeg u1) (vS (Int32.toNatClampNeg 0))) (fun vS_9 => (F_X9_entryAt (vS (Int32.toNatClampNeg 9)) 1).bind (fun u2 => ck u2 306 (lt (upd vS_9 (Int32.toNatClampNeg u2) x1) (fun vS_10 => (F_X9_entryAt (vS (Int32.toNatClampNeg 9)) 2).bind (fun u3 => ck u3 306 (lt (upd vS_10 (Int32.toNatClampNeg u3) x2) (fun vS_11 => ck 9 306 (ck 9 306 (lt (upd vS_11 (Int32.toNatClampNeg 9) ((vS_11 (Int32.toNatClampNeg 9)) + 1)) (fun vS_12 => (some vS_12)))))))))))))))
abbrev rm_X9_enters : Room := { frames := 1, cells := 0, slots := 0, locals := 21 }
set_option maxHeartbeats 4000000 in
set_option maxRecDepth 100000 in
theorem c_X9_enters (E : Ev) (l : Launch) (aS : Nat) (vS : Nat → Int32) (x1 : Int32) (x2 : Int32) (r : (Nat → Int32)) (hf : F_X9_enters vS x1 x2 = some r) : CM E l yX9_enters (.code yX9_enters cX9_enters 4 none :: GA) rm_X9_enters [.ref aS, .int x1, .int x2] (W_A E aS 306 vS) none (W_A E aS 306 r) := by
  refine CM.of (own := RX9) rfl (by decide) (Nat.le_of_ble_eq_true rfl) ?_
  intro p e s m below meth c A ls hx hb hr hml hown hg hlocks hK hE hA hP hD hS hl
  have hl : lv_has ls 4 [(0, .ref aS), (1, .int x1), (2, .int x2)] := hl
  unfold F_X9_enters at hf
  refine lv_aload_n hx hb dX9_enters_0 rfl (lv_at hl 0 rfl) ?_
  refine lv_bipush (v := 9) hx hb dX9_enters_1 (by decide) ?_
  obtain ⟨hi, hf⟩ := ck_o hf
  refine ar_ld hx hb hK hP 0 rfl hi dX9_enters_3 ?_
  refine lv_istore_n (lv' := [(3, .int (vS (Int32.toNatClampNeg 9))), (0, .ref aS), (1, .int x1), (2, .int x2)]) hx hb dX9_enters_4 rfl hl (by decide) rfl (fun ls hl => ?_)
  refine lv_aload_n hx hb dX9_enters_5 rfl (lv_at hl 1 rfl) ?_
  refine lv_iload_n hx hb dX9_enters_6 rfl (lv_at hl 0 rfl) ?_
  refine lv_iconst (v := 0) hx hb dX9_enters_7 (by decide) ?_
  obtain ⟨u1, hu1, hf⟩ := bn hf
  refine cm_S (As := [.int (vS (Int32.toNatClampNeg 9)), .int 0]) (rest := [.ref aS]) (w2 := (W_A E aS 306 vS)) hx hb hml hown hg (c_X9_entryAt E l (vS (Int32.toNatClampNeg 9)) 0 u1 hu1) cs_X9_entryAt ml_X9_81 ⟨⟨rfl, rfl⟩, Nat.le_of_ble_eq_true rfl, Nat.le_of_ble_eq_true rfl⟩ hK hE hP hD hS hA [] rfl rfl rfl rfl hl.1 rfl (Nat.le_of_ble_eq_true rfl) dX9_enters_8 ⟨Nat.le_of_ble_eq_true rfl, Nat.le_of_ble_eq_true rfl⟩ [.int u1, .ref aS] rfl (fun H locs hP hD hS => ?_)
  refine lv_aload_n hx hb dX9_enters_11 rfl (lv_at hl 1 rfl) ?_
  refine lv_iconst (v := 0) hx hb dX9_enters_12 (by decide) ?_
  obtain ⟨hi, hf⟩ := ck_o hf
  refine ar_ld hx hb hK hP 0 rfl hi dX9_enters_13 ?_
  obtain ⟨hi, hf⟩ := ck_o hf
  refine ar_st (w2 := (W_A E aS 306 (upd vS (Int32.toNatClampNeg u1) (vS (Int32.toNatClampNeg 0))))) hx hb hK hP hD hS 0 rfl hi rfl dX9_enters_14 (fun H locs hP hD hS => ?_)
  obtain ⟨vS_9, hv, hf⟩ := lt_o hf
  rw [← hv] at hP hD
  clear hv
  refine lv_aload_n hx hb dX9_enters_15 rfl (lv_at hl 1 rfl) ?_
  refine lv_iload_n hx hb dX9_enters_16 rfl (lv_at hl 0 rfl) ?_
  refine lv_iconst (v := 1) hx hb dX9_enters_17 (by decide) ?_
  obtain ⟨u2, hu2, hf⟩ := bn hf
  refine cm_S (As := [.int (vS (Int32.toNatClampNeg 9)), .int 1]) (rest := [.ref aS]) (w2 := (W_A E aS 306 vS_9)) hx hb hml hown hg (c_X9_entryAt E l (vS (Int32.toNatClampNeg 9)) 1 u2 hu2) cs_X9_entryAt ml_X9_81 ⟨⟨rfl, rfl⟩, Nat.le_of_ble_eq_true rfl, Nat.le_of_ble_eq_true rfl⟩ hK hE hP hD hS hA [] rfl rfl rfl rfl hl.1 rfl (Nat.le_of_ble_eq_true rfl) dX9_enters_18 ⟨Nat.le_of_ble_eq_true rfl, Nat.le_of_ble_eq_true rfl⟩ [.int u2, .ref aS] rfl (fun H locs hP hD hS => ?_)
  refine lv_iload_n hx hb dX9_enters_21 rfl (lv_at hl 2 rfl) ?_
  obtain ⟨hi, hf⟩ := ck_o hf
  refine ar_st (w2 := (W_A E aS 306 (upd vS_9 (Int32.toNatClampNeg u2) x1))) hx hb hK hP hD hS 0 rfl hi rfl dX9_enters_22 (fun H locs hP hD hS => ?_)
  obtain ⟨vS_10, hv, hf⟩ := lt_o hf
  rw [← hv] at hP hD
  clear hv
  refine lv_aload_n hx hb dX9_enters_23 rfl (lv_at hl 1 rfl) ?_
  refine lv_iload_n hx hb dX9_enters_24 rfl (lv_at hl 0 rfl) ?_
  refine lv_iconst (v := 2) hx hb dX9_enters_25 (by decide) ?_
  obtain ⟨u3, hu3, hf⟩ := bn hf
  refine cm_S (As := [.int (vS (Int32.toNatClampNeg 9)), .int 2]) (rest := [.ref aS]) (w2 := (W_A E aS 306 vS_10)) hx hb hml hown hg (c_X9_entryAt E l (vS (Int32.toNatClampNeg 9)) 2 u3 hu3) cs_X9_entryAt ml_X9_81 ⟨⟨rfl, rfl⟩, Nat.le_of_ble_eq_true rfl, Nat.le_of_ble_eq_true rfl⟩ hK hE hP hD hS hA [] rfl rfl rfl rfl hl.1 rfl (Nat.le_of_ble_eq_true rfl) dX9_enters_26 ⟨Nat.le_of_ble_eq_true rfl, Nat.le_of_ble_eq_true rfl⟩ [.int u3, .ref aS] rfl (fun H locs hP hD hS => ?_)
  refine lv_iload_n hx hb dX9_enters_29 rfl (lv_at hl 3 rfl) ?_
  obtain ⟨hi, hf⟩ := ck_o hf
  refine ar_st (w2 := (W_A E aS 306 (upd vS_10 (Int32.toNatClampNeg u3) x2))) hx hb hK hP hD hS 0 rfl hi rfl dX9_enters_30 (fun H locs hP hD hS => ?_)
  obtain ⟨vS_11, hv, hf⟩ := lt_o hf
  rw [← hv] at hP hD
  clear hv
  refine lv_aload_n hx hb dX9_enters_31 rfl (lv_at hl 1 rfl) ?_
  refine lv_bipush (v := 9) hx hb dX9_enters_32 (by decide) ?_
  refine lv_dup2_11 hx hb dX9_enters_34 rfl rfl ?_
  obtain ⟨hi, hf⟩ := ck_o hf
  refine ar_ld hx hb hK hP 0 rfl hi dX9_enters_35 ?_
  refine lv_iconst (v := 1) hx hb dX9_enters_36 (by decide) ?_
  refine lv_iadd hx hb dX9_enters_37 ?_
  obtain ⟨hi, hf⟩ := ck_o hf
  refine ar_st (w2 := (W_A E aS 306 (upd vS_11 (Int32.toNatClampNeg 9) ((vS_11 (Int32.toNatClampNeg 9)) + 1)))) hx hb hK hP hD hS 0 rfl hi rfl dX9_enters_38 (fun H locs hP hD hS => ?_)
  obtain ⟨vS_12, hv, hf⟩ := lt_o hf
  rw [← hv] at hP hD
  clear hv
  obtain rfl := Option.some.inj hf
  exact cm_vret hx hb hr hlocks hP hS dX9_enters_39
def F_X9_yawnOf (vS : Nat → Int32) : Option (Int32) := ck 9 306 ((if (vS (Int32.toNatClampNeg 9)) ≤ 0 then ck 0 306 ((F_X9_less 9 (((vS (Int32.toNatClampNeg 0)) - 0) / 30)).bind (fun u1 => (some u1))) else ck 9 306 ((F_X9_entryAt ((vS (Int32.toNatClampNeg 9)) - 1) 0).bind (fun u2 => ck u2 306 (ck 0 306 ((F_X9_less 9 (((vS (Int32.toNatClampNeg 0)) - (vS (Int32.toNatClampNeg u2))) / 30)).bind (fun u3 => (some u3))))))))
abbrev rm_X9_yawnOf : Room := { frames := 1, cells := 0, slots := 0, locals := 21 }
set_option maxHeartbeats 4000000 in
set_option maxRecDepth 100000 in
theorem c_X9_yawnOf (E : Ev) (l : Launch) (aS : Nat) (vS : Nat → Int32) (r : Int32) (hf : F_X9_yawnOf vS = some r) : CM E l yX9_yawnOf (.code yX9_yawnOf cX9_yawnOf 2 (some .int) :: GA) rm_X9_yawnOf [.ref aS] (W_A E aS 306 vS) (some (.int r)) (W_A E aS 306 vS) := by
  refine CM.of (own := RX9) rfl (by decide) (Nat.le_of_ble_eq_true rfl) ?_
  intro p e s m below meth c A ls hx hb hr hml hown hg hlocks hK hE hA hP hD hS hl
  have hl : lv_has ls 2 [(0, .ref aS)] := hl
  unfold F_X9_yawnOf at hf
  refine lv_iconst (v := 0) hx hb dX9_yawnOf_0 (by decide) ?_
  refine lv_istore_n (lv' := [(1, .int 0), (0, .ref aS)]) hx hb dX9_yawnOf_1 rfl hl (by decide) rfl (fun ls hl => ?_)
  refine lv_aload_n hx hb dX9_yawnOf_2 rfl (lv_at hl 1 rfl) ?_
  refine lv_bipush (v := 9) hx hb dX9_yawnOf_3 (by decide) ?_
  obtain ⟨hi, hf⟩ := ck_o hf
  refine ar_ld hx hb hK hP 0 rfl hi dX9_yawnOf_5 ?_
  refine lv_if_le (tgt := 22) hx hb dX9_yawnOf_6 (by decide) (fun cq => ?_) (fun cq => ?_)
  · have hf := it cq hf
    refine lv_bipush (v := 9) hx hb dX9_yawnOf_22 (by decide) ?_
    refine lv_aload_n hx hb dX9_yawnOf_24 rfl (lv_at hl 1 rfl) ?_
    refine lv_iconst (v := 0) hx hb dX9_yawnOf_25 (by decide) ?_
    obtain ⟨hi, hf⟩ := ck_o hf
    refine ar_ld hx hb hK hP 0 rfl hi dX9_yawnOf_26 ?_
    refine lv_iload_n hx hb dX9_yawnOf_27 rfl (lv_at hl 0 rfl) ?_
    refine lv_isub hx hb dX9_yawnOf_28 ?_
    refine lv_bipush (v := 30) hx hb dX9_yawnOf_29 (by decide) ?_
    refine lv_idiv hx hb dX9_yawnOf_31 (by decide) ?_
    obtain ⟨u1, hu1, hf⟩ := bn hf
    refine cm_S (As := [.int 9, .int (((vS (Int32.toNatClampNeg 0)) - 0) / 30)]) (rest := []) (w2 := (W_A E aS 306 vS)) hx hb hml hown hg (c_X9_less E l 9 (((vS (Int32.toNatClampNeg 0)) - 0) / 30) u1 hu1) cs_X9_less ml_X9_84 ⟨⟨rfl, rfl⟩, Nat.le_of_ble_eq_true rfl, Nat.le_of_ble_eq_true rfl⟩ hK hE hP hD hS hA [] rfl rfl rfl rfl hl.1 rfl (Nat.le_of_ble_eq_true rfl) dX9_yawnOf_32 ⟨Nat.le_of_ble_eq_true rfl, Nat.le_of_ble_eq_true rfl⟩ [.int u1] rfl (fun H locs hP hD hS => ?_)
    obtain rfl := Option.some.inj hf
    exact cm_iret hx hb hr hlocks hP hS dX9_yawnOf_35
  · have hf := ie cq hf
    refine lv_aload_n hx hb dX9_yawnOf_9 rfl (lv_at hl 1 rfl) ?_
    refine lv_aload_n hx hb dX9_yawnOf_10 rfl (lv_at hl 1 rfl) ?_
    refine lv_bipush (v := 9) hx hb dX9_yawnOf_11 (by decide) ?_
    obtain ⟨hi, hf⟩ := ck_o hf
    refine ar_ld hx hb hK hP 0 rfl hi dX9_yawnOf_13 ?_
    refine lv_iconst (v := 1) hx hb dX9_yawnOf_14 (by decide) ?_
    refine lv_isub hx hb dX9_yawnOf_15 ?_
    refine lv_iconst (v := 0) hx hb dX9_yawnOf_16 (by decide) ?_
    obtain ⟨u2, hu2, hf⟩ := bn hf
    refine cm_S (As := [.int ((vS (Int32.toNatClampNeg 9)) - 1), .int 0]) (rest := [.ref aS]) (w2 := (W_A E aS 306 vS)) hx hb hml hown hg (c_X9_entryAt E l ((vS (Int32.toNatClampNeg 9)) - 1) 0 u2 hu2) cs_X9_entryAt ml_X9_81 ⟨⟨rfl, rfl⟩, Nat.le_of_ble_eq_true rfl, Nat.le_of_ble_eq_true rfl⟩ hK hE hP hD hS hA [] rfl rfl rfl rfl hl.1 rfl (Nat.le_of_ble_eq_true rfl) dX9_yawnOf_17 ⟨Nat.le_of_ble_eq_true rfl, Nat.le_of_ble_eq_true rfl⟩ [.int u2, .ref aS] rfl (fun H locs hP hD hS => ?_)
    obtain ⟨hi, hf⟩ := ck_o hf
    refine ar_ld hx hb hK hP 0 rfl hi dX9_yawnOf_20 ?_
    refine lv_istore_n (lv' := [(1, .int (vS (Int32.toNatClampNeg u2))), (0, .ref aS)]) hx hb dX9_yawnOf_21 rfl hl (by decide) rfl (fun ls hl => ?_)
    refine lv_bipush (v := 9) hx hb dX9_yawnOf_22 (by decide) ?_
    refine lv_aload_n hx hb dX9_yawnOf_24 rfl (lv_at hl 1 rfl) ?_
    refine lv_iconst (v := 0) hx hb dX9_yawnOf_25 (by decide) ?_
    obtain ⟨hi, hf⟩ := ck_o hf
    refine ar_ld hx hb hK hP 0 rfl hi dX9_yawnOf_26 ?_
    refine lv_iload_n hx hb dX9_yawnOf_27 rfl (lv_at hl 0 rfl) ?_
    refine lv_isub hx hb dX9_yawnOf_28 ?_
    refine lv_bipush (v := 30) hx hb dX9_yawnOf_29 (by decide) ?_
    refine lv_idiv hx hb dX9_yawnOf_31 (by decide) ?_
    obtain ⟨u3, hu3, hf⟩ := bn hf
    refine cm_S (As := [.int 9, .int (((vS (Int32.toNatClampNeg 0)) - (vS (Int32.toNatClampNeg u2))) / 30)]) (rest := []) (w2 := (W_A E aS 306 vS)) hx hb hml hown hg (c_X9_less E l 9 (((vS (Int32.toNatClampNeg 0)) - (vS (Int32.toNatClampNeg u2))) / 30) u3 hu3) cs_X9_less ml_X9_84 ⟨⟨rfl, rfl⟩, Nat.le_of_ble_eq_true rfl, Nat.le_of_ble_eq_true rfl⟩ hK hE hP hD hS hA [] rfl rfl rfl rfl hl.1 rfl (Nat.le_of_ble_eq_true rfl) dX9_yawnOf_32 ⟨Nat.le_of_ble_eq_true rfl, Nat.le_of_ble_eq_true rfl⟩ [.int u3] rfl (fun H locs hP hD hS => ?_)
    obtain rfl := Option.some.inj hf
    exact cm_iret hx hb hr hlocks hP hS dX9_yawnOf_35
def F_X9_tipFrom (vS : Nat → Int32) (x1 : Int32) : Option (Int32) := (F_X9_guestAt x1 1).bind (fun u1 => ck u1 306 ((F_X9_yawnOf vS).bind (fun u2 => (F_X9_guestAt x1 5).bind (fun u3 => ck u3 306 ((if (vS (Int32.toNatClampNeg u3)) = 0 then (F_X9_more 0 ((vS (Int32.toNatClampNeg u1)) - u2)).bind (fun u4 => (some u4)) else (F_X9_more 0 (((vS (Int32.toNatClampNeg u1)) - u2) + (-1))).bind (fun u5 => (some u5))))))))
abbrev rm_X9_tipFrom : Room := { frames := 2, cells := 0, slots := 0, locals := 42 }
set_option maxHeartbeats 4000000 in
set_option maxRecDepth 100000 in
theorem c_X9_tipFrom (E : Ev) (l : Launch) (aS : Nat) (vS : Nat → Int32) (x1 : Int32) (r : Int32) (hf : F_X9_tipFrom vS x1 = some r) : CM E l yX9_tipFrom (.code yX9_tipFrom cX9_tipFrom 3 (some .int) :: GA) rm_X9_tipFrom [.ref aS, .int x1] (W_A E aS 306 vS) (some (.int r)) (W_A E aS 306 vS) := by
  refine CM.of (own := RX9) rfl (by decide) (Nat.le_of_ble_eq_true rfl) ?_
  intro p e s m below meth c A ls hx hb hr hml hown hg hlocks hK hE hA hP hD hS hl
  have hl : lv_has ls 3 [(0, .ref aS), (1, .int x1)] := hl
  unfold F_X9_tipFrom at hf
  refine lv_aload_n hx hb dX9_tipFrom_0 rfl (lv_at hl 0 rfl) ?_
  refine lv_iload_n hx hb dX9_tipFrom_1 rfl (lv_at hl 1 rfl) ?_
  refine lv_iconst (v := 1) hx hb dX9_tipFrom_2 (by decide) ?_
  obtain ⟨u1, hu1, hf⟩ := bn hf
  refine cm_S (As := [.int x1, .int 1]) (rest := [.ref aS]) (w2 := (W_A E aS 306 vS)) hx hb hml hown hg (c_X9_guestAt E l x1 1 u1 hu1) cs_X9_guestAt ml_X9_59 ⟨⟨rfl, rfl⟩, Nat.le_of_ble_eq_true rfl, Nat.le_of_ble_eq_true rfl⟩ hK hE hP hD hS hA [] rfl rfl rfl rfl hl.1 rfl (Nat.le_of_ble_eq_true rfl) dX9_tipFrom_3 ⟨Nat.le_of_ble_eq_true rfl, Nat.le_of_ble_eq_true rfl⟩ [.int u1, .ref aS] rfl (fun H locs hP hD hS => ?_)
  obtain ⟨hi, hf⟩ := ck_o hf
  refine ar_ld hx hb hK hP 0 rfl hi dX9_tipFrom_6 ?_
  refine lv_aload_n hx hb dX9_tipFrom_7 rfl (lv_at hl 0 rfl) ?_
  obtain ⟨u2, hu2, hf⟩ := bn hf
  refine cm_S (As := [.ref aS]) (rest := [.int (vS (Int32.toNatClampNeg u1))]) (w2 := (W_A E aS 306 vS)) hx hb hml hown hg (c_X9_yawnOf E l aS vS u2 hu2) cs_X9_yawnOf ml_X9_87 ⟨⟨rfl, rfl⟩, Nat.le_of_ble_eq_true rfl, Nat.le_of_ble_eq_true rfl⟩ hK hE hP hD hS hA [true] rfl rfl rfl rfl hl.1 rfl (Nat.le_of_ble_eq_true rfl) dX9_tipFrom_8 ⟨Nat.le_of_ble_eq_true rfl, Nat.le_of_ble_eq_true rfl⟩ [.int u2, .int (vS (Int32.toNatClampNeg u1))] rfl (fun H locs hP hD hS => ?_)
  refine lv_isub hx hb dX9_tipFrom_11 ?_
  refine lv_istore_n (lv' := [(2, .int ((vS (Int32.toNatClampNeg u1)) - u2)), (0, .ref aS), (1, .int x1)]) hx hb dX9_tipFrom_12 rfl hl (by decide) rfl (fun ls hl => ?_)
  refine lv_aload_n hx hb dX9_tipFrom_13 rfl (lv_at hl 1 rfl) ?_
  refine lv_iload_n hx hb dX9_tipFrom_14 rfl (lv_at hl 2 rfl) ?_
  refine lv_iconst (v := 5) hx hb dX9_tipFrom_15 (by decide) ?_
  obtain ⟨u3, hu3, hf⟩ := bn hf
  refine cm_S (As := [.int x1, .int 5]) (rest := [.ref aS]) (w2 := (W_A E aS 306 vS)) hx hb hml hown hg (c_X9_guestAt E l x1 5 u3 hu3) cs_X9_guestAt ml_X9_59 ⟨⟨rfl, rfl⟩, Nat.le_of_ble_eq_true rfl, Nat.le_of_ble_eq_true rfl⟩ hK hE hP hD hS hA [] rfl rfl rfl rfl hl.1 rfl (Nat.le_of_ble_eq_true rfl) dX9_tipFrom_16 ⟨Nat.le_of_ble_eq_true rfl, Nat.le_of_ble_eq_true rfl⟩ [.int u3, .ref aS] rfl (fun H locs hP hD hS => ?_)
  obtain ⟨hi, hf⟩ := ck_o hf
  refine ar_ld hx hb hK hP 0 rfl hi dX9_tipFrom_19 ?_
  refine lv_if_eq (tgt := 26) hx hb dX9_tipFrom_20 (by decide) (fun cq => ?_) (fun cq => ?_)
  · have hf := it cq hf
    refine lv_iconst (v := 0) hx hb dX9_tipFrom_26 (by decide) ?_
    refine lv_iload_n hx hb dX9_tipFrom_27 rfl (lv_at hl 0 rfl) ?_
    obtain ⟨u4, hu4, hf⟩ := bn hf
    refine cm_S (As := [.int 0, .int ((vS (Int32.toNatClampNeg u1)) - u2)]) (rest := []) (w2 := (W_A E aS 306 vS)) hx hb hml hown hg (c_X9_more E l 0 ((vS (Int32.toNatClampNeg u1)) - u2) u4 hu4) cs_X9_more ml_X9_90 ⟨⟨rfl, rfl⟩, Nat.le_of_ble_eq_true rfl, Nat.le_of_ble_eq_true rfl⟩ hK hE hP hD hS hA [] rfl rfl rfl rfl hl.1 rfl (Nat.le_of_ble_eq_true rfl) dX9_tipFrom_28 ⟨Nat.le_of_ble_eq_true rfl, Nat.le_of_ble_eq_true rfl⟩ [.int u4] rfl (fun H locs hP hD hS => ?_)
    obtain rfl := Option.some.inj hf
    exact cm_iret hx hb hr hlocks hP hS dX9_tipFrom_31
  · have hf := ie cq hf
    refine lv_iinc (v := (((vS (Int32.toNatClampNeg u1)) - u2) + (-1))) (lv' := [(2, .int (((vS (Int32.toNatClampNeg u1)) - u2) + (-1))), (0, .ref aS), (1, .int x1)]) hx hb dX9_tipFrom_23 hl (k := 0) rfl rfl (by decide) rfl (fun ls hl => ?_)
    refine lv_iconst (v := 0) hx hb dX9_tipFrom_26 (by decide) ?_
    refine lv_iload_n hx hb dX9_tipFrom_27 rfl (lv_at hl 0 rfl) ?_
    obtain ⟨u5, hu5, hf⟩ := bn hf
    refine cm_S (As := [.int 0, .int (((vS (Int32.toNatClampNeg u1)) - u2) + (-1))]) (rest := []) (w2 := (W_A E aS 306 vS)) hx hb hml hown hg (c_X9_more E l 0 (((vS (Int32.toNatClampNeg u1)) - u2) + (-1)) u5 hu5) cs_X9_more ml_X9_90 ⟨⟨rfl, rfl⟩, Nat.le_of_ble_eq_true rfl, Nat.le_of_ble_eq_true rfl⟩ hK hE hP hD hS hA [] rfl rfl rfl rfl hl.1 rfl (Nat.le_of_ble_eq_true rfl) dX9_tipFrom_28 ⟨Nat.le_of_ble_eq_true rfl, Nat.le_of_ble_eq_true rfl⟩ [.int u5] rfl (fun H locs hP hD hS => ?_)
    obtain rfl := Option.some.inj hf
    exact cm_iret hx hb hr hlocks hP hS dX9_tipFrom_31
def J_X9_leaves_18 (x1 : Int32) (vS : Nat → Int32) : Option (Int32 × (Nat → Int32)) := (F_X9_guestAt x1 5).bind (fun u1 => ck u1 306 (lt (upd vS (Int32.toNatClampNeg u1) 0) (fun vS_12 => (F_X9_guestAt x1 3).bind (fun u2 => ck u2 306 (lt (upd vS_12 (Int32.toNatClampNeg u2) 1) (fun vS_13 => (F_X9_guestAt x1 4).bind (fun u3 => ck 0 306 (ck u3 306 (lt (upd vS_13 (Int32.toNatClampNeg u3) (vS_13 (Int32.toNatClampNeg 0))) (fun vS_14 => (F_X9_enters vS_14 x1 1).bind (fun u4 => (F_X9_awayMany u4).bind (fun u5 => (some (u5, u4))))))))))))))
def F_X9_leaves (vS : Nat → Int32) (x1 : Int32) : Option (Int32 × (Nat → Int32)) := (F_X9_takenBy vS x1).bind (fun u1 => (if u1 < 0 then (J_X9_leaves_18 x1 vS) else (F_X9_umbrellaAt u1 2).bind (fun u2 => ck u2 306 (lt (upd vS (Int32.toNatClampNeg u2) x1) (fun vS_15 => (J_X9_leaves_18 x1 vS_15))))))
abbrev rm_X9_leaves : Room := { frames := 5, cells := 0, slots := 0, locals := 107 }
set_option maxHeartbeats 4000000 in
set_option maxRecDepth 100000 in
theorem c_X9_leaves (E : Ev) (l : Launch) (aS : Nat) (vS : Nat → Int32) (x1 : Int32) (r : Int32 × (Nat → Int32)) (hf : F_X9_leaves vS x1 = some r) : CM E l yX9_leaves (.code yX9_leaves cX9_leaves 3 (some .int) :: GA) rm_X9_leaves [.ref aS, .int x1] (W_A E aS 306 vS) (some (.int r.1)) (W_A E aS 306 r.2) := by
  refine CM.of (own := RX9) rfl (by decide) (Nat.le_of_ble_eq_true rfl) ?_
  intro p e s m below meth c A ls hx hb hr hml hown hg hlocks hK hE hA hP hD hS hl
  have hl : lv_has ls 3 [(0, .ref aS), (1, .int x1)] := hl
  have jp_18 : ∀ (vS : Nat → Int32) (H : Heap) (locs : List Loc) (ls : Array Slot), J_X9_leaves_18 x1 vS = some r → va_P E.1 vwCl (W_A E aS 306 vS) H → va_D A (W_A E aS 306 vS) → va_S A s.heap H locs → lv_has ls 3 [(0, .ref aS), (1, .int x1)] → W p l e rm_X9_leaves s m ([.ref aS, .int x1] : List Value).toArray below meth c H locs 0 0 (MQ below (QW E (some (.int r.1)) (W_A E aS 306 r.2) A) ([.ref aS, .int x1] : List Value).toArray s 0 0 A) (F0 m 18 ls []) := by
    intro vS H locs ls hf hP hD hS hl
    unfold J_X9_leaves_18 at hf
    refine lv_aload_n hx hb dX9_leaves_18 rfl (lv_at hl 0 rfl) ?_
    refine lv_iload_n hx hb dX9_leaves_19 rfl (lv_at hl 1 rfl) ?_
    refine lv_iconst (v := 5) hx hb dX9_leaves_20 (by decide) ?_
    obtain ⟨u1, hu1, hf⟩ := bn hf
    refine cm_S (As := [.int x1, .int 5]) (rest := [.ref aS]) (w2 := (W_A E aS 306 vS)) hx hb hml hown hg (c_X9_guestAt E l x1 5 u1 hu1) cs_X9_guestAt ml_X9_59 ⟨⟨rfl, rfl⟩, Nat.le_of_ble_eq_true rfl, Nat.le_of_ble_eq_true rfl⟩ hK hE hP hD hS hA [] rfl rfl rfl rfl hl.1 rfl (Nat.le_of_ble_eq_true rfl) dX9_leaves_21 ⟨Nat.le_of_ble_eq_true rfl, Nat.le_of_ble_eq_true rfl⟩ [.int u1, .ref aS] rfl (fun H locs hP hD hS => ?_)
    refine lv_iconst (v := 0) hx hb dX9_leaves_24 (by decide) ?_
    obtain ⟨hi, hf⟩ := ck_o hf
    refine ar_st (w2 := (W_A E aS 306 (upd vS (Int32.toNatClampNeg u1) 0))) hx hb hK hP hD hS 0 rfl hi rfl dX9_leaves_25 (fun H locs hP hD hS => ?_)
    obtain ⟨vS_12, hv, hf⟩ := lt_o hf
    rw [← hv] at hP hD
    clear hv
    refine lv_aload_n hx hb dX9_leaves_26 rfl (lv_at hl 0 rfl) ?_
    refine lv_iload_n hx hb dX9_leaves_27 rfl (lv_at hl 1 rfl) ?_
    refine lv_iconst (v := 3) hx hb dX9_leaves_28 (by decide) ?_
    obtain ⟨u2, hu2, hf⟩ := bn hf
    refine cm_S (As := [.int x1, .int 3]) (rest := [.ref aS]) (w2 := (W_A E aS 306 vS_12)) hx hb hml hown hg (c_X9_guestAt E l x1 3 u2 hu2) cs_X9_guestAt ml_X9_59 ⟨⟨rfl, rfl⟩, Nat.le_of_ble_eq_true rfl, Nat.le_of_ble_eq_true rfl⟩ hK hE hP hD hS hA [] rfl rfl rfl rfl hl.1 rfl (Nat.le_of_ble_eq_true rfl) dX9_leaves_29 ⟨Nat.le_of_ble_eq_true rfl, Nat.le_of_ble_eq_true rfl⟩ [.int u2, .ref aS] rfl (fun H locs hP hD hS => ?_)
    refine lv_iconst (v := 1) hx hb dX9_leaves_32 (by decide) ?_
    obtain ⟨hi, hf⟩ := ck_o hf
    refine ar_st (w2 := (W_A E aS 306 (upd vS_12 (Int32.toNatClampNeg u2) 1))) hx hb hK hP hD hS 0 rfl hi rfl dX9_leaves_33 (fun H locs hP hD hS => ?_)
    obtain ⟨vS_13, hv, hf⟩ := lt_o hf
    rw [← hv] at hP hD
    clear hv
    refine lv_aload_n hx hb dX9_leaves_34 rfl (lv_at hl 0 rfl) ?_
    refine lv_iload_n hx hb dX9_leaves_35 rfl (lv_at hl 1 rfl) ?_
    refine lv_iconst (v := 4) hx hb dX9_leaves_36 (by decide) ?_
    obtain ⟨u3, hu3, hf⟩ := bn hf
    refine cm_S (As := [.int x1, .int 4]) (rest := [.ref aS]) (w2 := (W_A E aS 306 vS_13)) hx hb hml hown hg (c_X9_guestAt E l x1 4 u3 hu3) cs_X9_guestAt ml_X9_59 ⟨⟨rfl, rfl⟩, Nat.le_of_ble_eq_true rfl, Nat.le_of_ble_eq_true rfl⟩ hK hE hP hD hS hA [] rfl rfl rfl rfl hl.1 rfl (Nat.le_of_ble_eq_true rfl) dX9_leaves_37 ⟨Nat.le_of_ble_eq_true rfl, Nat.le_of_ble_eq_true rfl⟩ [.int u3, .ref aS] rfl (fun H locs hP hD hS => ?_)
    refine lv_aload_n hx hb dX9_leaves_40 rfl (lv_at hl 0 rfl) ?_
    refine lv_iconst (v := 0) hx hb dX9_leaves_41 (by decide) ?_
    obtain ⟨hi, hf⟩ := ck_o hf
    refine ar_ld hx hb hK hP 0 rfl hi dX9_leaves_42 ?_
    obtain ⟨hi, hf⟩ := ck_o hf
    refine ar_st (w2 := (W_A E aS 306 (upd vS_13 (Int32.toNatClampNeg u3) (vS_13 (Int32.toNatClampNeg 0))))) hx hb hK hP hD hS 0 rfl hi rfl dX9_leaves_43 (fun H locs hP hD hS => ?_)
    obtain ⟨vS_14, hv, hf⟩ := lt_o hf
    rw [← hv] at hP hD
    clear hv
    refine lv_aload_n hx hb dX9_leaves_44 rfl (lv_at hl 0 rfl) ?_
    refine lv_iload_n hx hb dX9_leaves_45 rfl (lv_at hl 1 rfl) ?_
    refine lv_iconst (v := 1) hx hb dX9_leaves_46 (by decide) ?_
    obtain ⟨u4, hu4, hf⟩ := bn hf
    refine cm_S (As := [.ref aS, .int x1, .int 1]) (rest := []) (w2 := (W_A E aS 306 u4)) hx hb hml hown hg (c_X9_enters E l aS vS_14 x1 1 u4 hu4) cs_X9_enters ml_X9_96 ⟨⟨rfl, rfl⟩, Nat.le_of_ble_eq_true rfl, Nat.le_of_ble_eq_true rfl⟩ hK hE hP hD hS hA [true] rfl rfl rfl rfl hl.1 rfl (Nat.le_of_ble_eq_true rfl) dX9_leaves_47 ⟨Nat.le_of_ble_eq_true rfl, Nat.le_of_ble_eq_true rfl⟩ [] rfl (fun H locs hP hD hS => ?_)
    refine lv_aload_n hx hb dX9_leaves_50 rfl (lv_at hl 0 rfl) ?_
    obtain ⟨u5, hu5, hf⟩ := bn hf
    refine cm_S (As := [.ref aS]) (rest := []) (w2 := (W_A E aS 306 u4)) hx hb hml hown hg (c_X9_awayMany E l aS u4 u5 hu5) cs_X9_awayMany ml_X9_100 ⟨⟨rfl, rfl⟩, Nat.le_of_ble_eq_true rfl, Nat.le_of_ble_eq_true rfl⟩ hK hE hP hD hS hA [true] rfl rfl rfl rfl hl.1 rfl (Nat.le_of_ble_eq_true rfl) dX9_leaves_51 ⟨Nat.le_of_ble_eq_true rfl, Nat.le_of_ble_eq_true rfl⟩ [.int u5] rfl (fun H locs hP hD hS => ?_)
    obtain rfl := Option.some.inj hf
    exact cm_iret hx hb hr hlocks hP hS dX9_leaves_54
  unfold F_X9_leaves at hf
  refine lv_aload_n hx hb dX9_leaves_0 rfl (lv_at hl 0 rfl) ?_
  refine lv_iload_n hx hb dX9_leaves_1 rfl (lv_at hl 1 rfl) ?_
  obtain ⟨u1, hu1, hf⟩ := bn hf
  refine cm_S (As := [.ref aS, .int x1]) (rest := []) (w2 := (W_A E aS 306 vS)) hx hb hml hown hg (c_X9_takenBy E l aS vS x1 u1 hu1) cs_X9_takenBy ml_X9_93 ⟨⟨rfl, rfl⟩, Nat.le_of_ble_eq_true rfl, Nat.le_of_ble_eq_true rfl⟩ hK hE hP hD hS hA [true] rfl rfl rfl rfl hl.1 rfl (Nat.le_of_ble_eq_true rfl) dX9_leaves_2 ⟨Nat.le_of_ble_eq_true rfl, Nat.le_of_ble_eq_true rfl⟩ [.int u1] rfl (fun H locs hP hD hS => ?_)
  refine lv_istore_n (lv' := [(2, .int u1), (0, .ref aS), (1, .int x1)]) hx hb dX9_leaves_5 rfl hl (by decide) rfl (fun ls hl => ?_)
  refine lv_iload_n hx hb dX9_leaves_6 rfl (lv_at hl 0 rfl) ?_
  refine lv_if_lt (tgt := 18) hx hb dX9_leaves_7 (by decide) (fun cq => ?_) (fun cq => ?_)
  · have hf := it cq hf
    exact jp_18 _ _ _ _ hf hP hD hS (lv_sub hl [1, 2] rfl)
  · have hf := ie cq hf
    refine lv_aload_n hx hb dX9_leaves_10 rfl (lv_at hl 1 rfl) ?_
    refine lv_iload_n hx hb dX9_leaves_11 rfl (lv_at hl 0 rfl) ?_
    refine lv_iconst (v := 2) hx hb dX9_leaves_12 (by decide) ?_
    obtain ⟨u2, hu2, hf⟩ := bn hf
    refine cm_S (As := [.int u1, .int 2]) (rest := [.ref aS]) (w2 := (W_A E aS 306 vS)) hx hb hml hown hg (c_X9_umbrellaAt E l u1 2 u2 hu2) cs_X9_umbrellaAt ml_X9_63 ⟨⟨rfl, rfl⟩, Nat.le_of_ble_eq_true rfl, Nat.le_of_ble_eq_true rfl⟩ hK hE hP hD hS hA [] rfl rfl rfl rfl hl.1 rfl (Nat.le_of_ble_eq_true rfl) dX9_leaves_13 ⟨Nat.le_of_ble_eq_true rfl, Nat.le_of_ble_eq_true rfl⟩ [.int u2, .ref aS] rfl (fun H locs hP hD hS => ?_)
    refine lv_iload_n hx hb dX9_leaves_16 rfl (lv_at hl 2 rfl) ?_
    obtain ⟨hi, hf⟩ := ck_o hf
    refine ar_st (w2 := (W_A E aS 306 (upd vS (Int32.toNatClampNeg u2) x1))) hx hb hK hP hD hS 0 rfl hi rfl dX9_leaves_17 (fun H locs hP hD hS => ?_)
    obtain ⟨vS_15, hv, hf⟩ := lt_o hf
    rw [← hv] at hP hD
    clear hv
    exact jp_18 _ _ _ _ hf hP hD hS (lv_sub hl [1, 2] rfl)
def J_X9_returns_24 (x1 : Int32) (x2 : Int32) (vS : Nat → Int32) : Option (Int32 × (Nat → Int32)) := ck 6 306 (ck 6 306 (lt (upd vS (Int32.toNatClampNeg 6) ((vS (Int32.toNatClampNeg 6)) + x2)) (fun vS_9 => (F_X9_guestAt x1 3).bind (fun u1 => ck u1 306 (lt (upd vS_9 (Int32.toNatClampNeg u1) 0) (fun vS_10 => (F_X9_enters vS_10 x1 0).bind (fun u2 => (some (x2, u2)))))))))
def F_X9_returns (vS : Nat → Int32) (x1 : Int32) : Option (Int32 × (Nat → Int32)) := (F_X9_tipFrom vS x1).bind (fun u1 => (F_X9_carriedBy vS x1).bind (fun u2 => (if u2 < 0 then (J_X9_returns_24 x1 u1 vS) else (F_X9_umbrellaAt u2 2).bind (fun u3 => ck u3 306 (lt (upd vS (Int32.toNatClampNeg u3) (-1)) (fun vS_11 => (J_X9_returns_24 x1 u1 vS_11)))))))
abbrev rm_X9_returns : Room := { frames := 3, cells := 0, slots := 0, locals := 64 }
set_option maxHeartbeats 4000000 in
set_option maxRecDepth 100000 in
theorem c_X9_returns (E : Ev) (l : Launch) (aS : Nat) (vS : Nat → Int32) (x1 : Int32) (r : Int32 × (Nat → Int32)) (hf : F_X9_returns vS x1 = some r) : CM E l yX9_returns (.code yX9_returns cX9_returns 4 (some .int) :: GA) rm_X9_returns [.ref aS, .int x1] (W_A E aS 306 vS) (some (.int r.1)) (W_A E aS 306 r.2) := by
  refine CM.of (own := RX9) rfl (by decide) (Nat.le_of_ble_eq_true rfl) ?_
  intro p e s m below meth c A ls hx hb hr hml hown hg hlocks hK hE hA hP hD hS hl
  have hl : lv_has ls 4 [(0, .ref aS), (1, .int x1)] := hl
  have jp_24 : ∀ (x2 : Int32) (vS : Nat → Int32) (H : Heap) (locs : List Loc) (ls : Array Slot), J_X9_returns_24 x1 x2 vS = some r → va_P E.1 vwCl (W_A E aS 306 vS) H → va_D A (W_A E aS 306 vS) → va_S A s.heap H locs → lv_has ls 4 [(0, .ref aS), (1, .int x1), (2, .int x2)] → W p l e rm_X9_returns s m ([.ref aS, .int x1] : List Value).toArray below meth c H locs 0 0 (MQ below (QW E (some (.int r.1)) (W_A E aS 306 r.2) A) ([.ref aS, .int x1] : List Value).toArray s 0 0 A) (F0 m 24 ls []) := by
    intro x2 vS H locs ls hf hP hD hS hl
    unfold J_X9_returns_24 at hf
    refine lv_aload_n hx hb dX9_returns_24 rfl (lv_at hl 0 rfl) ?_
    refine lv_bipush (v := 6) hx hb dX9_returns_25 (by decide) ?_
    refine lv_dup2_11 hx hb dX9_returns_27 rfl rfl ?_
    obtain ⟨hi, hf⟩ := ck_o hf
    refine ar_ld hx hb hK hP 0 rfl hi dX9_returns_28 ?_
    refine lv_iload_n hx hb dX9_returns_29 rfl (lv_at hl 2 rfl) ?_
    refine lv_iadd hx hb dX9_returns_30 ?_
    obtain ⟨hi, hf⟩ := ck_o hf
    refine ar_st (w2 := (W_A E aS 306 (upd vS (Int32.toNatClampNeg 6) ((vS (Int32.toNatClampNeg 6)) + x2)))) hx hb hK hP hD hS 0 rfl hi rfl dX9_returns_31 (fun H locs hP hD hS => ?_)
    obtain ⟨vS_9, hv, hf⟩ := lt_o hf
    rw [← hv] at hP hD
    clear hv
    refine lv_aload_n hx hb dX9_returns_32 rfl (lv_at hl 0 rfl) ?_
    refine lv_iload_n hx hb dX9_returns_33 rfl (lv_at hl 1 rfl) ?_
    refine lv_iconst (v := 3) hx hb dX9_returns_34 (by decide) ?_
    obtain ⟨u1, hu1, hf⟩ := bn hf
    refine cm_S (As := [.int x1, .int 3]) (rest := [.ref aS]) (w2 := (W_A E aS 306 vS_9)) hx hb hml hown hg (c_X9_guestAt E l x1 3 u1 hu1) cs_X9_guestAt ml_X9_59 ⟨⟨rfl, rfl⟩, Nat.le_of_ble_eq_true rfl, Nat.le_of_ble_eq_true rfl⟩ hK hE hP hD hS hA [] rfl rfl rfl rfl hl.1 rfl (Nat.le_of_ble_eq_true rfl) dX9_returns_35 ⟨Nat.le_of_ble_eq_true rfl, Nat.le_of_ble_eq_true rfl⟩ [.int u1, .ref aS] rfl (fun H locs hP hD hS => ?_)
    refine lv_iconst (v := 0) hx hb dX9_returns_38 (by decide) ?_
    obtain ⟨hi, hf⟩ := ck_o hf
    refine ar_st (w2 := (W_A E aS 306 (upd vS_9 (Int32.toNatClampNeg u1) 0))) hx hb hK hP hD hS 0 rfl hi rfl dX9_returns_39 (fun H locs hP hD hS => ?_)
    obtain ⟨vS_10, hv, hf⟩ := lt_o hf
    rw [← hv] at hP hD
    clear hv
    refine lv_aload_n hx hb dX9_returns_40 rfl (lv_at hl 0 rfl) ?_
    refine lv_iload_n hx hb dX9_returns_41 rfl (lv_at hl 1 rfl) ?_
    refine lv_iconst (v := 0) hx hb dX9_returns_42 (by decide) ?_
    obtain ⟨u2, hu2, hf⟩ := bn hf
    refine cm_S (As := [.ref aS, .int x1, .int 0]) (rest := []) (w2 := (W_A E aS 306 u2)) hx hb hml hown hg (c_X9_enters E l aS vS_10 x1 0 u2 hu2) cs_X9_enters ml_X9_96 ⟨⟨rfl, rfl⟩, Nat.le_of_ble_eq_true rfl, Nat.le_of_ble_eq_true rfl⟩ hK hE hP hD hS hA [true] rfl rfl rfl rfl hl.1 rfl (Nat.le_of_ble_eq_true rfl) dX9_returns_43 ⟨Nat.le_of_ble_eq_true rfl, Nat.le_of_ble_eq_true rfl⟩ [] rfl (fun H locs hP hD hS => ?_)
    refine lv_iload_n hx hb dX9_returns_46 rfl (lv_at hl 2 rfl) ?_
    obtain rfl := Option.some.inj hf
    exact cm_iret hx hb hr hlocks hP hS dX9_returns_47
  unfold F_X9_returns at hf
  refine lv_aload_n hx hb dX9_returns_0 rfl (lv_at hl 0 rfl) ?_
  refine lv_iload_n hx hb dX9_returns_1 rfl (lv_at hl 1 rfl) ?_
  obtain ⟨u1, hu1, hf⟩ := bn hf
  refine cm_S (As := [.ref aS, .int x1]) (rest := []) (w2 := (W_A E aS 306 vS)) hx hb hml hown hg (c_X9_tipFrom E l aS vS x1 u1 hu1) cs_X9_tipFrom ml_X9_103 ⟨⟨rfl, rfl⟩, Nat.le_of_ble_eq_true rfl, Nat.le_of_ble_eq_true rfl⟩ hK hE hP hD hS hA [true] rfl rfl rfl rfl hl.1 rfl (Nat.le_of_ble_eq_true rfl) dX9_returns_2 ⟨Nat.le_of_ble_eq_true rfl, Nat.le_of_ble_eq_true rfl⟩ [.int u1] rfl (fun H locs hP hD hS => ?_)
  refine lv_istore_n (lv' := [(2, .int u1), (0, .ref aS), (1, .int x1)]) hx hb dX9_returns_5 rfl hl (by decide) rfl (fun ls hl => ?_)
  refine lv_aload_n hx hb dX9_returns_6 rfl (lv_at hl 1 rfl) ?_
  refine lv_iload_n hx hb dX9_returns_7 rfl (lv_at hl 2 rfl) ?_
  obtain ⟨u2, hu2, hf⟩ := bn hf
  refine cm_S (As := [.ref aS, .int x1]) (rest := []) (w2 := (W_A E aS 306 vS)) hx hb hml hown hg (c_X9_carriedBy E l aS vS x1 u2 hu2) cs_X9_carriedBy ml_X9_106 ⟨⟨rfl, rfl⟩, Nat.le_of_ble_eq_true rfl, Nat.le_of_ble_eq_true rfl⟩ hK hE hP hD hS hA [true] rfl rfl rfl rfl hl.1 rfl (Nat.le_of_ble_eq_true rfl) dX9_returns_8 ⟨Nat.le_of_ble_eq_true rfl, Nat.le_of_ble_eq_true rfl⟩ [.int u2] rfl (fun H locs hP hD hS => ?_)
  refine lv_istore_n (lv' := [(3, .int u2), (2, .int u1), (0, .ref aS), (1, .int x1)]) hx hb dX9_returns_11 rfl hl (by decide) rfl (fun ls hl => ?_)
  refine lv_iload_n hx hb dX9_returns_12 rfl (lv_at hl 0 rfl) ?_
  refine lv_if_lt (tgt := 24) hx hb dX9_returns_13 (by decide) (fun cq => ?_) (fun cq => ?_)
  · have hf := it cq hf
    exact jp_24 _ _ _ _ _ hf hP hD hS (lv_sub hl [2, 3, 1] rfl)
  · have hf := ie cq hf
    refine lv_aload_n hx hb dX9_returns_16 rfl (lv_at hl 2 rfl) ?_
    refine lv_iload_n hx hb dX9_returns_17 rfl (lv_at hl 0 rfl) ?_
    refine lv_iconst (v := 2) hx hb dX9_returns_18 (by decide) ?_
    obtain ⟨u3, hu3, hf⟩ := bn hf
    refine cm_S (As := [.int u2, .int 2]) (rest := [.ref aS]) (w2 := (W_A E aS 306 vS)) hx hb hml hown hg (c_X9_umbrellaAt E l u2 2 u3 hu3) cs_X9_umbrellaAt ml_X9_63 ⟨⟨rfl, rfl⟩, Nat.le_of_ble_eq_true rfl, Nat.le_of_ble_eq_true rfl⟩ hK hE hP hD hS hA [] rfl rfl rfl rfl hl.1 rfl (Nat.le_of_ble_eq_true rfl) dX9_returns_19 ⟨Nat.le_of_ble_eq_true rfl, Nat.le_of_ble_eq_true rfl⟩ [.int u3, .ref aS] rfl (fun H locs hP hD hS => ?_)
    refine lv_iconst (v := (-1)) hx hb dX9_returns_22 (by decide) ?_
    obtain ⟨hi, hf⟩ := ck_o hf
    refine ar_st (w2 := (W_A E aS 306 (upd vS (Int32.toNatClampNeg u3) (-1)))) hx hb hK hP hD hS 0 rfl hi rfl dX9_returns_23 (fun H locs hP hD hS => ?_)
    obtain ⟨vS_11, hv, hf⟩ := lt_o hf
    rw [← hv] at hP hD
    clear hv
    exact jp_24 _ _ _ _ _ hf hP hD hS (lv_sub hl [2, 3, 1] rfl)
def F_X9_barksAt (vS : Nat → Int32) (x1 : Int32) (x2 : Int32) : Option (Int32) := (F_X9_isAway vS x1).bind (fun u1 => (if u1 = 0 then (some 0) else (F_X9_guestAt x1 2).bind (fun u2 => ck u2 306 ((if (vS (Int32.toNatClampNeg u2)) = 0 then (some 0) else (F_X9_guestAt x1 4).bind (fun u3 => ck u3 306 ((if 10 < (x2 - (vS (Int32.toNatClampNeg u3))) then (F_X9_guestAt x1 6).bind (fun u4 => ck u4 306 ((if (vS (Int32.toNatClampNeg u4)) < 0 then (some 1) else (if (x2 - (vS (Int32.toNatClampNeg u4))) < 60 then (some 0) else (some 1))))) else (some 0)))))))))
abbrev rm_X9_barksAt : Room := { frames := 2, cells := 0, slots := 0, locals := 42 }
set_option maxHeartbeats 4000000 in
set_option maxRecDepth 100000 in
theorem c_X9_barksAt (E : Ev) (l : Launch) (aS : Nat) (vS : Nat → Int32) (x1 : Int32) (x2 : Int32) (r : Int32) (hf : F_X9_barksAt vS x1 x2 = some r) : CM E l yX9_barksAt (.code yX9_barksAt cX9_barksAt 4 (some .boolean) :: GA) rm_X9_barksAt [.ref aS, .int x1, .int x2] (W_A E aS 306 vS) (some (.int r)) (W_A E aS 306 vS) := by
  refine CM.of (own := RX9) rfl (by decide) (Nat.le_of_ble_eq_true rfl) ?_
  intro p e s m below meth c A ls hx hb hr hml hown hg hlocks hK hE hA hP hD hS hl
  have hl : lv_has ls 4 [(0, .ref aS), (1, .int x1), (2, .int x2)] := hl
  unfold F_X9_barksAt at hf
  refine lv_aload_n hx hb dX9_barksAt_0 rfl (lv_at hl 0 rfl) ?_
  refine lv_iload_n hx hb dX9_barksAt_1 rfl (lv_at hl 1 rfl) ?_
  obtain ⟨u1, hu1, hf⟩ := bn hf
  refine cm_S (As := [.ref aS, .int x1]) (rest := []) (w2 := (W_A E aS 306 vS)) hx hb hml hown hg (c_X9_isAway E l aS vS x1 u1 hu1) cs_X9_isAway ml_X9_109 ⟨⟨rfl, rfl⟩, Nat.le_of_ble_eq_true rfl, Nat.le_of_ble_eq_true rfl⟩ hK hE hP hD hS hA [true] rfl rfl rfl rfl hl.1 rfl (Nat.le_of_ble_eq_true rfl) dX9_barksAt_2 ⟨Nat.le_of_ble_eq_true rfl, Nat.le_of_ble_eq_true rfl⟩ [.int u1] rfl (fun H locs hP hD hS => ?_)
  refine lv_if_ne (tgt := 10) hx hb dX9_barksAt_5 (by decide) (fun cq => ?_) (fun cq => ?_)
  · have hf := ie cq hf
    refine lv_aload_n hx hb dX9_barksAt_10 rfl (lv_at hl 0 rfl) ?_
    refine lv_iload_n hx hb dX9_barksAt_11 rfl (lv_at hl 1 rfl) ?_
    refine lv_iconst (v := 2) hx hb dX9_barksAt_12 (by decide) ?_
    obtain ⟨u2, hu2, hf⟩ := bn hf
    refine cm_S (As := [.int x1, .int 2]) (rest := [.ref aS]) (w2 := (W_A E aS 306 vS)) hx hb hml hown hg (c_X9_guestAt E l x1 2 u2 hu2) cs_X9_guestAt ml_X9_59 ⟨⟨rfl, rfl⟩, Nat.le_of_ble_eq_true rfl, Nat.le_of_ble_eq_true rfl⟩ hK hE hP hD hS hA [] rfl rfl rfl rfl hl.1 rfl (Nat.le_of_ble_eq_true rfl) dX9_barksAt_13 ⟨Nat.le_of_ble_eq_true rfl, Nat.le_of_ble_eq_true rfl⟩ [.int u2, .ref aS] rfl (fun H locs hP hD hS => ?_)
    obtain ⟨hi, hf⟩ := ck_o hf
    refine ar_ld hx hb hK hP 0 rfl hi dX9_barksAt_16 ?_
    refine lv_if_ne (tgt := 22) hx hb dX9_barksAt_17 (by decide) (fun cq => ?_) (fun cq => ?_)
    · have hf := ie cq hf
      refine lv_iload_n hx hb dX9_barksAt_22 rfl (lv_at hl 2 rfl) ?_
      refine lv_aload_n hx hb dX9_barksAt_23 rfl (lv_at hl 0 rfl) ?_
      refine lv_iload_n hx hb dX9_barksAt_24 rfl (lv_at hl 1 rfl) ?_
      refine lv_iconst (v := 4) hx hb dX9_barksAt_25 (by decide) ?_
      obtain ⟨u3, hu3, hf⟩ := bn hf
      refine cm_S (As := [.int x1, .int 4]) (rest := [.ref aS, .int x2]) (w2 := (W_A E aS 306 vS)) hx hb hml hown hg (c_X9_guestAt E l x1 4 u3 hu3) cs_X9_guestAt ml_X9_59 ⟨⟨rfl, rfl⟩, Nat.le_of_ble_eq_true rfl, Nat.le_of_ble_eq_true rfl⟩ hK hE hP hD hS hA [] rfl rfl rfl rfl hl.1 rfl (Nat.le_of_ble_eq_true rfl) dX9_barksAt_26 ⟨Nat.le_of_ble_eq_true rfl, Nat.le_of_ble_eq_true rfl⟩ [.int u3, .ref aS, .int x2] rfl (fun H locs hP hD hS => ?_)
      obtain ⟨hi, hf⟩ := ck_o hf
      refine ar_ld hx hb hK hP 0 rfl hi dX9_barksAt_29 ?_
      refine lv_isub hx hb dX9_barksAt_30 ?_
      refine lv_bipush (v := 10) hx hb dX9_barksAt_31 (by decide) ?_
      refine lv_icmp_gt (tgt := 38) hx hb dX9_barksAt_33 (by decide) (fun cq => ?_) (fun cq => ?_)
      · have hf := it cq hf
        refine lv_aload_n hx hb dX9_barksAt_38 rfl (lv_at hl 0 rfl) ?_
        refine lv_iload_n hx hb dX9_barksAt_39 rfl (lv_at hl 1 rfl) ?_
        refine lv_bipush (v := 6) hx hb dX9_barksAt_40 (by decide) ?_
        obtain ⟨u4, hu4, hf⟩ := bn hf
        refine cm_S (As := [.int x1, .int 6]) (rest := [.ref aS]) (w2 := (W_A E aS 306 vS)) hx hb hml hown hg (c_X9_guestAt E l x1 6 u4 hu4) cs_X9_guestAt ml_X9_59 ⟨⟨rfl, rfl⟩, Nat.le_of_ble_eq_true rfl, Nat.le_of_ble_eq_true rfl⟩ hK hE hP hD hS hA [] rfl rfl rfl rfl hl.1 rfl (Nat.le_of_ble_eq_true rfl) dX9_barksAt_42 ⟨Nat.le_of_ble_eq_true rfl, Nat.le_of_ble_eq_true rfl⟩ [.int u4, .ref aS] rfl (fun H locs hP hD hS => ?_)
        obtain ⟨hi, hf⟩ := ck_o hf
        refine ar_ld hx hb hK hP 0 rfl hi dX9_barksAt_45 ?_
        refine lv_istore_n (lv' := [(3, .int (vS (Int32.toNatClampNeg u4))), (0, .ref aS), (1, .int x1), (2, .int x2)]) hx hb dX9_barksAt_46 rfl hl (by decide) rfl (fun ls hl => ?_)
        refine lv_iload_n hx hb dX9_barksAt_47 rfl (lv_at hl 0 rfl) ?_
        refine lv_if_lt (tgt := 59) hx hb dX9_barksAt_48 (by decide) (fun cq => ?_) (fun cq => ?_)
        · have hf := it cq hf
          refine lv_iconst (v := 1) hx hb dX9_barksAt_59 (by decide) ?_
          refine lv_goto (tgt := 64) hx hb dX9_barksAt_60 (by decide) ?_
          obtain rfl := Option.some.inj hf
          exact cm_zret (v := 1) hx hb hr hlocks hP hS rfl dX9_barksAt_64
        · have hf := ie cq hf
          refine lv_iload_n hx hb dX9_barksAt_51 rfl (lv_at hl 3 rfl) ?_
          refine lv_iload_n hx hb dX9_barksAt_52 rfl (lv_at hl 0 rfl) ?_
          refine lv_isub hx hb dX9_barksAt_53 ?_
          refine lv_bipush (v := 60) hx hb dX9_barksAt_54 (by decide) ?_
          refine lv_icmp_lt (tgt := 63) hx hb dX9_barksAt_56 (by decide) (fun cq => ?_) (fun cq => ?_)
          · have hf := it cq hf
            refine lv_iconst (v := 0) hx hb dX9_barksAt_63 (by decide) ?_
            obtain rfl := Option.some.inj hf
            exact cm_zret (v := 0) hx hb hr hlocks hP hS rfl dX9_barksAt_64
          · have hf := ie cq hf
            refine lv_iconst (v := 1) hx hb dX9_barksAt_59 (by decide) ?_
            refine lv_goto (tgt := 64) hx hb dX9_barksAt_60 (by decide) ?_
            obtain rfl := Option.some.inj hf
            exact cm_zret (v := 1) hx hb hr hlocks hP hS rfl dX9_barksAt_64
      · have hf := ie cq hf
        refine lv_iconst (v := 0) hx hb dX9_barksAt_36 (by decide) ?_
        obtain rfl := Option.some.inj hf
        exact cm_zret (v := 0) hx hb hr hlocks hP hS rfl dX9_barksAt_37
    · have hf := it cq hf
      refine lv_iconst (v := 0) hx hb dX9_barksAt_20 (by decide) ?_
      obtain rfl := Option.some.inj hf
      exact cm_zret (v := 0) hx hb hr hlocks hP hS rfl dX9_barksAt_21
  · have hf := it cq hf
    refine lv_iconst (v := 0) hx hb dX9_barksAt_8 (by decide) ?_
    obtain rfl := Option.some.inj hf
    exact cm_zret (v := 0) hx hb hr hlocks hP hS rfl dX9_barksAt_9
def F_X9_wets (vS : Nat → Int32) (x1 : Int32) : Option ((Nat → Int32)) := (F_X9_umbrellaAt x1 1).bind (fun u1 => (F_X9_stands vS x1).bind (fun u2 => (if u2 = 0 then ck u1 306 (ck 1 306 ((F_X9_less 99 ((vS (Int32.toNatClampNeg u1)) + (vS (Int32.toNatClampNeg 1)))).bind (fun u3 => ck u1 306 (lt (upd vS (Int32.toNatClampNeg u1) u3) (fun vS_9 => (some vS_9)))))) else ck u1 306 ((if (vS (Int32.toNatClampNeg u1)) ≤ 0 then (some vS) else ck u1 306 (ck u1 306 (lt (upd vS (Int32.toNatClampNeg u1) ((vS (Int32.toNatClampNeg u1)) - 1)) (fun vS_7 => ck 5 306 (ck 5 306 (lt (upd vS_7 (Int32.toNatClampNeg 5) ((vS_7 (Int32.toNatClampNeg 5)) + 1)) (fun vS_8 => (some vS_8))))))))))))
abbrev rm_X9_wets : Room := { frames := 2, cells := 0, slots := 0, locals := 42 }
set_option maxHeartbeats 4000000 in
set_option maxRecDepth 100000 in
theorem c_X9_wets (E : Ev) (l : Launch) (aS : Nat) (vS : Nat → Int32) (x1 : Int32) (r : (Nat → Int32)) (hf : F_X9_wets vS x1 = some r) : CM E l yX9_wets (.code yX9_wets cX9_wets 3 none :: GA) rm_X9_wets [.ref aS, .int x1] (W_A E aS 306 vS) none (W_A E aS 306 r) := by
  refine CM.of (own := RX9) rfl (by decide) (Nat.le_of_ble_eq_true rfl) ?_
  intro p e s m below meth c A ls hx hb hr hml hown hg hlocks hK hE hA hP hD hS hl
  have hl : lv_has ls 3 [(0, .ref aS), (1, .int x1)] := hl
  unfold F_X9_wets at hf
  refine lv_iload_n hx hb dX9_wets_0 rfl (lv_at hl 1 rfl) ?_
  refine lv_iconst (v := 1) hx hb dX9_wets_1 (by decide) ?_
  obtain ⟨u1, hu1, hf⟩ := bn hf
  refine cm_S (As := [.int x1, .int 1]) (rest := []) (w2 := (W_A E aS 306 vS)) hx hb hml hown hg (c_X9_umbrellaAt E l x1 1 u1 hu1) cs_X9_umbrellaAt ml_X9_63 ⟨⟨rfl, rfl⟩, Nat.le_of_ble_eq_true rfl, Nat.le_of_ble_eq_true rfl⟩ hK hE hP hD hS hA [] rfl rfl rfl rfl hl.1 rfl (Nat.le_of_ble_eq_true rfl) dX9_wets_2 ⟨Nat.le_of_ble_eq_true rfl, Nat.le_of_ble_eq_true rfl⟩ [.int u1] rfl (fun H locs hP hD hS => ?_)
  refine lv_istore_n (lv' := [(2, .int u1), (0, .ref aS), (1, .int x1)]) hx hb dX9_wets_5 rfl hl (by decide) rfl (fun ls hl => ?_)
  refine lv_aload_n hx hb dX9_wets_6 rfl (lv_at hl 1 rfl) ?_
  refine lv_iload_n hx hb dX9_wets_7 rfl (lv_at hl 2 rfl) ?_
  obtain ⟨u2, hu2, hf⟩ := bn hf
  refine cm_S (As := [.ref aS, .int x1]) (rest := []) (w2 := (W_A E aS 306 vS)) hx hb hml hown hg (c_X9_stands E l aS vS x1 u2 hu2) cs_X9_stands ml_X9_66 ⟨⟨rfl, rfl⟩, Nat.le_of_ble_eq_true rfl, Nat.le_of_ble_eq_true rfl⟩ hK hE hP hD hS hA [true] rfl rfl rfl rfl hl.1 rfl (Nat.le_of_ble_eq_true rfl) dX9_wets_8 ⟨Nat.le_of_ble_eq_true rfl, Nat.le_of_ble_eq_true rfl⟩ [.int u2] rfl (fun H locs hP hD hS => ?_)
  refine lv_if_ne (tgt := 32) hx hb dX9_wets_11 (by decide) (fun cq => ?_) (fun cq => ?_)
  · have hf := ie cq hf
    refine lv_aload_n hx hb dX9_wets_32 rfl (lv_at hl 1 rfl) ?_
    refine lv_iload_n hx hb dX9_wets_33 rfl (lv_at hl 0 rfl) ?_
    obtain ⟨hi, hf⟩ := ck_o hf
    refine ar_ld hx hb hK hP 0 rfl hi dX9_wets_34 ?_
    refine lv_if_le (tgt := 52) hx hb dX9_wets_35 (by decide) (fun cq => ?_) (fun cq => ?_)
    · have hf := it cq hf
      obtain rfl := Option.some.inj hf
      exact cm_vret hx hb hr hlocks hP hS dX9_wets_52
    · have hf := ie cq hf
      refine lv_aload_n hx hb dX9_wets_38 rfl (lv_at hl 1 rfl) ?_
      refine lv_iload_n hx hb dX9_wets_39 rfl (lv_at hl 0 rfl) ?_
      refine lv_dup2_11 hx hb dX9_wets_40 rfl rfl ?_
      obtain ⟨hi, hf⟩ := ck_o hf
      refine ar_ld hx hb hK hP 0 rfl hi dX9_wets_41 ?_
      refine lv_iconst (v := 1) hx hb dX9_wets_42 (by decide) ?_
      refine lv_isub hx hb dX9_wets_43 ?_
      obtain ⟨hi, hf⟩ := ck_o hf
      refine ar_st (w2 := (W_A E aS 306 (upd vS (Int32.toNatClampNeg u1) ((vS (Int32.toNatClampNeg u1)) - 1)))) hx hb hK hP hD hS 0 rfl hi rfl dX9_wets_44 (fun H locs hP hD hS => ?_)
      obtain ⟨vS_7, hv, hf⟩ := lt_o hf
      rw [← hv] at hP hD
      clear hv
      refine lv_aload_n hx hb dX9_wets_45 rfl (lv_at hl 1 rfl) ?_
      refine lv_iconst (v := 5) hx hb dX9_wets_46 (by decide) ?_
      refine lv_dup2_11 hx hb dX9_wets_47 rfl rfl ?_
      obtain ⟨hi, hf⟩ := ck_o hf
      refine ar_ld hx hb hK hP 0 rfl hi dX9_wets_48 ?_
      refine lv_iconst (v := 1) hx hb dX9_wets_49 (by decide) ?_
      refine lv_iadd hx hb dX9_wets_50 ?_
      obtain ⟨hi, hf⟩ := ck_o hf
      refine ar_st (w2 := (W_A E aS 306 (upd vS_7 (Int32.toNatClampNeg 5) ((vS_7 (Int32.toNatClampNeg 5)) + 1)))) hx hb hK hP hD hS 0 rfl hi rfl dX9_wets_51 (fun H locs hP hD hS => ?_)
      obtain ⟨vS_8, hv, hf⟩ := lt_o hf
      rw [← hv] at hP hD
      clear hv
      obtain rfl := Option.some.inj hf
      exact cm_vret hx hb hr hlocks hP hS dX9_wets_52
  · have hf := it cq hf
    refine lv_aload_n hx hb dX9_wets_14 rfl (lv_at hl 1 rfl) ?_
    refine lv_iload_n hx hb dX9_wets_15 rfl (lv_at hl 0 rfl) ?_
    refine lv_bipush (v := 99) hx hb dX9_wets_16 (by decide) ?_
    refine lv_aload_n hx hb dX9_wets_18 rfl (lv_at hl 1 rfl) ?_
    refine lv_iload_n hx hb dX9_wets_19 rfl (lv_at hl 0 rfl) ?_
    obtain ⟨hi, hf⟩ := ck_o hf
    refine ar_ld hx hb hK hP 0 rfl hi dX9_wets_20 ?_
    refine lv_aload_n hx hb dX9_wets_21 rfl (lv_at hl 1 rfl) ?_
    refine lv_iconst (v := 1) hx hb dX9_wets_22 (by decide) ?_
    obtain ⟨hi, hf⟩ := ck_o hf
    refine ar_ld hx hb hK hP 0 rfl hi dX9_wets_23 ?_
    refine lv_iadd hx hb dX9_wets_24 ?_
    obtain ⟨u3, hu3, hf⟩ := bn hf
    refine cm_S (As := [.int 99, .int ((vS (Int32.toNatClampNeg u1)) + (vS (Int32.toNatClampNeg 1)))]) (rest := [.int u1, .ref aS]) (w2 := (W_A E aS 306 vS)) hx hb hml hown hg (c_X9_less E l 99 ((vS (Int32.toNatClampNeg u1)) + (vS (Int32.toNatClampNeg 1))) u3 hu3) cs_X9_less ml_X9_84 ⟨⟨rfl, rfl⟩, Nat.le_of_ble_eq_true rfl, Nat.le_of_ble_eq_true rfl⟩ hK hE hP hD hS hA [] rfl rfl rfl rfl hl.1 rfl (Nat.le_of_ble_eq_true rfl) dX9_wets_25 ⟨Nat.le_of_ble_eq_true rfl, Nat.le_of_ble_eq_true rfl⟩ [.int u3, .int u1, .ref aS] rfl (fun H locs hP hD hS => ?_)
    obtain ⟨hi, hf⟩ := ck_o hf
    refine ar_st (w2 := (W_A E aS 306 (upd vS (Int32.toNatClampNeg u1) u3))) hx hb hK hP hD hS 0 rfl hi rfl dX9_wets_28 (fun H locs hP hD hS => ?_)
    obtain ⟨vS_9, hv, hf⟩ := lt_o hf
    rw [← hv] at hP hD
    clear hv
    refine lv_goto (tgt := 52) hx hb dX9_wets_29 (by decide) ?_
    obtain rfl := Option.some.inj hf
    exact cm_vret hx hb hr hlocks hP hS dX9_wets_52
def J_X9_passesFor_39 (x1 : Int32) (vS : Nat → Int32) : Option ((Nat → Int32)) := ck 0 306 ((F_X9_barksAt vS x1 (vS (Int32.toNatClampNeg 0))).bind (fun u1 => (if u1 = 0 then (some vS) else ck 3 306 ((F_X9_guestAt x1 2).bind (fun u2 => ck u2 306 (ck 3 306 (lt (upd vS (Int32.toNatClampNeg 3) ((vS (Int32.toNatClampNeg 3)) + (vS (Int32.toNatClampNeg u2)))) (fun vS_6 => (some vS_6)))))))))
def F_X9_passesFor (vS : Nat → Int32) (x1 : Int32) : Option ((Nat → Int32)) := (F_X9_isAway vS x1).bind (fun u1 => (if u1 = 0 then (some vS) else (F_X9_guestAt x1 5).bind (fun u2 => (F_X9_carriedBy vS x1).bind (fun u3 => (if 0 ≤ u3 then (J_X9_passesFor_39 x1 vS) else ck u2 306 (ck 1 306 ((F_X9_less 999 ((vS (Int32.toNatClampNeg u2)) + (vS (Int32.toNatClampNeg 1)))).bind (fun u4 => ck u2 306 (lt (upd vS (Int32.toNatClampNeg u2) u4) (fun vS_7 => (J_X9_passesFor_39 x1 vS_7)))))))))))
abbrev rm_X9_passesFor : Room := { frames := 3, cells := 0, slots := 0, locals := 65 }
set_option maxHeartbeats 4000000 in
set_option maxRecDepth 100000 in
theorem c_X9_passesFor (E : Ev) (l : Launch) (aS : Nat) (vS : Nat → Int32) (x1 : Int32) (r : (Nat → Int32)) (hf : F_X9_passesFor vS x1 = some r) : CM E l yX9_passesFor (.code yX9_passesFor cX9_passesFor 3 none :: GA) rm_X9_passesFor [.ref aS, .int x1] (W_A E aS 306 vS) none (W_A E aS 306 r) := by
  refine CM.of (own := RX9) rfl (by decide) (Nat.le_of_ble_eq_true rfl) ?_
  intro p e s m below meth c A ls hx hb hr hml hown hg hlocks hK hE hA hP hD hS hl
  have hl : lv_has ls 3 [(0, .ref aS), (1, .int x1)] := hl
  have jp_39 : ∀ (vS : Nat → Int32) (H : Heap) (locs : List Loc) (ls : Array Slot), J_X9_passesFor_39 x1 vS = some r → va_P E.1 vwCl (W_A E aS 306 vS) H → va_D A (W_A E aS 306 vS) → va_S A s.heap H locs → lv_has ls 3 [(0, .ref aS), (1, .int x1)] → W p l e rm_X9_passesFor s m ([.ref aS, .int x1] : List Value).toArray below meth c H locs 0 0 (MQ below (QW E none (W_A E aS 306 r) A) ([.ref aS, .int x1] : List Value).toArray s 0 0 A) (F0 m 39 ls []) := by
    intro vS H locs ls hf hP hD hS hl
    unfold J_X9_passesFor_39 at hf
    refine lv_aload_n hx hb dX9_passesFor_39 rfl (lv_at hl 0 rfl) ?_
    refine lv_iload_n hx hb dX9_passesFor_40 rfl (lv_at hl 1 rfl) ?_
    refine lv_aload_n hx hb dX9_passesFor_41 rfl (lv_at hl 0 rfl) ?_
    refine lv_iconst (v := 0) hx hb dX9_passesFor_42 (by decide) ?_
    obtain ⟨hi, hf⟩ := ck_o hf
    refine ar_ld hx hb hK hP 0 rfl hi dX9_passesFor_43 ?_
    obtain ⟨u1, hu1, hf⟩ := bn hf
    refine cm_S (As := [.ref aS, .int x1, .int (vS (Int32.toNatClampNeg 0))]) (rest := []) (w2 := (W_A E aS 306 vS)) hx hb hml hown hg (c_X9_barksAt E l aS vS x1 (vS (Int32.toNatClampNeg 0)) u1 hu1) cs_X9_barksAt ml_X9_112 ⟨⟨rfl, rfl⟩, Nat.le_of_ble_eq_true rfl, Nat.le_of_ble_eq_true rfl⟩ hK hE hP hD hS hA [true] rfl rfl rfl rfl hl.1 rfl (Nat.le_of_ble_eq_true rfl) dX9_passesFor_44 ⟨Nat.le_of_ble_eq_true rfl, Nat.le_of_ble_eq_true rfl⟩ [.int u1] rfl (fun H locs hP hD hS => ?_)
    refine lv_if_eq (tgt := 63) hx hb dX9_passesFor_47 (by decide) (fun cq => ?_) (fun cq => ?_)
    · have hf := it cq hf
      obtain rfl := Option.some.inj hf
      exact cm_vret hx hb hr hlocks hP hS dX9_passesFor_63
    · have hf := ie cq hf
      refine lv_aload_n hx hb dX9_passesFor_50 rfl (lv_at hl 0 rfl) ?_
      refine lv_iconst (v := 3) hx hb dX9_passesFor_51 (by decide) ?_
      refine lv_dup2_11 hx hb dX9_passesFor_52 rfl rfl ?_
      obtain ⟨hi, hf⟩ := ck_o hf
      refine ar_ld hx hb hK hP 0 rfl hi dX9_passesFor_53 ?_
      refine lv_aload_n hx hb dX9_passesFor_54 rfl (lv_at hl 0 rfl) ?_
      refine lv_iload_n hx hb dX9_passesFor_55 rfl (lv_at hl 1 rfl) ?_
      refine lv_iconst (v := 2) hx hb dX9_passesFor_56 (by decide) ?_
      obtain ⟨u2, hu2, hf⟩ := bn hf
      refine cm_S (As := [.int x1, .int 2]) (rest := [.ref aS, .int (vS (Int32.toNatClampNeg 3)), .int 3, .ref aS]) (w2 := (W_A E aS 306 vS)) hx hb hml hown hg (c_X9_guestAt E l x1 2 u2 hu2) cs_X9_guestAt ml_X9_59 ⟨⟨rfl, rfl⟩, Nat.le_of_ble_eq_true rfl, Nat.le_of_ble_eq_true rfl⟩ hK hE hP hD hS hA [] rfl rfl rfl rfl hl.1 rfl (Nat.le_of_ble_eq_true rfl) dX9_passesFor_57 ⟨Nat.le_of_ble_eq_true rfl, Nat.le_of_ble_eq_true rfl⟩ [.int u2, .ref aS, .int (vS (Int32.toNatClampNeg 3)), .int 3, .ref aS] rfl (fun H locs hP hD hS => ?_)
      obtain ⟨hi, hf⟩ := ck_o hf
      refine ar_ld hx hb hK hP 0 rfl hi dX9_passesFor_60 ?_
      refine lv_iadd hx hb dX9_passesFor_61 ?_
      obtain ⟨hi, hf⟩ := ck_o hf
      refine ar_st (w2 := (W_A E aS 306 (upd vS (Int32.toNatClampNeg 3) ((vS (Int32.toNatClampNeg 3)) + (vS (Int32.toNatClampNeg u2)))))) hx hb hK hP hD hS 0 rfl hi rfl dX9_passesFor_62 (fun H locs hP hD hS => ?_)
      obtain ⟨vS_6, hv, hf⟩ := lt_o hf
      rw [← hv] at hP hD
      clear hv
      obtain rfl := Option.some.inj hf
      exact cm_vret hx hb hr hlocks hP hS dX9_passesFor_63
  unfold F_X9_passesFor at hf
  refine lv_aload_n hx hb dX9_passesFor_0 rfl (lv_at hl 0 rfl) ?_
  refine lv_iload_n hx hb dX9_passesFor_1 rfl (lv_at hl 1 rfl) ?_
  obtain ⟨u1, hu1, hf⟩ := bn hf
  refine cm_S (As := [.ref aS, .int x1]) (rest := []) (w2 := (W_A E aS 306 vS)) hx hb hml hown hg (c_X9_isAway E l aS vS x1 u1 hu1) cs_X9_isAway ml_X9_109 ⟨⟨rfl, rfl⟩, Nat.le_of_ble_eq_true rfl, Nat.le_of_ble_eq_true rfl⟩ hK hE hP hD hS hA [true] rfl rfl rfl rfl hl.1 rfl (Nat.le_of_ble_eq_true rfl) dX9_passesFor_2 ⟨Nat.le_of_ble_eq_true rfl, Nat.le_of_ble_eq_true rfl⟩ [.int u1] rfl (fun H locs hP hD hS => ?_)
  refine lv_if_ne (tgt := 9) hx hb dX9_passesFor_5 (by decide) (fun cq => ?_) (fun cq => ?_)
  · have hf := ie cq hf
    refine lv_iload_n hx hb dX9_passesFor_9 rfl (lv_at hl 1 rfl) ?_
    refine lv_iconst (v := 5) hx hb dX9_passesFor_10 (by decide) ?_
    obtain ⟨u2, hu2, hf⟩ := bn hf
    refine cm_S (As := [.int x1, .int 5]) (rest := []) (w2 := (W_A E aS 306 vS)) hx hb hml hown hg (c_X9_guestAt E l x1 5 u2 hu2) cs_X9_guestAt ml_X9_59 ⟨⟨rfl, rfl⟩, Nat.le_of_ble_eq_true rfl, Nat.le_of_ble_eq_true rfl⟩ hK hE hP hD hS hA [] rfl rfl rfl rfl hl.1 rfl (Nat.le_of_ble_eq_true rfl) dX9_passesFor_11 ⟨Nat.le_of_ble_eq_true rfl, Nat.le_of_ble_eq_true rfl⟩ [.int u2] rfl (fun H locs hP hD hS => ?_)
    refine lv_istore_n (lv' := [(2, .int u2), (0, .ref aS), (1, .int x1)]) hx hb dX9_passesFor_14 rfl hl (by decide) rfl (fun ls hl => ?_)
    refine lv_aload_n hx hb dX9_passesFor_15 rfl (lv_at hl 1 rfl) ?_
    refine lv_iload_n hx hb dX9_passesFor_16 rfl (lv_at hl 2 rfl) ?_
    obtain ⟨u3, hu3, hf⟩ := bn hf
    refine cm_S (As := [.ref aS, .int x1]) (rest := []) (w2 := (W_A E aS 306 vS)) hx hb hml hown hg (c_X9_carriedBy E l aS vS x1 u3 hu3) cs_X9_carriedBy ml_X9_106 ⟨⟨rfl, rfl⟩, Nat.le_of_ble_eq_true rfl, Nat.le_of_ble_eq_true rfl⟩ hK hE hP hD hS hA [true] rfl rfl rfl rfl hl.1 rfl (Nat.le_of_ble_eq_true rfl) dX9_passesFor_17 ⟨Nat.le_of_ble_eq_true rfl, Nat.le_of_ble_eq_true rfl⟩ [.int u3] rfl (fun H locs hP hD hS => ?_)
    refine lv_if_ge (tgt := 39) hx hb dX9_passesFor_20 (by decide) (fun cq => ?_) (fun cq => ?_)
    · have hf := it cq hf
      exact jp_39 _ _ _ _ hf hP hD hS (lv_sub hl [1, 2] rfl)
    · have hf := ie cq hf
      refine lv_aload_n hx hb dX9_passesFor_23 rfl (lv_at hl 1 rfl) ?_
      refine lv_iload_n hx hb dX9_passesFor_24 rfl (lv_at hl 0 rfl) ?_
      refine lv_sipush (v := 999) hx hb dX9_passesFor_25 (by decide) ?_
      refine lv_aload_n hx hb dX9_passesFor_28 rfl (lv_at hl 1 rfl) ?_
      refine lv_iload_n hx hb dX9_passesFor_29 rfl (lv_at hl 0 rfl) ?_
      obtain ⟨hi, hf⟩ := ck_o hf
      refine ar_ld hx hb hK hP 0 rfl hi dX9_passesFor_30 ?_
      refine lv_aload_n hx hb dX9_passesFor_31 rfl (lv_at hl 1 rfl) ?_
      refine lv_iconst (v := 1) hx hb dX9_passesFor_32 (by decide) ?_
      obtain ⟨hi, hf⟩ := ck_o hf
      refine ar_ld hx hb hK hP 0 rfl hi dX9_passesFor_33 ?_
      refine lv_iadd hx hb dX9_passesFor_34 ?_
      obtain ⟨u4, hu4, hf⟩ := bn hf
      refine cm_S (As := [.int 999, .int ((vS (Int32.toNatClampNeg u2)) + (vS (Int32.toNatClampNeg 1)))]) (rest := [.int u2, .ref aS]) (w2 := (W_A E aS 306 vS)) hx hb hml hown hg (c_X9_less E l 999 ((vS (Int32.toNatClampNeg u2)) + (vS (Int32.toNatClampNeg 1))) u4 hu4) cs_X9_less ml_X9_84 ⟨⟨rfl, rfl⟩, Nat.le_of_ble_eq_true rfl, Nat.le_of_ble_eq_true rfl⟩ hK hE hP hD hS hA [] rfl rfl rfl rfl hl.1 rfl (Nat.le_of_ble_eq_true rfl) dX9_passesFor_35 ⟨Nat.le_of_ble_eq_true rfl, Nat.le_of_ble_eq_true rfl⟩ [.int u4, .int u2, .ref aS] rfl (fun H locs hP hD hS => ?_)
      obtain ⟨hi, hf⟩ := ck_o hf
      refine ar_st (w2 := (W_A E aS 306 (upd vS (Int32.toNatClampNeg u2) u4))) hx hb hK hP hD hS 0 rfl hi rfl dX9_passesFor_38 (fun H locs hP hD hS => ?_)
      obtain ⟨vS_7, hv, hf⟩ := lt_o hf
      rw [← hv] at hP hD
      clear hv
      exact jp_39 _ _ _ _ hf hP hD hS (lv_sub hl [1, 2] rfl)
  · have hf := it cq hf
    obtain rfl := Option.some.inj hf
    exact cm_vret hx hb hr hlocks hP hS dX9_passesFor_8
def B_X9_passes_30 (rec : Int32 → (Nat → Int32) → Option ((Nat → Int32))) (x1 : Int32) (vS : Nat → Int32) : Option ((Nat → Int32)) := ck 7 306 ((if (vS (Int32.toNatClampNeg 7)) ≤ x1 then ck 0 306 ((if ((vS (Int32.toNatClampNeg 0)) - (vS (Int32.toNatClampNeg 0)) / 60 * 60) = 0 then ck 3 306 (ck 2 306 ((if (vS (Int32.toNatClampNeg 3)) ≤ (vS (Int32.toNatClampNeg 2)) then ck 3 306 (lt (upd vS (Int32.toNatClampNeg 3) 0) (fun vS_12 => (some vS_12))) else ck 4 306 (ck 4 306 (lt (upd vS (Int32.toNatClampNeg 4) ((vS (Int32.toNatClampNeg 4)) + 1)) (fun vS_13 => ck 3 306 (lt (upd vS_13 (Int32.toNatClampNeg 3) 0) (fun vS_14 => (some vS_14))))))))) else (some vS))) else (F_X9_passesFor vS x1).bind (fun u1 => (rec (x1 + 1) u1))))
def L_X9_passes_30 : Nat → Int32 → (Nat → Int32) → Option ((Nat → Int32))
  | 0 => fun _ _ => none
  | n + 1 => fun x1 vS => B_X9_passes_30 (L_X9_passes_30 n) x1 vS
def B_X9_passes_9 (rec : Int32 → (Nat → Int32) → Option ((Nat → Int32))) (x1 : Int32) (vS : Nat → Int32) : Option ((Nat → Int32)) := ck 8 306 ((if (vS (Int32.toNatClampNeg 8)) ≤ x1 then (L_X9_passes_30 FU 0 vS) else (F_X9_wets vS x1).bind (fun u1 => (rec (x1 + 1) u1))))
def L_X9_passes_9 : Nat → Int32 → (Nat → Int32) → Option ((Nat → Int32))
  | 0 => fun _ _ => none
  | n + 1 => fun x1 vS => B_X9_passes_9 (L_X9_passes_9 n) x1 vS
def F_X9_passes (vS : Nat → Int32) : Option ((Nat → Int32)) := ck 0 306 (ck 0 306 (lt (upd vS (Int32.toNatClampNeg 0) ((vS (Int32.toNatClampNeg 0)) + 1)) (fun vS_15 => (L_X9_passes_9 FU 0 vS_15))))
abbrev rm_X9_passes : Room := { frames := 4, cells := 0, slots := 0, locals := 87 }
set_option maxHeartbeats 4000000 in
set_option maxRecDepth 100000 in
theorem c_X9_passes (E : Ev) (l : Launch) (aS : Nat) (vS : Nat → Int32) (r : (Nat → Int32)) (hf : F_X9_passes vS = some r) : CM E l yX9_passes (.code yX9_passes cX9_passes 2 none :: GA) rm_X9_passes [.ref aS] (W_A E aS 306 vS) none (W_A E aS 306 r) := by
  refine CM.of (own := RX9) rfl (by decide) (Nat.le_of_ble_eq_true rfl) ?_
  intro p e s m below meth c A ls hx hb hr hml hown hg hlocks hK hE hA hP hD hS hl
  have hl : lv_has ls 2 [(0, .ref aS)] := hl
  have lp_30 : ∀ (n : Nat) (x1 : Int32) (vS : Nat → Int32) (H : Heap) (locs : List Loc) (ls : Array Slot), L_X9_passes_30 n x1 vS = some r → va_P E.1 vwCl (W_A E aS 306 vS) H → va_D A (W_A E aS 306 vS) → va_S A s.heap H locs → lv_has ls 2 [(0, .ref aS), (1, .int x1)] → W p l e rm_X9_passes s m ([.ref aS] : List Value).toArray below meth c H locs 0 0 (MQ below (QW E none (W_A E aS 306 r) A) ([.ref aS] : List Value).toArray s 0 0 A) (F0 m 30 ls []) := by
    intro n
    induction n with
    | zero => intro x1 vS H locs ls hf; cases hf
    | succ n ih =>
      intro x1 vS H locs ls hf hP hD hS hl
      replace hf : B_X9_passes_30 (L_X9_passes_30 n) x1 vS = some r := hf
      unfold B_X9_passes_30 at hf
      refine lv_iload_n hx hb dX9_passes_30 rfl (lv_at hl 1 rfl) ?_
      refine lv_aload_n hx hb dX9_passes_31 rfl (lv_at hl 0 rfl) ?_
      refine lv_bipush (v := 7) hx hb dX9_passes_32 (by decide) ?_
      obtain ⟨hi, hf⟩ := ck_o hf
      refine ar_ld hx hb hK hP 0 rfl hi dX9_passes_34 ?_
      refine lv_icmp_ge (tgt := 49) hx hb dX9_passes_35 (by decide) (fun cq => ?_) (fun cq => ?_)
      · have hf := it cq hf
        refine lv_aload_n hx hb dX9_passes_49 rfl (lv_at hl 0 rfl) ?_
        refine lv_iconst (v := 0) hx hb dX9_passes_50 (by decide) ?_
        obtain ⟨hi, hf⟩ := ck_o hf
        refine ar_ld hx hb hK hP 0 rfl hi dX9_passes_51 ?_
        refine lv_bipush (v := 60) hx hb dX9_passes_52 (by decide) ?_
        refine lv_irem hx hb dX9_passes_54 (by decide) ?_
        refine lv_if_eq (tgt := 59) hx hb dX9_passes_55 (by decide) (fun cq => ?_) (fun cq => ?_)
        · have hf := it cq hf
          refine lv_aload_n hx hb dX9_passes_59 rfl (lv_at hl 0 rfl) ?_
          refine lv_iconst (v := 3) hx hb dX9_passes_60 (by decide) ?_
          obtain ⟨hi, hf⟩ := ck_o hf
          refine ar_ld hx hb hK hP 0 rfl hi dX9_passes_61 ?_
          refine lv_aload_n hx hb dX9_passes_62 rfl (lv_at hl 0 rfl) ?_
          refine lv_iconst (v := 2) hx hb dX9_passes_63 (by decide) ?_
          obtain ⟨hi, hf⟩ := ck_o hf
          refine ar_ld hx hb hK hP 0 rfl hi dX9_passes_64 ?_
          refine lv_icmp_le (tgt := 75) hx hb dX9_passes_65 (by decide) (fun cq => ?_) (fun cq => ?_)
          · have hf := it cq hf
            refine lv_aload_n hx hb dX9_passes_75 rfl (lv_at hl 0 rfl) ?_
            refine lv_iconst (v := 3) hx hb dX9_passes_76 (by decide) ?_
            refine lv_iconst (v := 0) hx hb dX9_passes_77 (by decide) ?_
            obtain ⟨hi, hf⟩ := ck_o hf
            refine ar_st (w2 := (W_A E aS 306 (upd vS (Int32.toNatClampNeg 3) 0))) hx hb hK hP hD hS 0 rfl hi rfl dX9_passes_78 (fun H locs hP hD hS => ?_)
            obtain ⟨vS_12, hv, hf⟩ := lt_o hf
            rw [← hv] at hP hD
            clear hv
            obtain rfl := Option.some.inj hf
            exact cm_vret hx hb hr hlocks hP hS dX9_passes_79
          · have hf := ie cq hf
            refine lv_aload_n hx hb dX9_passes_68 rfl (lv_at hl 0 rfl) ?_
            refine lv_iconst (v := 4) hx hb dX9_passes_69 (by decide) ?_
            refine lv_dup2_11 hx hb dX9_passes_70 rfl rfl ?_
            obtain ⟨hi, hf⟩ := ck_o hf
            refine ar_ld hx hb hK hP 0 rfl hi dX9_passes_71 ?_
            refine lv_iconst (v := 1) hx hb dX9_passes_72 (by decide) ?_
            refine lv_iadd hx hb dX9_passes_73 ?_
            obtain ⟨hi, hf⟩ := ck_o hf
            refine ar_st (w2 := (W_A E aS 306 (upd vS (Int32.toNatClampNeg 4) ((vS (Int32.toNatClampNeg 4)) + 1)))) hx hb hK hP hD hS 0 rfl hi rfl dX9_passes_74 (fun H locs hP hD hS => ?_)
            obtain ⟨vS_13, hv, hf⟩ := lt_o hf
            rw [← hv] at hP hD
            clear hv
            refine lv_aload_n hx hb dX9_passes_75 rfl (lv_at hl 0 rfl) ?_
            refine lv_iconst (v := 3) hx hb dX9_passes_76 (by decide) ?_
            refine lv_iconst (v := 0) hx hb dX9_passes_77 (by decide) ?_
            obtain ⟨hi, hf⟩ := ck_o hf
            refine ar_st (w2 := (W_A E aS 306 (upd vS_13 (Int32.toNatClampNeg 3) 0))) hx hb hK hP hD hS 0 rfl hi rfl dX9_passes_78 (fun H locs hP hD hS => ?_)
            obtain ⟨vS_14, hv, hf⟩ := lt_o hf
            rw [← hv] at hP hD
            clear hv
            obtain rfl := Option.some.inj hf
            exact cm_vret hx hb hr hlocks hP hS dX9_passes_79
        · have hf := ie cq hf
          obtain rfl := Option.some.inj hf
          exact cm_vret hx hb hr hlocks hP hS dX9_passes_58
      · have hf := ie cq hf
        refine lv_aload_n hx hb dX9_passes_38 rfl (lv_at hl 0 rfl) ?_
        refine lv_iload_n hx hb dX9_passes_39 rfl (lv_at hl 1 rfl) ?_
        obtain ⟨u1, hu1, hf⟩ := bn hf
        refine cm_S (As := [.ref aS, .int x1]) (rest := []) (w2 := (W_A E aS 306 u1)) hx hb hml hown hg (c_X9_passesFor E l aS vS x1 u1 hu1) cs_X9_passesFor ml_X9_120 ⟨⟨rfl, rfl⟩, Nat.le_of_ble_eq_true rfl, Nat.le_of_ble_eq_true rfl⟩ hK hE hP hD hS hA [true] rfl rfl rfl rfl hl.1 rfl (Nat.le_of_ble_eq_true rfl) dX9_passes_40 ⟨Nat.le_of_ble_eq_true rfl, Nat.le_of_ble_eq_true rfl⟩ [] rfl (fun H locs hP hD hS => ?_)
        refine lv_iinc (v := (x1 + 1)) (lv' := [(1, .int (x1 + 1)), (0, .ref aS)]) hx hb dX9_passes_43 hl (k := 1) rfl rfl (by decide) rfl (fun ls hl => ?_)
        refine lv_goto (tgt := 30) hx hb dX9_passes_46 (by decide) ?_
        exact ih _ _ _ _ _ hf hP hD hS (lv_sub hl [1, 0] rfl)
  have lp_9 : ∀ (n : Nat) (x1 : Int32) (vS : Nat → Int32) (H : Heap) (locs : List Loc) (ls : Array Slot), L_X9_passes_9 n x1 vS = some r → va_P E.1 vwCl (W_A E aS 306 vS) H → va_D A (W_A E aS 306 vS) → va_S A s.heap H locs → lv_has ls 2 [(0, .ref aS), (1, .int x1)] → W p l e rm_X9_passes s m ([.ref aS] : List Value).toArray below meth c H locs 0 0 (MQ below (QW E none (W_A E aS 306 r) A) ([.ref aS] : List Value).toArray s 0 0 A) (F0 m 9 ls []) := by
    intro n
    induction n with
    | zero => intro x1 vS H locs ls hf; cases hf
    | succ n ih =>
      intro x1 vS H locs ls hf hP hD hS hl
      replace hf : B_X9_passes_9 (L_X9_passes_9 n) x1 vS = some r := hf
      unfold B_X9_passes_9 at hf
      refine lv_iload_n hx hb dX9_passes_9 rfl (lv_at hl 1 rfl) ?_
      refine lv_aload_n hx hb dX9_passes_10 rfl (lv_at hl 0 rfl) ?_
      refine lv_bipush (v := 8) hx hb dX9_passes_11 (by decide) ?_
      obtain ⟨hi, hf⟩ := ck_o hf
      refine ar_ld hx hb hK hP 0 rfl hi dX9_passes_13 ?_
      refine lv_icmp_ge (tgt := 28) hx hb dX9_passes_14 (by decide) (fun cq => ?_) (fun cq => ?_)
      · have hf := it cq hf
        refine lv_iconst (v := 0) hx hb dX9_passes_28 (by decide) ?_
        refine lv_istore_n (lv' := [(1, .int 0), (0, .ref aS)]) hx hb dX9_passes_29 rfl hl (by decide) rfl (fun ls hl => ?_)
        exact lp_30 FU _ _ _ _ _ hf hP hD hS (lv_sub hl [1, 0] rfl)
      · have hf := ie cq hf
        refine lv_aload_n hx hb dX9_passes_17 rfl (lv_at hl 0 rfl) ?_
        refine lv_iload_n hx hb dX9_passes_18 rfl (lv_at hl 1 rfl) ?_
        obtain ⟨u1, hu1, hf⟩ := bn hf
        refine cm_S (As := [.ref aS, .int x1]) (rest := []) (w2 := (W_A E aS 306 u1)) hx hb hml hown hg (c_X9_wets E l aS vS x1 u1 hu1) cs_X9_wets ml_X9_116 ⟨⟨rfl, rfl⟩, Nat.le_of_ble_eq_true rfl, Nat.le_of_ble_eq_true rfl⟩ hK hE hP hD hS hA [true] rfl rfl rfl rfl hl.1 rfl (Nat.le_of_ble_eq_true rfl) dX9_passes_19 ⟨Nat.le_of_ble_eq_true rfl, Nat.le_of_ble_eq_true rfl⟩ [] rfl (fun H locs hP hD hS => ?_)
        refine lv_iinc (v := (x1 + 1)) (lv' := [(1, .int (x1 + 1)), (0, .ref aS)]) hx hb dX9_passes_22 hl (k := 1) rfl rfl (by decide) rfl (fun ls hl => ?_)
        refine lv_goto (tgt := 9) hx hb dX9_passes_25 (by decide) ?_
        exact ih _ _ _ _ _ hf hP hD hS (lv_sub hl [1, 0] rfl)
  unfold F_X9_passes at hf
  refine lv_aload_n hx hb dX9_passes_0 rfl (lv_at hl 0 rfl) ?_
  refine lv_iconst (v := 0) hx hb dX9_passes_1 (by decide) ?_
  refine lv_dup2_11 hx hb dX9_passes_2 rfl rfl ?_
  obtain ⟨hi, hf⟩ := ck_o hf
  refine ar_ld hx hb hK hP 0 rfl hi dX9_passes_3 ?_
  refine lv_iconst (v := 1) hx hb dX9_passes_4 (by decide) ?_
  refine lv_iadd hx hb dX9_passes_5 ?_
  obtain ⟨hi, hf⟩ := ck_o hf
  refine ar_st (w2 := (W_A E aS 306 (upd vS (Int32.toNatClampNeg 0) ((vS (Int32.toNatClampNeg 0)) + 1)))) hx hb hK hP hD hS 0 rfl hi rfl dX9_passes_6 (fun H locs hP hD hS => ?_)
  obtain ⟨vS_15, hv, hf⟩ := lt_o hf
  rw [← hv] at hP hD
  clear hv
  refine lv_iconst (v := 0) hx hb dX9_passes_7 (by decide) ?_
  refine lv_istore_n (lv' := [(1, .int 0), (0, .ref aS)]) hx hb dX9_passes_8 rfl hl (by decide) rfl (fun ls hl => ?_)
  exact lp_9 FU _ _ _ _ _ hf hP hD hS (lv_sub hl [1, 0] rfl)
def F_X9_overlap (x0 : Int32) (x1 : Int32) (x2 : Int32) (x3 : Int32) : Option (Int32) := (F_X9_less x1 x3).bind (fun u1 => (F_X9_more x0 x2).bind (fun u2 => (F_X9_more 0 ((u1 - u2) + 1)).bind (fun u3 => (some u3))))
abbrev rm_X9_overlap : Room := { frames := 1, cells := 0, slots := 0, locals := 21 }
set_option maxHeartbeats 4000000 in
set_option maxRecDepth 100000 in
theorem c_X9_overlap (E : Ev) (l : Launch) (x0 : Int32) (x1 : Int32) (x2 : Int32) (x3 : Int32) (r : Int32) (hf : F_X9_overlap x0 x1 x2 x3 = some r) : CM E l yX9_overlap (.code yX9_overlap cX9_overlap 4 (some .int) :: GA) rm_X9_overlap [.int x0, .int x1, .int x2, .int x3] [] (some (.int r)) [] := by
  refine CM.of (own := RX9) rfl (by decide) (Nat.le_of_ble_eq_true rfl) ?_
  intro p e s m below meth c A ls hx hb hr hml hown hg hlocks hK hE hA hP hD hS hl
  have hl : lv_has ls 4 [(0, .int x0), (1, .int x1), (2, .int x2), (3, .int x3)] := hl
  unfold F_X9_overlap at hf
  refine lv_iconst (v := 0) hx hb dX9_overlap_0 (by decide) ?_
  refine lv_iload_n hx hb dX9_overlap_1 rfl (lv_at hl 1 rfl) ?_
  refine lv_iload_n hx hb dX9_overlap_2 rfl (lv_at hl 3 rfl) ?_
  obtain ⟨u1, hu1, hf⟩ := bn hf
  refine cm_S (As := [.int x1, .int x3]) (rest := [.int 0]) (w2 := []) hx hb hml hown hg (c_X9_less E l x1 x3 u1 hu1) cs_X9_less ml_X9_84 ⟨⟨rfl, rfl⟩, Nat.le_of_ble_eq_true rfl, Nat.le_of_ble_eq_true rfl⟩ hK hE hP hD hS hA [] rfl rfl rfl rfl hl.1 rfl (Nat.le_of_ble_eq_true rfl) dX9_overlap_3 ⟨Nat.le_of_ble_eq_true rfl, Nat.le_of_ble_eq_true rfl⟩ [.int u1, .int 0] rfl (fun H locs hP hD hS => ?_)
  refine lv_iload_n hx hb dX9_overlap_6 rfl (lv_at hl 0 rfl) ?_
  refine lv_iload_n hx hb dX9_overlap_7 rfl (lv_at hl 2 rfl) ?_
  obtain ⟨u2, hu2, hf⟩ := bn hf
  refine cm_S (As := [.int x0, .int x2]) (rest := [.int u1, .int 0]) (w2 := []) hx hb hml hown hg (c_X9_more E l x0 x2 u2 hu2) cs_X9_more ml_X9_90 ⟨⟨rfl, rfl⟩, Nat.le_of_ble_eq_true rfl, Nat.le_of_ble_eq_true rfl⟩ hK hE hP hD hS hA [] rfl rfl rfl rfl hl.1 rfl (Nat.le_of_ble_eq_true rfl) dX9_overlap_8 ⟨Nat.le_of_ble_eq_true rfl, Nat.le_of_ble_eq_true rfl⟩ [.int u2, .int u1, .int 0] rfl (fun H locs hP hD hS => ?_)
  refine lv_isub hx hb dX9_overlap_11 ?_
  refine lv_iconst (v := 1) hx hb dX9_overlap_12 (by decide) ?_
  refine lv_iadd hx hb dX9_overlap_13 ?_
  obtain ⟨u3, hu3, hf⟩ := bn hf
  refine cm_S (As := [.int 0, .int ((u1 - u2) + 1)]) (rest := []) (w2 := []) hx hb hml hown hg (c_X9_more E l 0 ((u1 - u2) + 1) u3 hu3) cs_X9_more ml_X9_90 ⟨⟨rfl, rfl⟩, Nat.le_of_ble_eq_true rfl, Nat.le_of_ble_eq_true rfl⟩ hK hE hP hD hS hA [] rfl rfl rfl rfl hl.1 rfl (Nat.le_of_ble_eq_true rfl) dX9_overlap_14 ⟨Nat.le_of_ble_eq_true rfl, Nat.le_of_ble_eq_true rfl⟩ [.int u3] rfl (fun H locs hP hD hS => ?_)
  obtain rfl := Option.some.inj hf
  exact cm_iret hx hb hr hlocks hP hS dX9_overlap_17
def B_X9_outBetween_9 (rec : Int32 → Int32 → Int32 → Option (Int32)) (vS : Nat → Int32) (x1 : Int32) (x2 : Int32) (x3 : Int32) (x4 : Int32) (x5 : Int32) (x6 : Int32) : Option (Int32) := ck 9 306 ((if (vS (Int32.toNatClampNeg 9)) ≤ x6 then (if x5 < 0 then (some x4) else ck 0 306 ((F_X9_overlap x5 ((vS (Int32.toNatClampNeg 0)) - 1) x2 x3).bind (fun u1 => (some (x4 + u1))))) else (F_X9_entryAt x6 1).bind (fun u2 => ck u2 306 ((if (vS (Int32.toNatClampNeg u2)) = x1 then (F_X9_entryAt x6 0).bind (fun u3 => ck u3 306 ((F_X9_entryAt x6 2).bind (fun u4 => ck u4 306 ((if (vS (Int32.toNatClampNeg u4)) = 1 then (rec x4 (vS (Int32.toNatClampNeg u3)) (x6 + 1)) else (F_X9_overlap x5 ((vS (Int32.toNatClampNeg u3)) - 1) x2 x3).bind (fun u5 => (rec (x4 + u5) (-1) (x6 + 1)))))))) else (rec x4 x5 (x6 + 1)))))))
def L_X9_outBetween_9 (vS : Nat → Int32) (x1 : Int32) (x2 : Int32) (x3 : Int32) : Nat → Int32 → Int32 → Int32 → Option (Int32)
  | 0 => fun _ _ _ => none
  | n + 1 => fun x4 x5 x6 => B_X9_outBetween_9 (L_X9_outBetween_9 vS x1 x2 x3 n) vS x1 x2 x3 x4 x5 x6
def F_X9_outBetween (vS : Nat → Int32) (x1 : Int32) (x2 : Int32) (x3 : Int32) : Option (Int32) := (L_X9_outBetween_9 vS x1 x2 x3 FU 0 (-1) 0)
abbrev rm_X9_outBetween : Room := { frames := 2, cells := 0, slots := 0, locals := 44 }
set_option maxHeartbeats 4000000 in
set_option maxRecDepth 100000 in
theorem c_X9_outBetween (E : Ev) (l : Launch) (aS : Nat) (vS : Nat → Int32) (x1 : Int32) (x2 : Int32) (x3 : Int32) (r : Int32) (hf : F_X9_outBetween vS x1 x2 x3 = some r) : CM E l yX9_outBetween (.code yX9_outBetween cX9_outBetween 8 (some .int) :: GA) rm_X9_outBetween [.ref aS, .int x1, .int x2, .int x3] (W_A E aS 306 vS) (some (.int r)) (W_A E aS 306 vS) := by
  refine CM.of (own := RX9) rfl (by decide) (Nat.le_of_ble_eq_true rfl) ?_
  intro p e s m below meth c A ls hx hb hr hml hown hg hlocks hK hE hA hP hD hS hl
  have hl : lv_has ls 8 [(0, .ref aS), (1, .int x1), (2, .int x2), (3, .int x3)] := hl
  have lp_9 : ∀ (n : Nat) (x4 : Int32) (x5 : Int32) (x6 : Int32) (H : Heap) (locs : List Loc) (ls : Array Slot), L_X9_outBetween_9 vS x1 x2 x3 n x4 x5 x6 = some r → va_P E.1 vwCl (W_A E aS 306 vS) H → va_D A (W_A E aS 306 vS) → va_S A s.heap H locs → lv_has ls 8 [(0, .ref aS), (1, .int x1), (2, .int x2), (3, .int x3), (4, .int x4), (5, .int x5), (6, .int x6)] → W p l e rm_X9_outBetween s m ([.ref aS, .int x1, .int x2, .int x3] : List Value).toArray below meth c H locs 0 0 (MQ below (QW E (some (.int r)) (W_A E aS 306 vS) A) ([.ref aS, .int x1, .int x2, .int x3] : List Value).toArray s 0 0 A) (F0 m 9 ls []) := by
    intro n
    induction n with
    | zero => intro x4 x5 x6 H locs ls hf; cases hf
    | succ n ih =>
      intro x4 x5 x6 H locs ls hf hP hD hS hl
      replace hf : B_X9_outBetween_9 (L_X9_outBetween_9 vS x1 x2 x3 n) vS x1 x2 x3 x4 x5 x6 = some r := hf
      unfold B_X9_outBetween_9 at hf
      refine lv_iload hx hb dX9_outBetween_9 (lv_at hl 6 rfl) ?_
      refine lv_aload_n hx hb dX9_outBetween_11 rfl (lv_at hl 0 rfl) ?_
      refine lv_bipush (v := 9) hx hb dX9_outBetween_12 (by decide) ?_
      obtain ⟨hi, hf⟩ := ck_o hf
      refine ar_ld hx hb hK hP 0 rfl hi dX9_outBetween_14 ?_
      refine lv_icmp_ge (tgt := 87) hx hb dX9_outBetween_15 (by decide) (fun cq => ?_) (fun cq => ?_)
      · have hf := it cq hf
        refine lv_iload hx hb dX9_outBetween_87 (lv_at hl 5 rfl) ?_
        refine lv_if_lt (tgt := 109) hx hb dX9_outBetween_89 (by decide) (fun cq => ?_) (fun cq => ?_)
        · have hf := it cq hf
          refine lv_iload hx hb dX9_outBetween_109 (lv_at hl 4 rfl) ?_
          obtain rfl := Option.some.inj hf
          exact cm_iret hx hb hr hlocks hP hS dX9_outBetween_111
        · have hf := ie cq hf
          refine lv_iload hx hb dX9_outBetween_92 (lv_at hl 4 rfl) ?_
          refine lv_iload hx hb dX9_outBetween_94 (lv_at hl 5 rfl) ?_
          refine lv_aload_n hx hb dX9_outBetween_96 rfl (lv_at hl 0 rfl) ?_
          refine lv_iconst (v := 0) hx hb dX9_outBetween_97 (by decide) ?_
          obtain ⟨hi, hf⟩ := ck_o hf
          refine ar_ld hx hb hK hP 0 rfl hi dX9_outBetween_98 ?_
          refine lv_iconst (v := 1) hx hb dX9_outBetween_99 (by decide) ?_
          refine lv_isub hx hb dX9_outBetween_100 ?_
          refine lv_iload_n hx hb dX9_outBetween_101 rfl (lv_at hl 2 rfl) ?_
          refine lv_iload_n hx hb dX9_outBetween_102 rfl (lv_at hl 3 rfl) ?_
          obtain ⟨u1, hu1, hf⟩ := bn hf
          refine cm_S (As := [.int x5, .int ((vS (Int32.toNatClampNeg 0)) - 1), .int x2, .int x3]) (rest := [.int x4]) (w2 := (W_A E aS 306 vS)) hx hb hml hown hg (c_X9_overlap E l x5 ((vS (Int32.toNatClampNeg 0)) - 1) x2 x3 u1 hu1) cs_X9_overlap ml_X9_123 ⟨⟨rfl, rfl⟩, Nat.le_of_ble_eq_true rfl, Nat.le_of_ble_eq_true rfl⟩ hK hE hP hD hS hA [] rfl rfl rfl rfl hl.1 rfl (Nat.le_of_ble_eq_true rfl) dX9_outBetween_103 ⟨Nat.le_of_ble_eq_true rfl, Nat.le_of_ble_eq_true rfl⟩ [.int u1, .int x4] rfl (fun H locs hP hD hS => ?_)
          refine lv_iadd hx hb dX9_outBetween_106 ?_
          refine lv_istore (lv' := [(4, .int (x4 + u1)), (0, .ref aS), (1, .int x1), (2, .int x2), (3, .int x3), (5, .int x5), (6, .int x6)]) hx hb dX9_outBetween_107 hl (by decide) rfl (fun ls hl => ?_)
          refine lv_iload hx hb dX9_outBetween_109 (lv_at hl 0 rfl) ?_
          obtain rfl := Option.some.inj hf
          exact cm_iret hx hb hr hlocks hP hS dX9_outBetween_111
      · have hf := ie cq hf
        refine lv_aload_n hx hb dX9_outBetween_18 rfl (lv_at hl 0 rfl) ?_
        refine lv_iload hx hb dX9_outBetween_19 (lv_at hl 6 rfl) ?_
        refine lv_iconst (v := 1) hx hb dX9_outBetween_21 (by decide) ?_
        obtain ⟨u2, hu2, hf⟩ := bn hf
        refine cm_S (As := [.int x6, .int 1]) (rest := [.ref aS]) (w2 := (W_A E aS 306 vS)) hx hb hml hown hg (c_X9_entryAt E l x6 1 u2 hu2) cs_X9_entryAt ml_X9_81 ⟨⟨rfl, rfl⟩, Nat.le_of_ble_eq_true rfl, Nat.le_of_ble_eq_true rfl⟩ hK hE hP hD hS hA [] rfl rfl rfl rfl hl.1 rfl (Nat.le_of_ble_eq_true rfl) dX9_outBetween_22 ⟨Nat.le_of_ble_eq_true rfl, Nat.le_of_ble_eq_true rfl⟩ [.int u2, .ref aS] rfl (fun H locs hP hD hS => ?_)
        obtain ⟨hi, hf⟩ := ck_o hf
        refine ar_ld hx hb hK hP 0 rfl hi dX9_outBetween_25 ?_
        refine lv_iload_n hx hb dX9_outBetween_26 rfl (lv_at hl 1 rfl) ?_
        refine lv_icmp_eq (tgt := 33) hx hb dX9_outBetween_27 (by decide) (fun cq => ?_) (fun cq => ?_)
        · have hf := it cq hf
          refine lv_aload_n hx hb dX9_outBetween_33 rfl (lv_at hl 0 rfl) ?_
          refine lv_iload hx hb dX9_outBetween_34 (lv_at hl 6 rfl) ?_
          refine lv_iconst (v := 0) hx hb dX9_outBetween_36 (by decide) ?_
          obtain ⟨u3, hu3, hf⟩ := bn hf
          refine cm_S (As := [.int x6, .int 0]) (rest := [.ref aS]) (w2 := (W_A E aS 306 vS)) hx hb hml hown hg (c_X9_entryAt E l x6 0 u3 hu3) cs_X9_entryAt ml_X9_81 ⟨⟨rfl, rfl⟩, Nat.le_of_ble_eq_true rfl, Nat.le_of_ble_eq_true rfl⟩ hK hE hP hD hS hA [] rfl rfl rfl rfl hl.1 rfl (Nat.le_of_ble_eq_true rfl) dX9_outBetween_37 ⟨Nat.le_of_ble_eq_true rfl, Nat.le_of_ble_eq_true rfl⟩ [.int u3, .ref aS] rfl (fun H locs hP hD hS => ?_)
          obtain ⟨hi, hf⟩ := ck_o hf
          refine ar_ld hx hb hK hP 0 rfl hi dX9_outBetween_40 ?_
          refine lv_istore (lv' := [(7, .int (vS (Int32.toNatClampNeg u3))), (0, .ref aS), (1, .int x1), (2, .int x2), (3, .int x3), (4, .int x4), (5, .int x5), (6, .int x6)]) hx hb dX9_outBetween_41 hl (by decide) rfl (fun ls hl => ?_)
          refine lv_aload_n hx hb dX9_outBetween_43 rfl (lv_at hl 1 rfl) ?_
          refine lv_iload hx hb dX9_outBetween_44 (lv_at hl 7 rfl) ?_
          refine lv_iconst (v := 2) hx hb dX9_outBetween_46 (by decide) ?_
          obtain ⟨u4, hu4, hf⟩ := bn hf
          refine cm_S (As := [.int x6, .int 2]) (rest := [.ref aS]) (w2 := (W_A E aS 306 vS)) hx hb hml hown hg (c_X9_entryAt E l x6 2 u4 hu4) cs_X9_entryAt ml_X9_81 ⟨⟨rfl, rfl⟩, Nat.le_of_ble_eq_true rfl, Nat.le_of_ble_eq_true rfl⟩ hK hE hP hD hS hA [] rfl rfl rfl rfl hl.1 rfl (Nat.le_of_ble_eq_true rfl) dX9_outBetween_47 ⟨Nat.le_of_ble_eq_true rfl, Nat.le_of_ble_eq_true rfl⟩ [.int u4, .ref aS] rfl (fun H locs hP hD hS => ?_)
          obtain ⟨hi, hf⟩ := ck_o hf
          refine ar_ld hx hb hK hP 0 rfl hi dX9_outBetween_50 ?_
          refine lv_iconst (v := 1) hx hb dX9_outBetween_51 (by decide) ?_
          refine lv_icmp_ne (tgt := 62) hx hb dX9_outBetween_52 (by decide) (fun cq => ?_) (fun cq => ?_)
          · have hf := ie cq hf
            refine lv_iload hx hb dX9_outBetween_62 (lv_at hl 5 rfl) ?_
            refine lv_iload hx hb dX9_outBetween_64 (lv_at hl 6 rfl) ?_
            refine lv_iload hx hb dX9_outBetween_66 (lv_at hl 0 rfl) ?_
            refine lv_iconst (v := 1) hx hb dX9_outBetween_68 (by decide) ?_
            refine lv_isub hx hb dX9_outBetween_69 ?_
            refine lv_iload_n hx hb dX9_outBetween_70 rfl (lv_at hl 3 rfl) ?_
            refine lv_iload_n hx hb dX9_outBetween_71 rfl (lv_at hl 4 rfl) ?_
            obtain ⟨u5, hu5, hf⟩ := bn hf
            refine cm_S (As := [.int x5, .int ((vS (Int32.toNatClampNeg u3)) - 1), .int x2, .int x3]) (rest := [.int x4]) (w2 := (W_A E aS 306 vS)) hx hb hml hown hg (c_X9_overlap E l x5 ((vS (Int32.toNatClampNeg u3)) - 1) x2 x3 u5 hu5) cs_X9_overlap ml_X9_123 ⟨⟨rfl, rfl⟩, Nat.le_of_ble_eq_true rfl, Nat.le_of_ble_eq_true rfl⟩ hK hE hP hD hS hA [] rfl rfl rfl rfl hl.1 rfl (Nat.le_of_ble_eq_true rfl) dX9_outBetween_72 ⟨Nat.le_of_ble_eq_true rfl, Nat.le_of_ble_eq_true rfl⟩ [.int u5, .int x4] rfl (fun H locs hP hD hS => ?_)
            refine lv_iadd hx hb dX9_outBetween_75 ?_
            refine lv_istore (lv' := [(4, .int (x4 + u5)), (7, .int (vS (Int32.toNatClampNeg u3))), (0, .ref aS), (1, .int x1), (2, .int x2), (3, .int x3), (5, .int x5), (6, .int x6)]) hx hb dX9_outBetween_76 hl (by decide) rfl (fun ls hl => ?_)
            refine lv_iconst (v := (-1)) hx hb dX9_outBetween_78 (by decide) ?_
            refine lv_istore (lv' := [(5, .int (-1)), (4, .int (x4 + u5)), (7, .int (vS (Int32.toNatClampNeg u3))), (0, .ref aS), (1, .int x1), (2, .int x2), (3, .int x3), (6, .int x6)]) hx hb dX9_outBetween_79 hl (by decide) rfl (fun ls hl => ?_)
            refine lv_iinc (v := (x6 + 1)) (lv' := [(6, .int (x6 + 1)), (5, .int (-1)), (4, .int (x4 + u5)), (7, .int (vS (Int32.toNatClampNeg u3))), (0, .ref aS), (1, .int x1), (2, .int x2), (3, .int x3)]) hx hb dX9_outBetween_81 hl (k := 7) rfl rfl (by decide) rfl (fun ls hl => ?_)
            refine lv_goto (tgt := 9) hx hb dX9_outBetween_84 (by decide) ?_
            exact ih _ _ _ _ _ _ hf hP hD hS (lv_sub hl [4, 5, 6, 7, 2, 1, 0] rfl)
          · have hf := it cq hf
            refine lv_iload hx hb dX9_outBetween_55 (lv_at hl 0 rfl) ?_
            refine lv_istore (lv' := [(5, .int (vS (Int32.toNatClampNeg u3))), (7, .int (vS (Int32.toNatClampNeg u3))), (0, .ref aS), (1, .int x1), (2, .int x2), (3, .int x3), (4, .int x4), (6, .int x6)]) hx hb dX9_outBetween_57 hl (by decide) rfl (fun ls hl => ?_)
            refine lv_goto (tgt := 81) hx hb dX9_outBetween_59 (by decide) ?_
            refine lv_iinc (v := (x6 + 1)) (lv' := [(6, .int (x6 + 1)), (5, .int (vS (Int32.toNatClampNeg u3))), (7, .int (vS (Int32.toNatClampNeg u3))), (0, .ref aS), (1, .int x1), (2, .int x2), (3, .int x3), (4, .int x4)]) hx hb dX9_outBetween_81 hl (k := 7) rfl rfl (by decide) rfl (fun ls hl => ?_)
            refine lv_goto (tgt := 9) hx hb dX9_outBetween_84 (by decide) ?_
            exact ih _ _ _ _ _ _ hf hP hD hS (lv_sub hl [3, 4, 5, 6, 7, 1, 0] rfl)
        · have hf := ie cq hf
          refine lv_goto (tgt := 81) hx hb dX9_outBetween_30 (by decide) ?_
          refine lv_iinc (v := (x6 + 1)) (lv' := [(6, .int (x6 + 1)), (0, .ref aS), (1, .int x1), (2, .int x2), (3, .int x3), (4, .int x4), (5, .int x5)]) hx hb dX9_outBetween_81 hl (k := 6) rfl rfl (by decide) rfl (fun ls hl => ?_)
          refine lv_goto (tgt := 9) hx hb dX9_outBetween_84 (by decide) ?_
          exact ih _ _ _ _ _ _ hf hP hD hS (lv_sub hl [1, 2, 3, 4, 5, 6, 0] rfl)
  unfold F_X9_outBetween at hf
  refine lv_iconst (v := 0) hx hb dX9_outBetween_0 (by decide) ?_
  refine lv_istore (lv' := [(4, .int 0), (0, .ref aS), (1, .int x1), (2, .int x2), (3, .int x3)]) hx hb dX9_outBetween_1 hl (by decide) rfl (fun ls hl => ?_)
  refine lv_iconst (v := (-1)) hx hb dX9_outBetween_3 (by decide) ?_
  refine lv_istore (lv' := [(5, .int (-1)), (4, .int 0), (0, .ref aS), (1, .int x1), (2, .int x2), (3, .int x3)]) hx hb dX9_outBetween_4 hl (by decide) rfl (fun ls hl => ?_)
  refine lv_iconst (v := 0) hx hb dX9_outBetween_6 (by decide) ?_
  refine lv_istore (lv' := [(6, .int 0), (5, .int (-1)), (4, .int 0), (0, .ref aS), (1, .int x1), (2, .int x2), (3, .int x3)]) hx hb dX9_outBetween_7 hl (by decide) rfl (fun ls hl => ?_)
  exact lp_9 FU _ _ _ _ _ _ hf hP hD hS (lv_sub hl [3, 4, 5, 6, 2, 1, 0] rfl)
def F_X9_outAll (vS : Nat → Int32) (x1 : Int32) : Option (Int32) := ck 0 306 ((F_X9_outBetween vS x1 0 ((vS (Int32.toNatClampNeg 0)) - 1)).bind (fun u1 => (some u1)))
abbrev rm_X9_outAll : Room := { frames := 3, cells := 0, slots := 0, locals := 71 }
set_option maxHeartbeats 4000000 in
set_option maxRecDepth 100000 in
theorem c_X9_outAll (E : Ev) (l : Launch) (aS : Nat) (vS : Nat → Int32) (x1 : Int32) (r : Int32) (hf : F_X9_outAll vS x1 = some r) : CM E l yX9_outAll (.code yX9_outAll cX9_outAll 2 (some .int) :: GA) rm_X9_outAll [.ref aS, .int x1] (W_A E aS 306 vS) (some (.int r)) (W_A E aS 306 vS) := by
  refine CM.of (own := RX9) rfl (by decide) (Nat.le_of_ble_eq_true rfl) ?_
  intro p e s m below meth c A ls hx hb hr hml hown hg hlocks hK hE hA hP hD hS hl
  have hl : lv_has ls 2 [(0, .ref aS), (1, .int x1)] := hl
  unfold F_X9_outAll at hf
  refine lv_aload_n hx hb dX9_outAll_0 rfl (lv_at hl 0 rfl) ?_
  refine lv_iload_n hx hb dX9_outAll_1 rfl (lv_at hl 1 rfl) ?_
  refine lv_iconst (v := 0) hx hb dX9_outAll_2 (by decide) ?_
  refine lv_aload_n hx hb dX9_outAll_3 rfl (lv_at hl 0 rfl) ?_
  refine lv_iconst (v := 0) hx hb dX9_outAll_4 (by decide) ?_
  obtain ⟨hi, hf⟩ := ck_o hf
  refine ar_ld hx hb hK hP 0 rfl hi dX9_outAll_5 ?_
  refine lv_iconst (v := 1) hx hb dX9_outAll_6 (by decide) ?_
  refine lv_isub hx hb dX9_outAll_7 ?_
  obtain ⟨u1, hu1, hf⟩ := bn hf
  refine cm_S (As := [.ref aS, .int x1, .int 0, .int ((vS (Int32.toNatClampNeg 0)) - 1)]) (rest := []) (w2 := (W_A E aS 306 vS)) hx hb hml hown hg (c_X9_outBetween E l aS vS x1 0 ((vS (Int32.toNatClampNeg 0)) - 1) u1 hu1) cs_X9_outBetween ml_X9_127 ⟨⟨rfl, rfl⟩, Nat.le_of_ble_eq_true rfl, Nat.le_of_ble_eq_true rfl⟩ hK hE hP hD hS hA [true] rfl rfl rfl rfl hl.1 rfl (Nat.le_of_ble_eq_true rfl) dX9_outAll_8 ⟨Nat.le_of_ble_eq_true rfl, Nat.le_of_ble_eq_true rfl⟩ [.int u1] rfl (fun H locs hP hD hS => ?_)
  obtain rfl := Option.some.inj hf
  exact cm_iret hx hb hr hlocks hP hS dX9_outAll_11
def J_X9_outBoth_90 (rec : Int32 → Int32 → Int32 → Int32 → Int32 → Option (Int32)) (vS : Nat → Int32) (x1 : Int32) (x2 : Int32) (x3 : Int32) (x4 : Int32) (x5 : Int32) (x6 : Int32) (x7 : Int32) (x9 : Int32) : Option (Int32) := (if x9 = x2 then (F_X9_entryAt x7 2).bind (fun u1 => ck u1 306 ((rec x3 x4 x5 (if (vS (Int32.toNatClampNeg u1)) = 1 then 1 else 0) (x7 + 1)))) else (rec x3 x4 x5 x6 (x7 + 1)))
def J_X9_outBoth_61 (rec : Int32 → Int32 → Int32 → Int32 → Int32 → Option (Int32)) (vS : Nat → Int32) (x1 : Int32) (x2 : Int32) (x3 : Int32) (x5 : Int32) (x6 : Int32) (x7 : Int32) (x8 : Int32) (x9 : Int32) : Option (Int32) := (if x9 = x1 then (F_X9_entryAt x7 2).bind (fun u1 => ck u1 306 ((J_X9_outBoth_90 rec vS x1 x2 x3 x8 (if (vS (Int32.toNatClampNeg u1)) = 1 then 1 else 0) x6 x7 x9))) else (J_X9_outBoth_90 rec vS x1 x2 x3 x8 x5 x6 x7 x9))
def B_X9_outBoth_14 (rec : Int32 → Int32 → Int32 → Int32 → Int32 → Option (Int32)) (vS : Nat → Int32) (x1 : Int32) (x2 : Int32) (x3 : Int32) (x4 : Int32) (x5 : Int32) (x6 : Int32) (x7 : Int32) : Option (Int32) := ck 9 306 ((if (vS (Int32.toNatClampNeg 9)) ≤ x7 then (if x5 = 0 then (some x3) else (if x6 = 0 then (some x3) else ck 0 306 ((some (x3 + ((vS (Int32.toNatClampNeg 0)) - x4)))))) else (F_X9_entryAt x7 0).bind (fun u1 => ck u1 306 ((F_X9_entryAt x7 1).bind (fun u2 => ck u2 306 ((if x5 = 0 then (J_X9_outBoth_61 rec vS x1 x2 x3 x5 x6 x7 (vS (Int32.toNatClampNeg u1)) (vS (Int32.toNatClampNeg u2))) else (if x6 = 0 then (J_X9_outBoth_61 rec vS x1 x2 x3 x5 x6 x7 (vS (Int32.toNatClampNeg u1)) (vS (Int32.toNatClampNeg u2))) else (J_X9_outBoth_61 rec vS x1 x2 (x3 + ((vS (Int32.toNatClampNeg u1)) - x4)) x5 x6 x7 (vS (Int32.toNatClampNeg u1)) (vS (Int32.toNatClampNeg u2)))))))))))
def L_X9_outBoth_14 (vS : Nat → Int32) (x1 : Int32) (x2 : Int32) : Nat → Int32 → Int32 → Int32 → Int32 → Int32 → Option (Int32)
  | 0 => fun _ _ _ _ _ => none
  | n + 1 => fun x3 x4 x5 x6 x7 => B_X9_outBoth_14 (L_X9_outBoth_14 vS x1 x2 n) vS x1 x2 x3 x4 x5 x6 x7
def F_X9_outBoth (vS : Nat → Int32) (x1 : Int32) (x2 : Int32) : Option (Int32) := (L_X9_outBoth_14 vS x1 x2 FU 0 0 0 0 0)
abbrev rm_X9_outBoth : Room := { frames := 1, cells := 0, slots := 0, locals := 21 }
set_option maxHeartbeats 4000000 in
set_option maxRecDepth 100000 in
theorem c_X9_outBoth (E : Ev) (l : Launch) (aS : Nat) (vS : Nat → Int32) (x1 : Int32) (x2 : Int32) (r : Int32) (hf : F_X9_outBoth vS x1 x2 = some r) : CM E l yX9_outBoth (.code yX9_outBoth cX9_outBoth 10 (some .int) :: GA) rm_X9_outBoth [.ref aS, .int x1, .int x2] (W_A E aS 306 vS) (some (.int r)) (W_A E aS 306 vS) := by
  refine CM.of (own := RX9) rfl (by decide) (Nat.le_of_ble_eq_true rfl) ?_
  intro p e s m below meth c A ls hx hb hr hml hown hg hlocks hK hE hA hP hD hS hl
  have hl : lv_has ls 10 [(0, .ref aS), (1, .int x1), (2, .int x2)] := hl
  have lp_14 : ∀ (n : Nat) (x3 : Int32) (x4 : Int32) (x5 : Int32) (x6 : Int32) (x7 : Int32) (H : Heap) (locs : List Loc) (ls : Array Slot), L_X9_outBoth_14 vS x1 x2 n x3 x4 x5 x6 x7 = some r → va_P E.1 vwCl (W_A E aS 306 vS) H → va_D A (W_A E aS 306 vS) → va_S A s.heap H locs → lv_has ls 10 [(0, .ref aS), (1, .int x1), (2, .int x2), (3, .int x3), (4, .int x4), (5, .int x5), (6, .int x6), (7, .int x7)] → W p l e rm_X9_outBoth s m ([.ref aS, .int x1, .int x2] : List Value).toArray below meth c H locs 0 0 (MQ below (QW E (some (.int r)) (W_A E aS 306 vS) A) ([.ref aS, .int x1, .int x2] : List Value).toArray s 0 0 A) (F0 m 14 ls []) := by
    intro n
    induction n with
    | zero => intro x3 x4 x5 x6 x7 H locs ls hf; cases hf
    | succ n ih =>
      have jp_90 : ∀ (x3 : Int32) (x4 : Int32) (x5 : Int32) (x6 : Int32) (x7 : Int32) (x9 : Int32) (H : Heap) (locs : List Loc) (ls : Array Slot), J_X9_outBoth_90 (L_X9_outBoth_14 vS x1 x2 n) vS x1 x2 x3 x4 x5 x6 x7 x9 = some r → va_P E.1 vwCl (W_A E aS 306 vS) H → va_D A (W_A E aS 306 vS) → va_S A s.heap H locs → lv_has ls 10 [(0, .ref aS), (1, .int x1), (2, .int x2), (3, .int x3), (4, .int x4), (5, .int x5), (6, .int x6), (7, .int x7), (9, .int x9)] → W p l e rm_X9_outBoth s m ([.ref aS, .int x1, .int x2] : List Value).toArray below meth c H locs 0 0 (MQ below (QW E (some (.int r)) (W_A E aS 306 vS) A) ([.ref aS, .int x1, .int x2] : List Value).toArray s 0 0 A) (F0 m 90 ls []) := by
        intro x3 x4 x5 x6 x7 x9 H locs ls hf hP hD hS hl
        unfold J_X9_outBoth_90 at hf
        refine lv_iload hx hb dX9_outBoth_90 (lv_at hl 8 rfl) ?_
        refine lv_iload_n hx hb dX9_outBoth_92 rfl (lv_at hl 2 rfl) ?_
        refine lv_icmp_ne (tgt := 115) hx hb dX9_outBoth_93 (by decide) (fun cq => ?_) (fun cq => ?_)
        · have hf := ie cq hf
          refine lv_iinc (v := (x7 + 1)) (lv' := [(7, .int (x7 + 1)), (0, .ref aS), (1, .int x1), (2, .int x2), (3, .int x3), (4, .int x4), (5, .int x5), (6, .int x6), (9, .int x9)]) hx hb dX9_outBoth_115 hl (k := 7) rfl rfl (by decide) rfl (fun ls hl => ?_)
          refine lv_goto (tgt := 14) hx hb dX9_outBoth_118 (by decide) ?_
          exact ih _ _ _ _ _ _ _ _ hf hP hD hS (lv_sub hl [1, 2, 3, 4, 5, 6, 7, 0] rfl)
        · have hf := it cq hf
          refine lv_aload_n hx hb dX9_outBoth_96 rfl (lv_at hl 0 rfl) ?_
          refine lv_iload hx hb dX9_outBoth_97 (lv_at hl 7 rfl) ?_
          refine lv_iconst (v := 2) hx hb dX9_outBoth_99 (by decide) ?_
          obtain ⟨u1, hu1, hf⟩ := bn hf
          refine cm_S (As := [.int x7, .int 2]) (rest := [.ref aS]) (w2 := (W_A E aS 306 vS)) hx hb hml hown hg (c_X9_entryAt E l x7 2 u1 hu1) cs_X9_entryAt ml_X9_81 ⟨⟨rfl, rfl⟩, Nat.le_of_ble_eq_true rfl, Nat.le_of_ble_eq_true rfl⟩ hK hE hP hD hS hA [] rfl rfl rfl rfl hl.1 rfl (Nat.le_of_ble_eq_true rfl) dX9_outBoth_100 ⟨Nat.le_of_ble_eq_true rfl, Nat.le_of_ble_eq_true rfl⟩ [.int u1, .ref aS] rfl (fun H locs hP hD hS => ?_)
          obtain ⟨hi, hf⟩ := ck_o hf
          refine ar_ld hx hb hK hP 0 rfl hi dX9_outBoth_103 ?_
          refine lv_iconst (v := 1) hx hb dX9_outBoth_104 (by decide) ?_
          refine wj (F0 m 113 ls [.int (if (vS (Int32.toNatClampNeg u1)) = 1 then 1 else 0)]) ?_ (fun jk => ?_)
          rotate_left
          · refine lv_icmp_ne (tgt := 112) hx hb dX9_outBoth_105 (by decide) (fun cq => ?_) (fun cq => ?_)
            · rw [if_neg cq] at jk
              refine lv_iconst (v := 0) hx hb dX9_outBoth_112 (by decide) ?_
              exact jk
            · rw [if_pos cq] at jk
              refine lv_iconst (v := 1) hx hb dX9_outBoth_108 (by decide) ?_
              refine lv_goto (tgt := 113) hx hb dX9_outBoth_109 (by decide) ?_
              exact jk
          refine lv_istore (lv' := [(6, .int (if (vS (Int32.toNatClampNeg u1)) = 1 then 1 else 0)), (0, .ref aS), (1, .int x1), (2, .int x2), (3, .int x3), (4, .int x4), (5, .int x5), (7, .int x7), (9, .int x9)]) hx hb dX9_outBoth_113 hl (by decide) rfl (fun ls hl => ?_)
          refine lv_iinc (v := (x7 + 1)) (lv' := [(7, .int (x7 + 1)), (6, .int (if (vS (Int32.toNatClampNeg u1)) = 1 then 1 else 0)), (0, .ref aS), (1, .int x1), (2, .int x2), (3, .int x3), (4, .int x4), (5, .int x5), (9, .int x9)]) hx hb dX9_outBoth_115 hl (k := 7) rfl rfl (by decide) rfl (fun ls hl => ?_)
          refine lv_goto (tgt := 14) hx hb dX9_outBoth_118 (by decide) ?_
          exact ih _ _ _ _ _ _ _ _ hf hP hD hS (lv_sub hl [2, 3, 4, 5, 6, 7, 1, 0] rfl)
      have jp_61 : ∀ (x3 : Int32) (x5 : Int32) (x6 : Int32) (x7 : Int32) (x8 : Int32) (x9 : Int32) (H : Heap) (locs : List Loc) (ls : Array Slot), J_X9_outBoth_61 (L_X9_outBoth_14 vS x1 x2 n) vS x1 x2 x3 x5 x6 x7 x8 x9 = some r → va_P E.1 vwCl (W_A E aS 306 vS) H → va_D A (W_A E aS 306 vS) → va_S A s.heap H locs → lv_has ls 10 [(0, .ref aS), (1, .int x1), (2, .int x2), (3, .int x3), (5, .int x5), (6, .int x6), (7, .int x7), (8, .int x8), (9, .int x9)] → W p l e rm_X9_outBoth s m ([.ref aS, .int x1, .int x2] : List Value).toArray below meth c H locs 0 0 (MQ below (QW E (some (.int r)) (W_A E aS 306 vS) A) ([.ref aS, .int x1, .int x2] : List Value).toArray s 0 0 A) (F0 m 61 ls []) := by
        intro x3 x5 x6 x7 x8 x9 H locs ls hf hP hD hS hl
        unfold J_X9_outBoth_61 at hf
        refine lv_iload hx hb dX9_outBoth_61 (lv_at hl 7 rfl) ?_
        refine lv_istore (lv' := [(4, .int x8), (0, .ref aS), (1, .int x1), (2, .int x2), (3, .int x3), (5, .int x5), (6, .int x6), (7, .int x7), (8, .int x8), (9, .int x9)]) hx hb dX9_outBoth_63 hl (by decide) rfl (fun ls hl => ?_)
        refine lv_iload hx hb dX9_outBoth_65 (lv_at hl 9 rfl) ?_
        refine lv_iload_n hx hb dX9_outBoth_67 rfl (lv_at hl 2 rfl) ?_
        refine lv_icmp_ne (tgt := 90) hx hb dX9_outBoth_68 (by decide) (fun cq => ?_) (fun cq => ?_)
        · have hf := ie cq hf
          exact jp_90 _ _ _ _ _ _ _ _ _ hf hP hD hS (lv_sub hl [1, 2, 3, 4, 0, 5, 6, 7, 9] rfl)
        · have hf := it cq hf
          refine lv_aload_n hx hb dX9_outBoth_71 rfl (lv_at hl 1 rfl) ?_
          refine lv_iload hx hb dX9_outBoth_72 (lv_at hl 7 rfl) ?_
          refine lv_iconst (v := 2) hx hb dX9_outBoth_74 (by decide) ?_
          obtain ⟨u1, hu1, hf⟩ := bn hf
          refine cm_S (As := [.int x7, .int 2]) (rest := [.ref aS]) (w2 := (W_A E aS 306 vS)) hx hb hml hown hg (c_X9_entryAt E l x7 2 u1 hu1) cs_X9_entryAt ml_X9_81 ⟨⟨rfl, rfl⟩, Nat.le_of_ble_eq_true rfl, Nat.le_of_ble_eq_true rfl⟩ hK hE hP hD hS hA [] rfl rfl rfl rfl hl.1 rfl (Nat.le_of_ble_eq_true rfl) dX9_outBoth_75 ⟨Nat.le_of_ble_eq_true rfl, Nat.le_of_ble_eq_true rfl⟩ [.int u1, .ref aS] rfl (fun H locs hP hD hS => ?_)
          obtain ⟨hi, hf⟩ := ck_o hf
          refine ar_ld hx hb hK hP 0 rfl hi dX9_outBoth_78 ?_
          refine lv_iconst (v := 1) hx hb dX9_outBoth_79 (by decide) ?_
          refine wj (F0 m 88 ls [.int (if (vS (Int32.toNatClampNeg u1)) = 1 then 1 else 0)]) ?_ (fun jk => ?_)
          rotate_left
          · refine lv_icmp_ne (tgt := 87) hx hb dX9_outBoth_80 (by decide) (fun cq => ?_) (fun cq => ?_)
            · rw [if_neg cq] at jk
              refine lv_iconst (v := 0) hx hb dX9_outBoth_87 (by decide) ?_
              exact jk
            · rw [if_pos cq] at jk
              refine lv_iconst (v := 1) hx hb dX9_outBoth_83 (by decide) ?_
              refine lv_goto (tgt := 88) hx hb dX9_outBoth_84 (by decide) ?_
              exact jk
          refine lv_istore (lv' := [(5, .int (if (vS (Int32.toNatClampNeg u1)) = 1 then 1 else 0)), (4, .int x8), (0, .ref aS), (1, .int x1), (2, .int x2), (3, .int x3), (6, .int x6), (7, .int x7), (8, .int x8), (9, .int x9)]) hx hb dX9_outBoth_88 hl (by decide) rfl (fun ls hl => ?_)
          exact jp_90 _ _ _ _ _ _ _ _ _ hf hP hD hS (lv_sub hl [2, 3, 4, 5, 1, 0, 6, 7, 9] rfl)
      intro x3 x4 x5 x6 x7 H locs ls hf hP hD hS hl
      replace hf : B_X9_outBoth_14 (L_X9_outBoth_14 vS x1 x2 n) vS x1 x2 x3 x4 x5 x6 x7 = some r := hf
      unfold B_X9_outBoth_14 at hf
      refine lv_iload hx hb dX9_outBoth_14 (lv_at hl 7 rfl) ?_
      refine lv_aload_n hx hb dX9_outBoth_16 rfl (lv_at hl 0 rfl) ?_
      refine lv_bipush (v := 9) hx hb dX9_outBoth_17 (by decide) ?_
      obtain ⟨hi, hf⟩ := ck_o hf
      refine ar_ld hx hb hK hP 0 rfl hi dX9_outBoth_19 ?_
      refine lv_icmp_ge (tgt := 121) hx hb dX9_outBoth_20 (by decide) (fun cq => ?_) (fun cq => ?_)
      · have hf := it cq hf
        refine lv_iload hx hb dX9_outBoth_121 (lv_at hl 5 rfl) ?_
        refine lv_if_eq (tgt := 140) hx hb dX9_outBoth_123 (by decide) (fun cq => ?_) (fun cq => ?_)
        · have hf := it cq hf
          refine lv_iload_n hx hb dX9_outBoth_140 rfl (lv_at hl 3 rfl) ?_
          obtain rfl := Option.some.inj hf
          exact cm_iret hx hb hr hlocks hP hS dX9_outBoth_141
        · have hf := ie cq hf
          refine lv_iload hx hb dX9_outBoth_126 (lv_at hl 6 rfl) ?_
          refine lv_if_eq (tgt := 140) hx hb dX9_outBoth_128 (by decide) (fun cq => ?_) (fun cq => ?_)
          · have hf := it cq hf
            refine lv_iload_n hx hb dX9_outBoth_140 rfl (lv_at hl 3 rfl) ?_
            obtain rfl := Option.some.inj hf
            exact cm_iret hx hb hr hlocks hP hS dX9_outBoth_141
          · have hf := ie cq hf
            refine lv_iload_n hx hb dX9_outBoth_131 rfl (lv_at hl 3 rfl) ?_
            refine lv_aload_n hx hb dX9_outBoth_132 rfl (lv_at hl 0 rfl) ?_
            refine lv_iconst (v := 0) hx hb dX9_outBoth_133 (by decide) ?_
            obtain ⟨hi, hf⟩ := ck_o hf
            refine ar_ld hx hb hK hP 0 rfl hi dX9_outBoth_134 ?_
            refine lv_iload hx hb dX9_outBoth_135 (lv_at hl 4 rfl) ?_
            refine lv_isub hx hb dX9_outBoth_137 ?_
            refine lv_iadd hx hb dX9_outBoth_138 ?_
            refine lv_istore_n (lv' := [(3, .int (x3 + ((vS (Int32.toNatClampNeg 0)) - x4))), (0, .ref aS), (1, .int x1), (2, .int x2), (4, .int x4), (5, .int x5), (6, .int x6), (7, .int x7)]) hx hb dX9_outBoth_139 rfl hl (by decide) rfl (fun ls hl => ?_)
            refine lv_iload_n hx hb dX9_outBoth_140 rfl (lv_at hl 0 rfl) ?_
            obtain rfl := Option.some.inj hf
            exact cm_iret hx hb hr hlocks hP hS dX9_outBoth_141
      · have hf := ie cq hf
        refine lv_aload_n hx hb dX9_outBoth_23 rfl (lv_at hl 0 rfl) ?_
        refine lv_iload hx hb dX9_outBoth_24 (lv_at hl 7 rfl) ?_
        refine lv_iconst (v := 0) hx hb dX9_outBoth_26 (by decide) ?_
        obtain ⟨u1, hu1, hf⟩ := bn hf
        refine cm_S (As := [.int x7, .int 0]) (rest := [.ref aS]) (w2 := (W_A E aS 306 vS)) hx hb hml hown hg (c_X9_entryAt E l x7 0 u1 hu1) cs_X9_entryAt ml_X9_81 ⟨⟨rfl, rfl⟩, Nat.le_of_ble_eq_true rfl, Nat.le_of_ble_eq_true rfl⟩ hK hE hP hD hS hA [] rfl rfl rfl rfl hl.1 rfl (Nat.le_of_ble_eq_true rfl) dX9_outBoth_27 ⟨Nat.le_of_ble_eq_true rfl, Nat.le_of_ble_eq_true rfl⟩ [.int u1, .ref aS] rfl (fun H locs hP hD hS => ?_)
        obtain ⟨hi, hf⟩ := ck_o hf
        refine ar_ld hx hb hK hP 0 rfl hi dX9_outBoth_30 ?_
        refine lv_istore (lv' := [(8, .int (vS (Int32.toNatClampNeg u1))), (0, .ref aS), (1, .int x1), (2, .int x2), (3, .int x3), (4, .int x4), (5, .int x5), (6, .int x6), (7, .int x7)]) hx hb dX9_outBoth_31 hl (by decide) rfl (fun ls hl => ?_)
        refine lv_aload_n hx hb dX9_outBoth_33 rfl (lv_at hl 1 rfl) ?_
        refine lv_iload hx hb dX9_outBoth_34 (lv_at hl 8 rfl) ?_
        refine lv_iconst (v := 1) hx hb dX9_outBoth_36 (by decide) ?_
        obtain ⟨u2, hu2, hf⟩ := bn hf
        refine cm_S (As := [.int x7, .int 1]) (rest := [.ref aS]) (w2 := (W_A E aS 306 vS)) hx hb hml hown hg (c_X9_entryAt E l x7 1 u2 hu2) cs_X9_entryAt ml_X9_81 ⟨⟨rfl, rfl⟩, Nat.le_of_ble_eq_true rfl, Nat.le_of_ble_eq_true rfl⟩ hK hE hP hD hS hA [] rfl rfl rfl rfl hl.1 rfl (Nat.le_of_ble_eq_true rfl) dX9_outBoth_37 ⟨Nat.le_of_ble_eq_true rfl, Nat.le_of_ble_eq_true rfl⟩ [.int u2, .ref aS] rfl (fun H locs hP hD hS => ?_)
        obtain ⟨hi, hf⟩ := ck_o hf
        refine ar_ld hx hb hK hP 0 rfl hi dX9_outBoth_40 ?_
        refine lv_istore (lv' := [(9, .int (vS (Int32.toNatClampNeg u2))), (8, .int (vS (Int32.toNatClampNeg u1))), (0, .ref aS), (1, .int x1), (2, .int x2), (3, .int x3), (4, .int x4), (5, .int x5), (6, .int x6), (7, .int x7)]) hx hb dX9_outBoth_41 hl (by decide) rfl (fun ls hl => ?_)
        refine lv_iload hx hb dX9_outBoth_43 (lv_at hl 7 rfl) ?_
        refine lv_if_eq (tgt := 61) hx hb dX9_outBoth_45 (by decide) (fun cq => ?_) (fun cq => ?_)
        · have hf := it cq hf
          exact jp_61 _ _ _ _ _ _ _ _ _ hf hP hD hS (lv_sub hl [2, 3, 4, 5, 7, 8, 9, 1, 0] rfl)
        · have hf := ie cq hf
          refine lv_iload hx hb dX9_outBoth_48 (lv_at hl 8 rfl) ?_
          refine lv_if_eq (tgt := 61) hx hb dX9_outBoth_50 (by decide) (fun cq => ?_) (fun cq => ?_)
          · have hf := it cq hf
            exact jp_61 _ _ _ _ _ _ _ _ _ hf hP hD hS (lv_sub hl [2, 3, 4, 5, 7, 8, 9, 1, 0] rfl)
          · have hf := ie cq hf
            refine lv_iload_n hx hb dX9_outBoth_53 rfl (lv_at hl 5 rfl) ?_
            refine lv_iload hx hb dX9_outBoth_54 (lv_at hl 1 rfl) ?_
            refine lv_iload hx hb dX9_outBoth_56 (lv_at hl 6 rfl) ?_
            refine lv_isub hx hb dX9_outBoth_58 ?_
            refine lv_iadd hx hb dX9_outBoth_59 ?_
            refine lv_istore_n (lv' := [(3, .int (x3 + ((vS (Int32.toNatClampNeg u1)) - x4))), (9, .int (vS (Int32.toNatClampNeg u2))), (8, .int (vS (Int32.toNatClampNeg u1))), (0, .ref aS), (1, .int x1), (2, .int x2), (4, .int x4), (5, .int x5), (6, .int x6), (7, .int x7)]) hx hb dX9_outBoth_60 rfl hl (by decide) rfl (fun ls hl => ?_)
            exact jp_61 _ _ _ _ _ _ _ _ _ hf hP hD hS (lv_sub hl [3, 4, 5, 0, 7, 8, 9, 2, 1] rfl)
  unfold F_X9_outBoth at hf
  refine lv_iconst (v := 0) hx hb dX9_outBoth_0 (by decide) ?_
  refine lv_istore_n (lv' := [(3, .int 0), (0, .ref aS), (1, .int x1), (2, .int x2)]) hx hb dX9_outBoth_1 rfl hl (by decide) rfl (fun ls hl => ?_)
  refine lv_iconst (v := 0) hx hb dX9_outBoth_2 (by decide) ?_
  refine lv_istore (lv' := [(4, .int 0), (3, .int 0), (0, .ref aS), (1, .int x1), (2, .int x2)]) hx hb dX9_outBoth_3 hl (by decide) rfl (fun ls hl => ?_)
  refine lv_iconst (v := 0) hx hb dX9_outBoth_5 (by decide) ?_
  refine lv_istore (lv' := [(5, .int 0), (4, .int 0), (3, .int 0), (0, .ref aS), (1, .int x1), (2, .int x2)]) hx hb dX9_outBoth_6 hl (by decide) rfl (fun ls hl => ?_)
  refine lv_iconst (v := 0) hx hb dX9_outBoth_8 (by decide) ?_
  refine lv_istore (lv' := [(6, .int 0), (5, .int 0), (4, .int 0), (3, .int 0), (0, .ref aS), (1, .int x1), (2, .int x2)]) hx hb dX9_outBoth_9 hl (by decide) rfl (fun ls hl => ?_)
  refine lv_iconst (v := 0) hx hb dX9_outBoth_11 (by decide) ?_
  refine lv_istore (lv' := [(7, .int 0), (6, .int 0), (5, .int 0), (4, .int 0), (3, .int 0), (0, .ref aS), (1, .int x1), (2, .int x2)]) hx hb dX9_outBoth_12 hl (by decide) rfl (fun ls hl => ?_)
  exact lp_14 FU _ _ _ _ _ _ _ _ hf hP hD hS (lv_sub hl [5, 6, 7, 4, 3, 2, 1, 0] rfl)
def J_X9_append_80 (rec : Int32 → ((Nat → Int32) × Int64) → (Nat → Int32) → Option (Int32 × ((Nat → Int32) × Int64) × (Nat → Int32))) (x1 : Int32) (x2 : Int32) (x3 : Int32) (x4 : Int32) (x5 : Int32) (x6 : Int32) (t0 : Int32) (vM : (Nat → Int32) × Int64) (vbuffer : Nat → Int32) : Option (Int32 × ((Nat → Int32) × Int64) × (Nat → Int32)) := ck (vM.1 1) 600 (lt (upd vbuffer (Int32.toNatClampNeg (vM.1 1)) ((t0 >>> ((24 - (8 * (x6 - x6 / 4 * 4))) &&& 31)) &&& 255)) (fun vbuffer_9 => lt (va_up vM.1 1 ((vM.1 1) + 1), vM.2) (fun vM_10 => (rec (x6 + 1) vM_10 vbuffer_9))))
def B_X9_append_27 (rec : Int32 → ((Nat → Int32) × Int64) → (Nat → Int32) → Option (Int32 × ((Nat → Int32) × Int64) × (Nat → Int32))) (x1 : Int32) (x2 : Int32) (x3 : Int32) (x4 : Int32) (x5 : Int32) (x6 : Int32) (vM : (Nat → Int32) × Int64) (vbuffer : Nat → Int32) : Option (Int32 × ((Nat → Int32) × Int64) × (Nat → Int32)) := (if 20 ≤ x6 then (some ((vM.1 1), vM, vbuffer)) else (if 4 ≤ x6 then (if 8 ≤ x6 then (if 12 ≤ x6 then (if 16 ≤ x6 then (J_X9_append_80 rec x1 x2 x3 x4 x5 x6 x5 vM vbuffer) else (J_X9_append_80 rec x1 x2 x3 x4 x5 x6 x4 vM vbuffer)) else (J_X9_append_80 rec x1 x2 x3 x4 x5 x6 x3 vM vbuffer)) else (J_X9_append_80 rec x1 x2 x3 x4 x5 x6 x2 vM vbuffer)) else (J_X9_append_80 rec x1 x2 x3 x4 x5 x6 x1 vM vbuffer)))
def L_X9_append_27 (x1 : Int32) (x2 : Int32) (x3 : Int32) (x4 : Int32) (x5 : Int32) : Nat → Int32 → ((Nat → Int32) × Int64) → (Nat → Int32) → Option (Int32 × ((Nat → Int32) × Int64) × (Nat → Int32))
  | 0 => fun _ _ _ => none
  | n + 1 => fun x6 vM vbuffer => B_X9_append_27 (L_X9_append_27 x1 x2 x3 x4 x5 n) x1 x2 x3 x4 x5 x6 vM vbuffer
def F_X9_append (vM : (Nat → Int32) × Int64) (vbuffer : Nat → Int32) (x1 : Int32) (x2 : Int32) (x3 : Int32) (x4 : Int32) (x5 : Int32) : Option (Int32 × ((Nat → Int32) × Int64) × (Nat → Int32)) := lt (va_up vM.1 3 0, vM.2) (fun vM_11 => (if ((vM_11.1 1) + 20) ≤ 600 then (L_X9_append_27 x1 x2 x3 x4 x5 FU 0 vM_11 vbuffer) else (F_X9_fails vM_11 1).bind (fun u1 => (some (u1.1, u1.2, vbuffer)))))
abbrev rm_X9_append : Room := { frames := 1, cells := 0, slots := 0, locals := 21 }
set_option maxHeartbeats 4000000 in
set_option maxRecDepth 100000 in
theorem c_X9_append (E : Ev) (l : Launch) (aM : Nat → Nat) (vM : (Nat → Int32) × Int64) (vbuffer : Nat → Int32) (x1 : Int32) (x2 : Int32) (x3 : Int32) (x4 : Int32) (x5 : Int32) (r : Int32 × ((Nat → Int32) × Int64) × (Nat → Int32)) (hf : F_X9_append vM vbuffer x1 x2 x3 x4 x5 = some r) : CM E l yX9_append (.code yX9_append cX9_append 8 (some .int) :: GA) rm_X9_append [.ref (aM 0), .int x1, .int x2, .int x3, .int x4, .int x5] (W_M aM vM ++ (W_A E (aM 7) 600 vbuffer)) (some (.int r.1)) (W_M aM r.2.1 ++ (W_A E (aM 7) 600 r.2.2)) := by
  refine CM.of (own := RX9) rfl (by decide) (Nat.le_of_ble_eq_true rfl) ?_
  intro p e s m below meth c A ls hx hb hr hml hown hg hlocks hK hE hA hP hD hS hl
  have hl : lv_has ls 8 [(0, .ref (aM 0)), (1, .int x1), (2, .int x2), (3, .int x3), (4, .int x4), (5, .int x5)] := hl
  have lp_27 : ∀ (n : Nat) (x6 : Int32) (vM : (Nat → Int32) × Int64) (vbuffer : Nat → Int32) (H : Heap) (locs : List Loc) (ls : Array Slot), L_X9_append_27 x1 x2 x3 x4 x5 n x6 vM vbuffer = some r → va_P E.1 vwCl (W_M aM vM ++ (W_A E (aM 7) 600 vbuffer)) H → va_D A (W_M aM vM ++ (W_A E (aM 7) 600 vbuffer)) → va_S A s.heap H locs → lv_has ls 8 [(0, .ref (aM 0)), (1, .int x1), (2, .int x2), (3, .int x3), (4, .int x4), (5, .int x5), (6, .int x6)] → W p l e rm_X9_append s m ([.ref (aM 0), .int x1, .int x2, .int x3, .int x4, .int x5] : List Value).toArray below meth c H locs 0 0 (MQ below (QW E (some (.int r.1)) (W_M aM r.2.1 ++ (W_A E (aM 7) 600 r.2.2)) A) ([.ref (aM 0), .int x1, .int x2, .int x3, .int x4, .int x5] : List Value).toArray s 0 0 A) (F0 m 27 ls []) := by
    intro n
    induction n with
    | zero => intro x6 vM vbuffer H locs ls hf; cases hf
    | succ n ih =>
      have jp_80 : ∀ (x6 : Int32) (t0 : Int32) (vM : (Nat → Int32) × Int64) (vbuffer : Nat → Int32) (H : Heap) (locs : List Loc) (ls : Array Slot), J_X9_append_80 (L_X9_append_27 x1 x2 x3 x4 x5 n) x1 x2 x3 x4 x5 x6 t0 vM vbuffer = some r → va_P E.1 vwCl (W_M aM vM ++ (W_A E (aM 7) 600 vbuffer)) H → va_D A (W_M aM vM ++ (W_A E (aM 7) 600 vbuffer)) → va_S A s.heap H locs → lv_has ls 8 [(0, .ref (aM 0)), (1, .int x1), (2, .int x2), (3, .int x3), (4, .int x4), (5, .int x5), (6, .int x6)] → W p l e rm_X9_append s m ([.ref (aM 0), .int x1, .int x2, .int x3, .int x4, .int x5] : List Value).toArray below meth c H locs 0 0 (MQ below (QW E (some (.int r.1)) (W_M aM r.2.1 ++ (W_A E (aM 7) 600 r.2.2)) A) ([.ref (aM 0), .int x1, .int x2, .int x3, .int x4, .int x5] : List Value).toArray s 0 0 A) (F0 m 80 ls [.int t0]) := by
        intro x6 t0 vM vbuffer H locs ls hf hP hD hS hl
        unfold J_X9_append_80 at hf
        refine lv_istore (lv' := [(7, .int t0), (0, .ref (aM 0)), (1, .int x1), (2, .int x2), (3, .int x3), (4, .int x4), (5, .int x5), (6, .int x6)]) hx hb dX9_append_80 hl (by decide) rfl (fun ls hl => ?_)
        refine lv_aload_n hx hb dX9_append_82 rfl (lv_at hl 1 rfl) ?_
        refine gf_X9_29 hx hb hg hown hK hP 0 rfl rfl dX9_append_83 ?_
        refine lv_aload_n hx hb dX9_append_86 rfl (lv_at hl 1 rfl) ?_
        refine gf_X9_130 hx hb hg hown hK hP 0 rfl rfl dX9_append_87 ?_
        refine lv_iload hx hb dX9_append_90 (lv_at hl 0 rfl) ?_
        refine lv_bipush (v := 24) hx hb dX9_append_92 (by decide) ?_
        refine lv_bipush (v := 8) hx hb dX9_append_94 (by decide) ?_
        refine lv_iload hx hb dX9_append_96 (lv_at hl 7 rfl) ?_
        refine lv_iconst (v := 4) hx hb dX9_append_98 (by decide) ?_
        refine lv_irem hx hb dX9_append_99 (by decide) ?_
        refine lv_imul hx hb dX9_append_100 ?_
        refine lv_isub hx hb dX9_append_101 ?_
        refine lv_ishr hx hb dX9_append_102 ?_
        refine lv_sipush (v := 255) hx hb dX9_append_103 (by decide) ?_
        refine lv_iand hx hb dX9_append_106 ?_
        obtain ⟨hi, hf⟩ := ck_o hf
        refine ar_st (w2 := (W_M aM vM ++ (W_A E (aM 7) 600 (upd vbuffer (Int32.toNatClampNeg (vM.1 1)) ((t0 >>> ((24 - (8 * (x6 - x6 / 4 * 4))) &&& 31)) &&& 255))))) hx hb hK hP hD hS 1 rfl hi rfl dX9_append_107 (fun H locs hP hD hS => ?_)
        obtain ⟨vbuffer_9, hv, hf⟩ := lt_o hf
        rw [← hv] at hP hD
        clear hv
        refine lv_aload_n hx hb dX9_append_108 rfl (lv_at hl 1 rfl) ?_
        refine lv_dup hx hb dX9_append_109 rfl ?_
        refine gf_X9_130 hx hb hg hown hK hP 0 rfl rfl dX9_append_110 ?_
        refine lv_iconst (v := 1) hx hb dX9_append_113 (by decide) ?_
        refine lv_iadd hx hb dX9_append_114 ?_
        refine pf_X9_130 (w2 := (W_M aM (va_up vM.1 1 ((vM.1 1) + 1), vM.2) ++ (W_A E (aM 7) 600 vbuffer_9))) hx hb hg hown hK hP hD hS 0 rfl (Nat.le_of_ble_eq_true rfl) rfl dX9_append_115 (fun H locs hP hD hS => ?_)
        obtain ⟨vM_10, hv, hf⟩ := lt_o hf
        rw [← hv] at hP hD
        clear hv
        refine lv_iinc (v := (x6 + 1)) (lv' := [(6, .int (x6 + 1)), (7, .int t0), (0, .ref (aM 0)), (1, .int x1), (2, .int x2), (3, .int x3), (4, .int x4), (5, .int x5)]) hx hb dX9_append_118 hl (k := 7) rfl rfl (by decide) rfl (fun ls hl => ?_)
        refine lv_goto (tgt := 27) hx hb dX9_append_121 (by decide) ?_
        exact ih _ _ _ _ _ _ hf hP hD hS (lv_sub hl [2, 3, 4, 5, 6, 7, 0] rfl)
      intro x6 vM vbuffer H locs ls hf hP hD hS hl
      replace hf : B_X9_append_27 (L_X9_append_27 x1 x2 x3 x4 x5 n) x1 x2 x3 x4 x5 x6 vM vbuffer = some r := hf
      unfold B_X9_append_27 at hf
      refine lv_iload hx hb dX9_append_27 (lv_at hl 6 rfl) ?_
      refine lv_bipush (v := 20) hx hb dX9_append_29 (by decide) ?_
      refine lv_icmp_ge (tgt := 124) hx hb dX9_append_31 (by decide) (fun cq => ?_) (fun cq => ?_)
      · have hf := it cq hf
        refine lv_aload_n hx hb dX9_append_124 rfl (lv_at hl 0 rfl) ?_
        refine gf_X9_130 hx hb hg hown hK hP 0 rfl rfl dX9_append_125 ?_
        obtain rfl := Option.some.inj hf
        exact cm_iret hx hb hr hlocks hP hS dX9_append_128
      · have hf := ie cq hf
        refine lv_iload hx hb dX9_append_34 (lv_at hl 6 rfl) ?_
        refine lv_iconst (v := 4) hx hb dX9_append_36 (by decide) ?_
        refine lv_icmp_ge (tgt := 44) hx hb dX9_append_37 (by decide) (fun cq => ?_) (fun cq => ?_)
        · have hf := it cq hf
          refine lv_iload hx hb dX9_append_44 (lv_at hl 6 rfl) ?_
          refine lv_bipush (v := 8) hx hb dX9_append_46 (by decide) ?_
          refine lv_icmp_ge (tgt := 55) hx hb dX9_append_48 (by decide) (fun cq => ?_) (fun cq => ?_)
          · have hf := it cq hf
            refine lv_iload hx hb dX9_append_55 (lv_at hl 6 rfl) ?_
            refine lv_bipush (v := 12) hx hb dX9_append_57 (by decide) ?_
            refine lv_icmp_ge (tgt := 66) hx hb dX9_append_59 (by decide) (fun cq => ?_) (fun cq => ?_)
            · have hf := it cq hf
              refine lv_iload hx hb dX9_append_66 (lv_at hl 6 rfl) ?_
              refine lv_bipush (v := 16) hx hb dX9_append_68 (by decide) ?_
              refine lv_icmp_ge (tgt := 78) hx hb dX9_append_70 (by decide) (fun cq => ?_) (fun cq => ?_)
              · have hf := it cq hf
                refine lv_iload hx hb dX9_append_78 (lv_at hl 5 rfl) ?_
                exact jp_80 _ _ _ _ _ _ _ hf hP hD hS (lv_sub hl [0, 1, 2, 3, 4, 5, 6] rfl)
              · have hf := ie cq hf
                refine lv_iload hx hb dX9_append_73 (lv_at hl 4 rfl) ?_
                refine lv_goto (tgt := 80) hx hb dX9_append_75 (by decide) ?_
                exact jp_80 _ _ _ _ _ _ _ hf hP hD hS (lv_sub hl [0, 1, 2, 3, 4, 5, 6] rfl)
            · have hf := ie cq hf
              refine lv_iload_n hx hb dX9_append_62 rfl (lv_at hl 3 rfl) ?_
              refine lv_goto (tgt := 80) hx hb dX9_append_63 (by decide) ?_
              exact jp_80 _ _ _ _ _ _ _ hf hP hD hS (lv_sub hl [0, 1, 2, 3, 4, 5, 6] rfl)
          · have hf := ie cq hf
            refine lv_iload_n hx hb dX9_append_51 rfl (lv_at hl 2 rfl) ?_
            refine lv_goto (tgt := 80) hx hb dX9_append_52 (by decide) ?_
            exact jp_80 _ _ _ _ _ _ _ hf hP hD hS (lv_sub hl [0, 1, 2, 3, 4, 5, 6] rfl)
        · have hf := ie cq hf
          refine lv_iload_n hx hb dX9_append_40 rfl (lv_at hl 1 rfl) ?_
          refine lv_goto (tgt := 80) hx hb dX9_append_41 (by decide) ?_
          exact jp_80 _ _ _ _ _ _ _ hf hP hD hS (lv_sub hl [0, 1, 2, 3, 4, 5, 6] rfl)
  unfold F_X9_append at hf
  refine lv_aload_n hx hb dX9_append_0 rfl (lv_at hl 0 rfl) ?_
  refine lv_iconst (v := 0) hx hb dX9_append_1 (by decide) ?_
  refine pf_X9_48 (w2 := (W_M aM (va_up vM.1 3 0, vM.2) ++ (W_A E (aM 7) 600 vbuffer))) hx hb hg hown hK hP hD hS 0 rfl (Nat.le_of_ble_eq_true rfl) rfl dX9_append_2 (fun H locs hP hD hS => ?_)
  obtain ⟨vM_11, hv, hf⟩ := lt_o hf
  rw [← hv] at hP hD
  clear hv
  refine lv_aload_n hx hb dX9_append_5 rfl (lv_at hl 0 rfl) ?_
  refine gf_X9_130 hx hb hg hown hK hP 0 rfl rfl dX9_append_6 ?_
  refine lv_bipush (v := 20) hx hb dX9_append_9 (by decide) ?_
  refine lv_iadd hx hb dX9_append_11 ?_
  refine lv_sipush (v := 600) hx hb dX9_append_12 (by decide) ?_
  refine lv_icmp_le (tgt := 24) hx hb dX9_append_15 (by decide) (fun cq => ?_) (fun cq => ?_)
  · have hf := it cq hf
    refine lv_iconst (v := 0) hx hb dX9_append_24 (by decide) ?_
    refine lv_istore (lv' := [(6, .int 0), (0, .ref (aM 0)), (1, .int x1), (2, .int x2), (3, .int x3), (4, .int x4), (5, .int x5)]) hx hb dX9_append_25 hl (by decide) rfl (fun ls hl => ?_)
    exact lp_27 FU _ _ _ _ _ _ hf hP hD hS (lv_sub hl [1, 2, 3, 4, 5, 6, 0] rfl)
  · have hf := ie cq hf
    refine lv_aload_n hx hb dX9_append_18 rfl (lv_at hl 0 rfl) ?_
    refine lv_iconst (v := 1) hx hb dX9_append_19 (by decide) ?_
    obtain ⟨u1, hu1, hf⟩ := bn hf
    refine cm_V (As := [.int 1]) (rest := []) (w2 := (W_M aM u1.2 ++ (W_A E (aM 7) 600 vbuffer))) hx hb hml hown hg (c_X9_fails E l aM vM_11 1 u1 hu1) cy_X9_fails ml_X9_133 ⟨⟨rfl, rfl⟩, Nat.le_of_ble_eq_true rfl, Nat.le_of_ble_eq_true rfl⟩ hK hE hP hD hS hA [true] rfl rfl rfl 0 rfl rfl rfl hl.1 rfl (Nat.le_of_ble_eq_true rfl) dX9_append_20 ⟨Nat.le_of_ble_eq_true rfl, Nat.le_of_ble_eq_true rfl⟩ [.int u1.1] rfl (fun H locs hP hD hS => ?_)
    obtain rfl := Option.some.inj hf
    exact cm_iret hx hb hr hlocks hP hS dX9_append_23
def F_X9_shorten (vM : (Nat → Int32) × Int64) (x1 : Int32) : Option (Int32 × ((Nat → Int32) × Int64)) := lt (va_up vM.1 3 0, vM.2) (fun vM_5 => (F_X9_in x1 0 (vM_5.1 1)).bind (fun u1 => (if u1 = 0 then (F_X9_fails vM_5 1).bind (fun u2 => (some (u2.1, u2.2))) else lt (va_up vM_5.1 1 x1, vM_5.2) (fun vM_6 => (some ((vM_6.1 1), vM_6))))))
abbrev rm_X9_shorten : Room := { frames := 1, cells := 0, slots := 0, locals := 22 }
set_option maxHeartbeats 4000000 in
set_option maxRecDepth 100000 in
theorem c_X9_shorten (E : Ev) (l : Launch) (aM : Nat → Nat) (vM : (Nat → Int32) × Int64) (x1 : Int32) (r : Int32 × ((Nat → Int32) × Int64)) (hf : F_X9_shorten vM x1 = some r) : CM E l yX9_shorten (.code yX9_shorten cX9_shorten 2 (some .int) :: GA) rm_X9_shorten [.ref (aM 0), .int x1] (W_M aM vM) (some (.int r.1)) (W_M aM r.2) := by
  refine CM.of (own := RX9) rfl (by decide) (Nat.le_of_ble_eq_true rfl) ?_
  intro p e s m below meth c A ls hx hb hr hml hown hg hlocks hK hE hA hP hD hS hl
  have hl : lv_has ls 2 [(0, .ref (aM 0)), (1, .int x1)] := hl
  unfold F_X9_shorten at hf
  refine lv_aload_n hx hb dX9_shorten_0 rfl (lv_at hl 0 rfl) ?_
  refine lv_iconst (v := 0) hx hb dX9_shorten_1 (by decide) ?_
  refine pf_X9_48 (w2 := (W_M aM (va_up vM.1 3 0, vM.2))) hx hb hg hown hK hP hD hS 0 rfl (Nat.le_of_ble_eq_true rfl) rfl dX9_shorten_2 (fun H locs hP hD hS => ?_)
  obtain ⟨vM_5, hv, hf⟩ := lt_o hf
  rw [← hv] at hP hD
  clear hv
  refine lv_iload_n hx hb dX9_shorten_5 rfl (lv_at hl 1 rfl) ?_
  refine lv_iconst (v := 0) hx hb dX9_shorten_6 (by decide) ?_
  refine lv_aload_n hx hb dX9_shorten_7 rfl (lv_at hl 0 rfl) ?_
  refine gf_X9_130 hx hb hg hown hK hP 0 rfl rfl dX9_shorten_8 ?_
  obtain ⟨u1, hu1, hf⟩ := bn hf
  refine cm_S (As := [.int x1, .int 0, .int (vM_5.1 1)]) (rest := []) (w2 := (W_M aM vM_5)) hx hb hml hown hg (c_X9_in E l x1 0 (vM_5.1 1) u1 hu1) cs_X9_in ml_X9_55 ⟨⟨rfl, rfl⟩, Nat.le_of_ble_eq_true rfl, Nat.le_of_ble_eq_true rfl⟩ hK hE hP hD hS hA [] rfl rfl rfl rfl hl.1 rfl (Nat.le_of_ble_eq_true rfl) dX9_shorten_11 ⟨Nat.le_of_ble_eq_true rfl, Nat.le_of_ble_eq_true rfl⟩ [.int u1] rfl (fun H locs hP hD hS => ?_)
  refine lv_if_ne (tgt := 23) hx hb dX9_shorten_14 (by decide) (fun cq => ?_) (fun cq => ?_)
  · have hf := ie cq hf
    refine lv_aload_n hx hb dX9_shorten_23 rfl (lv_at hl 0 rfl) ?_
    refine lv_iload_n hx hb dX9_shorten_24 rfl (lv_at hl 1 rfl) ?_
    refine pf_X9_130 (w2 := (W_M aM (va_up vM_5.1 1 x1, vM_5.2))) hx hb hg hown hK hP hD hS 0 rfl (Nat.le_of_ble_eq_true rfl) rfl dX9_shorten_25 (fun H locs hP hD hS => ?_)
    obtain ⟨vM_6, hv, hf⟩ := lt_o hf
    rw [← hv] at hP hD
    clear hv
    refine lv_aload_n hx hb dX9_shorten_28 rfl (lv_at hl 0 rfl) ?_
    refine gf_X9_130 hx hb hg hown hK hP 0 rfl rfl dX9_shorten_29 ?_
    obtain rfl := Option.some.inj hf
    exact cm_iret hx hb hr hlocks hP hS dX9_shorten_32
  · have hf := it cq hf
    refine lv_aload_n hx hb dX9_shorten_17 rfl (lv_at hl 0 rfl) ?_
    refine lv_iconst (v := 1) hx hb dX9_shorten_18 (by decide) ?_
    obtain ⟨u2, hu2, hf⟩ := bn hf
    refine cm_V (As := [.int 1]) (rest := []) (w2 := (W_M aM u2.2)) hx hb hml hown hg (c_X9_fails E l aM vM_5 1 u2 hu2) cy_X9_fails ml_X9_133 ⟨⟨rfl, rfl⟩, Nat.le_of_ble_eq_true rfl, Nat.le_of_ble_eq_true rfl⟩ hK hE hP hD hS hA [true] rfl rfl rfl 0 rfl rfl rfl hl.1 rfl (Nat.le_of_ble_eq_true rfl) dX9_shorten_19 ⟨Nat.le_of_ble_eq_true rfl, Nat.le_of_ble_eq_true rfl⟩ [.int u2.1] rfl (fun H locs hP hD hS => ?_)
    obtain rfl := Option.some.inj hf
    exact cm_iret hx hb hr hlocks hP hS dX9_shorten_22
def F_X9_isSmall (vM : (Nat → Int32) × Int64) (vbuffer : Nat → Int32) (x1 : Int32) : Option (Int32) := (if (vM.1 1) ≤ x1 then (some 0) else ck x1 600 ((if (vbuffer (Int32.toNatClampNeg x1)) < 97 then (some 0) else ck x1 600 ((if 122 < (vbuffer (Int32.toNatClampNeg x1)) then (some 0) else (some 1))))))
abbrev rm_X9_isSmall : Room := { frames := 0, cells := 0, slots := 0, locals := 0 }
set_option maxHeartbeats 4000000 in
set_option maxRecDepth 100000 in
theorem c_X9_isSmall (E : Ev) (l : Launch) (aM : Nat → Nat) (vM : (Nat → Int32) × Int64) (vbuffer : Nat → Int32) (x1 : Int32) (r : Int32) (hf : F_X9_isSmall vM vbuffer x1 = some r) : CM E l yX9_isSmall (.code yX9_isSmall cX9_isSmall 2 (some .boolean) :: GA) rm_X9_isSmall [.ref (aM 0), .int x1] (W_M aM vM ++ (W_A E (aM 7) 600 vbuffer)) (some (.int r)) (W_M aM vM ++ (W_A E (aM 7) 600 vbuffer)) := by
  refine CM.of (own := RX9) rfl (by decide) (Nat.le_of_ble_eq_true rfl) ?_
  intro p e s m below meth c A ls hx hb hr hml hown hg hlocks hK hE hA hP hD hS hl
  have hl : lv_has ls 2 [(0, .ref (aM 0)), (1, .int x1)] := hl
  unfold F_X9_isSmall at hf
  refine lv_iload_n hx hb dX9_isSmall_0 rfl (lv_at hl 1 rfl) ?_
  refine lv_aload_n hx hb dX9_isSmall_1 rfl (lv_at hl 0 rfl) ?_
  refine gf_X9_130 hx hb hg hown hK hP 0 rfl rfl dX9_isSmall_2 ?_
  refine lv_icmp_ge (tgt := 34) hx hb dX9_isSmall_5 (by decide) (fun cq => ?_) (fun cq => ?_)
  · have hf := it cq hf
    refine lv_iconst (v := 0) hx hb dX9_isSmall_34 (by decide) ?_
    obtain rfl := Option.some.inj hf
    exact cm_zret (v := 0) hx hb hr hlocks hP hS rfl dX9_isSmall_35
  · have hf := ie cq hf
    refine lv_aload_n hx hb dX9_isSmall_8 rfl (lv_at hl 0 rfl) ?_
    refine gf_X9_29 hx hb hg hown hK hP 0 rfl rfl dX9_isSmall_9 ?_
    refine lv_iload_n hx hb dX9_isSmall_12 rfl (lv_at hl 1 rfl) ?_
    obtain ⟨hi, hf⟩ := ck_o hf
    refine ar_ld hx hb hK hP 1 rfl hi dX9_isSmall_13 ?_
    refine lv_bipush (v := 97) hx hb dX9_isSmall_14 (by decide) ?_
    refine lv_icmp_lt (tgt := 34) hx hb dX9_isSmall_16 (by decide) (fun cq => ?_) (fun cq => ?_)
    · have hf := it cq hf
      refine lv_iconst (v := 0) hx hb dX9_isSmall_34 (by decide) ?_
      obtain rfl := Option.some.inj hf
      exact cm_zret (v := 0) hx hb hr hlocks hP hS rfl dX9_isSmall_35
    · have hf := ie cq hf
      refine lv_aload_n hx hb dX9_isSmall_19 rfl (lv_at hl 0 rfl) ?_
      refine gf_X9_29 hx hb hg hown hK hP 0 rfl rfl dX9_isSmall_20 ?_
      refine lv_iload_n hx hb dX9_isSmall_23 rfl (lv_at hl 1 rfl) ?_
      obtain ⟨hi, hf⟩ := ck_o hf
      refine ar_ld hx hb hK hP 1 rfl hi dX9_isSmall_24 ?_
      refine lv_bipush (v := 122) hx hb dX9_isSmall_25 (by decide) ?_
      refine lv_icmp_gt (tgt := 34) hx hb dX9_isSmall_27 (by decide) (fun cq => ?_) (fun cq => ?_)
      · have hf := it cq hf
        refine lv_iconst (v := 0) hx hb dX9_isSmall_34 (by decide) ?_
        obtain rfl := Option.some.inj hf
        exact cm_zret (v := 0) hx hb hr hlocks hP hS rfl dX9_isSmall_35
      · have hf := ie cq hf
        refine lv_iconst (v := 1) hx hb dX9_isSmall_30 (by decide) ?_
        refine lv_goto (tgt := 35) hx hb dX9_isSmall_31 (by decide) ?_
        obtain rfl := Option.some.inj hf
        exact cm_zret (v := 1) hx hb hr hlocks hP hS rfl dX9_isSmall_35
def F_X9_isDigit (vM : (Nat → Int32) × Int64) (vbuffer : Nat → Int32) (x1 : Int32) : Option (Int32) := (if (vM.1 1) ≤ x1 then (some 0) else ck x1 600 ((if (vbuffer (Int32.toNatClampNeg x1)) < 48 then (some 0) else ck x1 600 ((if 57 < (vbuffer (Int32.toNatClampNeg x1)) then (some 0) else (some 1))))))
abbrev rm_X9_isDigit : Room := { frames := 0, cells := 0, slots := 0, locals := 0 }
set_option maxHeartbeats 4000000 in
set_option maxRecDepth 100000 in
theorem c_X9_isDigit (E : Ev) (l : Launch) (aM : Nat → Nat) (vM : (Nat → Int32) × Int64) (vbuffer : Nat → Int32) (x1 : Int32) (r : Int32) (hf : F_X9_isDigit vM vbuffer x1 = some r) : CM E l yX9_isDigit (.code yX9_isDigit cX9_isDigit 2 (some .boolean) :: GA) rm_X9_isDigit [.ref (aM 0), .int x1] (W_M aM vM ++ (W_A E (aM 7) 600 vbuffer)) (some (.int r)) (W_M aM vM ++ (W_A E (aM 7) 600 vbuffer)) := by
  refine CM.of (own := RX9) rfl (by decide) (Nat.le_of_ble_eq_true rfl) ?_
  intro p e s m below meth c A ls hx hb hr hml hown hg hlocks hK hE hA hP hD hS hl
  have hl : lv_has ls 2 [(0, .ref (aM 0)), (1, .int x1)] := hl
  unfold F_X9_isDigit at hf
  refine lv_iload_n hx hb dX9_isDigit_0 rfl (lv_at hl 1 rfl) ?_
  refine lv_aload_n hx hb dX9_isDigit_1 rfl (lv_at hl 0 rfl) ?_
  refine gf_X9_130 hx hb hg hown hK hP 0 rfl rfl dX9_isDigit_2 ?_
  refine lv_icmp_ge (tgt := 34) hx hb dX9_isDigit_5 (by decide) (fun cq => ?_) (fun cq => ?_)
  · have hf := it cq hf
    refine lv_iconst (v := 0) hx hb dX9_isDigit_34 (by decide) ?_
    obtain rfl := Option.some.inj hf
    exact cm_zret (v := 0) hx hb hr hlocks hP hS rfl dX9_isDigit_35
  · have hf := ie cq hf
    refine lv_aload_n hx hb dX9_isDigit_8 rfl (lv_at hl 0 rfl) ?_
    refine gf_X9_29 hx hb hg hown hK hP 0 rfl rfl dX9_isDigit_9 ?_
    refine lv_iload_n hx hb dX9_isDigit_12 rfl (lv_at hl 1 rfl) ?_
    obtain ⟨hi, hf⟩ := ck_o hf
    refine ar_ld hx hb hK hP 1 rfl hi dX9_isDigit_13 ?_
    refine lv_bipush (v := 48) hx hb dX9_isDigit_14 (by decide) ?_
    refine lv_icmp_lt (tgt := 34) hx hb dX9_isDigit_16 (by decide) (fun cq => ?_) (fun cq => ?_)
    · have hf := it cq hf
      refine lv_iconst (v := 0) hx hb dX9_isDigit_34 (by decide) ?_
      obtain rfl := Option.some.inj hf
      exact cm_zret (v := 0) hx hb hr hlocks hP hS rfl dX9_isDigit_35
    · have hf := ie cq hf
      refine lv_aload_n hx hb dX9_isDigit_19 rfl (lv_at hl 0 rfl) ?_
      refine gf_X9_29 hx hb hg hown hK hP 0 rfl rfl dX9_isDigit_20 ?_
      refine lv_iload_n hx hb dX9_isDigit_23 rfl (lv_at hl 1 rfl) ?_
      obtain ⟨hi, hf⟩ := ck_o hf
      refine ar_ld hx hb hK hP 1 rfl hi dX9_isDigit_24 ?_
      refine lv_bipush (v := 57) hx hb dX9_isDigit_25 (by decide) ?_
      refine lv_icmp_gt (tgt := 34) hx hb dX9_isDigit_27 (by decide) (fun cq => ?_) (fun cq => ?_)
      · have hf := it cq hf
        refine lv_iconst (v := 0) hx hb dX9_isDigit_34 (by decide) ?_
        obtain rfl := Option.some.inj hf
        exact cm_zret (v := 0) hx hb hr hlocks hP hS rfl dX9_isDigit_35
      · have hf := ie cq hf
        refine lv_iconst (v := 1) hx hb dX9_isDigit_30 (by decide) ?_
        refine lv_goto (tgt := 35) hx hb dX9_isDigit_31 (by decide) ?_
        obtain rfl := Option.some.inj hf
        exact cm_zret (v := 1) hx hb hr hlocks hP hS rfl dX9_isDigit_35
def B_X9_nextWord_0 (rec : ((Nat → Int32) × Int64) → Option (((Nat → Int32) × Int64))) (vbuffer : Nat → Int32) (vM : (Nat → Int32) × Int64) : Option (((Nat → Int32) × Int64)) := (F_X9_isSmall vM vbuffer (vM.1 4)).bind (fun u1 => (if u1 = 0 then lt (va_up vM.1 6 1, vM.2) (fun vM_21 => (some vM_21)) else (if 9 ≤ ((vM.1 4) - (vM.1 5)) then lt (va_up vM.1 4 ((vM.1 4) + 1), vM.2) (fun vM_22 => (rec vM_22)) else ck (vM.1 4) 600 (lt (vM.1, (((27 * (vM.2)) + (Int32.toInt64 (vbuffer (Int32.toNatClampNeg (vM.1 4))))) - 96)) (fun vM_23 => lt (va_up vM_23.1 4 ((vM_23.1 4) + 1), vM_23.2) (fun vM_24 => (rec vM_24)))))))
def L_X9_nextWord_0 (vbuffer : Nat → Int32) : Nat → ((Nat → Int32) × Int64) → Option (((Nat → Int32) × Int64))
  | 0 => fun _ => none
  | n + 1 => fun vM => B_X9_nextWord_0 (L_X9_nextWord_0 vbuffer n) vbuffer vM
def F_X9_nextWord (vM : (Nat → Int32) × Int64) (vbuffer : Nat → Int32) : Option (((Nat → Int32) × Int64)) := (L_X9_nextWord_0 vbuffer FU vM)
abbrev rm_X9_nextWord : Room := { frames := 1, cells := 0, slots := 0, locals := 21 }
set_option maxHeartbeats 4000000 in
set_option maxRecDepth 100000 in
theorem c_X9_nextWord (E : Ev) (l : Launch) (aM : Nat → Nat) (vM : (Nat → Int32) × Int64) (vbuffer : Nat → Int32) (r : ((Nat → Int32) × Int64)) (hf : F_X9_nextWord vM vbuffer = some r) : CM E l yX9_nextWord (.code yX9_nextWord cX9_nextWord 1 none :: GA) rm_X9_nextWord [.ref (aM 0)] (W_M aM vM ++ (W_A E (aM 7) 600 vbuffer)) none (W_M aM r ++ (W_A E (aM 7) 600 vbuffer)) := by
  refine CM.of (own := RX9) rfl (by decide) (Nat.le_of_ble_eq_true rfl) ?_
  intro p e s m below meth c A ls hx hb hr hml hown hg hlocks hK hE hA hP hD hS hl
  have hl : lv_has ls 1 [(0, .ref (aM 0))] := hl
  have lp_0 : ∀ (n : Nat) (vM : (Nat → Int32) × Int64) (H : Heap) (locs : List Loc) (ls : Array Slot), L_X9_nextWord_0 vbuffer n vM = some r → va_P E.1 vwCl (W_M aM vM ++ (W_A E (aM 7) 600 vbuffer)) H → va_D A (W_M aM vM ++ (W_A E (aM 7) 600 vbuffer)) → va_S A s.heap H locs → lv_has ls 1 [(0, .ref (aM 0))] → W p l e rm_X9_nextWord s m ([.ref (aM 0)] : List Value).toArray below meth c H locs 0 0 (MQ below (QW E none (W_M aM r ++ (W_A E (aM 7) 600 vbuffer)) A) ([.ref (aM 0)] : List Value).toArray s 0 0 A) (F0 m 0 ls []) := by
    intro n
    induction n with
    | zero => intro vM H locs ls hf; cases hf
    | succ n ih =>
      intro vM H locs ls hf hP hD hS hl
      replace hf : B_X9_nextWord_0 (L_X9_nextWord_0 vbuffer n) vbuffer vM = some r := hf
      unfold B_X9_nextWord_0 at hf
      refine lv_aload_n hx hb dX9_nextWord_0 rfl (lv_at hl 0 rfl) ?_
      refine lv_aload_n hx hb dX9_nextWord_1 rfl (lv_at hl 0 rfl) ?_
      refine gf_X9_137 hx hb hg hown hK hP 0 rfl rfl dX9_nextWord_2 ?_
      obtain ⟨u1, hu1, hf⟩ := bn hf
      refine cm_V (As := [.int (vM.1 4)]) (rest := []) (w2 := (W_M aM vM ++ (W_A E (aM 7) 600 vbuffer))) hx hb hml hown hg (c_X9_isSmall E l aM vM vbuffer (vM.1 4) u1 hu1) cy_X9_isSmall ml_X9_153 ⟨⟨rfl, rfl⟩, Nat.le_of_ble_eq_true rfl, Nat.le_of_ble_eq_true rfl⟩ hK hE hP hD hS hA [true, true] rfl rfl rfl 0 rfl rfl rfl hl.1 rfl (Nat.le_of_ble_eq_true rfl) dX9_nextWord_5 ⟨Nat.le_of_ble_eq_true rfl, Nat.le_of_ble_eq_true rfl⟩ [.int u1] rfl (fun H locs hP hD hS => ?_)
      refine lv_if_eq (tgt := 65) hx hb dX9_nextWord_8 (by decide) (fun cq => ?_) (fun cq => ?_)
      · have hf := it cq hf
        refine lv_aload_n hx hb dX9_nextWord_65 rfl (lv_at hl 0 rfl) ?_
        refine lv_iconst (v := 1) hx hb dX9_nextWord_66 (by decide) ?_
        refine pf_X9_150 (w2 := (W_M aM (va_up vM.1 6 1, vM.2) ++ (W_A E (aM 7) 600 vbuffer))) hx hb hg hown hK hP hD hS 0 rfl (Nat.le_of_ble_eq_true rfl) rfl dX9_nextWord_67 (fun H locs hP hD hS => ?_)
        obtain ⟨vM_21, hv, hf⟩ := lt_o hf
        rw [← hv] at hP hD
        clear hv
        obtain rfl := Option.some.inj hf
        exact cm_vret hx hb hr hlocks hP hS dX9_nextWord_70
      · have hf := ie cq hf
        refine lv_aload_n hx hb dX9_nextWord_11 rfl (lv_at hl 0 rfl) ?_
        refine gf_X9_137 hx hb hg hown hK hP 0 rfl rfl dX9_nextWord_12 ?_
        refine lv_aload_n hx hb dX9_nextWord_15 rfl (lv_at hl 0 rfl) ?_
        refine gf_X9_140 hx hb hg hown hK hP 0 rfl rfl dX9_nextWord_16 ?_
        refine lv_isub hx hb dX9_nextWord_19 ?_
        refine lv_bipush (v := 9) hx hb dX9_nextWord_20 (by decide) ?_
        refine lv_icmp_ge (tgt := 52) hx hb dX9_nextWord_22 (by decide) (fun cq => ?_) (fun cq => ?_)
        · have hf := it cq hf
          refine lv_aload_n hx hb dX9_nextWord_52 rfl (lv_at hl 0 rfl) ?_
          refine lv_dup hx hb dX9_nextWord_53 rfl ?_
          refine gf_X9_137 hx hb hg hown hK hP 0 rfl rfl dX9_nextWord_54 ?_
          refine lv_iconst (v := 1) hx hb dX9_nextWord_57 (by decide) ?_
          refine lv_iadd hx hb dX9_nextWord_58 ?_
          refine pf_X9_137 (w2 := (W_M aM (va_up vM.1 4 ((vM.1 4) + 1), vM.2) ++ (W_A E (aM 7) 600 vbuffer))) hx hb hg hown hK hP hD hS 0 rfl (Nat.le_of_ble_eq_true rfl) rfl dX9_nextWord_59 (fun H locs hP hD hS => ?_)
          obtain ⟨vM_22, hv, hf⟩ := lt_o hf
          rw [← hv] at hP hD
          clear hv
          refine lv_goto (tgt := 0) hx hb dX9_nextWord_62 (by decide) ?_
          exact ih _ _ _ _ hf hP hD hS (lv_sub hl [0] rfl)
        · have hf := ie cq hf
          refine lv_aload_n hx hb dX9_nextWord_25 rfl (lv_at hl 0 rfl) ?_
          refine lv_ldc2 (v := 27) hx hb hown (hg _ kl_X9_166) dX9_nextWord_26 ?_
          refine lv_aload_n hx hb dX9_nextWord_29 rfl (lv_at hl 0 rfl) ?_
          refine gf_X9_146 hx hb hg hown hK hP 0 rfl rfl dX9_nextWord_30 ?_
          refine lv_lmul hx hb dX9_nextWord_33 ?_
          refine lv_aload_n hx hb dX9_nextWord_34 rfl (lv_at hl 0 rfl) ?_
          refine gf_X9_29 hx hb hg hown hK hP 0 rfl rfl dX9_nextWord_35 ?_
          refine lv_aload_n hx hb dX9_nextWord_38 rfl (lv_at hl 0 rfl) ?_
          refine gf_X9_137 hx hb hg hown hK hP 0 rfl rfl dX9_nextWord_39 ?_
          obtain ⟨hi, hf⟩ := ck_o hf
          refine ar_ld hx hb hK hP 1 rfl hi dX9_nextWord_42 ?_
          refine lv_i2l (v := (Int32.toInt64 (vbuffer (Int32.toNatClampNeg (vM.1 4))))) hx hb dX9_nextWord_43 rfl ?_
          refine lv_ladd hx hb dX9_nextWord_44 ?_
          refine lv_ldc2 (v := 96) hx hb hown (hg _ kl_X9_168) dX9_nextWord_45 ?_
          refine lv_lsub hx hb dX9_nextWord_48 ?_
          refine pf_X9_146 (w2 := (W_M aM (vM.1, (((27 * (vM.2)) + (Int32.toInt64 (vbuffer (Int32.toNatClampNeg (vM.1 4))))) - 96)) ++ (W_A E (aM 7) 600 vbuffer))) hx hb hg hown hK hP hD hS 0 rfl (Nat.le_of_ble_eq_true rfl) rfl dX9_nextWord_49 (fun H locs hP hD hS => ?_)
          obtain ⟨vM_23, hv, hf⟩ := lt_o hf
          rw [← hv] at hP hD
          clear hv
          refine lv_aload_n hx hb dX9_nextWord_52 rfl (lv_at hl 0 rfl) ?_
          refine lv_dup hx hb dX9_nextWord_53 rfl ?_
          refine gf_X9_137 hx hb hg hown hK hP 0 rfl rfl dX9_nextWord_54 ?_
          refine lv_iconst (v := 1) hx hb dX9_nextWord_57 (by decide) ?_
          refine lv_iadd hx hb dX9_nextWord_58 ?_
          refine pf_X9_137 (w2 := (W_M aM (va_up vM_23.1 4 ((vM_23.1 4) + 1), vM_23.2) ++ (W_A E (aM 7) 600 vbuffer))) hx hb hg hown hK hP hD hS 0 rfl (Nat.le_of_ble_eq_true rfl) rfl dX9_nextWord_59 (fun H locs hP hD hS => ?_)
          obtain ⟨vM_24, hv, hf⟩ := lt_o hf
          rw [← hv] at hP hD
          clear hv
          refine lv_goto (tgt := 0) hx hb dX9_nextWord_62 (by decide) ?_
          exact ih _ _ _ _ hf hP hD hS (lv_sub hl [0] rfl)
  unfold F_X9_nextWord at hf
  exact lp_0 FU _ _ _ _ hf hP hD hS (lv_sub hl [0] rfl)
def B_X9_nextNumber_0 (rec : ((Nat → Int32) × Int64) → Option (((Nat → Int32) × Int64))) (vbuffer : Nat → Int32) (vM : (Nat → Int32) × Int64) : Option (((Nat → Int32) × Int64)) := (F_X9_isDigit vM vbuffer (vM.1 4)).bind (fun u1 => (if u1 = 0 then lt (va_up vM.1 6 2, vM.2) (fun vM_26 => (if ((vM_26.1 4) - (vM_26.1 5)) ≤ 3 then (some vM_26) else lt (va_up vM_26.1 6 4, vM_26.2) (fun vM_27 => (some vM_27)))) else (if 3 ≤ ((vM.1 4) - (vM.1 5)) then lt (va_up vM.1 4 ((vM.1 4) + 1), vM.2) (fun vM_28 => (rec vM_28)) else ck (vM.1 4) 600 (lt (va_up vM.1 7 (((10 * (vM.1 7)) + (vbuffer (Int32.toNatClampNeg (vM.1 4)))) - 48), vM.2) (fun vM_29 => lt (va_up vM_29.1 4 ((vM_29.1 4) + 1), vM_29.2) (fun vM_30 => (rec vM_30)))))))
def L_X9_nextNumber_0 (vbuffer : Nat → Int32) : Nat → ((Nat → Int32) × Int64) → Option (((Nat → Int32) × Int64))
  | 0 => fun _ => none
  | n + 1 => fun vM => B_X9_nextNumber_0 (L_X9_nextNumber_0 vbuffer n) vbuffer vM
def F_X9_nextNumber (vM : (Nat → Int32) × Int64) (vbuffer : Nat → Int32) : Option (((Nat → Int32) × Int64)) := (L_X9_nextNumber_0 vbuffer FU vM)
abbrev rm_X9_nextNumber : Room := { frames := 1, cells := 0, slots := 0, locals := 21 }
set_option maxHeartbeats 4000000 in
set_option maxRecDepth 100000 in
theorem c_X9_nextNumber (E : Ev) (l : Launch) (aM : Nat → Nat) (vM : (Nat → Int32) × Int64) (vbuffer : Nat → Int32) (r : ((Nat → Int32) × Int64)) (hf : F_X9_nextNumber vM vbuffer = some r) : CM E l yX9_nextNumber (.code yX9_nextNumber cX9_nextNumber 1 none :: GA) rm_X9_nextNumber [.ref (aM 0)] (W_M aM vM ++ (W_A E (aM 7) 600 vbuffer)) none (W_M aM r ++ (W_A E (aM 7) 600 vbuffer)) := by
  refine CM.of (own := RX9) rfl (by decide) (Nat.le_of_ble_eq_true rfl) ?_
  intro p e s m below meth c A ls hx hb hr hml hown hg hlocks hK hE hA hP hD hS hl
  have hl : lv_has ls 1 [(0, .ref (aM 0))] := hl
  have lp_0 : ∀ (n : Nat) (vM : (Nat → Int32) × Int64) (H : Heap) (locs : List Loc) (ls : Array Slot), L_X9_nextNumber_0 vbuffer n vM = some r → va_P E.1 vwCl (W_M aM vM ++ (W_A E (aM 7) 600 vbuffer)) H → va_D A (W_M aM vM ++ (W_A E (aM 7) 600 vbuffer)) → va_S A s.heap H locs → lv_has ls 1 [(0, .ref (aM 0))] → W p l e rm_X9_nextNumber s m ([.ref (aM 0)] : List Value).toArray below meth c H locs 0 0 (MQ below (QW E none (W_M aM r ++ (W_A E (aM 7) 600 vbuffer)) A) ([.ref (aM 0)] : List Value).toArray s 0 0 A) (F0 m 0 ls []) := by
    intro n
    induction n with
    | zero => intro vM H locs ls hf; cases hf
    | succ n ih =>
      intro vM H locs ls hf hP hD hS hl
      replace hf : B_X9_nextNumber_0 (L_X9_nextNumber_0 vbuffer n) vbuffer vM = some r := hf
      unfold B_X9_nextNumber_0 at hf
      refine lv_aload_n hx hb dX9_nextNumber_0 rfl (lv_at hl 0 rfl) ?_
      refine lv_aload_n hx hb dX9_nextNumber_1 rfl (lv_at hl 0 rfl) ?_
      refine gf_X9_137 hx hb hg hown hK hP 0 rfl rfl dX9_nextNumber_2 ?_
      obtain ⟨u1, hu1, hf⟩ := bn hf
      refine cm_V (As := [.int (vM.1 4)]) (rest := []) (w2 := (W_M aM vM ++ (W_A E (aM 7) 600 vbuffer))) hx hb hml hown hg (c_X9_isDigit E l aM vM vbuffer (vM.1 4) u1 hu1) cy_X9_isDigit ml_X9_160 ⟨⟨rfl, rfl⟩, Nat.le_of_ble_eq_true rfl, Nat.le_of_ble_eq_true rfl⟩ hK hE hP hD hS hA [true, true] rfl rfl rfl 0 rfl rfl rfl hl.1 rfl (Nat.le_of_ble_eq_true rfl) dX9_nextNumber_5 ⟨Nat.le_of_ble_eq_true rfl, Nat.le_of_ble_eq_true rfl⟩ [.int u1] rfl (fun H locs hP hD hS => ?_)
      refine lv_if_eq (tgt := 61) hx hb dX9_nextNumber_8 (by decide) (fun cq => ?_) (fun cq => ?_)
      · have hf := it cq hf
        refine lv_aload_n hx hb dX9_nextNumber_61 rfl (lv_at hl 0 rfl) ?_
        refine lv_iconst (v := 2) hx hb dX9_nextNumber_62 (by decide) ?_
        refine pf_X9_150 (w2 := (W_M aM (va_up vM.1 6 2, vM.2) ++ (W_A E (aM 7) 600 vbuffer))) hx hb hg hown hK hP hD hS 0 rfl (Nat.le_of_ble_eq_true rfl) rfl dX9_nextNumber_63 (fun H locs hP hD hS => ?_)
        obtain ⟨vM_26, hv, hf⟩ := lt_o hf
        rw [← hv] at hP hD
        clear hv
        refine lv_aload_n hx hb dX9_nextNumber_66 rfl (lv_at hl 0 rfl) ?_
        refine gf_X9_137 hx hb hg hown hK hP 0 rfl rfl dX9_nextNumber_67 ?_
        refine lv_aload_n hx hb dX9_nextNumber_70 rfl (lv_at hl 0 rfl) ?_
        refine gf_X9_140 hx hb hg hown hK hP 0 rfl rfl dX9_nextNumber_71 ?_
        refine lv_isub hx hb dX9_nextNumber_74 ?_
        refine lv_iconst (v := 3) hx hb dX9_nextNumber_75 (by decide) ?_
        refine lv_icmp_le (tgt := 84) hx hb dX9_nextNumber_76 (by decide) (fun cq => ?_) (fun cq => ?_)
        · have hf := it cq hf
          obtain rfl := Option.some.inj hf
          exact cm_vret hx hb hr hlocks hP hS dX9_nextNumber_84
        · have hf := ie cq hf
          refine lv_aload_n hx hb dX9_nextNumber_79 rfl (lv_at hl 0 rfl) ?_
          refine lv_iconst (v := 4) hx hb dX9_nextNumber_80 (by decide) ?_
          refine pf_X9_150 (w2 := (W_M aM (va_up vM_26.1 6 4, vM_26.2) ++ (W_A E (aM 7) 600 vbuffer))) hx hb hg hown hK hP hD hS 0 rfl (Nat.le_of_ble_eq_true rfl) rfl dX9_nextNumber_81 (fun H locs hP hD hS => ?_)
          obtain ⟨vM_27, hv, hf⟩ := lt_o hf
          rw [← hv] at hP hD
          clear hv
          obtain rfl := Option.some.inj hf
          exact cm_vret hx hb hr hlocks hP hS dX9_nextNumber_84
      · have hf := ie cq hf
        refine lv_aload_n hx hb dX9_nextNumber_11 rfl (lv_at hl 0 rfl) ?_
        refine gf_X9_137 hx hb hg hown hK hP 0 rfl rfl dX9_nextNumber_12 ?_
        refine lv_aload_n hx hb dX9_nextNumber_15 rfl (lv_at hl 0 rfl) ?_
        refine gf_X9_140 hx hb hg hown hK hP 0 rfl rfl dX9_nextNumber_16 ?_
        refine lv_isub hx hb dX9_nextNumber_19 ?_
        refine lv_iconst (v := 3) hx hb dX9_nextNumber_20 (by decide) ?_
        refine lv_icmp_ge (tgt := 48) hx hb dX9_nextNumber_21 (by decide) (fun cq => ?_) (fun cq => ?_)
        · have hf := it cq hf
          refine lv_aload_n hx hb dX9_nextNumber_48 rfl (lv_at hl 0 rfl) ?_
          refine lv_dup hx hb dX9_nextNumber_49 rfl ?_
          refine gf_X9_137 hx hb hg hown hK hP 0 rfl rfl dX9_nextNumber_50 ?_
          refine lv_iconst (v := 1) hx hb dX9_nextNumber_53 (by decide) ?_
          refine lv_iadd hx hb dX9_nextNumber_54 ?_
          refine pf_X9_137 (w2 := (W_M aM (va_up vM.1 4 ((vM.1 4) + 1), vM.2) ++ (W_A E (aM 7) 600 vbuffer))) hx hb hg hown hK hP hD hS 0 rfl (Nat.le_of_ble_eq_true rfl) rfl dX9_nextNumber_55 (fun H locs hP hD hS => ?_)
          obtain ⟨vM_28, hv, hf⟩ := lt_o hf
          rw [← hv] at hP hD
          clear hv
          refine lv_goto (tgt := 0) hx hb dX9_nextNumber_58 (by decide) ?_
          exact ih _ _ _ _ hf hP hD hS (lv_sub hl [0] rfl)
        · have hf := ie cq hf
          refine lv_aload_n hx hb dX9_nextNumber_24 rfl (lv_at hl 0 rfl) ?_
          refine lv_bipush (v := 10) hx hb dX9_nextNumber_25 (by decide) ?_
          refine lv_aload_n hx hb dX9_nextNumber_27 rfl (lv_at hl 0 rfl) ?_
          refine gf_X9_143 hx hb hg hown hK hP 0 rfl rfl dX9_nextNumber_28 ?_
          refine lv_imul hx hb dX9_nextNumber_31 ?_
          refine lv_aload_n hx hb dX9_nextNumber_32 rfl (lv_at hl 0 rfl) ?_
          refine gf_X9_29 hx hb hg hown hK hP 0 rfl rfl dX9_nextNumber_33 ?_
          refine lv_aload_n hx hb dX9_nextNumber_36 rfl (lv_at hl 0 rfl) ?_
          refine gf_X9_137 hx hb hg hown hK hP 0 rfl rfl dX9_nextNumber_37 ?_
          obtain ⟨hi, hf⟩ := ck_o hf
          refine ar_ld hx hb hK hP 1 rfl hi dX9_nextNumber_40 ?_
          refine lv_iadd hx hb dX9_nextNumber_41 ?_
          refine lv_bipush (v := 48) hx hb dX9_nextNumber_42 (by decide) ?_
          refine lv_isub hx hb dX9_nextNumber_44 ?_
          refine pf_X9_143 (w2 := (W_M aM (va_up vM.1 7 (((10 * (vM.1 7)) + (vbuffer (Int32.toNatClampNeg (vM.1 4)))) - 48), vM.2) ++ (W_A E (aM 7) 600 vbuffer))) hx hb hg hown hK hP hD hS 0 rfl (Nat.le_of_ble_eq_true rfl) rfl dX9_nextNumber_45 (fun H locs hP hD hS => ?_)
          obtain ⟨vM_29, hv, hf⟩ := lt_o hf
          rw [← hv] at hP hD
          clear hv
          refine lv_aload_n hx hb dX9_nextNumber_48 rfl (lv_at hl 0 rfl) ?_
          refine lv_dup hx hb dX9_nextNumber_49 rfl ?_
          refine gf_X9_137 hx hb hg hown hK hP 0 rfl rfl dX9_nextNumber_50 ?_
          refine lv_iconst (v := 1) hx hb dX9_nextNumber_53 (by decide) ?_
          refine lv_iadd hx hb dX9_nextNumber_54 ?_
          refine pf_X9_137 (w2 := (W_M aM (va_up vM_29.1 4 ((vM_29.1 4) + 1), vM_29.2) ++ (W_A E (aM 7) 600 vbuffer))) hx hb hg hown hK hP hD hS 0 rfl (Nat.le_of_ble_eq_true rfl) rfl dX9_nextNumber_55 (fun H locs hP hD hS => ?_)
          obtain ⟨vM_30, hv, hf⟩ := lt_o hf
          rw [← hv] at hP hD
          clear hv
          refine lv_goto (tgt := 0) hx hb dX9_nextNumber_58 (by decide) ?_
          exact ih _ _ _ _ hf hP hD hS (lv_sub hl [0] rfl)
  unfold F_X9_nextNumber at hf
  exact lp_0 FU _ _ _ _ hf hP hD hS (lv_sub hl [0] rfl)
