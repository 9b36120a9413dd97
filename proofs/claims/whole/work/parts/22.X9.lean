def B_X9_suspectsBetween_5 (rec : Int32 → Int32 → Option (Int32)) (vM : (Nat → Int32) × Int64) (vnow : Nat → Int32) (x1 : Int32) (x2 : Int32) (x3 : Int32) (x4 : Int32) : Option (Int32) := ck 7 306 ((if (vnow (Int32.toNatClampNeg 7)) ≤ x4 then (some x3) else (F_X9_outBetween vnow x4 x1 x2).bind (fun u1 => (if u1 ≤ 0 then (rec x3 (x4 + 1)) else (rec (x3 + 1) (x4 + 1))))))
def L_X9_suspectsBetween_5 (vM : (Nat → Int32) × Int64) (vnow : Nat → Int32) (x1 : Int32) (x2 : Int32) : Nat → Int32 → Int32 → Option (Int32)
  | 0 => fun _ _ => none
  | n + 1 => fun x3 x4 => B_X9_suspectsBetween_5 (L_X9_suspectsBetween_5 vM vnow x1 x2 n) vM vnow x1 x2 x3 x4
def F_X9_suspectsBetween (vM : (Nat → Int32) × Int64) (vnow : Nat → Int32) (x1 : Int32) (x2 : Int32) : Option (Int32) := (L_X9_suspectsBetween_5 vM vnow x1 x2 FU 0 0)
abbrev rm_X9_suspectsBetween : Room := { frames := 3, cells := 0, slots := 0, locals := 71 }
set_option maxHeartbeats 4000000 in
set_option maxRecDepth 100000 in
theorem c_X9_suspectsBetween (E : Ev) (l : Launch) (aM : Nat → Nat) (vM : (Nat → Int32) × Int64) (vnow : Nat → Int32) (x1 : Int32) (x2 : Int32) (r : Int32) (hf : F_X9_suspectsBetween vM vnow x1 x2 = some r) : CM E l yX9_suspectsBetween (.code yX9_suspectsBetween cX9_suspectsBetween 5 (some .int) :: GA) rm_X9_suspectsBetween [.ref (aM 0), .int x1, .int x2] (W_M aM vM ++ (W_A E (aM 1) 306 vnow)) (some (.int r)) (W_M aM vM ++ (W_A E (aM 1) 306 vnow)) := by
  refine CM.of (own := RX9) rfl (by decide) (Nat.le_of_ble_eq_true rfl) ?_
  intro p e s m below meth c A ls hx hb hr hml hown hg hlocks hK hE hA hP hD hS hl
  have hl : lv_has ls 5 [(0, .ref (aM 0)), (1, .int x1), (2, .int x2)] := hl
  have lp_5 : ∀ (n : Nat) (x3 : Int32) (x4 : Int32) (H : Heap) (locs : List Loc) (ls : Array Slot), L_X9_suspectsBetween_5 vM vnow x1 x2 n x3 x4 = some r → va_P E.1 vwCl (W_M aM vM ++ (W_A E (aM 1) 306 vnow)) H → va_D A (W_M aM vM ++ (W_A E (aM 1) 306 vnow)) → va_S A s.heap H locs → lv_has ls 5 [(0, .ref (aM 0)), (1, .int x1), (2, .int x2), (3, .int x3), (4, .int x4)] → W p l e rm_X9_suspectsBetween s m ([.ref (aM 0), .int x1, .int x2] : List Value).toArray below meth c H locs 0 0 (MQ below (QW E (some (.int r)) (W_M aM vM ++ (W_A E (aM 1) 306 vnow)) A) ([.ref (aM 0), .int x1, .int x2] : List Value).toArray s 0 0 A) (F0 m 5 ls []) := by
    intro n
    induction n with
    | zero => intro x3 x4 H locs ls hf; cases hf
    | succ n ih =>
      intro x3 x4 H locs ls hf hP hD hS hl
      replace hf : B_X9_suspectsBetween_5 (L_X9_suspectsBetween_5 vM vnow x1 x2 n) vM vnow x1 x2 x3 x4 = some r := hf
      unfold B_X9_suspectsBetween_5 at hf
      refine lv_iload hx hb dX9_suspectsBetween_5 (lv_at hl 4 rfl) ?_
      refine lv_aload_n hx hb dX9_suspectsBetween_7 rfl (lv_at hl 0 rfl) ?_
      refine gf_X9_7 hx hb hg hown hK hP 0 rfl rfl dX9_suspectsBetween_8 ?_
      refine lv_bipush (v := 7) hx hb dX9_suspectsBetween_11 (by decide) ?_
      obtain ⟨hi, hf⟩ := ck_o hf
      refine ar_ld hx hb hK hP 1 rfl hi dX9_suspectsBetween_13 ?_
      refine lv_icmp_ge (tgt := 40) hx hb dX9_suspectsBetween_14 (by decide) (fun cq => ?_) (fun cq => ?_)
      · have hf := it cq hf
        refine lv_iload_n hx hb dX9_suspectsBetween_40 rfl (lv_at hl 3 rfl) ?_
        obtain rfl := Option.some.inj hf
        exact cm_iret hx hb hr hlocks hP hS dX9_suspectsBetween_41
      · have hf := ie cq hf
        refine lv_aload_n hx hb dX9_suspectsBetween_17 rfl (lv_at hl 0 rfl) ?_
        refine gf_X9_7 hx hb hg hown hK hP 0 rfl rfl dX9_suspectsBetween_18 ?_
        refine lv_iload hx hb dX9_suspectsBetween_21 (lv_at hl 4 rfl) ?_
        refine lv_iload_n hx hb dX9_suspectsBetween_23 rfl (lv_at hl 1 rfl) ?_
        refine lv_iload_n hx hb dX9_suspectsBetween_24 rfl (lv_at hl 2 rfl) ?_
        obtain ⟨u1, hu1, hf⟩ := bn hf
        refine cm_S (As := [.ref (aM 1), .int x4, .int x1, .int x2]) (rest := []) (w2 := (W_M aM vM ++ (W_A E (aM 1) 306 vnow))) hx hb hml hown hg (c_X9_outBetween E l (aM 1) vnow x4 x1 x2 u1 hu1) cs_X9_outBetween ml_X9_127 ⟨⟨rfl, rfl⟩, Nat.le_of_ble_eq_true rfl, Nat.le_of_ble_eq_true rfl⟩ hK hE hP hD hS hA [false, true] rfl rfl rfl rfl hl.1 rfl (Nat.le_of_ble_eq_true rfl) dX9_suspectsBetween_25 ⟨Nat.le_of_ble_eq_true rfl, Nat.le_of_ble_eq_true rfl⟩ [.int u1] rfl (fun H locs hP hD hS => ?_)
        refine lv_if_le (tgt := 34) hx hb dX9_suspectsBetween_28 (by decide) (fun cq => ?_) (fun cq => ?_)
        · have hf := it cq hf
          refine lv_iinc (v := (x4 + 1)) (lv' := [(4, .int (x4 + 1)), (0, .ref (aM 0)), (1, .int x1), (2, .int x2), (3, .int x3)]) hx hb dX9_suspectsBetween_34 hl (k := 4) rfl rfl (by decide) rfl (fun ls hl => ?_)
          refine lv_goto (tgt := 5) hx hb dX9_suspectsBetween_37 (by decide) ?_
          exact ih _ _ _ _ _ hf hP hD hS (lv_sub hl [1, 2, 3, 4, 0] rfl)
        · have hf := ie cq hf
          refine lv_iinc (v := (x3 + 1)) (lv' := [(3, .int (x3 + 1)), (0, .ref (aM 0)), (1, .int x1), (2, .int x2), (4, .int x4)]) hx hb dX9_suspectsBetween_31 hl (k := 3) rfl rfl (by decide) rfl (fun ls hl => ?_)
          refine lv_iinc (v := (x4 + 1)) (lv' := [(4, .int (x4 + 1)), (3, .int (x3 + 1)), (0, .ref (aM 0)), (1, .int x1), (2, .int x2)]) hx hb dX9_suspectsBetween_34 hl (k := 4) rfl rfl (by decide) rfl (fun ls hl => ?_)
          refine lv_goto (tgt := 5) hx hb dX9_suspectsBetween_37 (by decide) ?_
          exact ih _ _ _ _ _ hf hP hD hS (lv_sub hl [2, 3, 4, 1, 0] rfl)
  unfold F_X9_suspectsBetween at hf
  refine lv_iconst (v := 0) hx hb dX9_suspectsBetween_0 (by decide) ?_
  refine lv_istore_n (lv' := [(3, .int 0), (0, .ref (aM 0)), (1, .int x1), (2, .int x2)]) hx hb dX9_suspectsBetween_1 rfl hl (by decide) rfl (fun ls hl => ?_)
  refine lv_iconst (v := 0) hx hb dX9_suspectsBetween_2 (by decide) ?_
  refine lv_istore (lv' := [(4, .int 0), (3, .int 0), (0, .ref (aM 0)), (1, .int x1), (2, .int x2)]) hx hb dX9_suspectsBetween_3 hl (by decide) rfl (fun ls hl => ?_)
  exact lp_5 FU _ _ _ _ _ hf hP hD hS (lv_sub hl [2, 3, 4, 1, 0] rfl)
def F_X9_suspects (vM : (Nat → Int32) × Int64) (vnow : Nat → Int32) (x1 : Int32) (x2 : Int32) : Option (Int32 × ((Nat → Int32) × Int64)) := lt (va_up vM.1 3 0, vM.2) (fun vM_3 => (F_X9_isPast vM_3 vnow x1 x2).bind (fun u1 => (if u1 = 0 then (F_X9_fails vM_3 1).bind (fun u2 => (some (u2.1, u2.2))) else (F_X9_suspectsBetween vM_3 vnow x1 x2).bind (fun u3 => (some (u3, vM_3))))))
abbrev rm_X9_suspects : Room := { frames := 4, cells := 0, slots := 0, locals := 95 }
set_option maxHeartbeats 4000000 in
set_option maxRecDepth 100000 in
theorem c_X9_suspects (E : Ev) (l : Launch) (aM : Nat → Nat) (vM : (Nat → Int32) × Int64) (vnow : Nat → Int32) (x1 : Int32) (x2 : Int32) (r : Int32 × ((Nat → Int32) × Int64)) (hf : F_X9_suspects vM vnow x1 x2 = some r) : CM E l yX9_suspects (.code yX9_suspects cX9_suspects 3 (some .int) :: GA) rm_X9_suspects [.ref (aM 0), .int x1, .int x2] (W_M aM vM ++ (W_A E (aM 1) 306 vnow)) (some (.int r.1)) (W_M aM r.2 ++ (W_A E (aM 1) 306 vnow)) := by
  refine CM.of (own := RX9) rfl (by decide) (Nat.le_of_ble_eq_true rfl) ?_
  intro p e s m below meth c A ls hx hb hr hml hown hg hlocks hK hE hA hP hD hS hl
  have hl : lv_has ls 3 [(0, .ref (aM 0)), (1, .int x1), (2, .int x2)] := hl
  unfold F_X9_suspects at hf
  refine lv_aload_n hx hb dX9_suspects_0 rfl (lv_at hl 0 rfl) ?_
  refine lv_iconst (v := 0) hx hb dX9_suspects_1 (by decide) ?_
  refine pf_X9_48 (w2 := (W_M aM (va_up vM.1 3 0, vM.2) ++ (W_A E (aM 1) 306 vnow))) hx hb hg hown hK hP hD hS 0 rfl (Nat.le_of_ble_eq_true rfl) rfl dX9_suspects_2 (fun H locs hP hD hS => ?_)
  obtain ⟨vM_3, hv, hf⟩ := lt_o hf
  rw [← hv] at hP hD
  clear hv
  refine lv_aload_n hx hb dX9_suspects_5 rfl (lv_at hl 0 rfl) ?_
  refine lv_iload_n hx hb dX9_suspects_6 rfl (lv_at hl 1 rfl) ?_
  refine lv_iload_n hx hb dX9_suspects_7 rfl (lv_at hl 2 rfl) ?_
  obtain ⟨u1, hu1, hf⟩ := bn hf
  refine cm_V (As := [.int x1, .int x2]) (rest := []) (w2 := (W_M aM vM_3 ++ (W_A E (aM 1) 306 vnow))) hx hb hml hown hg (c_X9_isPast E l aM vM_3 vnow x1 x2 u1 hu1) cy_X9_isPast ml_X9_242 ⟨⟨rfl, rfl⟩, Nat.le_of_ble_eq_true rfl, Nat.le_of_ble_eq_true rfl⟩ hK hE hP hD hS hA [true, true] rfl rfl rfl 0 rfl rfl rfl hl.1 rfl (Nat.le_of_ble_eq_true rfl) dX9_suspects_8 ⟨Nat.le_of_ble_eq_true rfl, Nat.le_of_ble_eq_true rfl⟩ [.int u1] rfl (fun H locs hP hD hS => ?_)
  refine lv_if_eq (tgt := 21) hx hb dX9_suspects_11 (by decide) (fun cq => ?_) (fun cq => ?_)
  · have hf := it cq hf
    refine lv_aload_n hx hb dX9_suspects_21 rfl (lv_at hl 0 rfl) ?_
    refine lv_iconst (v := 1) hx hb dX9_suspects_22 (by decide) ?_
    obtain ⟨u2, hu2, hf⟩ := bn hf
    refine cm_V (As := [.int 1]) (rest := []) (w2 := (W_M aM u2.2 ++ (W_A E (aM 1) 306 vnow))) hx hb hml hown hg (c_X9_fails E l aM vM_3 1 u2 hu2) cy_X9_fails ml_X9_133 ⟨⟨rfl, rfl⟩, Nat.le_of_ble_eq_true rfl, Nat.le_of_ble_eq_true rfl⟩ hK hE hP hD hS hA [true] rfl rfl rfl 0 rfl rfl rfl hl.1 rfl (Nat.le_of_ble_eq_true rfl) dX9_suspects_23 ⟨Nat.le_of_ble_eq_true rfl, Nat.le_of_ble_eq_true rfl⟩ [.int u2.1] rfl (fun H locs hP hD hS => ?_)
    obtain rfl := Option.some.inj hf
    exact cm_iret hx hb hr hlocks hP hS dX9_suspects_26
  · have hf := ie cq hf
    refine lv_aload_n hx hb dX9_suspects_14 rfl (lv_at hl 0 rfl) ?_
    refine lv_iload_n hx hb dX9_suspects_15 rfl (lv_at hl 1 rfl) ?_
    refine lv_iload_n hx hb dX9_suspects_16 rfl (lv_at hl 2 rfl) ?_
    obtain ⟨u3, hu3, hf⟩ := bn hf
    refine cm_V (As := [.int x1, .int x2]) (rest := []) (w2 := (W_M aM vM_3 ++ (W_A E (aM 1) 306 vnow))) hx hb hml hown hg (c_X9_suspectsBetween E l aM vM_3 vnow x1 x2 u3 hu3) cy_X9_suspectsBetween ml_X9_246 ⟨⟨rfl, rfl⟩, Nat.le_of_ble_eq_true rfl, Nat.le_of_ble_eq_true rfl⟩ hK hE hP hD hS hA [true, true] rfl rfl rfl 0 rfl rfl rfl hl.1 rfl (Nat.le_of_ble_eq_true rfl) dX9_suspects_17 ⟨Nat.le_of_ble_eq_true rfl, Nat.le_of_ble_eq_true rfl⟩ [.int u3] rfl (fun H locs hP hD hS => ?_)
    obtain rfl := Option.some.inj hf
    exact cm_iret hx hb hr hlocks hP hS dX9_suspects_20
def B_X9_culprit_38 (rec : Int32 → ((Nat → Int32) × Int64) → Option (Int32 × ((Nat → Int32) × Int64))) (vnow : Nat → Int32) (x1 : Int32) (x2 : Int32) (x3 : Int32) (vM : (Nat → Int32) × Int64) : Option (Int32 × ((Nat → Int32) × Int64)) := (F_X9_outBetween vnow x3 x1 x2).bind (fun u1 => (if u1 = 0 then (rec (x3 + 1) vM) else (some (x3, vM))))
def L_X9_culprit_38 (vnow : Nat → Int32) (x1 : Int32) (x2 : Int32) : Nat → Int32 → ((Nat → Int32) × Int64) → Option (Int32 × ((Nat → Int32) × Int64))
  | 0 => fun _ _ => none
  | n + 1 => fun x3 vM => B_X9_culprit_38 (L_X9_culprit_38 vnow x1 x2 n) vnow x1 x2 x3 vM
def F_X9_culprit (vM : (Nat → Int32) × Int64) (vnow : Nat → Int32) (x1 : Int32) (x2 : Int32) : Option (Int32 × ((Nat → Int32) × Int64)) := lt (va_up vM.1 3 0, vM.2) (fun vM_3 => (F_X9_isPast vM_3 vnow x1 x2).bind (fun u1 => (if u1 = 0 then (F_X9_fails vM_3 1).bind (fun u4 => (some (u4.1, u4.2))) else (F_X9_suspectsBetween vM_3 vnow x1 x2).bind (fun u2 => (if u2 = 1 then (L_X9_culprit_38 vnow x1 x2 FU 0 vM_3) else (F_X9_fails vM_3 2).bind (fun u3 => (some (u3.1, u3.2))))))))
abbrev rm_X9_culprit : Room := { frames := 4, cells := 0, slots := 0, locals := 95 }
set_option maxHeartbeats 4000000 in
set_option maxRecDepth 100000 in
theorem c_X9_culprit (E : Ev) (l : Launch) (aM : Nat → Nat) (vM : (Nat → Int32) × Int64) (vnow : Nat → Int32) (x1 : Int32) (x2 : Int32) (r : Int32 × ((Nat → Int32) × Int64)) (hf : F_X9_culprit vM vnow x1 x2 = some r) : CM E l yX9_culprit (.code yX9_culprit cX9_culprit 4 (some .int) :: GA) rm_X9_culprit [.ref (aM 0), .int x1, .int x2] (W_M aM vM ++ (W_A E (aM 1) 306 vnow)) (some (.int r.1)) (W_M aM r.2 ++ (W_A E (aM 1) 306 vnow)) := by
  refine CM.of (own := RX9) rfl (by decide) (Nat.le_of_ble_eq_true rfl) ?_
  intro p e s m below meth c A ls hx hb hr hml hown hg hlocks hK hE hA hP hD hS hl
  have hl : lv_has ls 4 [(0, .ref (aM 0)), (1, .int x1), (2, .int x2)] := hl
  have lp_38 : ∀ (n : Nat) (x3 : Int32) (vM : (Nat → Int32) × Int64) (H : Heap) (locs : List Loc) (ls : Array Slot), L_X9_culprit_38 vnow x1 x2 n x3 vM = some r → va_P E.1 vwCl (W_M aM vM ++ (W_A E (aM 1) 306 vnow)) H → va_D A (W_M aM vM ++ (W_A E (aM 1) 306 vnow)) → va_S A s.heap H locs → lv_has ls 4 [(0, .ref (aM 0)), (1, .int x1), (2, .int x2), (3, .int x3)] → W p l e rm_X9_culprit s m ([.ref (aM 0), .int x1, .int x2] : List Value).toArray below meth c H locs 0 0 (MQ below (QW E (some (.int r.1)) (W_M aM r.2 ++ (W_A E (aM 1) 306 vnow)) A) ([.ref (aM 0), .int x1, .int x2] : List Value).toArray s 0 0 A) (F0 m 38 ls []) := by
    intro n
    induction n with
    | zero => intro x3 vM H locs ls hf; cases hf
    | succ n ih =>
      intro x3 vM H locs ls hf hP hD hS hl
      replace hf : B_X9_culprit_38 (L_X9_culprit_38 vnow x1 x2 n) vnow x1 x2 x3 vM = some r := hf
      unfold B_X9_culprit_38 at hf
      refine lv_aload_n hx hb dX9_culprit_38 rfl (lv_at hl 0 rfl) ?_
      refine gf_X9_7 hx hb hg hown hK hP 0 rfl rfl dX9_culprit_39 ?_
      refine lv_iload_n hx hb dX9_culprit_42 rfl (lv_at hl 3 rfl) ?_
      refine lv_iload_n hx hb dX9_culprit_43 rfl (lv_at hl 1 rfl) ?_
      refine lv_iload_n hx hb dX9_culprit_44 rfl (lv_at hl 2 rfl) ?_
      obtain ⟨u1, hu1, hf⟩ := bn hf
      refine cm_S (As := [.ref (aM 1), .int x3, .int x1, .int x2]) (rest := []) (w2 := (W_M aM vM ++ (W_A E (aM 1) 306 vnow))) hx hb hml hown hg (c_X9_outBetween E l (aM 1) vnow x3 x1 x2 u1 hu1) cs_X9_outBetween ml_X9_127 ⟨⟨rfl, rfl⟩, Nat.le_of_ble_eq_true rfl, Nat.le_of_ble_eq_true rfl⟩ hK hE hP hD hS hA [false, true] rfl rfl rfl rfl hl.1 rfl (Nat.le_of_ble_eq_true rfl) dX9_culprit_45 ⟨Nat.le_of_ble_eq_true rfl, Nat.le_of_ble_eq_true rfl⟩ [.int u1] rfl (fun H locs hP hD hS => ?_)
      refine lv_if_ne (tgt := 57) hx hb dX9_culprit_48 (by decide) (fun cq => ?_) (fun cq => ?_)
      · have hf := ie cq hf
        refine lv_iload_n hx hb dX9_culprit_57 rfl (lv_at hl 3 rfl) ?_
        obtain rfl := Option.some.inj hf
        exact cm_iret hx hb hr hlocks hP hS dX9_culprit_58
      · have hf := it cq hf
        refine lv_iinc (v := (x3 + 1)) (lv' := [(3, .int (x3 + 1)), (0, .ref (aM 0)), (1, .int x1), (2, .int x2)]) hx hb dX9_culprit_51 hl (k := 3) rfl rfl (by decide) rfl (fun ls hl => ?_)
        refine lv_goto (tgt := 38) hx hb dX9_culprit_54 (by decide) ?_
        exact ih _ _ _ _ _ hf hP hD hS (lv_sub hl [1, 2, 3, 0] rfl)
  unfold F_X9_culprit at hf
  refine lv_aload_n hx hb dX9_culprit_0 rfl (lv_at hl 0 rfl) ?_
  refine lv_iconst (v := 0) hx hb dX9_culprit_1 (by decide) ?_
  refine pf_X9_48 (w2 := (W_M aM (va_up vM.1 3 0, vM.2) ++ (W_A E (aM 1) 306 vnow))) hx hb hg hown hK hP hD hS 0 rfl (Nat.le_of_ble_eq_true rfl) rfl dX9_culprit_2 (fun H locs hP hD hS => ?_)
  obtain ⟨vM_3, hv, hf⟩ := lt_o hf
  rw [← hv] at hP hD
  clear hv
  refine lv_aload_n hx hb dX9_culprit_5 rfl (lv_at hl 0 rfl) ?_
  refine lv_iload_n hx hb dX9_culprit_6 rfl (lv_at hl 1 rfl) ?_
  refine lv_iload_n hx hb dX9_culprit_7 rfl (lv_at hl 2 rfl) ?_
  obtain ⟨u1, hu1, hf⟩ := bn hf
  refine cm_V (As := [.int x1, .int x2]) (rest := []) (w2 := (W_M aM vM_3 ++ (W_A E (aM 1) 306 vnow))) hx hb hml hown hg (c_X9_isPast E l aM vM_3 vnow x1 x2 u1 hu1) cy_X9_isPast ml_X9_242 ⟨⟨rfl, rfl⟩, Nat.le_of_ble_eq_true rfl, Nat.le_of_ble_eq_true rfl⟩ hK hE hP hD hS hA [true, true] rfl rfl rfl 0 rfl rfl rfl hl.1 rfl (Nat.le_of_ble_eq_true rfl) dX9_culprit_8 ⟨Nat.le_of_ble_eq_true rfl, Nat.le_of_ble_eq_true rfl⟩ [.int u1] rfl (fun H locs hP hD hS => ?_)
  refine lv_if_ne (tgt := 20) hx hb dX9_culprit_11 (by decide) (fun cq => ?_) (fun cq => ?_)
  · have hf := ie cq hf
    refine lv_aload_n hx hb dX9_culprit_20 rfl (lv_at hl 0 rfl) ?_
    refine lv_iload_n hx hb dX9_culprit_21 rfl (lv_at hl 1 rfl) ?_
    refine lv_iload_n hx hb dX9_culprit_22 rfl (lv_at hl 2 rfl) ?_
    obtain ⟨u2, hu2, hf⟩ := bn hf
    refine cm_V (As := [.int x1, .int x2]) (rest := []) (w2 := (W_M aM vM_3 ++ (W_A E (aM 1) 306 vnow))) hx hb hml hown hg (c_X9_suspectsBetween E l aM vM_3 vnow x1 x2 u2 hu2) cy_X9_suspectsBetween ml_X9_246 ⟨⟨rfl, rfl⟩, Nat.le_of_ble_eq_true rfl, Nat.le_of_ble_eq_true rfl⟩ hK hE hP hD hS hA [true, true] rfl rfl rfl 0 rfl rfl rfl hl.1 rfl (Nat.le_of_ble_eq_true rfl) dX9_culprit_23 ⟨Nat.le_of_ble_eq_true rfl, Nat.le_of_ble_eq_true rfl⟩ [.int u2] rfl (fun H locs hP hD hS => ?_)
    refine lv_iconst (v := 1) hx hb dX9_culprit_26 (by decide) ?_
    refine lv_icmp_eq (tgt := 36) hx hb dX9_culprit_27 (by decide) (fun cq => ?_) (fun cq => ?_)
    · have hf := it cq hf
      refine lv_iconst (v := 0) hx hb dX9_culprit_36 (by decide) ?_
      refine lv_istore_n (lv' := [(3, .int 0), (0, .ref (aM 0)), (1, .int x1), (2, .int x2)]) hx hb dX9_culprit_37 rfl hl (by decide) rfl (fun ls hl => ?_)
      exact lp_38 FU _ _ _ _ _ hf hP hD hS (lv_sub hl [1, 2, 3, 0] rfl)
    · have hf := ie cq hf
      refine lv_aload_n hx hb dX9_culprit_30 rfl (lv_at hl 0 rfl) ?_
      refine lv_iconst (v := 2) hx hb dX9_culprit_31 (by decide) ?_
      obtain ⟨u3, hu3, hf⟩ := bn hf
      refine cm_V (As := [.int 2]) (rest := []) (w2 := (W_M aM u3.2 ++ (W_A E (aM 1) 306 vnow))) hx hb hml hown hg (c_X9_fails E l aM vM_3 2 u3 hu3) cy_X9_fails ml_X9_133 ⟨⟨rfl, rfl⟩, Nat.le_of_ble_eq_true rfl, Nat.le_of_ble_eq_true rfl⟩ hK hE hP hD hS hA [true] rfl rfl rfl 0 rfl rfl rfl hl.1 rfl (Nat.le_of_ble_eq_true rfl) dX9_culprit_32 ⟨Nat.le_of_ble_eq_true rfl, Nat.le_of_ble_eq_true rfl⟩ [.int u3.1] rfl (fun H locs hP hD hS => ?_)
      obtain rfl := Option.some.inj hf
      exact cm_iret hx hb hr hlocks hP hS dX9_culprit_35
  · have hf := it cq hf
    refine lv_aload_n hx hb dX9_culprit_14 rfl (lv_at hl 0 rfl) ?_
    refine lv_iconst (v := 1) hx hb dX9_culprit_15 (by decide) ?_
    obtain ⟨u4, hu4, hf⟩ := bn hf
    refine cm_V (As := [.int 1]) (rest := []) (w2 := (W_M aM u4.2 ++ (W_A E (aM 1) 306 vnow))) hx hb hml hown hg (c_X9_fails E l aM vM_3 1 u4 hu4) cy_X9_fails ml_X9_133 ⟨⟨rfl, rfl⟩, Nat.le_of_ble_eq_true rfl, Nat.le_of_ble_eq_true rfl⟩ hK hE hP hD hS hA [true] rfl rfl rfl 0 rfl rfl rfl hl.1 rfl (Nat.le_of_ble_eq_true rfl) dX9_culprit_16 ⟨Nat.le_of_ble_eq_true rfl, Nat.le_of_ble_eq_true rfl⟩ [.int u4.1] rfl (fun H locs hP hD hS => ?_)
    obtain rfl := Option.some.inj hf
    exact cm_iret hx hb hr hlocks hP hS dX9_culprit_19
def F_X9_minutesOut (vM : (Nat → Int32) × Int64) (vnow : Nat → Int32) (x1 : Int32) : Option (Int32 × ((Nat → Int32) × Int64)) := lt (va_up vM.1 3 0, vM.2) (fun vM_3 => (F_X9_isGuest vM_3 vnow x1).bind (fun u1 => (if u1 = 0 then (F_X9_fails vM_3 1).bind (fun u2 => (some (u2.1, u2.2))) else (F_X9_outAll vnow x1).bind (fun u3 => (some (u3, vM_3))))))
abbrev rm_X9_minutesOut : Room := { frames := 4, cells := 0, slots := 0, locals := 92 }
set_option maxHeartbeats 4000000 in
set_option maxRecDepth 100000 in
theorem c_X9_minutesOut (E : Ev) (l : Launch) (aM : Nat → Nat) (vM : (Nat → Int32) × Int64) (vnow : Nat → Int32) (x1 : Int32) (r : Int32 × ((Nat → Int32) × Int64)) (hf : F_X9_minutesOut vM vnow x1 = some r) : CM E l yX9_minutesOut (.code yX9_minutesOut cX9_minutesOut 2 (some .int) :: GA) rm_X9_minutesOut [.ref (aM 0), .int x1] (W_M aM vM ++ (W_A E (aM 1) 306 vnow)) (some (.int r.1)) (W_M aM r.2 ++ (W_A E (aM 1) 306 vnow)) := by
  refine CM.of (own := RX9) rfl (by decide) (Nat.le_of_ble_eq_true rfl) ?_
  intro p e s m below meth c A ls hx hb hr hml hown hg hlocks hK hE hA hP hD hS hl
  have hl : lv_has ls 2 [(0, .ref (aM 0)), (1, .int x1)] := hl
  unfold F_X9_minutesOut at hf
  refine lv_aload_n hx hb dX9_minutesOut_0 rfl (lv_at hl 0 rfl) ?_
  refine lv_iconst (v := 0) hx hb dX9_minutesOut_1 (by decide) ?_
  refine pf_X9_48 (w2 := (W_M aM (va_up vM.1 3 0, vM.2) ++ (W_A E (aM 1) 306 vnow))) hx hb hg hown hK hP hD hS 0 rfl (Nat.le_of_ble_eq_true rfl) rfl dX9_minutesOut_2 (fun H locs hP hD hS => ?_)
  obtain ⟨vM_3, hv, hf⟩ := lt_o hf
  rw [← hv] at hP hD
  clear hv
  refine lv_aload_n hx hb dX9_minutesOut_5 rfl (lv_at hl 0 rfl) ?_
  refine lv_iload_n hx hb dX9_minutesOut_6 rfl (lv_at hl 1 rfl) ?_
  obtain ⟨u1, hu1, hf⟩ := bn hf
  refine cm_V (As := [.int x1]) (rest := []) (w2 := (W_M aM vM_3 ++ (W_A E (aM 1) 306 vnow))) hx hb hml hown hg (c_X9_isGuest E l aM vM_3 vnow x1 u1 hu1) cy_X9_isGuest ml_X9_218 ⟨⟨rfl, rfl⟩, Nat.le_of_ble_eq_true rfl, Nat.le_of_ble_eq_true rfl⟩ hK hE hP hD hS hA [true, true] rfl rfl rfl 0 rfl rfl rfl hl.1 rfl (Nat.le_of_ble_eq_true rfl) dX9_minutesOut_7 ⟨Nat.le_of_ble_eq_true rfl, Nat.le_of_ble_eq_true rfl⟩ [.int u1] rfl (fun H locs hP hD hS => ?_)
  refine lv_if_eq (tgt := 22) hx hb dX9_minutesOut_10 (by decide) (fun cq => ?_) (fun cq => ?_)
  · have hf := it cq hf
    refine lv_aload_n hx hb dX9_minutesOut_22 rfl (lv_at hl 0 rfl) ?_
    refine lv_iconst (v := 1) hx hb dX9_minutesOut_23 (by decide) ?_
    obtain ⟨u2, hu2, hf⟩ := bn hf
    refine cm_V (As := [.int 1]) (rest := []) (w2 := (W_M aM u2.2 ++ (W_A E (aM 1) 306 vnow))) hx hb hml hown hg (c_X9_fails E l aM vM_3 1 u2 hu2) cy_X9_fails ml_X9_133 ⟨⟨rfl, rfl⟩, Nat.le_of_ble_eq_true rfl, Nat.le_of_ble_eq_true rfl⟩ hK hE hP hD hS hA [true] rfl rfl rfl 0 rfl rfl rfl hl.1 rfl (Nat.le_of_ble_eq_true rfl) dX9_minutesOut_24 ⟨Nat.le_of_ble_eq_true rfl, Nat.le_of_ble_eq_true rfl⟩ [.int u2.1] rfl (fun H locs hP hD hS => ?_)
    obtain rfl := Option.some.inj hf
    exact cm_iret hx hb hr hlocks hP hS dX9_minutesOut_27
  · have hf := ie cq hf
    refine lv_aload_n hx hb dX9_minutesOut_13 rfl (lv_at hl 0 rfl) ?_
    refine gf_X9_7 hx hb hg hown hK hP 0 rfl rfl dX9_minutesOut_14 ?_
    refine lv_iload_n hx hb dX9_minutesOut_17 rfl (lv_at hl 1 rfl) ?_
    obtain ⟨u3, hu3, hf⟩ := bn hf
    refine cm_S (As := [.ref (aM 1), .int x1]) (rest := []) (w2 := (W_M aM vM_3 ++ (W_A E (aM 1) 306 vnow))) hx hb hml hown hg (c_X9_outAll E l (aM 1) vnow x1 u3 hu3) cs_X9_outAll ml_X9_249 ⟨⟨rfl, rfl⟩, Nat.le_of_ble_eq_true rfl, Nat.le_of_ble_eq_true rfl⟩ hK hE hP hD hS hA [false, true] rfl rfl rfl rfl hl.1 rfl (Nat.le_of_ble_eq_true rfl) dX9_minutesOut_18 ⟨Nat.le_of_ble_eq_true rfl, Nat.le_of_ble_eq_true rfl⟩ [.int u3] rfl (fun H locs hP hD hS => ?_)
    obtain rfl := Option.some.inj hf
    exact cm_iret hx hb hr hlocks hP hS dX9_minutesOut_21
def F_X9_minutesTogether (vM : (Nat → Int32) × Int64) (vnow : Nat → Int32) (x1 : Int32) (x2 : Int32) : Option (Int32 × ((Nat → Int32) × Int64)) := lt (va_up vM.1 3 0, vM.2) (fun vM_3 => (F_X9_isGuest vM_3 vnow x1).bind (fun u1 => (if u1 = 0 then (F_X9_fails vM_3 1).bind (fun u2 => (some (u2.1, u2.2))) else (F_X9_isGuest vM_3 vnow x2).bind (fun u3 => (if u3 = 0 then (F_X9_fails vM_3 1).bind (fun u4 => (some (u4.1, u4.2))) else (F_X9_outBoth vnow x1 x2).bind (fun u5 => (some (u5, vM_3))))))))
abbrev rm_X9_minutesTogether : Room := { frames := 2, cells := 0, slots := 0, locals := 50 }
set_option maxHeartbeats 4000000 in
set_option maxRecDepth 100000 in
theorem c_X9_minutesTogether (E : Ev) (l : Launch) (aM : Nat → Nat) (vM : (Nat → Int32) × Int64) (vnow : Nat → Int32) (x1 : Int32) (x2 : Int32) (r : Int32 × ((Nat → Int32) × Int64)) (hf : F_X9_minutesTogether vM vnow x1 x2 = some r) : CM E l yX9_minutesTogether (.code yX9_minutesTogether cX9_minutesTogether 3 (some .int) :: GA) rm_X9_minutesTogether [.ref (aM 0), .int x1, .int x2] (W_M aM vM ++ (W_A E (aM 1) 306 vnow)) (some (.int r.1)) (W_M aM r.2 ++ (W_A E (aM 1) 306 vnow)) := by
  refine CM.of (own := RX9) rfl (by decide) (Nat.le_of_ble_eq_true rfl) ?_
  intro p e s m below meth c A ls hx hb hr hml hown hg hlocks hK hE hA hP hD hS hl
  have hl : lv_has ls 3 [(0, .ref (aM 0)), (1, .int x1), (2, .int x2)] := hl
  unfold F_X9_minutesTogether at hf
  refine lv_aload_n hx hb dX9_minutesTogether_0 rfl (lv_at hl 0 rfl) ?_
  refine lv_iconst (v := 0) hx hb dX9_minutesTogether_1 (by decide) ?_
  refine pf_X9_48 (w2 := (W_M aM (va_up vM.1 3 0, vM.2) ++ (W_A E (aM 1) 306 vnow))) hx hb hg hown hK hP hD hS 0 rfl (Nat.le_of_ble_eq_true rfl) rfl dX9_minutesTogether_2 (fun H locs hP hD hS => ?_)
  obtain ⟨vM_3, hv, hf⟩ := lt_o hf
  rw [← hv] at hP hD
  clear hv
  refine lv_aload_n hx hb dX9_minutesTogether_5 rfl (lv_at hl 0 rfl) ?_
  refine lv_iload_n hx hb dX9_minutesTogether_6 rfl (lv_at hl 1 rfl) ?_
  obtain ⟨u1, hu1, hf⟩ := bn hf
  refine cm_V (As := [.int x1]) (rest := []) (w2 := (W_M aM vM_3 ++ (W_A E (aM 1) 306 vnow))) hx hb hml hown hg (c_X9_isGuest E l aM vM_3 vnow x1 u1 hu1) cy_X9_isGuest ml_X9_218 ⟨⟨rfl, rfl⟩, Nat.le_of_ble_eq_true rfl, Nat.le_of_ble_eq_true rfl⟩ hK hE hP hD hS hA [true, true] rfl rfl rfl 0 rfl rfl rfl hl.1 rfl (Nat.le_of_ble_eq_true rfl) dX9_minutesTogether_7 ⟨Nat.le_of_ble_eq_true rfl, Nat.le_of_ble_eq_true rfl⟩ [.int u1] rfl (fun H locs hP hD hS => ?_)
  refine lv_if_eq (tgt := 31) hx hb dX9_minutesTogether_10 (by decide) (fun cq => ?_) (fun cq => ?_)
  · have hf := it cq hf
    refine lv_aload_n hx hb dX9_minutesTogether_31 rfl (lv_at hl 0 rfl) ?_
    refine lv_iconst (v := 1) hx hb dX9_minutesTogether_32 (by decide) ?_
    obtain ⟨u2, hu2, hf⟩ := bn hf
    refine cm_V (As := [.int 1]) (rest := []) (w2 := (W_M aM u2.2 ++ (W_A E (aM 1) 306 vnow))) hx hb hml hown hg (c_X9_fails E l aM vM_3 1 u2 hu2) cy_X9_fails ml_X9_133 ⟨⟨rfl, rfl⟩, Nat.le_of_ble_eq_true rfl, Nat.le_of_ble_eq_true rfl⟩ hK hE hP hD hS hA [true] rfl rfl rfl 0 rfl rfl rfl hl.1 rfl (Nat.le_of_ble_eq_true rfl) dX9_minutesTogether_33 ⟨Nat.le_of_ble_eq_true rfl, Nat.le_of_ble_eq_true rfl⟩ [.int u2.1] rfl (fun H locs hP hD hS => ?_)
    obtain rfl := Option.some.inj hf
    exact cm_iret hx hb hr hlocks hP hS dX9_minutesTogether_36
  · have hf := ie cq hf
    refine lv_aload_n hx hb dX9_minutesTogether_13 rfl (lv_at hl 0 rfl) ?_
    refine lv_iload_n hx hb dX9_minutesTogether_14 rfl (lv_at hl 2 rfl) ?_
    obtain ⟨u3, hu3, hf⟩ := bn hf
    refine cm_V (As := [.int x2]) (rest := []) (w2 := (W_M aM vM_3 ++ (W_A E (aM 1) 306 vnow))) hx hb hml hown hg (c_X9_isGuest E l aM vM_3 vnow x2 u3 hu3) cy_X9_isGuest ml_X9_218 ⟨⟨rfl, rfl⟩, Nat.le_of_ble_eq_true rfl, Nat.le_of_ble_eq_true rfl⟩ hK hE hP hD hS hA [true, true] rfl rfl rfl 0 rfl rfl rfl hl.1 rfl (Nat.le_of_ble_eq_true rfl) dX9_minutesTogether_15 ⟨Nat.le_of_ble_eq_true rfl, Nat.le_of_ble_eq_true rfl⟩ [.int u3] rfl (fun H locs hP hD hS => ?_)
    refine lv_if_eq (tgt := 31) hx hb dX9_minutesTogether_18 (by decide) (fun cq => ?_) (fun cq => ?_)
    · have hf := it cq hf
      refine lv_aload_n hx hb dX9_minutesTogether_31 rfl (lv_at hl 0 rfl) ?_
      refine lv_iconst (v := 1) hx hb dX9_minutesTogether_32 (by decide) ?_
      obtain ⟨u4, hu4, hf⟩ := bn hf
      refine cm_V (As := [.int 1]) (rest := []) (w2 := (W_M aM u4.2 ++ (W_A E (aM 1) 306 vnow))) hx hb hml hown hg (c_X9_fails E l aM vM_3 1 u4 hu4) cy_X9_fails ml_X9_133 ⟨⟨rfl, rfl⟩, Nat.le_of_ble_eq_true rfl, Nat.le_of_ble_eq_true rfl⟩ hK hE hP hD hS hA [true] rfl rfl rfl 0 rfl rfl rfl hl.1 rfl (Nat.le_of_ble_eq_true rfl) dX9_minutesTogether_33 ⟨Nat.le_of_ble_eq_true rfl, Nat.le_of_ble_eq_true rfl⟩ [.int u4.1] rfl (fun H locs hP hD hS => ?_)
      obtain rfl := Option.some.inj hf
      exact cm_iret hx hb hr hlocks hP hS dX9_minutesTogether_36
    · have hf := ie cq hf
      refine lv_aload_n hx hb dX9_minutesTogether_21 rfl (lv_at hl 0 rfl) ?_
      refine gf_X9_7 hx hb hg hown hK hP 0 rfl rfl dX9_minutesTogether_22 ?_
      refine lv_iload_n hx hb dX9_minutesTogether_25 rfl (lv_at hl 1 rfl) ?_
      refine lv_iload_n hx hb dX9_minutesTogether_26 rfl (lv_at hl 2 rfl) ?_
      obtain ⟨u5, hu5, hf⟩ := bn hf
      refine cm_S (As := [.ref (aM 1), .int x1, .int x2]) (rest := []) (w2 := (W_M aM vM_3 ++ (W_A E (aM 1) 306 vnow))) hx hb hml hown hg (c_X9_outBoth E l (aM 1) vnow x1 x2 u5 hu5) cs_X9_outBoth ml_X9_252 ⟨⟨rfl, rfl⟩, Nat.le_of_ble_eq_true rfl, Nat.le_of_ble_eq_true rfl⟩ hK hE hP hD hS hA [false, true] rfl rfl rfl rfl hl.1 rfl (Nat.le_of_ble_eq_true rfl) dX9_minutesTogether_27 ⟨Nat.le_of_ble_eq_true rfl, Nat.le_of_ble_eq_true rfl⟩ [.int u5] rfl (fun H locs hP hD hS => ?_)
      obtain rfl := Option.some.inj hf
      exact cm_iret hx hb hr hlocks hP hS dX9_minutesTogether_30
def B_X9_meanMinutesOut_9 (rec : Int32 → Int32 → ((Nat → Int32) × Int64) → Option (UInt64 × ((Nat → Int32) × Int64))) (vnow : Nat → Int32) (x1 : Int32) (x2 : Int32) (vM : (Nat → Int32) × Int64) : Option (UInt64 × ((Nat → Int32) × Int64)) := ck 7 306 ((if (vnow (Int32.toNatClampNeg 7)) ≤ x2 then ck 7 306 ((if (vnow (Int32.toNatClampNeg 7)) = 0 then (some (FP.dconst0, vM)) else ck 7 306 (cn ((FP.ddiv (FP.i2d x1) (FP.i2d (vnow (Int32.toNatClampNeg 7)))) &&& 0x7fffffffffffffff ≤ 0x7ff0000000000000) ((some ((FP.ddiv (FP.i2d x1) (FP.i2d (vnow (Int32.toNatClampNeg 7)))), vM)))))) else (F_X9_outAll vnow x2).bind (fun u1 => (rec (x1 + u1) (x2 + 1) vM))))
def L_X9_meanMinutesOut_9 (vnow : Nat → Int32) : Nat → Int32 → Int32 → ((Nat → Int32) × Int64) → Option (UInt64 × ((Nat → Int32) × Int64))
  | 0 => fun _ _ _ => none
  | n + 1 => fun x1 x2 vM => B_X9_meanMinutesOut_9 (L_X9_meanMinutesOut_9 vnow n) vnow x1 x2 vM
def F_X9_meanMinutesOut (vM : (Nat → Int32) × Int64) (vnow : Nat → Int32) : Option (UInt64 × ((Nat → Int32) × Int64)) := lt (va_up vM.1 3 0, vM.2) (fun vM_3 => (L_X9_meanMinutesOut_9 vnow FU 0 0 vM_3))
abbrev rm_X9_meanMinutesOut : Room := { frames := 4, cells := 0, slots := 0, locals := 92 }
set_option maxHeartbeats 4000000 in
set_option maxRecDepth 100000 in
theorem c_X9_meanMinutesOut (E : Ev) (l : Launch) (aM : Nat → Nat) (vM : (Nat → Int32) × Int64) (vnow : Nat → Int32) (r : UInt64 × ((Nat → Int32) × Int64)) (hf : F_X9_meanMinutesOut vM vnow = some r) : CM E l yX9_meanMinutesOut (.code yX9_meanMinutesOut cX9_meanMinutesOut 3 (some .double) :: GA) rm_X9_meanMinutesOut [.ref (aM 0)] (W_M aM vM ++ (W_A E (aM 1) 306 vnow)) (some (.double r.1)) (W_M aM r.2 ++ (W_A E (aM 1) 306 vnow)) := by
  refine CM.of (own := RX9) rfl (by decide) (Nat.le_of_ble_eq_true rfl) ?_
  intro p e s m below meth c A ls hx hb hr hml hown hg hlocks hK hE hA hP hD hS hl
  have hl : lv_has ls 3 [(0, .ref (aM 0))] := hl
  have lp_9 : ∀ (n : Nat) (x1 : Int32) (x2 : Int32) (vM : (Nat → Int32) × Int64) (H : Heap) (locs : List Loc) (ls : Array Slot), L_X9_meanMinutesOut_9 vnow n x1 x2 vM = some r → va_P E.1 vwCl (W_M aM vM ++ (W_A E (aM 1) 306 vnow)) H → va_D A (W_M aM vM ++ (W_A E (aM 1) 306 vnow)) → va_S A s.heap H locs → lv_has ls 3 [(0, .ref (aM 0)), (1, .int x1), (2, .int x2)] → W p l e rm_X9_meanMinutesOut s m ([.ref (aM 0)] : List Value).toArray below meth c H locs 0 0 (MQ below (QW E (some (.double r.1)) (W_M aM r.2 ++ (W_A E (aM 1) 306 vnow)) A) ([.ref (aM 0)] : List Value).toArray s 0 0 A) (F0 m 9 ls []) := by
    intro n
    induction n with
    | zero => intro x1 x2 vM H locs ls hf; cases hf
    | succ n ih =>
      intro x1 x2 vM H locs ls hf hP hD hS hl
      replace hf : B_X9_meanMinutesOut_9 (L_X9_meanMinutesOut_9 vnow n) vnow x1 x2 vM = some r := hf
      unfold B_X9_meanMinutesOut_9 at hf
      refine lv_iload_n hx hb dX9_meanMinutesOut_9 rfl (lv_at hl 2 rfl) ?_
      refine lv_aload_n hx hb dX9_meanMinutesOut_10 rfl (lv_at hl 0 rfl) ?_
      refine gf_X9_7 hx hb hg hown hK hP 0 rfl rfl dX9_meanMinutesOut_11 ?_
      refine lv_bipush (v := 7) hx hb dX9_meanMinutesOut_14 (by decide) ?_
      obtain ⟨hi, hf⟩ := ck_o hf
      refine ar_ld hx hb hK hP 1 rfl hi dX9_meanMinutesOut_16 ?_
      refine lv_icmp_ge (tgt := 37) hx hb dX9_meanMinutesOut_17 (by decide) (fun cq => ?_) (fun cq => ?_)
      · have hf := it cq hf
        refine lv_aload_n hx hb dX9_meanMinutesOut_37 rfl (lv_at hl 0 rfl) ?_
        refine gf_X9_7 hx hb hg hown hK hP 0 rfl rfl dX9_meanMinutesOut_38 ?_
        refine lv_bipush (v := 7) hx hb dX9_meanMinutesOut_41 (by decide) ?_
        obtain ⟨hi, hf⟩ := ck_o hf
        refine ar_ld hx hb hK hP 1 rfl hi dX9_meanMinutesOut_43 ?_
        refine lv_if_ne (tgt := 49) hx hb dX9_meanMinutesOut_44 (by decide) (fun cq => ?_) (fun cq => ?_)
        · have hf := ie cq hf
          refine lv_iload_n hx hb dX9_meanMinutesOut_49 rfl (lv_at hl 1 rfl) ?_
          refine lv_i2d hx hb dX9_meanMinutesOut_50 ?_
          refine lv_aload_n hx hb dX9_meanMinutesOut_51 rfl (lv_at hl 0 rfl) ?_
          refine gf_X9_7 hx hb hg hown hK hP 0 rfl rfl dX9_meanMinutesOut_52 ?_
          refine lv_bipush (v := 7) hx hb dX9_meanMinutesOut_55 (by decide) ?_
          obtain ⟨hi, hf⟩ := ck_o hf
          refine ar_ld hx hb hK hP 1 rfl hi dX9_meanMinutesOut_57 ?_
          refine lv_i2d hx hb dX9_meanMinutesOut_58 ?_
          obtain ⟨hnn, hf⟩ := cn_o hf
          refine lv_ddiv hx hb dX9_meanMinutesOut_59 hnn ?_
          obtain rfl := Option.some.inj hf
          exact cm_dret (v := (FP.ddiv (FP.i2d x1) (FP.i2d (vnow (Int32.toNatClampNeg 7))))) hx hb hr hlocks hP hS dX9_meanMinutesOut_60
        · have hf := it cq hf
          refine lv_dconst0 hx hb dX9_meanMinutesOut_47 ?_
          obtain rfl := Option.some.inj hf
          exact cm_dret (v := FP.dconst0) hx hb hr hlocks hP hS dX9_meanMinutesOut_48
      · have hf := ie cq hf
        refine lv_iload_n hx hb dX9_meanMinutesOut_20 rfl (lv_at hl 1 rfl) ?_
        refine lv_aload_n hx hb dX9_meanMinutesOut_21 rfl (lv_at hl 0 rfl) ?_
        refine gf_X9_7 hx hb hg hown hK hP 0 rfl rfl dX9_meanMinutesOut_22 ?_
        refine lv_iload_n hx hb dX9_meanMinutesOut_25 rfl (lv_at hl 2 rfl) ?_
        obtain ⟨u1, hu1, hf⟩ := bn hf
        refine cm_S (As := [.ref (aM 1), .int x2]) (rest := [.int x1]) (w2 := (W_M aM vM ++ (W_A E (aM 1) 306 vnow))) hx hb hml hown hg (c_X9_outAll E l (aM 1) vnow x2 u1 hu1) cs_X9_outAll ml_X9_249 ⟨⟨rfl, rfl⟩, Nat.le_of_ble_eq_true rfl, Nat.le_of_ble_eq_true rfl⟩ hK hE hP hD hS hA [false, true] rfl rfl rfl rfl hl.1 rfl (Nat.le_of_ble_eq_true rfl) dX9_meanMinutesOut_26 ⟨Nat.le_of_ble_eq_true rfl, Nat.le_of_ble_eq_true rfl⟩ [.int u1, .int x1] rfl (fun H locs hP hD hS => ?_)
        refine lv_iadd hx hb dX9_meanMinutesOut_29 ?_
        refine lv_istore_n (lv' := [(1, .int (x1 + u1)), (0, .ref (aM 0)), (2, .int x2)]) hx hb dX9_meanMinutesOut_30 rfl hl (by decide) rfl (fun ls hl => ?_)
        refine lv_iinc (v := (x2 + 1)) (lv' := [(2, .int (x2 + 1)), (1, .int (x1 + u1)), (0, .ref (aM 0))]) hx hb dX9_meanMinutesOut_31 hl (k := 2) rfl rfl (by decide) rfl (fun ls hl => ?_)
        refine lv_goto (tgt := 9) hx hb dX9_meanMinutesOut_34 (by decide) ?_
        exact ih _ _ _ _ _ _ hf hP hD hS (lv_sub hl [2, 1, 0] rfl)
  unfold F_X9_meanMinutesOut at hf
  refine lv_aload_n hx hb dX9_meanMinutesOut_0 rfl (lv_at hl 0 rfl) ?_
  refine lv_iconst (v := 0) hx hb dX9_meanMinutesOut_1 (by decide) ?_
  refine pf_X9_48 (w2 := (W_M aM (va_up vM.1 3 0, vM.2) ++ (W_A E (aM 1) 306 vnow))) hx hb hg hown hK hP hD hS 0 rfl (Nat.le_of_ble_eq_true rfl) rfl dX9_meanMinutesOut_2 (fun H locs hP hD hS => ?_)
  obtain ⟨vM_3, hv, hf⟩ := lt_o hf
  rw [← hv] at hP hD
  clear hv
  refine lv_iconst (v := 0) hx hb dX9_meanMinutesOut_5 (by decide) ?_
  refine lv_istore_n (lv' := [(1, .int 0), (0, .ref (aM 0))]) hx hb dX9_meanMinutesOut_6 rfl hl (by decide) rfl (fun ls hl => ?_)
  refine lv_iconst (v := 0) hx hb dX9_meanMinutesOut_7 (by decide) ?_
  refine lv_istore_n (lv' := [(2, .int 0), (1, .int 0), (0, .ref (aM 0))]) hx hb dX9_meanMinutesOut_8 rfl hl (by decide) rfl (fun ls hl => ?_)
  exact lp_9 FU _ _ _ _ _ _ hf hP hD hS (lv_sub hl [2, 1, 0] rfl)
def F_X9_shareOut (vM : (Nat → Int32) × Int64) (vnow : Nat → Int32) : Option (UInt32 × ((Nat → Int32) × Int64)) := lt (va_up vM.1 3 0, vM.2) (fun vM_3 => ck 7 306 ((if (vnow (Int32.toNatClampNeg 7)) = 0 then (some (FP.fconst0, vM_3)) else (F_X9_awayMany vnow).bind (fun u1 => ck 7 306 (cn ((FP.fdiv (FP.i2f u1) (FP.i2f (vnow (Int32.toNatClampNeg 7)))) &&& 0x7fffffff ≤ 0x7f800000) ((some ((FP.fdiv (FP.i2f u1) (FP.i2f (vnow (Int32.toNatClampNeg 7)))), vM_3))))))))
abbrev rm_X9_shareOut : Room := { frames := 2, cells := 0, slots := 0, locals := 43 }
set_option maxHeartbeats 4000000 in
set_option maxRecDepth 100000 in
theorem c_X9_shareOut (E : Ev) (l : Launch) (aM : Nat → Nat) (vM : (Nat → Int32) × Int64) (vnow : Nat → Int32) (r : UInt32 × ((Nat → Int32) × Int64)) (hf : F_X9_shareOut vM vnow = some r) : CM E l yX9_shareOut (.code yX9_shareOut cX9_shareOut 1 (some .float) :: GA) rm_X9_shareOut [.ref (aM 0)] (W_M aM vM ++ (W_A E (aM 1) 306 vnow)) (some (.float r.1)) (W_M aM r.2 ++ (W_A E (aM 1) 306 vnow)) := by
  refine CM.of (own := RX9) rfl (by decide) (Nat.le_of_ble_eq_true rfl) ?_
  intro p e s m below meth c A ls hx hb hr hml hown hg hlocks hK hE hA hP hD hS hl
  have hl : lv_has ls 1 [(0, .ref (aM 0))] := hl
  unfold F_X9_shareOut at hf
  refine lv_aload_n hx hb dX9_shareOut_0 rfl (lv_at hl 0 rfl) ?_
  refine lv_iconst (v := 0) hx hb dX9_shareOut_1 (by decide) ?_
  refine pf_X9_48 (w2 := (W_M aM (va_up vM.1 3 0, vM.2) ++ (W_A E (aM 1) 306 vnow))) hx hb hg hown hK hP hD hS 0 rfl (Nat.le_of_ble_eq_true rfl) rfl dX9_shareOut_2 (fun H locs hP hD hS => ?_)
  obtain ⟨vM_3, hv, hf⟩ := lt_o hf
  rw [← hv] at hP hD
  clear hv
  refine lv_aload_n hx hb dX9_shareOut_5 rfl (lv_at hl 0 rfl) ?_
  refine gf_X9_7 hx hb hg hown hK hP 0 rfl rfl dX9_shareOut_6 ?_
  refine lv_bipush (v := 7) hx hb dX9_shareOut_9 (by decide) ?_
  obtain ⟨hi, hf⟩ := ck_o hf
  refine ar_ld hx hb hK hP 1 rfl hi dX9_shareOut_11 ?_
  refine lv_if_ne (tgt := 17) hx hb dX9_shareOut_12 (by decide) (fun cq => ?_) (fun cq => ?_)
  · have hf := ie cq hf
    refine lv_aload_n hx hb dX9_shareOut_17 rfl (lv_at hl 0 rfl) ?_
    refine gf_X9_7 hx hb hg hown hK hP 0 rfl rfl dX9_shareOut_18 ?_
    obtain ⟨u1, hu1, hf⟩ := bn hf
    refine cm_S (As := [.ref (aM 1)]) (rest := []) (w2 := (W_M aM vM_3 ++ (W_A E (aM 1) 306 vnow))) hx hb hml hown hg (c_X9_awayMany E l (aM 1) vnow u1 hu1) cs_X9_awayMany ml_X9_100 ⟨⟨rfl, rfl⟩, Nat.le_of_ble_eq_true rfl, Nat.le_of_ble_eq_true rfl⟩ hK hE hP hD hS hA [false, true] rfl rfl rfl rfl hl.1 rfl (Nat.le_of_ble_eq_true rfl) dX9_shareOut_21 ⟨Nat.le_of_ble_eq_true rfl, Nat.le_of_ble_eq_true rfl⟩ [.int u1] rfl (fun H locs hP hD hS => ?_)
    refine lv_i2f hx hb dX9_shareOut_24 ?_
    refine lv_aload_n hx hb dX9_shareOut_25 rfl (lv_at hl 0 rfl) ?_
    refine gf_X9_7 hx hb hg hown hK hP 0 rfl rfl dX9_shareOut_26 ?_
    refine lv_bipush (v := 7) hx hb dX9_shareOut_29 (by decide) ?_
    obtain ⟨hi, hf⟩ := ck_o hf
    refine ar_ld hx hb hK hP 1 rfl hi dX9_shareOut_31 ?_
    refine lv_i2f hx hb dX9_shareOut_32 ?_
    obtain ⟨hnn, hf⟩ := cn_o hf
    refine lv_fdiv hx hb dX9_shareOut_33 hnn ?_
    obtain rfl := Option.some.inj hf
    exact cm_fret (v := (FP.fdiv (FP.i2f u1) (FP.i2f (vnow (Int32.toNatClampNeg 7))))) hx hb hr hlocks hP hS dX9_shareOut_34
  · have hf := it cq hf
    refine lv_fconst0 hx hb dX9_shareOut_15 ?_
    obtain rfl := Option.some.inj hf
    exact cm_fret (v := FP.fconst0) hx hb hr hlocks hP hS dX9_shareOut_16
def F_X9_umbrellaFor (vM : (Nat → Int32) × Int64) (vnow : Nat → Int32) (x1 : Int32) : Option (Int32 × ((Nat → Int32) × Int64)) := lt (va_up vM.1 3 0, vM.2) (fun vM_3 => (F_X9_isGuest vM_3 vnow x1).bind (fun u1 => (if u1 = 0 then (F_X9_fails vM_3 1).bind (fun u6 => (some (u6.1, u6.2))) else (F_X9_isAway vnow x1).bind (fun u2 => (if u2 = 0 then (F_X9_takenBy vnow x1).bind (fun u3 => (if 0 ≤ u3 then (some (u3, vM_3)) else (F_X9_fails vM_3 3).bind (fun u4 => (some (u4.1, u4.2))))) else (F_X9_fails vM_3 2).bind (fun u5 => (some (u5.1, u5.2))))))))
abbrev rm_X9_umbrellaFor : Room := { frames := 5, cells := 0, slots := 0, locals := 107 }
set_option maxHeartbeats 4000000 in
set_option maxRecDepth 100000 in
theorem c_X9_umbrellaFor (E : Ev) (l : Launch) (aM : Nat → Nat) (vM : (Nat → Int32) × Int64) (vnow : Nat → Int32) (x1 : Int32) (r : Int32 × ((Nat → Int32) × Int64)) (hf : F_X9_umbrellaFor vM vnow x1 = some r) : CM E l yX9_umbrellaFor (.code yX9_umbrellaFor cX9_umbrellaFor 3 (some .int) :: GA) rm_X9_umbrellaFor [.ref (aM 0), .int x1] (W_M aM vM ++ (W_A E (aM 1) 306 vnow)) (some (.int r.1)) (W_M aM r.2 ++ (W_A E (aM 1) 306 vnow)) := by
  refine CM.of (own := RX9) rfl (by decide) (Nat.le_of_ble_eq_true rfl) ?_
  intro p e s m below meth c A ls hx hb hr hml hown hg hlocks hK hE hA hP hD hS hl
  have hl : lv_has ls 3 [(0, .ref (aM 0)), (1, .int x1)] := hl
  unfold F_X9_umbrellaFor at hf
  refine lv_aload_n hx hb dX9_umbrellaFor_0 rfl (lv_at hl 0 rfl) ?_
  refine lv_iconst (v := 0) hx hb dX9_umbrellaFor_1 (by decide) ?_
  refine pf_X9_48 (w2 := (W_M aM (va_up vM.1 3 0, vM.2) ++ (W_A E (aM 1) 306 vnow))) hx hb hg hown hK hP hD hS 0 rfl (Nat.le_of_ble_eq_true rfl) rfl dX9_umbrellaFor_2 (fun H locs hP hD hS => ?_)
  obtain ⟨vM_3, hv, hf⟩ := lt_o hf
  rw [← hv] at hP hD
  clear hv
  refine lv_aload_n hx hb dX9_umbrellaFor_5 rfl (lv_at hl 0 rfl) ?_
  refine lv_iload_n hx hb dX9_umbrellaFor_6 rfl (lv_at hl 1 rfl) ?_
  obtain ⟨u1, hu1, hf⟩ := bn hf
  refine cm_V (As := [.int x1]) (rest := []) (w2 := (W_M aM vM_3 ++ (W_A E (aM 1) 306 vnow))) hx hb hml hown hg (c_X9_isGuest E l aM vM_3 vnow x1 u1 hu1) cy_X9_isGuest ml_X9_218 ⟨⟨rfl, rfl⟩, Nat.le_of_ble_eq_true rfl, Nat.le_of_ble_eq_true rfl⟩ hK hE hP hD hS hA [true, true] rfl rfl rfl 0 rfl rfl rfl hl.1 rfl (Nat.le_of_ble_eq_true rfl) dX9_umbrellaFor_7 ⟨Nat.le_of_ble_eq_true rfl, Nat.le_of_ble_eq_true rfl⟩ [.int u1] rfl (fun H locs hP hD hS => ?_)
  refine lv_if_ne (tgt := 19) hx hb dX9_umbrellaFor_10 (by decide) (fun cq => ?_) (fun cq => ?_)
  · have hf := ie cq hf
    refine lv_aload_n hx hb dX9_umbrellaFor_19 rfl (lv_at hl 0 rfl) ?_
    refine gf_X9_7 hx hb hg hown hK hP 0 rfl rfl dX9_umbrellaFor_20 ?_
    refine lv_iload_n hx hb dX9_umbrellaFor_23 rfl (lv_at hl 1 rfl) ?_
    obtain ⟨u2, hu2, hf⟩ := bn hf
    refine cm_S (As := [.ref (aM 1), .int x1]) (rest := []) (w2 := (W_M aM vM_3 ++ (W_A E (aM 1) 306 vnow))) hx hb hml hown hg (c_X9_isAway E l (aM 1) vnow x1 u2 hu2) cs_X9_isAway ml_X9_109 ⟨⟨rfl, rfl⟩, Nat.le_of_ble_eq_true rfl, Nat.le_of_ble_eq_true rfl⟩ hK hE hP hD hS hA [false, true] rfl rfl rfl rfl hl.1 rfl (Nat.le_of_ble_eq_true rfl) dX9_umbrellaFor_24 ⟨Nat.le_of_ble_eq_true rfl, Nat.le_of_ble_eq_true rfl⟩ [.int u2] rfl (fun H locs hP hD hS => ?_)
    refine lv_if_eq (tgt := 36) hx hb dX9_umbrellaFor_27 (by decide) (fun cq => ?_) (fun cq => ?_)
    · have hf := it cq hf
      refine lv_aload_n hx hb dX9_umbrellaFor_36 rfl (lv_at hl 0 rfl) ?_
      refine gf_X9_7 hx hb hg hown hK hP 0 rfl rfl dX9_umbrellaFor_37 ?_
      refine lv_iload_n hx hb dX9_umbrellaFor_40 rfl (lv_at hl 1 rfl) ?_
      obtain ⟨u3, hu3, hf⟩ := bn hf
      refine cm_S (As := [.ref (aM 1), .int x1]) (rest := []) (w2 := (W_M aM vM_3 ++ (W_A E (aM 1) 306 vnow))) hx hb hml hown hg (c_X9_takenBy E l (aM 1) vnow x1 u3 hu3) cs_X9_takenBy ml_X9_93 ⟨⟨rfl, rfl⟩, Nat.le_of_ble_eq_true rfl, Nat.le_of_ble_eq_true rfl⟩ hK hE hP hD hS hA [false, true] rfl rfl rfl rfl hl.1 rfl (Nat.le_of_ble_eq_true rfl) dX9_umbrellaFor_41 ⟨Nat.le_of_ble_eq_true rfl, Nat.le_of_ble_eq_true rfl⟩ [.int u3] rfl (fun H locs hP hD hS => ?_)
      refine lv_istore_n (lv' := [(2, .int u3), (0, .ref (aM 0)), (1, .int x1)]) hx hb dX9_umbrellaFor_44 rfl hl (by decide) rfl (fun ls hl => ?_)
      refine lv_iload_n hx hb dX9_umbrellaFor_45 rfl (lv_at hl 0 rfl) ?_
      refine lv_if_ge (tgt := 55) hx hb dX9_umbrellaFor_46 (by decide) (fun cq => ?_) (fun cq => ?_)
      · have hf := it cq hf
        refine lv_iload_n hx hb dX9_umbrellaFor_55 rfl (lv_at hl 0 rfl) ?_
        obtain rfl := Option.some.inj hf
        exact cm_iret hx hb hr hlocks hP hS dX9_umbrellaFor_56
      · have hf := ie cq hf
        refine lv_aload_n hx hb dX9_umbrellaFor_49 rfl (lv_at hl 1 rfl) ?_
        refine lv_iconst (v := 3) hx hb dX9_umbrellaFor_50 (by decide) ?_
        obtain ⟨u4, hu4, hf⟩ := bn hf
        refine cm_V (As := [.int 3]) (rest := []) (w2 := (W_M aM u4.2 ++ (W_A E (aM 1) 306 vnow))) hx hb hml hown hg (c_X9_fails E l aM vM_3 3 u4 hu4) cy_X9_fails ml_X9_133 ⟨⟨rfl, rfl⟩, Nat.le_of_ble_eq_true rfl, Nat.le_of_ble_eq_true rfl⟩ hK hE hP hD hS hA [true] rfl rfl rfl 0 rfl rfl rfl hl.1 rfl (Nat.le_of_ble_eq_true rfl) dX9_umbrellaFor_51 ⟨Nat.le_of_ble_eq_true rfl, Nat.le_of_ble_eq_true rfl⟩ [.int u4.1] rfl (fun H locs hP hD hS => ?_)
        obtain rfl := Option.some.inj hf
        exact cm_iret hx hb hr hlocks hP hS dX9_umbrellaFor_54
    · have hf := ie cq hf
      refine lv_aload_n hx hb dX9_umbrellaFor_30 rfl (lv_at hl 0 rfl) ?_
      refine lv_iconst (v := 2) hx hb dX9_umbrellaFor_31 (by decide) ?_
      obtain ⟨u5, hu5, hf⟩ := bn hf
      refine cm_V (As := [.int 2]) (rest := []) (w2 := (W_M aM u5.2 ++ (W_A E (aM 1) 306 vnow))) hx hb hml hown hg (c_X9_fails E l aM vM_3 2 u5 hu5) cy_X9_fails ml_X9_133 ⟨⟨rfl, rfl⟩, Nat.le_of_ble_eq_true rfl, Nat.le_of_ble_eq_true rfl⟩ hK hE hP hD hS hA [true] rfl rfl rfl 0 rfl rfl rfl hl.1 rfl (Nat.le_of_ble_eq_true rfl) dX9_umbrellaFor_32 ⟨Nat.le_of_ble_eq_true rfl, Nat.le_of_ble_eq_true rfl⟩ [.int u5.1] rfl (fun H locs hP hD hS => ?_)
      obtain rfl := Option.some.inj hf
      exact cm_iret hx hb hr hlocks hP hS dX9_umbrellaFor_35
  · have hf := it cq hf
    refine lv_aload_n hx hb dX9_umbrellaFor_13 rfl (lv_at hl 0 rfl) ?_
    refine lv_iconst (v := 1) hx hb dX9_umbrellaFor_14 (by decide) ?_
    obtain ⟨u6, hu6, hf⟩ := bn hf
    refine cm_V (As := [.int 1]) (rest := []) (w2 := (W_M aM u6.2 ++ (W_A E (aM 1) 306 vnow))) hx hb hml hown hg (c_X9_fails E l aM vM_3 1 u6 hu6) cy_X9_fails ml_X9_133 ⟨⟨rfl, rfl⟩, Nat.le_of_ble_eq_true rfl, Nat.le_of_ble_eq_true rfl⟩ hK hE hP hD hS hA [true] rfl rfl rfl 0 rfl rfl rfl hl.1 rfl (Nat.le_of_ble_eq_true rfl) dX9_umbrellaFor_15 ⟨Nat.le_of_ble_eq_true rfl, Nat.le_of_ble_eq_true rfl⟩ [.int u6.1] rfl (fun H locs hP hD hS => ?_)
    obtain rfl := Option.some.inj hf
    exact cm_iret hx hb hr hlocks hP hS dX9_umbrellaFor_18
def F_X9_tipOf (vM : (Nat → Int32) × Int64) (vnow : Nat → Int32) (x1 : Int32) : Option (Int32 × ((Nat → Int32) × Int64)) := lt (va_up vM.1 3 0, vM.2) (fun vM_3 => (F_X9_isGuest vM_3 vnow x1).bind (fun u1 => (if u1 = 0 then (F_X9_fails vM_3 1).bind (fun u5 => (some (u5.1, u5.2))) else (F_X9_isAway vnow x1).bind (fun u2 => (if u2 = 0 then (F_X9_fails vM_3 2).bind (fun u3 => (some (u3.1, u3.2))) else (F_X9_tipFrom vnow x1).bind (fun u4 => (some (u4, vM_3))))))))
abbrev rm_X9_tipOf : Room := { frames := 3, cells := 0, slots := 0, locals := 64 }
set_option maxHeartbeats 4000000 in
set_option maxRecDepth 100000 in
theorem c_X9_tipOf (E : Ev) (l : Launch) (aM : Nat → Nat) (vM : (Nat → Int32) × Int64) (vnow : Nat → Int32) (x1 : Int32) (r : Int32 × ((Nat → Int32) × Int64)) (hf : F_X9_tipOf vM vnow x1 = some r) : CM E l yX9_tipOf (.code yX9_tipOf cX9_tipOf 2 (some .int) :: GA) rm_X9_tipOf [.ref (aM 0), .int x1] (W_M aM vM ++ (W_A E (aM 1) 306 vnow)) (some (.int r.1)) (W_M aM r.2 ++ (W_A E (aM 1) 306 vnow)) := by
  refine CM.of (own := RX9) rfl (by decide) (Nat.le_of_ble_eq_true rfl) ?_
  intro p e s m below meth c A ls hx hb hr hml hown hg hlocks hK hE hA hP hD hS hl
  have hl : lv_has ls 2 [(0, .ref (aM 0)), (1, .int x1)] := hl
  unfold F_X9_tipOf at hf
  refine lv_aload_n hx hb dX9_tipOf_0 rfl (lv_at hl 0 rfl) ?_
  refine lv_iconst (v := 0) hx hb dX9_tipOf_1 (by decide) ?_
  refine pf_X9_48 (w2 := (W_M aM (va_up vM.1 3 0, vM.2) ++ (W_A E (aM 1) 306 vnow))) hx hb hg hown hK hP hD hS 0 rfl (Nat.le_of_ble_eq_true rfl) rfl dX9_tipOf_2 (fun H locs hP hD hS => ?_)
  obtain ⟨vM_3, hv, hf⟩ := lt_o hf
  rw [← hv] at hP hD
  clear hv
  refine lv_aload_n hx hb dX9_tipOf_5 rfl (lv_at hl 0 rfl) ?_
  refine lv_iload_n hx hb dX9_tipOf_6 rfl (lv_at hl 1 rfl) ?_
  obtain ⟨u1, hu1, hf⟩ := bn hf
  refine cm_V (As := [.int x1]) (rest := []) (w2 := (W_M aM vM_3 ++ (W_A E (aM 1) 306 vnow))) hx hb hml hown hg (c_X9_isGuest E l aM vM_3 vnow x1 u1 hu1) cy_X9_isGuest ml_X9_218 ⟨⟨rfl, rfl⟩, Nat.le_of_ble_eq_true rfl, Nat.le_of_ble_eq_true rfl⟩ hK hE hP hD hS hA [true, true] rfl rfl rfl 0 rfl rfl rfl hl.1 rfl (Nat.le_of_ble_eq_true rfl) dX9_tipOf_7 ⟨Nat.le_of_ble_eq_true rfl, Nat.le_of_ble_eq_true rfl⟩ [.int u1] rfl (fun H locs hP hD hS => ?_)
  refine lv_if_ne (tgt := 19) hx hb dX9_tipOf_10 (by decide) (fun cq => ?_) (fun cq => ?_)
  · have hf := ie cq hf
    refine lv_aload_n hx hb dX9_tipOf_19 rfl (lv_at hl 0 rfl) ?_
    refine gf_X9_7 hx hb hg hown hK hP 0 rfl rfl dX9_tipOf_20 ?_
    refine lv_iload_n hx hb dX9_tipOf_23 rfl (lv_at hl 1 rfl) ?_
    obtain ⟨u2, hu2, hf⟩ := bn hf
    refine cm_S (As := [.ref (aM 1), .int x1]) (rest := []) (w2 := (W_M aM vM_3 ++ (W_A E (aM 1) 306 vnow))) hx hb hml hown hg (c_X9_isAway E l (aM 1) vnow x1 u2 hu2) cs_X9_isAway ml_X9_109 ⟨⟨rfl, rfl⟩, Nat.le_of_ble_eq_true rfl, Nat.le_of_ble_eq_true rfl⟩ hK hE hP hD hS hA [false, true] rfl rfl rfl rfl hl.1 rfl (Nat.le_of_ble_eq_true rfl) dX9_tipOf_24 ⟨Nat.le_of_ble_eq_true rfl, Nat.le_of_ble_eq_true rfl⟩ [.int u2] rfl (fun H locs hP hD hS => ?_)
    refine lv_if_eq (tgt := 39) hx hb dX9_tipOf_27 (by decide) (fun cq => ?_) (fun cq => ?_)
    · have hf := it cq hf
      refine lv_aload_n hx hb dX9_tipOf_39 rfl (lv_at hl 0 rfl) ?_
      refine lv_iconst (v := 2) hx hb dX9_tipOf_40 (by decide) ?_
      obtain ⟨u3, hu3, hf⟩ := bn hf
      refine cm_V (As := [.int 2]) (rest := []) (w2 := (W_M aM u3.2 ++ (W_A E (aM 1) 306 vnow))) hx hb hml hown hg (c_X9_fails E l aM vM_3 2 u3 hu3) cy_X9_fails ml_X9_133 ⟨⟨rfl, rfl⟩, Nat.le_of_ble_eq_true rfl, Nat.le_of_ble_eq_true rfl⟩ hK hE hP hD hS hA [true] rfl rfl rfl 0 rfl rfl rfl hl.1 rfl (Nat.le_of_ble_eq_true rfl) dX9_tipOf_41 ⟨Nat.le_of_ble_eq_true rfl, Nat.le_of_ble_eq_true rfl⟩ [.int u3.1] rfl (fun H locs hP hD hS => ?_)
      obtain rfl := Option.some.inj hf
      exact cm_iret hx hb hr hlocks hP hS dX9_tipOf_44
    · have hf := ie cq hf
      refine lv_aload_n hx hb dX9_tipOf_30 rfl (lv_at hl 0 rfl) ?_
      refine gf_X9_7 hx hb hg hown hK hP 0 rfl rfl dX9_tipOf_31 ?_
      refine lv_iload_n hx hb dX9_tipOf_34 rfl (lv_at hl 1 rfl) ?_
      obtain ⟨u4, hu4, hf⟩ := bn hf
      refine cm_S (As := [.ref (aM 1), .int x1]) (rest := []) (w2 := (W_M aM vM_3 ++ (W_A E (aM 1) 306 vnow))) hx hb hml hown hg (c_X9_tipFrom E l (aM 1) vnow x1 u4 hu4) cs_X9_tipFrom ml_X9_103 ⟨⟨rfl, rfl⟩, Nat.le_of_ble_eq_true rfl, Nat.le_of_ble_eq_true rfl⟩ hK hE hP hD hS hA [false, true] rfl rfl rfl rfl hl.1 rfl (Nat.le_of_ble_eq_true rfl) dX9_tipOf_35 ⟨Nat.le_of_ble_eq_true rfl, Nat.le_of_ble_eq_true rfl⟩ [.int u4] rfl (fun H locs hP hD hS => ?_)
      obtain rfl := Option.some.inj hf
      exact cm_iret hx hb hr hlocks hP hS dX9_tipOf_38
  · have hf := it cq hf
    refine lv_aload_n hx hb dX9_tipOf_13 rfl (lv_at hl 0 rfl) ?_
    refine lv_iconst (v := 1) hx hb dX9_tipOf_14 (by decide) ?_
    obtain ⟨u5, hu5, hf⟩ := bn hf
    refine cm_V (As := [.int 1]) (rest := []) (w2 := (W_M aM u5.2 ++ (W_A E (aM 1) 306 vnow))) hx hb hml hown hg (c_X9_fails E l aM vM_3 1 u5 hu5) cy_X9_fails ml_X9_133 ⟨⟨rfl, rfl⟩, Nat.le_of_ble_eq_true rfl, Nat.le_of_ble_eq_true rfl⟩ hK hE hP hD hS hA [true] rfl rfl rfl 0 rfl rfl rfl hl.1 rfl (Nat.le_of_ble_eq_true rfl) dX9_tipOf_15 ⟨Nat.le_of_ble_eq_true rfl, Nat.le_of_ble_eq_true rfl⟩ [.int u5.1] rfl (fun H locs hP hD hS => ?_)
    obtain rfl := Option.some.inj hf
    exact cm_iret hx hb hr hlocks hP hS dX9_tipOf_18
def B_X9_complaintsAfter_28 (rec : Int32 → ((Nat → Int32) × Int64) → (Nat → Int32) → Option (Int32 × ((Nat → Int32) × Int64) × (Nat → Int32))) (vnow : Nat → Int32) (x1 : Int32) (x2 : Int32) (vM : (Nat → Int32) × Int64) (vspare : Nat → Int32) : Option (Int32 × ((Nat → Int32) × Int64) × (Nat → Int32)) := (if x1 ≤ x2 then ck 4 306 ((some ((vspare (Int32.toNatClampNeg 4)), vM, vspare))) else (F_X9_passes vspare).bind (fun u1 => (rec (x2 + 1) vM u1)))
def L_X9_complaintsAfter_28 (vnow : Nat → Int32) (x1 : Int32) : Nat → Int32 → ((Nat → Int32) × Int64) → (Nat → Int32) → Option (Int32 × ((Nat → Int32) × Int64) × (Nat → Int32))
  | 0 => fun _ _ _ => none
  | n + 1 => fun x2 vM vspare => B_X9_complaintsAfter_28 (L_X9_complaintsAfter_28 vnow x1 n) vnow x1 x2 vM vspare
def F_X9_complaintsAfter (vM : (Nat → Int32) × Int64) (vnow : Nat → Int32) (vspare : Nat → Int32) (x1 : Int32) : Option (Int32 × ((Nat → Int32) × Int64) × (Nat → Int32)) := lt (va_up vM.1 3 0, vM.2) (fun vM_3 => (F_X9_in x1 0 240).bind (fun u1 => (if u1 = 0 then (F_X9_fails vM_3 1).bind (fun u3 => (some (u3.1, u3.2, vspare))) else (F_X9_takesSpare vM_3 vnow vspare).bind (fun u2 => (L_X9_complaintsAfter_28 vnow x1 FU 0 vM_3 u2)))))
abbrev rm_X9_complaintsAfter : Room := { frames := 5, cells := 0, slots := 0, locals := 108 }
set_option maxHeartbeats 4000000 in
set_option maxRecDepth 100000 in
theorem c_X9_complaintsAfter (E : Ev) (l : Launch) (aM : Nat → Nat) (vM : (Nat → Int32) × Int64) (vnow : Nat → Int32) (vspare : Nat → Int32) (x1 : Int32) (r : Int32 × ((Nat → Int32) × Int64) × (Nat → Int32)) (hf : F_X9_complaintsAfter vM vnow vspare x1 = some r) : CM E l yX9_complaintsAfter (.code yX9_complaintsAfter cX9_complaintsAfter 3 (some .int) :: GA) rm_X9_complaintsAfter [.ref (aM 0), .int x1] (W_M aM vM ++ (W_A E (aM 1) 306 vnow ++ (W_A E (aM 3) 306 vspare))) (some (.int r.1)) (W_M aM r.2.1 ++ (W_A E (aM 1) 306 vnow ++ (W_A E (aM 3) 306 r.2.2))) := by
  refine CM.of (own := RX9) rfl (by decide) (Nat.le_of_ble_eq_true rfl) ?_
  intro p e s m below meth c A ls hx hb hr hml hown hg hlocks hK hE hA hP hD hS hl
  have hl : lv_has ls 3 [(0, .ref (aM 0)), (1, .int x1)] := hl
  have lp_28 : ∀ (n : Nat) (x2 : Int32) (vM : (Nat → Int32) × Int64) (vspare : Nat → Int32) (H : Heap) (locs : List Loc) (ls : Array Slot), L_X9_complaintsAfter_28 vnow x1 n x2 vM vspare = some r → va_P E.1 vwCl (W_M aM vM ++ (W_A E (aM 1) 306 vnow ++ (W_A E (aM 3) 306 vspare))) H → va_D A (W_M aM vM ++ (W_A E (aM 1) 306 vnow ++ (W_A E (aM 3) 306 vspare))) → va_S A s.heap H locs → lv_has ls 3 [(0, .ref (aM 0)), (1, .int x1), (2, .int x2)] → W p l e rm_X9_complaintsAfter s m ([.ref (aM 0), .int x1] : List Value).toArray below meth c H locs 0 0 (MQ below (QW E (some (.int r.1)) (W_M aM r.2.1 ++ (W_A E (aM 1) 306 vnow ++ (W_A E (aM 3) 306 r.2.2))) A) ([.ref (aM 0), .int x1] : List Value).toArray s 0 0 A) (F0 m 28 ls []) := by
    intro n
    induction n with
    | zero => intro x2 vM vspare H locs ls hf; cases hf
    | succ n ih =>
      intro x2 vM vspare H locs ls hf hP hD hS hl
      replace hf : B_X9_complaintsAfter_28 (L_X9_complaintsAfter_28 vnow x1 n) vnow x1 x2 vM vspare = some r := hf
      unfold B_X9_complaintsAfter_28 at hf
      refine lv_iload_n hx hb dX9_complaintsAfter_28 rfl (lv_at hl 2 rfl) ?_
      refine lv_iload_n hx hb dX9_complaintsAfter_29 rfl (lv_at hl 1 rfl) ?_
      refine lv_icmp_ge (tgt := 46) hx hb dX9_complaintsAfter_30 (by decide) (fun cq => ?_) (fun cq => ?_)
      · have hf := it cq hf
        refine lv_aload_n hx hb dX9_complaintsAfter_46 rfl (lv_at hl 0 rfl) ?_
        refine gf_X9_16 hx hb hg hown hK hP 0 rfl rfl dX9_complaintsAfter_47 ?_
        refine lv_iconst (v := 4) hx hb dX9_complaintsAfter_50 (by decide) ?_
        obtain ⟨hi, hf⟩ := ck_o hf
        refine ar_ld hx hb hK hP 2 rfl hi dX9_complaintsAfter_51 ?_
        obtain rfl := Option.some.inj hf
        exact cm_iret hx hb hr hlocks hP hS dX9_complaintsAfter_52
      · have hf := ie cq hf
        refine lv_aload_n hx hb dX9_complaintsAfter_33 rfl (lv_at hl 0 rfl) ?_
        refine gf_X9_16 hx hb hg hown hK hP 0 rfl rfl dX9_complaintsAfter_34 ?_
        obtain ⟨u1, hu1, hf⟩ := bn hf
        refine cm_S (As := [.ref (aM 3)]) (rest := []) (w2 := (W_M aM vM ++ (W_A E (aM 1) 306 vnow ++ (W_A E (aM 3) 306 u1)))) hx hb hml hown hg (c_X9_passes E l (aM 3) vspare u1 hu1) cs_X9_passes ml_X9_258 ⟨⟨rfl, rfl⟩, Nat.le_of_ble_eq_true rfl, Nat.le_of_ble_eq_true rfl⟩ hK hE hP hD hS hA [false, false, true] rfl rfl rfl rfl hl.1 rfl (Nat.le_of_ble_eq_true rfl) dX9_complaintsAfter_37 ⟨Nat.le_of_ble_eq_true rfl, Nat.le_of_ble_eq_true rfl⟩ [] rfl (fun H locs hP hD hS => ?_)
        refine lv_iinc (v := (x2 + 1)) (lv' := [(2, .int (x2 + 1)), (0, .ref (aM 0)), (1, .int x1)]) hx hb dX9_complaintsAfter_40 hl (k := 2) rfl rfl (by decide) rfl (fun ls hl => ?_)
        refine lv_goto (tgt := 28) hx hb dX9_complaintsAfter_43 (by decide) ?_
        exact ih _ _ _ _ _ _ hf hP hD hS (lv_sub hl [1, 2, 0] rfl)
  unfold F_X9_complaintsAfter at hf
  refine lv_aload_n hx hb dX9_complaintsAfter_0 rfl (lv_at hl 0 rfl) ?_
  refine lv_iconst (v := 0) hx hb dX9_complaintsAfter_1 (by decide) ?_
  refine pf_X9_48 (w2 := (W_M aM (va_up vM.1 3 0, vM.2) ++ (W_A E (aM 1) 306 vnow ++ (W_A E (aM 3) 306 vspare)))) hx hb hg hown hK hP hD hS 0 rfl (Nat.le_of_ble_eq_true rfl) rfl dX9_complaintsAfter_2 (fun H locs hP hD hS => ?_)
  obtain ⟨vM_3, hv, hf⟩ := lt_o hf
  rw [← hv] at hP hD
  clear hv
  refine lv_iload_n hx hb dX9_complaintsAfter_5 rfl (lv_at hl 1 rfl) ?_
  refine lv_iconst (v := 0) hx hb dX9_complaintsAfter_6 (by decide) ?_
  refine lv_sipush (v := 240) hx hb dX9_complaintsAfter_7 (by decide) ?_
  obtain ⟨u1, hu1, hf⟩ := bn hf
  refine cm_S (As := [.int x1, .int 0, .int 240]) (rest := []) (w2 := (W_M aM vM_3 ++ (W_A E (aM 1) 306 vnow ++ (W_A E (aM 3) 306 vspare)))) hx hb hml hown hg (c_X9_in E l x1 0 240 u1 hu1) cs_X9_in ml_X9_55 ⟨⟨rfl, rfl⟩, Nat.le_of_ble_eq_true rfl, Nat.le_of_ble_eq_true rfl⟩ hK hE hP hD hS hA [] rfl rfl rfl rfl hl.1 rfl (Nat.le_of_ble_eq_true rfl) dX9_complaintsAfter_10 ⟨Nat.le_of_ble_eq_true rfl, Nat.le_of_ble_eq_true rfl⟩ [.int u1] rfl (fun H locs hP hD hS => ?_)
  refine lv_if_ne (tgt := 22) hx hb dX9_complaintsAfter_13 (by decide) (fun cq => ?_) (fun cq => ?_)
  · have hf := ie cq hf
    refine lv_aload_n hx hb dX9_complaintsAfter_22 rfl (lv_at hl 0 rfl) ?_
    obtain ⟨u2, hu2, hf⟩ := bn hf
    refine cm_V (As := []) (rest := []) (w2 := (W_M aM vM_3 ++ (W_A E (aM 1) 306 vnow ++ (W_A E (aM 3) 306 u2)))) hx hb hml hown hg (c_X9_takesSpare E l aM vM_3 vnow vspare u2 hu2) cy_X9_takesSpare ml_X9_255 ⟨⟨rfl, rfl⟩, Nat.le_of_ble_eq_true rfl, Nat.le_of_ble_eq_true rfl⟩ hK hE hP hD hS hA [true, true, true] rfl rfl rfl 0 rfl rfl rfl hl.1 rfl (Nat.le_of_ble_eq_true rfl) dX9_complaintsAfter_23 ⟨Nat.le_of_ble_eq_true rfl, Nat.le_of_ble_eq_true rfl⟩ [] rfl (fun H locs hP hD hS => ?_)
    refine lv_iconst (v := 0) hx hb dX9_complaintsAfter_26 (by decide) ?_
    refine lv_istore_n (lv' := [(2, .int 0), (0, .ref (aM 0)), (1, .int x1)]) hx hb dX9_complaintsAfter_27 rfl hl (by decide) rfl (fun ls hl => ?_)
    exact lp_28 FU _ _ _ _ _ _ hf hP hD hS (lv_sub hl [1, 2, 0] rfl)
  · have hf := it cq hf
    refine lv_aload_n hx hb dX9_complaintsAfter_16 rfl (lv_at hl 0 rfl) ?_
    refine lv_iconst (v := 1) hx hb dX9_complaintsAfter_17 (by decide) ?_
    obtain ⟨u3, hu3, hf⟩ := bn hf
    refine cm_V (As := [.int 1]) (rest := []) (w2 := (W_M aM u3.2 ++ (W_A E (aM 1) 306 vnow ++ (W_A E (aM 3) 306 vspare)))) hx hb hml hown hg (c_X9_fails E l aM vM_3 1 u3 hu3) cy_X9_fails ml_X9_133 ⟨⟨rfl, rfl⟩, Nat.le_of_ble_eq_true rfl, Nat.le_of_ble_eq_true rfl⟩ hK hE hP hD hS hA [true] rfl rfl rfl 0 rfl rfl rfl hl.1 rfl (Nat.le_of_ble_eq_true rfl) dX9_complaintsAfter_18 ⟨Nat.le_of_ble_eq_true rfl, Nat.le_of_ble_eq_true rfl⟩ [.int u3.1] rfl (fun H locs hP hD hS => ?_)
    obtain rfl := Option.some.inj hf
    exact cm_iret hx hb hr hlocks hP hS dX9_complaintsAfter_21
def J_X9_keepsForUndo_56 (vnow : Nat → Int32) (vM : (Nat → Int32) × Int64) (vearlier : Nat → Int32) : Option (((Nat → Int32) × Int64) × (Nat → Int32)) := (F_X9_layRow_d 306 2448 vnow vearlier 0 (306 * (vM.1 0))).bind (fun u1 => lt (va_up vM.1 0 ((vM.1 0) + 1), vM.2) (fun vM_7 => (some (vM_7, u1))))
def B_X9_keepsForUndo_11 (rec : Int32 → ((Nat → Int32) × Int64) → (Nat → Int32) → Option (((Nat → Int32) × Int64) × (Nat → Int32))) (vnow : Nat → Int32) (x1 : Int32) (vM : (Nat → Int32) × Int64) (vearlier : Nat → Int32) : Option (((Nat → Int32) × Int64) × (Nat → Int32)) := (if 8 ≤ x1 then lt (va_up vM.1 0 ((vM.1 0) - 1), vM.2) (fun vM_8 => (J_X9_keepsForUndo_56 vnow vM_8 vearlier)) else (F_X9_layRow_s 2448 vearlier (306 * x1) (306 * (x1 - 1))).bind (fun u1 => (rec (x1 + 1) vM u1)))
def L_X9_keepsForUndo_11 (vnow : Nat → Int32) : Nat → Int32 → ((Nat → Int32) × Int64) → (Nat → Int32) → Option (((Nat → Int32) × Int64) × (Nat → Int32))
  | 0 => fun _ _ _ => none
  | n + 1 => fun x1 vM vearlier => B_X9_keepsForUndo_11 (L_X9_keepsForUndo_11 vnow n) vnow x1 vM vearlier
def F_X9_keepsForUndo (vM : (Nat → Int32) × Int64) (vnow : Nat → Int32) (vearlier : Nat → Int32) : Option (((Nat → Int32) × Int64) × (Nat → Int32)) := (if (vM.1 0) = 8 then (L_X9_keepsForUndo_11 vnow FU 1 vM vearlier) else (J_X9_keepsForUndo_56 vnow vM vearlier))
abbrev rm_X9_keepsForUndo : Room := { frames := 1, cells := 0, slots := 0, locals := 24 }
set_option maxHeartbeats 4000000 in
set_option maxRecDepth 100000 in
theorem c_X9_keepsForUndo (E : Ev) (l : Launch) (aM : Nat → Nat) (vM : (Nat → Int32) × Int64) (vnow : Nat → Int32) (vearlier : Nat → Int32) (r : ((Nat → Int32) × Int64) × (Nat → Int32)) (hf : F_X9_keepsForUndo vM vnow vearlier = some r) : CM E l yX9_keepsForUndo (.code yX9_keepsForUndo cX9_keepsForUndo 2 none :: GA) rm_X9_keepsForUndo [.ref (aM 0)] (W_M aM vM ++ (W_A E (aM 1) 306 vnow ++ (W_A E (aM 4) 2448 vearlier))) none (W_M aM r.1 ++ (W_A E (aM 1) 306 vnow ++ (W_A E (aM 4) 2448 r.2))) := by
  refine CM.of (own := RX9) rfl (by decide) (Nat.le_of_ble_eq_true rfl) ?_
  intro p e s m below meth c A ls hx hb hr hml hown hg hlocks hK hE hA hP hD hS hl
  have hl : lv_has ls 2 [(0, .ref (aM 0))] := hl
  have jp_56 : ∀ (vM : (Nat → Int32) × Int64) (vearlier : Nat → Int32) (H : Heap) (locs : List Loc) (ls : Array Slot), J_X9_keepsForUndo_56 vnow vM vearlier = some r → va_P E.1 vwCl (W_M aM vM ++ (W_A E (aM 1) 306 vnow ++ (W_A E (aM 4) 2448 vearlier))) H → va_D A (W_M aM vM ++ (W_A E (aM 1) 306 vnow ++ (W_A E (aM 4) 2448 vearlier))) → va_S A s.heap H locs → lv_has ls 2 [(0, .ref (aM 0))] → W p l e rm_X9_keepsForUndo s m ([.ref (aM 0)] : List Value).toArray below meth c H locs 0 0 (MQ below (QW E none (W_M aM r.1 ++ (W_A E (aM 1) 306 vnow ++ (W_A E (aM 4) 2448 r.2))) A) ([.ref (aM 0)] : List Value).toArray s 0 0 A) (F0 m 56 ls []) := by
    intro vM vearlier H locs ls hf hP hD hS hl
    unfold J_X9_keepsForUndo_56 at hf
    refine lv_aload_n hx hb dX9_keepsForUndo_56 rfl (lv_at hl 0 rfl) ?_
    refine gf_X9_7 hx hb hg hown hK hP 0 rfl rfl dX9_keepsForUndo_57 ?_
    refine lv_iconst (v := 0) hx hb dX9_keepsForUndo_60 (by decide) ?_
    refine lv_aload_n hx hb dX9_keepsForUndo_61 rfl (lv_at hl 0 rfl) ?_
    refine gf_X9_19 hx hb hg hown hK hP 0 rfl rfl dX9_keepsForUndo_62 ?_
    refine lv_sipush (v := 306) hx hb dX9_keepsForUndo_65 (by decide) ?_
    refine lv_aload_n hx hb dX9_keepsForUndo_68 rfl (lv_at hl 0 rfl) ?_
    refine gf_X9_212 hx hb hg hown hK hP 0 rfl rfl dX9_keepsForUndo_69 ?_
    refine lv_imul hx hb dX9_keepsForUndo_72 ?_
    obtain ⟨u1, hu1, hf⟩ := bn hf
    refine cm_S (As := [.ref (aM 1), .int 0, .ref (aM 4), .int (306 * (vM.1 0))]) (rest := []) (w2 := (W_M aM vM ++ (W_A E (aM 1) 306 vnow ++ (W_A E (aM 4) 2448 u1)))) hx hb hml hown hg (c_X9_layRow_d E l (aM 1) 306 (aM 4) 2448 vnow vearlier 0 (306 * (vM.1 0)) u1 hu1) cs_X9_layRow ml_X9_51 ⟨⟨rfl, rfl⟩, Nat.le_of_ble_eq_true rfl, Nat.le_of_ble_eq_true rfl⟩ hK hE hP hD hS hA [false, true, true] rfl rfl rfl rfl hl.1 rfl (Nat.le_of_ble_eq_true rfl) dX9_keepsForUndo_73 ⟨Nat.le_of_ble_eq_true rfl, Nat.le_of_ble_eq_true rfl⟩ [] rfl (fun H locs hP hD hS => ?_)
    refine lv_aload_n hx hb dX9_keepsForUndo_76 rfl (lv_at hl 0 rfl) ?_
    refine lv_dup hx hb dX9_keepsForUndo_77 rfl ?_
    refine gf_X9_212 hx hb hg hown hK hP 0 rfl rfl dX9_keepsForUndo_78 ?_
    refine lv_iconst (v := 1) hx hb dX9_keepsForUndo_81 (by decide) ?_
    refine lv_iadd hx hb dX9_keepsForUndo_82 ?_
    refine pf_X9_212 (w2 := (W_M aM (va_up vM.1 0 ((vM.1 0) + 1), vM.2) ++ (W_A E (aM 1) 306 vnow ++ (W_A E (aM 4) 2448 u1)))) hx hb hg hown hK hP hD hS 0 rfl (Nat.le_of_ble_eq_true rfl) rfl dX9_keepsForUndo_83 (fun H locs hP hD hS => ?_)
    obtain ⟨vM_7, hv, hf⟩ := lt_o hf
    rw [← hv] at hP hD
    clear hv
    obtain rfl := Option.some.inj hf
    exact cm_vret hx hb hr hlocks hP hS dX9_keepsForUndo_86
  have lp_11 : ∀ (n : Nat) (x1 : Int32) (vM : (Nat → Int32) × Int64) (vearlier : Nat → Int32) (H : Heap) (locs : List Loc) (ls : Array Slot), L_X9_keepsForUndo_11 vnow n x1 vM vearlier = some r → va_P E.1 vwCl (W_M aM vM ++ (W_A E (aM 1) 306 vnow ++ (W_A E (aM 4) 2448 vearlier))) H → va_D A (W_M aM vM ++ (W_A E (aM 1) 306 vnow ++ (W_A E (aM 4) 2448 vearlier))) → va_S A s.heap H locs → lv_has ls 2 [(0, .ref (aM 0)), (1, .int x1)] → W p l e rm_X9_keepsForUndo s m ([.ref (aM 0)] : List Value).toArray below meth c H locs 0 0 (MQ below (QW E none (W_M aM r.1 ++ (W_A E (aM 1) 306 vnow ++ (W_A E (aM 4) 2448 r.2))) A) ([.ref (aM 0)] : List Value).toArray s 0 0 A) (F0 m 11 ls []) := by
    intro n
    induction n with
    | zero => intro x1 vM vearlier H locs ls hf; cases hf
    | succ n ih =>
      intro x1 vM vearlier H locs ls hf hP hD hS hl
      replace hf : B_X9_keepsForUndo_11 (L_X9_keepsForUndo_11 vnow n) vnow x1 vM vearlier = some r := hf
      unfold B_X9_keepsForUndo_11 at hf
      refine lv_iload_n hx hb dX9_keepsForUndo_11 rfl (lv_at hl 1 rfl) ?_
      refine lv_bipush (v := 8) hx hb dX9_keepsForUndo_12 (by decide) ?_
      refine lv_icmp_ge (tgt := 46) hx hb dX9_keepsForUndo_14 (by decide) (fun cq => ?_) (fun cq => ?_)
      · have hf := it cq hf
        refine lv_aload_n hx hb dX9_keepsForUndo_46 rfl (lv_at hl 0 rfl) ?_
        refine lv_dup hx hb dX9_keepsForUndo_47 rfl ?_
        refine gf_X9_212 hx hb hg hown hK hP 0 rfl rfl dX9_keepsForUndo_48 ?_
        refine lv_iconst (v := 1) hx hb dX9_keepsForUndo_51 (by decide) ?_
        refine lv_isub hx hb dX9_keepsForUndo_52 ?_
        refine pf_X9_212 (w2 := (W_M aM (va_up vM.1 0 ((vM.1 0) - 1), vM.2) ++ (W_A E (aM 1) 306 vnow ++ (W_A E (aM 4) 2448 vearlier)))) hx hb hg hown hK hP hD hS 0 rfl (Nat.le_of_ble_eq_true rfl) rfl dX9_keepsForUndo_53 (fun H locs hP hD hS => ?_)
        obtain ⟨vM_8, hv, hf⟩ := lt_o hf
        rw [← hv] at hP hD
        clear hv
        exact jp_56 _ _ _ _ _ hf hP hD hS (lv_sub hl [0] rfl)
      · have hf := ie cq hf
        refine lv_aload_n hx hb dX9_keepsForUndo_17 rfl (lv_at hl 0 rfl) ?_
        refine gf_X9_19 hx hb hg hown hK hP 0 rfl rfl dX9_keepsForUndo_18 ?_
        refine lv_sipush (v := 306) hx hb dX9_keepsForUndo_21 (by decide) ?_
        refine lv_iload_n hx hb dX9_keepsForUndo_24 rfl (lv_at hl 1 rfl) ?_
        refine lv_imul hx hb dX9_keepsForUndo_25 ?_
        refine lv_aload_n hx hb dX9_keepsForUndo_26 rfl (lv_at hl 0 rfl) ?_
        refine gf_X9_19 hx hb hg hown hK hP 0 rfl rfl dX9_keepsForUndo_27 ?_
        refine lv_sipush (v := 306) hx hb dX9_keepsForUndo_30 (by decide) ?_
        refine lv_iload_n hx hb dX9_keepsForUndo_33 rfl (lv_at hl 1 rfl) ?_
        refine lv_iconst (v := 1) hx hb dX9_keepsForUndo_34 (by decide) ?_
        refine lv_isub hx hb dX9_keepsForUndo_35 ?_
        refine lv_imul hx hb dX9_keepsForUndo_36 ?_
        obtain ⟨u1, hu1, hf⟩ := bn hf
        refine cm_S (As := [.ref (aM 4), .int (306 * x1), .ref (aM 4), .int (306 * (x1 - 1))]) (rest := []) (w2 := (W_M aM vM ++ (W_A E (aM 1) 306 vnow ++ (W_A E (aM 4) 2448 u1)))) hx hb hml hown hg (c_X9_layRow_s E l (aM 4) 2448 vearlier (306 * x1) (306 * (x1 - 1)) u1 hu1) cs_X9_layRow ml_X9_51 ⟨⟨rfl, rfl⟩, Nat.le_of_ble_eq_true rfl, Nat.le_of_ble_eq_true rfl⟩ hK hE hP hD hS hA [false, false, true] rfl rfl rfl rfl hl.1 rfl (Nat.le_of_ble_eq_true rfl) dX9_keepsForUndo_37 ⟨Nat.le_of_ble_eq_true rfl, Nat.le_of_ble_eq_true rfl⟩ [] rfl (fun H locs hP hD hS => ?_)
        refine lv_iinc (v := (x1 + 1)) (lv' := [(1, .int (x1 + 1)), (0, .ref (aM 0))]) hx hb dX9_keepsForUndo_40 hl (k := 1) rfl rfl (by decide) rfl (fun ls hl => ?_)
        refine lv_goto (tgt := 11) hx hb dX9_keepsForUndo_43 (by decide) ?_
        exact ih _ _ _ _ _ _ hf hP hD hS (lv_sub hl [1, 0] rfl)
  unfold F_X9_keepsForUndo at hf
  refine lv_aload_n hx hb dX9_keepsForUndo_0 rfl (lv_at hl 0 rfl) ?_
  refine gf_X9_212 hx hb hg hown hK hP 0 rfl rfl dX9_keepsForUndo_1 ?_
  refine lv_bipush (v := 8) hx hb dX9_keepsForUndo_4 (by decide) ?_
  refine lv_icmp_ne (tgt := 56) hx hb dX9_keepsForUndo_6 (by decide) (fun cq => ?_) (fun cq => ?_)
  · have hf := ie cq hf
    exact jp_56 _ _ _ _ _ hf hP hD hS (lv_sub hl [0] rfl)
  · have hf := it cq hf
    refine lv_iconst (v := 1) hx hb dX9_keepsForUndo_9 (by decide) ?_
    refine lv_istore_n (lv' := [(1, .int 1), (0, .ref (aM 0))]) hx hb dX9_keepsForUndo_10 rfl hl (by decide) rfl (fun ls hl => ?_)
    exact lp_11 FU _ _ _ _ _ _ hf hP hD hS (lv_sub hl [1, 0] rfl)
def F_X9_addGuest (vM : (Nat → Int32) × Int64) (vnow : Nat → Int32) (vearlier : Nat → Int32) (vbuffer : Nat → Int32) (x1 : Int32) (x2 : Int32) : Option (Int32 × ((Nat → Int32) × Int64) × (Nat → Int32) × (Nat → Int32)) := lt (va_up vM.1 3 0, vM.2) (fun vM_5 => (F_X9_bufferName vM_5 vbuffer).bind (fun u1 => (F_X9_in x1 0 9).bind (fun u2 => (if u2 = 0 then (F_X9_fails vM_5 1).bind (fun u11 => (some (u11.1, u11.2, vnow, vearlier))) else (F_X9_in x2 0 9).bind (fun u3 => (if u3 = 0 then (F_X9_fails vM_5 1).bind (fun u10 => (some (u10.1, u10.2, vnow, vearlier))) else (if 0 ≤ u1 then ck 7 306 ((if (vnow (Int32.toNatClampNeg 7)) = 10 then (F_X9_fails vM_5 2).bind (fun u8 => (some (u8.1, u8.2, vnow, vearlier))) else (F_X9_guestBy vnow u1).bind (fun u4 => (if u4 < 0 then (F_X9_keepsForUndo vM_5 vnow vearlier).bind (fun u5 => lt (va_up u5.1.1 1 0, u5.1.2) (fun vM_6 => (F_X9_addsGuest vnow u1 x1 x2).bind (fun u6 => (some (u6.1, vM_6, u6.2, u5.2))))) else (F_X9_fails vM_5 2).bind (fun u7 => (some (u7.1, u7.2, vnow, vearlier))))))) else (F_X9_fails vM_5 1).bind (fun u9 => (some (u9.1, u9.2, vnow, vearlier))))))))))
abbrev rm_X9_addGuest : Room := { frames := 2, cells := 0, slots := 0, locals := 45 }
set_option maxHeartbeats 4000000 in
set_option maxRecDepth 100000 in
theorem c_X9_addGuest (E : Ev) (l : Launch) (aM : Nat → Nat) (vM : (Nat → Int32) × Int64) (vnow : Nat → Int32) (vearlier : Nat → Int32) (vbuffer : Nat → Int32) (x1 : Int32) (x2 : Int32) (r : Int32 × ((Nat → Int32) × Int64) × (Nat → Int32) × (Nat → Int32)) (hf : F_X9_addGuest vM vnow vearlier vbuffer x1 x2 = some r) : CM E l yX9_addGuest (.code yX9_addGuest cX9_addGuest 4 (some .int) :: GA) rm_X9_addGuest [.ref (aM 0), .int x1, .int x2] (W_M aM vM ++ (W_A E (aM 1) 306 vnow ++ (W_A E (aM 4) 2448 vearlier ++ (W_A E (aM 7) 600 vbuffer)))) (some (.int r.1)) (W_M aM r.2.1 ++ (W_A E (aM 1) 306 r.2.2.1 ++ (W_A E (aM 4) 2448 r.2.2.2 ++ (W_A E (aM 7) 600 vbuffer)))) := by
  refine CM.of (own := RX9) rfl (by decide) (Nat.le_of_ble_eq_true rfl) ?_
  intro p e s m below meth c A ls hx hb hr hml hown hg hlocks hK hE hA hP hD hS hl
  have hl : lv_has ls 4 [(0, .ref (aM 0)), (1, .int x1), (2, .int x2)] := hl
  unfold F_X9_addGuest at hf
  refine lv_aload_n hx hb dX9_addGuest_0 rfl (lv_at hl 0 rfl) ?_
  refine lv_iconst (v := 0) hx hb dX9_addGuest_1 (by decide) ?_
  refine pf_X9_48 (w2 := (W_M aM (va_up vM.1 3 0, vM.2) ++ (W_A E (aM 1) 306 vnow ++ (W_A E (aM 4) 2448 vearlier ++ (W_A E (aM 7) 600 vbuffer))))) hx hb hg hown hK hP hD hS 0 rfl (Nat.le_of_ble_eq_true rfl) rfl dX9_addGuest_2 (fun H locs hP hD hS => ?_)
  obtain ⟨vM_5, hv, hf⟩ := lt_o hf
  rw [← hv] at hP hD
  clear hv
  refine lv_aload_n hx hb dX9_addGuest_5 rfl (lv_at hl 0 rfl) ?_
  obtain ⟨u1, hu1, hf⟩ := bn hf
  refine cm_V (As := []) (rest := []) (w2 := (W_M aM vM_5 ++ (W_A E (aM 1) 306 vnow ++ (W_A E (aM 4) 2448 vearlier ++ (W_A E (aM 7) 600 vbuffer))))) hx hb hml hown hg (c_X9_bufferName E l aM vM_5 vbuffer u1 hu1) cy_X9_bufferName ml_X9_227 ⟨⟨rfl, rfl⟩, Nat.le_of_ble_eq_true rfl, Nat.le_of_ble_eq_true rfl⟩ hK hE hP hD hS hA [true, false, false, true] rfl rfl rfl 0 rfl rfl rfl hl.1 rfl (Nat.le_of_ble_eq_true rfl) dX9_addGuest_6 ⟨Nat.le_of_ble_eq_true rfl, Nat.le_of_ble_eq_true rfl⟩ [.int u1] rfl (fun H locs hP hD hS => ?_)
  refine lv_istore_n (lv' := [(3, .int u1), (0, .ref (aM 0)), (1, .int x1), (2, .int x2)]) hx hb dX9_addGuest_9 rfl hl (by decide) rfl (fun ls hl => ?_)
  refine lv_iload_n hx hb dX9_addGuest_10 rfl (lv_at hl 2 rfl) ?_
  refine lv_iconst (v := 0) hx hb dX9_addGuest_11 (by decide) ?_
  refine lv_bipush (v := 9) hx hb dX9_addGuest_12 (by decide) ?_
  obtain ⟨u2, hu2, hf⟩ := bn hf
  refine cm_S (As := [.int x1, .int 0, .int 9]) (rest := []) (w2 := (W_M aM vM_5 ++ (W_A E (aM 1) 306 vnow ++ (W_A E (aM 4) 2448 vearlier ++ (W_A E (aM 7) 600 vbuffer))))) hx hb hml hown hg (c_X9_in E l x1 0 9 u2 hu2) cs_X9_in ml_X9_55 ⟨⟨rfl, rfl⟩, Nat.le_of_ble_eq_true rfl, Nat.le_of_ble_eq_true rfl⟩ hK hE hP hD hS hA [] rfl rfl rfl rfl hl.1 rfl (Nat.le_of_ble_eq_true rfl) dX9_addGuest_14 ⟨Nat.le_of_ble_eq_true rfl, Nat.le_of_ble_eq_true rfl⟩ [.int u2] rfl (fun H locs hP hD hS => ?_)
  refine lv_if_ne (tgt := 26) hx hb dX9_addGuest_17 (by decide) (fun cq => ?_) (fun cq => ?_)
  · have hf := ie cq hf
    refine lv_iload_n hx hb dX9_addGuest_26 rfl (lv_at hl 3 rfl) ?_
    refine lv_iconst (v := 0) hx hb dX9_addGuest_27 (by decide) ?_
    refine lv_bipush (v := 9) hx hb dX9_addGuest_28 (by decide) ?_
    obtain ⟨u3, hu3, hf⟩ := bn hf
    refine cm_S (As := [.int x2, .int 0, .int 9]) (rest := []) (w2 := (W_M aM vM_5 ++ (W_A E (aM 1) 306 vnow ++ (W_A E (aM 4) 2448 vearlier ++ (W_A E (aM 7) 600 vbuffer))))) hx hb hml hown hg (c_X9_in E l x2 0 9 u3 hu3) cs_X9_in ml_X9_55 ⟨⟨rfl, rfl⟩, Nat.le_of_ble_eq_true rfl, Nat.le_of_ble_eq_true rfl⟩ hK hE hP hD hS hA [] rfl rfl rfl rfl hl.1 rfl (Nat.le_of_ble_eq_true rfl) dX9_addGuest_30 ⟨Nat.le_of_ble_eq_true rfl, Nat.le_of_ble_eq_true rfl⟩ [.int u3] rfl (fun H locs hP hD hS => ?_)
    refine lv_if_ne (tgt := 42) hx hb dX9_addGuest_33 (by decide) (fun cq => ?_) (fun cq => ?_)
    · have hf := ie cq hf
      refine lv_iload_n hx hb dX9_addGuest_42 rfl (lv_at hl 0 rfl) ?_
      refine lv_if_ge (tgt := 52) hx hb dX9_addGuest_43 (by decide) (fun cq => ?_) (fun cq => ?_)
      · have hf := it cq hf
        refine lv_aload_n hx hb dX9_addGuest_52 rfl (lv_at hl 1 rfl) ?_
        refine gf_X9_7 hx hb hg hown hK hP 0 rfl rfl dX9_addGuest_53 ?_
        refine lv_bipush (v := 7) hx hb dX9_addGuest_56 (by decide) ?_
        obtain ⟨hi, hf⟩ := ck_o hf
        refine ar_ld hx hb hK hP 1 rfl hi dX9_addGuest_58 ?_
        refine lv_bipush (v := 10) hx hb dX9_addGuest_59 (by decide) ?_
        refine lv_icmp_ne (tgt := 70) hx hb dX9_addGuest_61 (by decide) (fun cq => ?_) (fun cq => ?_)
        · have hf := ie cq hf
          refine lv_aload_n hx hb dX9_addGuest_70 rfl (lv_at hl 1 rfl) ?_
          refine gf_X9_7 hx hb hg hown hK hP 0 rfl rfl dX9_addGuest_71 ?_
          refine lv_iload_n hx hb dX9_addGuest_74 rfl (lv_at hl 0 rfl) ?_
          obtain ⟨u4, hu4, hf⟩ := bn hf
          refine cm_S (As := [.ref (aM 1), .int u1]) (rest := []) (w2 := (W_M aM vM_5 ++ (W_A E (aM 1) 306 vnow ++ (W_A E (aM 4) 2448 vearlier ++ (W_A E (aM 7) 600 vbuffer))))) hx hb hml hown hg (c_X9_guestBy E l (aM 1) vnow u1 u4 hu4) cs_X9_guestBy ml_X9_185 ⟨⟨rfl, rfl⟩, Nat.le_of_ble_eq_true rfl, Nat.le_of_ble_eq_true rfl⟩ hK hE hP hD hS hA [false, true] rfl rfl rfl rfl hl.1 rfl (Nat.le_of_ble_eq_true rfl) dX9_addGuest_75 ⟨Nat.le_of_ble_eq_true rfl, Nat.le_of_ble_eq_true rfl⟩ [.int u4] rfl (fun H locs hP hD hS => ?_)
          refine lv_if_lt (tgt := 87) hx hb dX9_addGuest_78 (by decide) (fun cq => ?_) (fun cq => ?_)
          · have hf := it cq hf
            refine lv_aload_n hx hb dX9_addGuest_87 rfl (lv_at hl 1 rfl) ?_
            obtain ⟨u5, hu5, hf⟩ := bn hf
            refine cm_V (As := []) (rest := []) (w2 := (W_M aM u5.1 ++ (W_A E (aM 1) 306 vnow ++ (W_A E (aM 4) 2448 u5.2 ++ (W_A E (aM 7) 600 vbuffer))))) hx hb hml hown hg (c_X9_keepsForUndo E l aM vM_5 vnow vearlier u5 hu5) cy_X9_keepsForUndo ml_X9_262 ⟨⟨rfl, rfl⟩, Nat.le_of_ble_eq_true rfl, Nat.le_of_ble_eq_true rfl⟩ hK hE hP hD hS hA [true, true, true] rfl rfl rfl 0 rfl rfl rfl hl.1 rfl (Nat.le_of_ble_eq_true rfl) dX9_addGuest_88 ⟨Nat.le_of_ble_eq_true rfl, Nat.le_of_ble_eq_true rfl⟩ [] rfl (fun H locs hP hD hS => ?_)
            refine lv_aload_n hx hb dX9_addGuest_91 rfl (lv_at hl 1 rfl) ?_
            refine lv_iconst (v := 0) hx hb dX9_addGuest_92 (by decide) ?_
            refine pf_X9_130 (w2 := (W_M aM (va_up u5.1.1 1 0, u5.1.2) ++ (W_A E (aM 1) 306 vnow ++ (W_A E (aM 4) 2448 u5.2 ++ (W_A E (aM 7) 600 vbuffer))))) hx hb hg hown hK hP hD hS 0 rfl (Nat.le_of_ble_eq_true rfl) rfl dX9_addGuest_93 (fun H locs hP hD hS => ?_)
            obtain ⟨vM_6, hv, hf⟩ := lt_o hf
            rw [← hv] at hP hD
            clear hv
            refine lv_aload_n hx hb dX9_addGuest_96 rfl (lv_at hl 1 rfl) ?_
            refine gf_X9_7 hx hb hg hown hK hP 0 rfl rfl dX9_addGuest_97 ?_
            refine lv_iload_n hx hb dX9_addGuest_100 rfl (lv_at hl 0 rfl) ?_
            refine lv_iload_n hx hb dX9_addGuest_101 rfl (lv_at hl 2 rfl) ?_
            refine lv_iload_n hx hb dX9_addGuest_102 rfl (lv_at hl 3 rfl) ?_
            obtain ⟨u6, hu6, hf⟩ := bn hf
            refine cm_S (As := [.ref (aM 1), .int u1, .int x1, .int x2]) (rest := []) (w2 := (W_M aM vM_6 ++ (W_A E (aM 1) 306 u6.2 ++ (W_A E (aM 4) 2448 u5.2 ++ (W_A E (aM 7) 600 vbuffer))))) hx hb hml hown hg (c_X9_addsGuest E l (aM 1) vnow u1 x1 x2 u6 hu6) cs_X9_addsGuest ml_X9_39 ⟨⟨rfl, rfl⟩, Nat.le_of_ble_eq_true rfl, Nat.le_of_ble_eq_true rfl⟩ hK hE hP hD hS hA [false, true] rfl rfl rfl rfl hl.1 rfl (Nat.le_of_ble_eq_true rfl) dX9_addGuest_103 ⟨Nat.le_of_ble_eq_true rfl, Nat.le_of_ble_eq_true rfl⟩ [.int u6.1] rfl (fun H locs hP hD hS => ?_)
            obtain rfl := Option.some.inj hf
            exact cm_iret hx hb hr hlocks hP hS dX9_addGuest_106
          · have hf := ie cq hf
            refine lv_aload_n hx hb dX9_addGuest_81 rfl (lv_at hl 1 rfl) ?_
            refine lv_iconst (v := 2) hx hb dX9_addGuest_82 (by decide) ?_
            obtain ⟨u7, hu7, hf⟩ := bn hf
            refine cm_V (As := [.int 2]) (rest := []) (w2 := (W_M aM u7.2 ++ (W_A E (aM 1) 306 vnow ++ (W_A E (aM 4) 2448 vearlier ++ (W_A E (aM 7) 600 vbuffer))))) hx hb hml hown hg (c_X9_fails E l aM vM_5 2 u7 hu7) cy_X9_fails ml_X9_133 ⟨⟨rfl, rfl⟩, Nat.le_of_ble_eq_true rfl, Nat.le_of_ble_eq_true rfl⟩ hK hE hP hD hS hA [true] rfl rfl rfl 0 rfl rfl rfl hl.1 rfl (Nat.le_of_ble_eq_true rfl) dX9_addGuest_83 ⟨Nat.le_of_ble_eq_true rfl, Nat.le_of_ble_eq_true rfl⟩ [.int u7.1] rfl (fun H locs hP hD hS => ?_)
            obtain rfl := Option.some.inj hf
            exact cm_iret hx hb hr hlocks hP hS dX9_addGuest_86
        · have hf := it cq hf
          refine lv_aload_n hx hb dX9_addGuest_64 rfl (lv_at hl 1 rfl) ?_
          refine lv_iconst (v := 2) hx hb dX9_addGuest_65 (by decide) ?_
          obtain ⟨u8, hu8, hf⟩ := bn hf
          refine cm_V (As := [.int 2]) (rest := []) (w2 := (W_M aM u8.2 ++ (W_A E (aM 1) 306 vnow ++ (W_A E (aM 4) 2448 vearlier ++ (W_A E (aM 7) 600 vbuffer))))) hx hb hml hown hg (c_X9_fails E l aM vM_5 2 u8 hu8) cy_X9_fails ml_X9_133 ⟨⟨rfl, rfl⟩, Nat.le_of_ble_eq_true rfl, Nat.le_of_ble_eq_true rfl⟩ hK hE hP hD hS hA [true] rfl rfl rfl 0 rfl rfl rfl hl.1 rfl (Nat.le_of_ble_eq_true rfl) dX9_addGuest_66 ⟨Nat.le_of_ble_eq_true rfl, Nat.le_of_ble_eq_true rfl⟩ [.int u8.1] rfl (fun H locs hP hD hS => ?_)
          obtain rfl := Option.some.inj hf
          exact cm_iret hx hb hr hlocks hP hS dX9_addGuest_69
      · have hf := ie cq hf
        refine lv_aload_n hx hb dX9_addGuest_46 rfl (lv_at hl 1 rfl) ?_
        refine lv_iconst (v := 1) hx hb dX9_addGuest_47 (by decide) ?_
        obtain ⟨u9, hu9, hf⟩ := bn hf
        refine cm_V (As := [.int 1]) (rest := []) (w2 := (W_M aM u9.2 ++ (W_A E (aM 1) 306 vnow ++ (W_A E (aM 4) 2448 vearlier ++ (W_A E (aM 7) 600 vbuffer))))) hx hb hml hown hg (c_X9_fails E l aM vM_5 1 u9 hu9) cy_X9_fails ml_X9_133 ⟨⟨rfl, rfl⟩, Nat.le_of_ble_eq_true rfl, Nat.le_of_ble_eq_true rfl⟩ hK hE hP hD hS hA [true] rfl rfl rfl 0 rfl rfl rfl hl.1 rfl (Nat.le_of_ble_eq_true rfl) dX9_addGuest_48 ⟨Nat.le_of_ble_eq_true rfl, Nat.le_of_ble_eq_true rfl⟩ [.int u9.1] rfl (fun H locs hP hD hS => ?_)
        obtain rfl := Option.some.inj hf
        exact cm_iret hx hb hr hlocks hP hS dX9_addGuest_51
    · have hf := it cq hf
      refine lv_aload_n hx hb dX9_addGuest_36 rfl (lv_at hl 1 rfl) ?_
      refine lv_iconst (v := 1) hx hb dX9_addGuest_37 (by decide) ?_
      obtain ⟨u10, hu10, hf⟩ := bn hf
      refine cm_V (As := [.int 1]) (rest := []) (w2 := (W_M aM u10.2 ++ (W_A E (aM 1) 306 vnow ++ (W_A E (aM 4) 2448 vearlier ++ (W_A E (aM 7) 600 vbuffer))))) hx hb hml hown hg (c_X9_fails E l aM vM_5 1 u10 hu10) cy_X9_fails ml_X9_133 ⟨⟨rfl, rfl⟩, Nat.le_of_ble_eq_true rfl, Nat.le_of_ble_eq_true rfl⟩ hK hE hP hD hS hA [true] rfl rfl rfl 0 rfl rfl rfl hl.1 rfl (Nat.le_of_ble_eq_true rfl) dX9_addGuest_38 ⟨Nat.le_of_ble_eq_true rfl, Nat.le_of_ble_eq_true rfl⟩ [.int u10.1] rfl (fun H locs hP hD hS => ?_)
      obtain rfl := Option.some.inj hf
      exact cm_iret hx hb hr hlocks hP hS dX9_addGuest_41
  · have hf := it cq hf
    refine lv_aload_n hx hb dX9_addGuest_20 rfl (lv_at hl 1 rfl) ?_
    refine lv_iconst (v := 1) hx hb dX9_addGuest_21 (by decide) ?_
    obtain ⟨u11, hu11, hf⟩ := bn hf
    refine cm_V (As := [.int 1]) (rest := []) (w2 := (W_M aM u11.2 ++ (W_A E (aM 1) 306 vnow ++ (W_A E (aM 4) 2448 vearlier ++ (W_A E (aM 7) 600 vbuffer))))) hx hb hml hown hg (c_X9_fails E l aM vM_5 1 u11 hu11) cy_X9_fails ml_X9_133 ⟨⟨rfl, rfl⟩, Nat.le_of_ble_eq_true rfl, Nat.le_of_ble_eq_true rfl⟩ hK hE hP hD hS hA [true] rfl rfl rfl 0 rfl rfl rfl hl.1 rfl (Nat.le_of_ble_eq_true rfl) dX9_addGuest_22 ⟨Nat.le_of_ble_eq_true rfl, Nat.le_of_ble_eq_true rfl⟩ [.int u11.1] rfl (fun H locs hP hD hS => ?_)
    obtain rfl := Option.some.inj hf
    exact cm_iret hx hb hr hlocks hP hS dX9_addGuest_25
def F_X9_addUmbrella (vM : (Nat → Int32) × Int64) (vnow : Nat → Int32) (vearlier : Nat → Int32) (x1 : Int32) (x2 : Int32) : Option (Int32 × ((Nat → Int32) × Int64) × (Nat → Int32) × (Nat → Int32)) := lt (va_up vM.1 3 0, vM.2) (fun vM_3 => (F_X9_isGuest vM_3 vnow x1).bind (fun u1 => (if u1 = 0 then (F_X9_fails vM_3 1).bind (fun u7 => (some (u7.1, u7.2, vnow, vearlier))) else (F_X9_in x2 0 99).bind (fun u2 => (if u2 = 0 then (F_X9_fails vM_3 2).bind (fun u6 => (some (u6.1, u6.2, vnow, vearlier))) else ck 8 306 ((if (vnow (Int32.toNatClampNeg 8)) = 12 then (F_X9_fails vM_3 3).bind (fun u5 => (some (u5.1, u5.2, vnow, vearlier))) else (F_X9_keepsForUndo vM_3 vnow vearlier).bind (fun u3 => (F_X9_addsUmbrella vnow x1 x2).bind (fun u4 => (some (u4.1, u3.1, u4.2, u3.2)))))))))))
abbrev rm_X9_addUmbrella : Room := { frames := 2, cells := 0, slots := 0, locals := 45 }
set_option maxHeartbeats 4000000 in
set_option maxRecDepth 100000 in
theorem c_X9_addUmbrella (E : Ev) (l : Launch) (aM : Nat → Nat) (vM : (Nat → Int32) × Int64) (vnow : Nat → Int32) (vearlier : Nat → Int32) (x1 : Int32) (x2 : Int32) (r : Int32 × ((Nat → Int32) × Int64) × (Nat → Int32) × (Nat → Int32)) (hf : F_X9_addUmbrella vM vnow vearlier x1 x2 = some r) : CM E l yX9_addUmbrella (.code yX9_addUmbrella cX9_addUmbrella 3 (some .int) :: GA) rm_X9_addUmbrella [.ref (aM 0), .int x1, .int x2] (W_M aM vM ++ (W_A E (aM 1) 306 vnow ++ (W_A E (aM 4) 2448 vearlier))) (some (.int r.1)) (W_M aM r.2.1 ++ (W_A E (aM 1) 306 r.2.2.1 ++ (W_A E (aM 4) 2448 r.2.2.2))) := by
  refine CM.of (own := RX9) rfl (by decide) (Nat.le_of_ble_eq_true rfl) ?_
  intro p e s m below meth c A ls hx hb hr hml hown hg hlocks hK hE hA hP hD hS hl
  have hl : lv_has ls 3 [(0, .ref (aM 0)), (1, .int x1), (2, .int x2)] := hl
  unfold F_X9_addUmbrella at hf
  refine lv_aload_n hx hb dX9_addUmbrella_0 rfl (lv_at hl 0 rfl) ?_
  refine lv_iconst (v := 0) hx hb dX9_addUmbrella_1 (by decide) ?_
  refine pf_X9_48 (w2 := (W_M aM (va_up vM.1 3 0, vM.2) ++ (W_A E (aM 1) 306 vnow ++ (W_A E (aM 4) 2448 vearlier)))) hx hb hg hown hK hP hD hS 0 rfl (Nat.le_of_ble_eq_true rfl) rfl dX9_addUmbrella_2 (fun H locs hP hD hS => ?_)
  obtain ⟨vM_3, hv, hf⟩ := lt_o hf
  rw [← hv] at hP hD
  clear hv
  refine lv_aload_n hx hb dX9_addUmbrella_5 rfl (lv_at hl 0 rfl) ?_
  refine lv_iload_n hx hb dX9_addUmbrella_6 rfl (lv_at hl 1 rfl) ?_
  obtain ⟨u1, hu1, hf⟩ := bn hf
  refine cm_V (As := [.int x1]) (rest := []) (w2 := (W_M aM vM_3 ++ (W_A E (aM 1) 306 vnow ++ (W_A E (aM 4) 2448 vearlier)))) hx hb hml hown hg (c_X9_isGuest E l aM vM_3 vnow x1 u1 hu1) cy_X9_isGuest ml_X9_218 ⟨⟨rfl, rfl⟩, Nat.le_of_ble_eq_true rfl, Nat.le_of_ble_eq_true rfl⟩ hK hE hP hD hS hA [true, true] rfl rfl rfl 0 rfl rfl rfl hl.1 rfl (Nat.le_of_ble_eq_true rfl) dX9_addUmbrella_7 ⟨Nat.le_of_ble_eq_true rfl, Nat.le_of_ble_eq_true rfl⟩ [.int u1] rfl (fun H locs hP hD hS => ?_)
  refine lv_if_ne (tgt := 19) hx hb dX9_addUmbrella_10 (by decide) (fun cq => ?_) (fun cq => ?_)
  · have hf := ie cq hf
    refine lv_iload_n hx hb dX9_addUmbrella_19 rfl (lv_at hl 2 rfl) ?_
    refine lv_iconst (v := 0) hx hb dX9_addUmbrella_20 (by decide) ?_
    refine lv_bipush (v := 99) hx hb dX9_addUmbrella_21 (by decide) ?_
    obtain ⟨u2, hu2, hf⟩ := bn hf
    refine cm_S (As := [.int x2, .int 0, .int 99]) (rest := []) (w2 := (W_M aM vM_3 ++ (W_A E (aM 1) 306 vnow ++ (W_A E (aM 4) 2448 vearlier)))) hx hb hml hown hg (c_X9_in E l x2 0 99 u2 hu2) cs_X9_in ml_X9_55 ⟨⟨rfl, rfl⟩, Nat.le_of_ble_eq_true rfl, Nat.le_of_ble_eq_true rfl⟩ hK hE hP hD hS hA [] rfl rfl rfl rfl hl.1 rfl (Nat.le_of_ble_eq_true rfl) dX9_addUmbrella_23 ⟨Nat.le_of_ble_eq_true rfl, Nat.le_of_ble_eq_true rfl⟩ [.int u2] rfl (fun H locs hP hD hS => ?_)
    refine lv_if_ne (tgt := 35) hx hb dX9_addUmbrella_26 (by decide) (fun cq => ?_) (fun cq => ?_)
    · have hf := ie cq hf
      refine lv_aload_n hx hb dX9_addUmbrella_35 rfl (lv_at hl 0 rfl) ?_
      refine gf_X9_7 hx hb hg hown hK hP 0 rfl rfl dX9_addUmbrella_36 ?_
      refine lv_bipush (v := 8) hx hb dX9_addUmbrella_39 (by decide) ?_
      obtain ⟨hi, hf⟩ := ck_o hf
      refine ar_ld hx hb hK hP 1 rfl hi dX9_addUmbrella_41 ?_
      refine lv_bipush (v := 12) hx hb dX9_addUmbrella_42 (by decide) ?_
      refine lv_icmp_ne (tgt := 53) hx hb dX9_addUmbrella_44 (by decide) (fun cq => ?_) (fun cq => ?_)
      · have hf := ie cq hf
        refine lv_aload_n hx hb dX9_addUmbrella_53 rfl (lv_at hl 0 rfl) ?_
        obtain ⟨u3, hu3, hf⟩ := bn hf
        refine cm_V (As := []) (rest := []) (w2 := (W_M aM u3.1 ++ (W_A E (aM 1) 306 vnow ++ (W_A E (aM 4) 2448 u3.2)))) hx hb hml hown hg (c_X9_keepsForUndo E l aM vM_3 vnow vearlier u3 hu3) cy_X9_keepsForUndo ml_X9_262 ⟨⟨rfl, rfl⟩, Nat.le_of_ble_eq_true rfl, Nat.le_of_ble_eq_true rfl⟩ hK hE hP hD hS hA [true, true, true] rfl rfl rfl 0 rfl rfl rfl hl.1 rfl (Nat.le_of_ble_eq_true rfl) dX9_addUmbrella_54 ⟨Nat.le_of_ble_eq_true rfl, Nat.le_of_ble_eq_true rfl⟩ [] rfl (fun H locs hP hD hS => ?_)
        refine lv_aload_n hx hb dX9_addUmbrella_57 rfl (lv_at hl 0 rfl) ?_
        refine gf_X9_7 hx hb hg hown hK hP 0 rfl rfl dX9_addUmbrella_58 ?_
        refine lv_iload_n hx hb dX9_addUmbrella_61 rfl (lv_at hl 1 rfl) ?_
        refine lv_iload_n hx hb dX9_addUmbrella_62 rfl (lv_at hl 2 rfl) ?_
        obtain ⟨u4, hu4, hf⟩ := bn hf
        refine cm_S (As := [.ref (aM 1), .int x1, .int x2]) (rest := []) (w2 := (W_M aM u3.1 ++ (W_A E (aM 1) 306 u4.2 ++ (W_A E (aM 4) 2448 u3.2)))) hx hb hml hown hg (c_X9_addsUmbrella E l (aM 1) vnow x1 x2 u4 hu4) cs_X9_addsUmbrella ml_X9_44 ⟨⟨rfl, rfl⟩, Nat.le_of_ble_eq_true rfl, Nat.le_of_ble_eq_true rfl⟩ hK hE hP hD hS hA [false, true] rfl rfl rfl rfl hl.1 rfl (Nat.le_of_ble_eq_true rfl) dX9_addUmbrella_63 ⟨Nat.le_of_ble_eq_true rfl, Nat.le_of_ble_eq_true rfl⟩ [.int u4.1] rfl (fun H locs hP hD hS => ?_)
        obtain rfl := Option.some.inj hf
        exact cm_iret hx hb hr hlocks hP hS dX9_addUmbrella_66
      · have hf := it cq hf
        refine lv_aload_n hx hb dX9_addUmbrella_47 rfl (lv_at hl 0 rfl) ?_
        refine lv_iconst (v := 3) hx hb dX9_addUmbrella_48 (by decide) ?_
        obtain ⟨u5, hu5, hf⟩ := bn hf
        refine cm_V (As := [.int 3]) (rest := []) (w2 := (W_M aM u5.2 ++ (W_A E (aM 1) 306 vnow ++ (W_A E (aM 4) 2448 vearlier)))) hx hb hml hown hg (c_X9_fails E l aM vM_3 3 u5 hu5) cy_X9_fails ml_X9_133 ⟨⟨rfl, rfl⟩, Nat.le_of_ble_eq_true rfl, Nat.le_of_ble_eq_true rfl⟩ hK hE hP hD hS hA [true] rfl rfl rfl 0 rfl rfl rfl hl.1 rfl (Nat.le_of_ble_eq_true rfl) dX9_addUmbrella_49 ⟨Nat.le_of_ble_eq_true rfl, Nat.le_of_ble_eq_true rfl⟩ [.int u5.1] rfl (fun H locs hP hD hS => ?_)
        obtain rfl := Option.some.inj hf
        exact cm_iret hx hb hr hlocks hP hS dX9_addUmbrella_52
    · have hf := it cq hf
      refine lv_aload_n hx hb dX9_addUmbrella_29 rfl (lv_at hl 0 rfl) ?_
      refine lv_iconst (v := 2) hx hb dX9_addUmbrella_30 (by decide) ?_
      obtain ⟨u6, hu6, hf⟩ := bn hf
      refine cm_V (As := [.int 2]) (rest := []) (w2 := (W_M aM u6.2 ++ (W_A E (aM 1) 306 vnow ++ (W_A E (aM 4) 2448 vearlier)))) hx hb hml hown hg (c_X9_fails E l aM vM_3 2 u6 hu6) cy_X9_fails ml_X9_133 ⟨⟨rfl, rfl⟩, Nat.le_of_ble_eq_true rfl, Nat.le_of_ble_eq_true rfl⟩ hK hE hP hD hS hA [true] rfl rfl rfl 0 rfl rfl rfl hl.1 rfl (Nat.le_of_ble_eq_true rfl) dX9_addUmbrella_31 ⟨Nat.le_of_ble_eq_true rfl, Nat.le_of_ble_eq_true rfl⟩ [.int u6.1] rfl (fun H locs hP hD hS => ?_)
      obtain rfl := Option.some.inj hf
      exact cm_iret hx hb hr hlocks hP hS dX9_addUmbrella_34
  · have hf := it cq hf
    refine lv_aload_n hx hb dX9_addUmbrella_13 rfl (lv_at hl 0 rfl) ?_
    refine lv_iconst (v := 1) hx hb dX9_addUmbrella_14 (by decide) ?_
    obtain ⟨u7, hu7, hf⟩ := bn hf
    refine cm_V (As := [.int 1]) (rest := []) (w2 := (W_M aM u7.2 ++ (W_A E (aM 1) 306 vnow ++ (W_A E (aM 4) 2448 vearlier)))) hx hb hml hown hg (c_X9_fails E l aM vM_3 1 u7 hu7) cy_X9_fails ml_X9_133 ⟨⟨rfl, rfl⟩, Nat.le_of_ble_eq_true rfl, Nat.le_of_ble_eq_true rfl⟩ hK hE hP hD hS hA [true] rfl rfl rfl 0 rfl rfl rfl hl.1 rfl (Nat.le_of_ble_eq_true rfl) dX9_addUmbrella_15 ⟨Nat.le_of_ble_eq_true rfl, Nat.le_of_ble_eq_true rfl⟩ [.int u7.1] rfl (fun H locs hP hD hS => ?_)
    obtain rfl := Option.some.inj hf
    exact cm_iret hx hb hr hlocks hP hS dX9_addUmbrella_18
def F_X9_leave (vM : (Nat → Int32) × Int64) (vnow : Nat → Int32) (vearlier : Nat → Int32) (x1 : Int32) : Option (Int32 × ((Nat → Int32) × Int64) × (Nat → Int32) × (Nat → Int32)) := lt (va_up vM.1 3 0, vM.2) (fun vM_3 => (F_X9_isGuest vM_3 vnow x1).bind (fun u1 => (if u1 = 0 then (F_X9_fails vM_3 1).bind (fun u7 => (some (u7.1, u7.2, vnow, vearlier))) else (F_X9_isAway vnow x1).bind (fun u2 => (if u2 = 0 then ck 9 306 ((if (vnow (Int32.toNatClampNeg 9)) = 60 then (F_X9_fails vM_3 2).bind (fun u5 => (some (u5.1, u5.2, vnow, vearlier))) else (F_X9_keepsForUndo vM_3 vnow vearlier).bind (fun u3 => (F_X9_leaves vnow x1).bind (fun u4 => (some (u4.1, u3.1, u4.2, u3.2)))))) else (F_X9_fails vM_3 2).bind (fun u6 => (some (u6.1, u6.2, vnow, vearlier))))))))
abbrev rm_X9_leave : Room := { frames := 6, cells := 0, slots := 0, locals := 129 }
set_option maxHeartbeats 4000000 in
set_option maxRecDepth 100000 in
theorem c_X9_leave (E : Ev) (l : Launch) (aM : Nat → Nat) (vM : (Nat → Int32) × Int64) (vnow : Nat → Int32) (vearlier : Nat → Int32) (x1 : Int32) (r : Int32 × ((Nat → Int32) × Int64) × (Nat → Int32) × (Nat → Int32)) (hf : F_X9_leave vM vnow vearlier x1 = some r) : CM E l yX9_leave (.code yX9_leave cX9_leave 2 (some .int) :: GA) rm_X9_leave [.ref (aM 0), .int x1] (W_M aM vM ++ (W_A E (aM 1) 306 vnow ++ (W_A E (aM 4) 2448 vearlier))) (some (.int r.1)) (W_M aM r.2.1 ++ (W_A E (aM 1) 306 r.2.2.1 ++ (W_A E (aM 4) 2448 r.2.2.2))) := by
  refine CM.of (own := RX9) rfl (by decide) (Nat.le_of_ble_eq_true rfl) ?_
  intro p e s m below meth c A ls hx hb hr hml hown hg hlocks hK hE hA hP hD hS hl
  have hl : lv_has ls 2 [(0, .ref (aM 0)), (1, .int x1)] := hl
  unfold F_X9_leave at hf
  refine lv_aload_n hx hb dX9_leave_0 rfl (lv_at hl 0 rfl) ?_
  refine lv_iconst (v := 0) hx hb dX9_leave_1 (by decide) ?_
  refine pf_X9_48 (w2 := (W_M aM (va_up vM.1 3 0, vM.2) ++ (W_A E (aM 1) 306 vnow ++ (W_A E (aM 4) 2448 vearlier)))) hx hb hg hown hK hP hD hS 0 rfl (Nat.le_of_ble_eq_true rfl) rfl dX9_leave_2 (fun H locs hP hD hS => ?_)
  obtain ⟨vM_3, hv, hf⟩ := lt_o hf
  rw [← hv] at hP hD
  clear hv
  refine lv_aload_n hx hb dX9_leave_5 rfl (lv_at hl 0 rfl) ?_
  refine lv_iload_n hx hb dX9_leave_6 rfl (lv_at hl 1 rfl) ?_
  obtain ⟨u1, hu1, hf⟩ := bn hf
  refine cm_V (As := [.int x1]) (rest := []) (w2 := (W_M aM vM_3 ++ (W_A E (aM 1) 306 vnow ++ (W_A E (aM 4) 2448 vearlier)))) hx hb hml hown hg (c_X9_isGuest E l aM vM_3 vnow x1 u1 hu1) cy_X9_isGuest ml_X9_218 ⟨⟨rfl, rfl⟩, Nat.le_of_ble_eq_true rfl, Nat.le_of_ble_eq_true rfl⟩ hK hE hP hD hS hA [true, true] rfl rfl rfl 0 rfl rfl rfl hl.1 rfl (Nat.le_of_ble_eq_true rfl) dX9_leave_7 ⟨Nat.le_of_ble_eq_true rfl, Nat.le_of_ble_eq_true rfl⟩ [.int u1] rfl (fun H locs hP hD hS => ?_)
  refine lv_if_ne (tgt := 19) hx hb dX9_leave_10 (by decide) (fun cq => ?_) (fun cq => ?_)
  · have hf := ie cq hf
    refine lv_aload_n hx hb dX9_leave_19 rfl (lv_at hl 0 rfl) ?_
    refine gf_X9_7 hx hb hg hown hK hP 0 rfl rfl dX9_leave_20 ?_
    refine lv_iload_n hx hb dX9_leave_23 rfl (lv_at hl 1 rfl) ?_
    obtain ⟨u2, hu2, hf⟩ := bn hf
    refine cm_S (As := [.ref (aM 1), .int x1]) (rest := []) (w2 := (W_M aM vM_3 ++ (W_A E (aM 1) 306 vnow ++ (W_A E (aM 4) 2448 vearlier)))) hx hb hml hown hg (c_X9_isAway E l (aM 1) vnow x1 u2 hu2) cs_X9_isAway ml_X9_109 ⟨⟨rfl, rfl⟩, Nat.le_of_ble_eq_true rfl, Nat.le_of_ble_eq_true rfl⟩ hK hE hP hD hS hA [false, true] rfl rfl rfl rfl hl.1 rfl (Nat.le_of_ble_eq_true rfl) dX9_leave_24 ⟨Nat.le_of_ble_eq_true rfl, Nat.le_of_ble_eq_true rfl⟩ [.int u2] rfl (fun H locs hP hD hS => ?_)
    refine lv_if_eq (tgt := 36) hx hb dX9_leave_27 (by decide) (fun cq => ?_) (fun cq => ?_)
    · have hf := it cq hf
      refine lv_aload_n hx hb dX9_leave_36 rfl (lv_at hl 0 rfl) ?_
      refine gf_X9_7 hx hb hg hown hK hP 0 rfl rfl dX9_leave_37 ?_
      refine lv_bipush (v := 9) hx hb dX9_leave_40 (by decide) ?_
      obtain ⟨hi, hf⟩ := ck_o hf
      refine ar_ld hx hb hK hP 1 rfl hi dX9_leave_42 ?_
      refine lv_bipush (v := 60) hx hb dX9_leave_43 (by decide) ?_
      refine lv_icmp_ne (tgt := 54) hx hb dX9_leave_45 (by decide) (fun cq => ?_) (fun cq => ?_)
      · have hf := ie cq hf
        refine lv_aload_n hx hb dX9_leave_54 rfl (lv_at hl 0 rfl) ?_
        obtain ⟨u3, hu3, hf⟩ := bn hf
        refine cm_V (As := []) (rest := []) (w2 := (W_M aM u3.1 ++ (W_A E (aM 1) 306 vnow ++ (W_A E (aM 4) 2448 u3.2)))) hx hb hml hown hg (c_X9_keepsForUndo E l aM vM_3 vnow vearlier u3 hu3) cy_X9_keepsForUndo ml_X9_262 ⟨⟨rfl, rfl⟩, Nat.le_of_ble_eq_true rfl, Nat.le_of_ble_eq_true rfl⟩ hK hE hP hD hS hA [true, true, true] rfl rfl rfl 0 rfl rfl rfl hl.1 rfl (Nat.le_of_ble_eq_true rfl) dX9_leave_55 ⟨Nat.le_of_ble_eq_true rfl, Nat.le_of_ble_eq_true rfl⟩ [] rfl (fun H locs hP hD hS => ?_)
        refine lv_aload_n hx hb dX9_leave_58 rfl (lv_at hl 0 rfl) ?_
        refine gf_X9_7 hx hb hg hown hK hP 0 rfl rfl dX9_leave_59 ?_
        refine lv_iload_n hx hb dX9_leave_62 rfl (lv_at hl 1 rfl) ?_
        obtain ⟨u4, hu4, hf⟩ := bn hf
        refine cm_S (As := [.ref (aM 1), .int x1]) (rest := []) (w2 := (W_M aM u3.1 ++ (W_A E (aM 1) 306 u4.2 ++ (W_A E (aM 4) 2448 u3.2)))) hx hb hml hown hg (c_X9_leaves E l (aM 1) vnow x1 u4 hu4) cs_X9_leaves ml_X9_265 ⟨⟨rfl, rfl⟩, Nat.le_of_ble_eq_true rfl, Nat.le_of_ble_eq_true rfl⟩ hK hE hP hD hS hA [false, true] rfl rfl rfl rfl hl.1 rfl (Nat.le_of_ble_eq_true rfl) dX9_leave_63 ⟨Nat.le_of_ble_eq_true rfl, Nat.le_of_ble_eq_true rfl⟩ [.int u4.1] rfl (fun H locs hP hD hS => ?_)
        obtain rfl := Option.some.inj hf
        exact cm_iret hx hb hr hlocks hP hS dX9_leave_66
      · have hf := it cq hf
        refine lv_aload_n hx hb dX9_leave_48 rfl (lv_at hl 0 rfl) ?_
        refine lv_iconst (v := 2) hx hb dX9_leave_49 (by decide) ?_
        obtain ⟨u5, hu5, hf⟩ := bn hf
        refine cm_V (As := [.int 2]) (rest := []) (w2 := (W_M aM u5.2 ++ (W_A E (aM 1) 306 vnow ++ (W_A E (aM 4) 2448 vearlier)))) hx hb hml hown hg (c_X9_fails E l aM vM_3 2 u5 hu5) cy_X9_fails ml_X9_133 ⟨⟨rfl, rfl⟩, Nat.le_of_ble_eq_true rfl, Nat.le_of_ble_eq_true rfl⟩ hK hE hP hD hS hA [true] rfl rfl rfl 0 rfl rfl rfl hl.1 rfl (Nat.le_of_ble_eq_true rfl) dX9_leave_50 ⟨Nat.le_of_ble_eq_true rfl, Nat.le_of_ble_eq_true rfl⟩ [.int u5.1] rfl (fun H locs hP hD hS => ?_)
        obtain rfl := Option.some.inj hf
        exact cm_iret hx hb hr hlocks hP hS dX9_leave_53
    · have hf := ie cq hf
      refine lv_aload_n hx hb dX9_leave_30 rfl (lv_at hl 0 rfl) ?_
      refine lv_iconst (v := 2) hx hb dX9_leave_31 (by decide) ?_
      obtain ⟨u6, hu6, hf⟩ := bn hf
      refine cm_V (As := [.int 2]) (rest := []) (w2 := (W_M aM u6.2 ++ (W_A E (aM 1) 306 vnow ++ (W_A E (aM 4) 2448 vearlier)))) hx hb hml hown hg (c_X9_fails E l aM vM_3 2 u6 hu6) cy_X9_fails ml_X9_133 ⟨⟨rfl, rfl⟩, Nat.le_of_ble_eq_true rfl, Nat.le_of_ble_eq_true rfl⟩ hK hE hP hD hS hA [true] rfl rfl rfl 0 rfl rfl rfl hl.1 rfl (Nat.le_of_ble_eq_true rfl) dX9_leave_32 ⟨Nat.le_of_ble_eq_true rfl, Nat.le_of_ble_eq_true rfl⟩ [.int u6.1] rfl (fun H locs hP hD hS => ?_)
      obtain rfl := Option.some.inj hf
      exact cm_iret hx hb hr hlocks hP hS dX9_leave_35
  · have hf := it cq hf
    refine lv_aload_n hx hb dX9_leave_13 rfl (lv_at hl 0 rfl) ?_
    refine lv_iconst (v := 1) hx hb dX9_leave_14 (by decide) ?_
    obtain ⟨u7, hu7, hf⟩ := bn hf
    refine cm_V (As := [.int 1]) (rest := []) (w2 := (W_M aM u7.2 ++ (W_A E (aM 1) 306 vnow ++ (W_A E (aM 4) 2448 vearlier)))) hx hb hml hown hg (c_X9_fails E l aM vM_3 1 u7 hu7) cy_X9_fails ml_X9_133 ⟨⟨rfl, rfl⟩, Nat.le_of_ble_eq_true rfl, Nat.le_of_ble_eq_true rfl⟩ hK hE hP hD hS hA [true] rfl rfl rfl 0 rfl rfl rfl hl.1 rfl (Nat.le_of_ble_eq_true rfl) dX9_leave_15 ⟨Nat.le_of_ble_eq_true rfl, Nat.le_of_ble_eq_true rfl⟩ [.int u7.1] rfl (fun H locs hP hD hS => ?_)
    obtain rfl := Option.some.inj hf
    exact cm_iret hx hb hr hlocks hP hS dX9_leave_18
def F_X9_comeBack (vM : (Nat → Int32) × Int64) (vnow : Nat → Int32) (vearlier : Nat → Int32) (x1 : Int32) : Option (Int32 × ((Nat → Int32) × Int64) × (Nat → Int32) × (Nat → Int32)) := lt (va_up vM.1 3 0, vM.2) (fun vM_3 => (F_X9_isGuest vM_3 vnow x1).bind (fun u1 => (if u1 = 0 then (F_X9_fails vM_3 1).bind (fun u7 => (some (u7.1, u7.2, vnow, vearlier))) else (F_X9_isAway vnow x1).bind (fun u2 => (if u2 = 0 then (F_X9_fails vM_3 2).bind (fun u6 => (some (u6.1, u6.2, vnow, vearlier))) else ck 9 306 ((if (vnow (Int32.toNatClampNeg 9)) = 60 then (F_X9_fails vM_3 2).bind (fun u5 => (some (u5.1, u5.2, vnow, vearlier))) else (F_X9_keepsForUndo vM_3 vnow vearlier).bind (fun u3 => (F_X9_returns vnow x1).bind (fun u4 => (some (u4.1, u3.1, u4.2, u3.2)))))))))))
abbrev rm_X9_comeBack : Room := { frames := 4, cells := 0, slots := 0, locals := 87 }
set_option maxHeartbeats 4000000 in
set_option maxRecDepth 100000 in
theorem c_X9_comeBack (E : Ev) (l : Launch) (aM : Nat → Nat) (vM : (Nat → Int32) × Int64) (vnow : Nat → Int32) (vearlier : Nat → Int32) (x1 : Int32) (r : Int32 × ((Nat → Int32) × Int64) × (Nat → Int32) × (Nat → Int32)) (hf : F_X9_comeBack vM vnow vearlier x1 = some r) : CM E l yX9_comeBack (.code yX9_comeBack cX9_comeBack 2 (some .int) :: GA) rm_X9_comeBack [.ref (aM 0), .int x1] (W_M aM vM ++ (W_A E (aM 1) 306 vnow ++ (W_A E (aM 4) 2448 vearlier))) (some (.int r.1)) (W_M aM r.2.1 ++ (W_A E (aM 1) 306 r.2.2.1 ++ (W_A E (aM 4) 2448 r.2.2.2))) := by
  refine CM.of (own := RX9) rfl (by decide) (Nat.le_of_ble_eq_true rfl) ?_
  intro p e s m below meth c A ls hx hb hr hml hown hg hlocks hK hE hA hP hD hS hl
  have hl : lv_has ls 2 [(0, .ref (aM 0)), (1, .int x1)] := hl
  unfold F_X9_comeBack at hf
  refine lv_aload_n hx hb dX9_comeBack_0 rfl (lv_at hl 0 rfl) ?_
  refine lv_iconst (v := 0) hx hb dX9_comeBack_1 (by decide) ?_
  refine pf_X9_48 (w2 := (W_M aM (va_up vM.1 3 0, vM.2) ++ (W_A E (aM 1) 306 vnow ++ (W_A E (aM 4) 2448 vearlier)))) hx hb hg hown hK hP hD hS 0 rfl (Nat.le_of_ble_eq_true rfl) rfl dX9_comeBack_2 (fun H locs hP hD hS => ?_)
  obtain ⟨vM_3, hv, hf⟩ := lt_o hf
  rw [← hv] at hP hD
  clear hv
  refine lv_aload_n hx hb dX9_comeBack_5 rfl (lv_at hl 0 rfl) ?_
  refine lv_iload_n hx hb dX9_comeBack_6 rfl (lv_at hl 1 rfl) ?_
  obtain ⟨u1, hu1, hf⟩ := bn hf
  refine cm_V (As := [.int x1]) (rest := []) (w2 := (W_M aM vM_3 ++ (W_A E (aM 1) 306 vnow ++ (W_A E (aM 4) 2448 vearlier)))) hx hb hml hown hg (c_X9_isGuest E l aM vM_3 vnow x1 u1 hu1) cy_X9_isGuest ml_X9_218 ⟨⟨rfl, rfl⟩, Nat.le_of_ble_eq_true rfl, Nat.le_of_ble_eq_true rfl⟩ hK hE hP hD hS hA [true, true] rfl rfl rfl 0 rfl rfl rfl hl.1 rfl (Nat.le_of_ble_eq_true rfl) dX9_comeBack_7 ⟨Nat.le_of_ble_eq_true rfl, Nat.le_of_ble_eq_true rfl⟩ [.int u1] rfl (fun H locs hP hD hS => ?_)
  refine lv_if_ne (tgt := 19) hx hb dX9_comeBack_10 (by decide) (fun cq => ?_) (fun cq => ?_)
  · have hf := ie cq hf
    refine lv_aload_n hx hb dX9_comeBack_19 rfl (lv_at hl 0 rfl) ?_
    refine gf_X9_7 hx hb hg hown hK hP 0 rfl rfl dX9_comeBack_20 ?_
    refine lv_iload_n hx hb dX9_comeBack_23 rfl (lv_at hl 1 rfl) ?_
    obtain ⟨u2, hu2, hf⟩ := bn hf
    refine cm_S (As := [.ref (aM 1), .int x1]) (rest := []) (w2 := (W_M aM vM_3 ++ (W_A E (aM 1) 306 vnow ++ (W_A E (aM 4) 2448 vearlier)))) hx hb hml hown hg (c_X9_isAway E l (aM 1) vnow x1 u2 hu2) cs_X9_isAway ml_X9_109 ⟨⟨rfl, rfl⟩, Nat.le_of_ble_eq_true rfl, Nat.le_of_ble_eq_true rfl⟩ hK hE hP hD hS hA [false, true] rfl rfl rfl rfl hl.1 rfl (Nat.le_of_ble_eq_true rfl) dX9_comeBack_24 ⟨Nat.le_of_ble_eq_true rfl, Nat.le_of_ble_eq_true rfl⟩ [.int u2] rfl (fun H locs hP hD hS => ?_)
    refine lv_if_ne (tgt := 36) hx hb dX9_comeBack_27 (by decide) (fun cq => ?_) (fun cq => ?_)
    · have hf := ie cq hf
      refine lv_aload_n hx hb dX9_comeBack_36 rfl (lv_at hl 0 rfl) ?_
      refine gf_X9_7 hx hb hg hown hK hP 0 rfl rfl dX9_comeBack_37 ?_
      refine lv_bipush (v := 9) hx hb dX9_comeBack_40 (by decide) ?_
      obtain ⟨hi, hf⟩ := ck_o hf
      refine ar_ld hx hb hK hP 1 rfl hi dX9_comeBack_42 ?_
      refine lv_bipush (v := 60) hx hb dX9_comeBack_43 (by decide) ?_
      refine lv_icmp_ne (tgt := 54) hx hb dX9_comeBack_45 (by decide) (fun cq => ?_) (fun cq => ?_)
      · have hf := ie cq hf
        refine lv_aload_n hx hb dX9_comeBack_54 rfl (lv_at hl 0 rfl) ?_
        obtain ⟨u3, hu3, hf⟩ := bn hf
        refine cm_V (As := []) (rest := []) (w2 := (W_M aM u3.1 ++ (W_A E (aM 1) 306 vnow ++ (W_A E (aM 4) 2448 u3.2)))) hx hb hml hown hg (c_X9_keepsForUndo E l aM vM_3 vnow vearlier u3 hu3) cy_X9_keepsForUndo ml_X9_262 ⟨⟨rfl, rfl⟩, Nat.le_of_ble_eq_true rfl, Nat.le_of_ble_eq_true rfl⟩ hK hE hP hD hS hA [true, true, true] rfl rfl rfl 0 rfl rfl rfl hl.1 rfl (Nat.le_of_ble_eq_true rfl) dX9_comeBack_55 ⟨Nat.le_of_ble_eq_true rfl, Nat.le_of_ble_eq_true rfl⟩ [] rfl (fun H locs hP hD hS => ?_)
        refine lv_aload_n hx hb dX9_comeBack_58 rfl (lv_at hl 0 rfl) ?_
        refine gf_X9_7 hx hb hg hown hK hP 0 rfl rfl dX9_comeBack_59 ?_
        refine lv_iload_n hx hb dX9_comeBack_62 rfl (lv_at hl 1 rfl) ?_
        obtain ⟨u4, hu4, hf⟩ := bn hf
        refine cm_S (As := [.ref (aM 1), .int x1]) (rest := []) (w2 := (W_M aM u3.1 ++ (W_A E (aM 1) 306 u4.2 ++ (W_A E (aM 4) 2448 u3.2)))) hx hb hml hown hg (c_X9_returns E l (aM 1) vnow x1 u4 hu4) cs_X9_returns ml_X9_268 ⟨⟨rfl, rfl⟩, Nat.le_of_ble_eq_true rfl, Nat.le_of_ble_eq_true rfl⟩ hK hE hP hD hS hA [false, true] rfl rfl rfl rfl hl.1 rfl (Nat.le_of_ble_eq_true rfl) dX9_comeBack_63 ⟨Nat.le_of_ble_eq_true rfl, Nat.le_of_ble_eq_true rfl⟩ [.int u4.1] rfl (fun H locs hP hD hS => ?_)
        obtain rfl := Option.some.inj hf
        exact cm_iret hx hb hr hlocks hP hS dX9_comeBack_66
      · have hf := it cq hf
        refine lv_aload_n hx hb dX9_comeBack_48 rfl (lv_at hl 0 rfl) ?_
        refine lv_iconst (v := 2) hx hb dX9_comeBack_49 (by decide) ?_
        obtain ⟨u5, hu5, hf⟩ := bn hf
        refine cm_V (As := [.int 2]) (rest := []) (w2 := (W_M aM u5.2 ++ (W_A E (aM 1) 306 vnow ++ (W_A E (aM 4) 2448 vearlier)))) hx hb hml hown hg (c_X9_fails E l aM vM_3 2 u5 hu5) cy_X9_fails ml_X9_133 ⟨⟨rfl, rfl⟩, Nat.le_of_ble_eq_true rfl, Nat.le_of_ble_eq_true rfl⟩ hK hE hP hD hS hA [true] rfl rfl rfl 0 rfl rfl rfl hl.1 rfl (Nat.le_of_ble_eq_true rfl) dX9_comeBack_50 ⟨Nat.le_of_ble_eq_true rfl, Nat.le_of_ble_eq_true rfl⟩ [.int u5.1] rfl (fun H locs hP hD hS => ?_)
        obtain rfl := Option.some.inj hf
        exact cm_iret hx hb hr hlocks hP hS dX9_comeBack_53
    · have hf := it cq hf
      refine lv_aload_n hx hb dX9_comeBack_30 rfl (lv_at hl 0 rfl) ?_
      refine lv_iconst (v := 2) hx hb dX9_comeBack_31 (by decide) ?_
      obtain ⟨u6, hu6, hf⟩ := bn hf
      refine cm_V (As := [.int 2]) (rest := []) (w2 := (W_M aM u6.2 ++ (W_A E (aM 1) 306 vnow ++ (W_A E (aM 4) 2448 vearlier)))) hx hb hml hown hg (c_X9_fails E l aM vM_3 2 u6 hu6) cy_X9_fails ml_X9_133 ⟨⟨rfl, rfl⟩, Nat.le_of_ble_eq_true rfl, Nat.le_of_ble_eq_true rfl⟩ hK hE hP hD hS hA [true] rfl rfl rfl 0 rfl rfl rfl hl.1 rfl (Nat.le_of_ble_eq_true rfl) dX9_comeBack_32 ⟨Nat.le_of_ble_eq_true rfl, Nat.le_of_ble_eq_true rfl⟩ [.int u6.1] rfl (fun H locs hP hD hS => ?_)
      obtain rfl := Option.some.inj hf
      exact cm_iret hx hb hr hlocks hP hS dX9_comeBack_35
  · have hf := it cq hf
    refine lv_aload_n hx hb dX9_comeBack_13 rfl (lv_at hl 0 rfl) ?_
    refine lv_iconst (v := 1) hx hb dX9_comeBack_14 (by decide) ?_
    obtain ⟨u7, hu7, hf⟩ := bn hf
    refine cm_V (As := [.int 1]) (rest := []) (w2 := (W_M aM u7.2 ++ (W_A E (aM 1) 306 vnow ++ (W_A E (aM 4) 2448 vearlier)))) hx hb hml hown hg (c_X9_fails E l aM vM_3 1 u7 hu7) cy_X9_fails ml_X9_133 ⟨⟨rfl, rfl⟩, Nat.le_of_ble_eq_true rfl, Nat.le_of_ble_eq_true rfl⟩ hK hE hP hD hS hA [true] rfl rfl rfl 0 rfl rfl rfl hl.1 rfl (Nat.le_of_ble_eq_true rfl) dX9_comeBack_15 ⟨Nat.le_of_ble_eq_true rfl, Nat.le_of_ble_eq_true rfl⟩ [.int u7.1] rfl (fun H locs hP hD hS => ?_)
    obtain rfl := Option.some.inj hf
    exact cm_iret hx hb hr hlocks hP hS dX9_comeBack_18
def B_X9_passMinutes_55 (rec : Int32 → Int32 → ((Nat → Int32) × Int64) → (Nat → Int32) → (Nat → Int32) → Option (Int32 × ((Nat → Int32) × Int64) × (Nat → Int32) × (Nat → Int32))) (x1 : Int32) (x2 : Int32) (x3 : Int32) (vM : (Nat → Int32) × Int64) (vnow : Nat → Int32) (vearlier : Nat → Int32) : Option (Int32 × ((Nat → Int32) × Int64) × (Nat → Int32) × (Nat → Int32)) := (if x1 ≤ x3 then ck 4 306 ((some (((vnow (Int32.toNatClampNeg 4)) - x2), vM, vnow, vearlier))) else (F_X9_passes vnow).bind (fun u1 => (rec x2 (x3 + 1) vM u1 vearlier)))
def L_X9_passMinutes_55 (x1 : Int32) : Nat → Int32 → Int32 → ((Nat → Int32) × Int64) → (Nat → Int32) → (Nat → Int32) → Option (Int32 × ((Nat → Int32) × Int64) × (Nat → Int32) × (Nat → Int32))
  | 0 => fun _ _ _ _ _ => none
  | n + 1 => fun x2 x3 vM vnow vearlier => B_X9_passMinutes_55 (L_X9_passMinutes_55 x1 n) x1 x2 x3 vM vnow vearlier
def F_X9_passMinutes (vM : (Nat → Int32) × Int64) (vnow : Nat → Int32) (vearlier : Nat → Int32) (x1 : Int32) : Option (Int32 × ((Nat → Int32) × Int64) × (Nat → Int32) × (Nat → Int32)) := lt (va_up vM.1 3 0, vM.2) (fun vM_3 => (F_X9_in x1 1 240).bind (fun u1 => (if u1 = 0 then (F_X9_fails vM_3 1).bind (fun u4 => (some (u4.1, u4.2, vnow, vearlier))) else ck 0 306 ((if ((vnow (Int32.toNatClampNeg 0)) + x1) ≤ 720 then (F_X9_keepsForUndo vM_3 vnow vearlier).bind (fun u2 => ck 4 306 ((L_X9_passMinutes_55 x1 FU (vnow (Int32.toNatClampNeg 4)) 0 u2.1 vnow u2.2))) else (F_X9_fails vM_3 2).bind (fun u3 => (some (u3.1, u3.2, vnow, vearlier))))))))
abbrev rm_X9_passMinutes : Room := { frames := 5, cells := 0, slots := 0, locals := 108 }
set_option maxHeartbeats 4000000 in
set_option maxRecDepth 100000 in
theorem c_X9_passMinutes (E : Ev) (l : Launch) (aM : Nat → Nat) (vM : (Nat → Int32) × Int64) (vnow : Nat → Int32) (vearlier : Nat → Int32) (x1 : Int32) (r : Int32 × ((Nat → Int32) × Int64) × (Nat → Int32) × (Nat → Int32)) (hf : F_X9_passMinutes vM vnow vearlier x1 = some r) : CM E l yX9_passMinutes (.code yX9_passMinutes cX9_passMinutes 4 (some .int) :: GA) rm_X9_passMinutes [.ref (aM 0), .int x1] (W_M aM vM ++ (W_A E (aM 1) 306 vnow ++ (W_A E (aM 4) 2448 vearlier))) (some (.int r.1)) (W_M aM r.2.1 ++ (W_A E (aM 1) 306 r.2.2.1 ++ (W_A E (aM 4) 2448 r.2.2.2))) := by
  refine CM.of (own := RX9) rfl (by decide) (Nat.le_of_ble_eq_true rfl) ?_
  intro p e s m below meth c A ls hx hb hr hml hown hg hlocks hK hE hA hP hD hS hl
  have hl : lv_has ls 4 [(0, .ref (aM 0)), (1, .int x1)] := hl
  have lp_55 : ∀ (n : Nat) (x2 : Int32) (x3 : Int32) (vM : (Nat → Int32) × Int64) (vnow : Nat → Int32) (vearlier : Nat → Int32) (H : Heap) (locs : List Loc) (ls : Array Slot), L_X9_passMinutes_55 x1 n x2 x3 vM vnow vearlier = some r → va_P E.1 vwCl (W_M aM vM ++ (W_A E (aM 1) 306 vnow ++ (W_A E (aM 4) 2448 vearlier))) H → va_D A (W_M aM vM ++ (W_A E (aM 1) 306 vnow ++ (W_A E (aM 4) 2448 vearlier))) → va_S A s.heap H locs → lv_has ls 4 [(0, .ref (aM 0)), (1, .int x1), (2, .int x2), (3, .int x3)] → W p l e rm_X9_passMinutes s m ([.ref (aM 0), .int x1] : List Value).toArray below meth c H locs 0 0 (MQ below (QW E (some (.int r.1)) (W_M aM r.2.1 ++ (W_A E (aM 1) 306 r.2.2.1 ++ (W_A E (aM 4) 2448 r.2.2.2))) A) ([.ref (aM 0), .int x1] : List Value).toArray s 0 0 A) (F0 m 55 ls []) := by
    intro n
    induction n with
    | zero => intro x2 x3 vM vnow vearlier H locs ls hf; cases hf
    | succ n ih =>
      intro x2 x3 vM vnow vearlier H locs ls hf hP hD hS hl
      replace hf : B_X9_passMinutes_55 (L_X9_passMinutes_55 x1 n) x1 x2 x3 vM vnow vearlier = some r := hf
      unfold B_X9_passMinutes_55 at hf
      refine lv_iload_n hx hb dX9_passMinutes_55 rfl (lv_at hl 3 rfl) ?_
      refine lv_iload_n hx hb dX9_passMinutes_56 rfl (lv_at hl 1 rfl) ?_
      refine lv_icmp_ge (tgt := 73) hx hb dX9_passMinutes_57 (by decide) (fun cq => ?_) (fun cq => ?_)
      · have hf := it cq hf
        refine lv_aload_n hx hb dX9_passMinutes_73 rfl (lv_at hl 0 rfl) ?_
        refine gf_X9_7 hx hb hg hown hK hP 0 rfl rfl dX9_passMinutes_74 ?_
        refine lv_iconst (v := 4) hx hb dX9_passMinutes_77 (by decide) ?_
        obtain ⟨hi, hf⟩ := ck_o hf
        refine ar_ld hx hb hK hP 1 rfl hi dX9_passMinutes_78 ?_
        refine lv_iload_n hx hb dX9_passMinutes_79 rfl (lv_at hl 2 rfl) ?_
        refine lv_isub hx hb dX9_passMinutes_80 ?_
        obtain rfl := Option.some.inj hf
        exact cm_iret hx hb hr hlocks hP hS dX9_passMinutes_81
      · have hf := ie cq hf
        refine lv_aload_n hx hb dX9_passMinutes_60 rfl (lv_at hl 0 rfl) ?_
        refine gf_X9_7 hx hb hg hown hK hP 0 rfl rfl dX9_passMinutes_61 ?_
        obtain ⟨u1, hu1, hf⟩ := bn hf
        refine cm_S (As := [.ref (aM 1)]) (rest := []) (w2 := (W_M aM vM ++ (W_A E (aM 1) 306 u1 ++ (W_A E (aM 4) 2448 vearlier)))) hx hb hml hown hg (c_X9_passes E l (aM 1) vnow u1 hu1) cs_X9_passes ml_X9_258 ⟨⟨rfl, rfl⟩, Nat.le_of_ble_eq_true rfl, Nat.le_of_ble_eq_true rfl⟩ hK hE hP hD hS hA [false, true] rfl rfl rfl rfl hl.1 rfl (Nat.le_of_ble_eq_true rfl) dX9_passMinutes_64 ⟨Nat.le_of_ble_eq_true rfl, Nat.le_of_ble_eq_true rfl⟩ [] rfl (fun H locs hP hD hS => ?_)
        refine lv_iinc (v := (x3 + 1)) (lv' := [(3, .int (x3 + 1)), (0, .ref (aM 0)), (1, .int x1), (2, .int x2)]) hx hb dX9_passMinutes_67 hl (k := 3) rfl rfl (by decide) rfl (fun ls hl => ?_)
        refine lv_goto (tgt := 55) hx hb dX9_passMinutes_70 (by decide) ?_
        exact ih _ _ _ _ _ _ _ _ hf hP hD hS (lv_sub hl [1, 2, 3, 0] rfl)
  unfold F_X9_passMinutes at hf
  refine lv_aload_n hx hb dX9_passMinutes_0 rfl (lv_at hl 0 rfl) ?_
  refine lv_iconst (v := 0) hx hb dX9_passMinutes_1 (by decide) ?_
  refine pf_X9_48 (w2 := (W_M aM (va_up vM.1 3 0, vM.2) ++ (W_A E (aM 1) 306 vnow ++ (W_A E (aM 4) 2448 vearlier)))) hx hb hg hown hK hP hD hS 0 rfl (Nat.le_of_ble_eq_true rfl) rfl dX9_passMinutes_2 (fun H locs hP hD hS => ?_)
  obtain ⟨vM_3, hv, hf⟩ := lt_o hf
  rw [← hv] at hP hD
  clear hv
  refine lv_iload_n hx hb dX9_passMinutes_5 rfl (lv_at hl 1 rfl) ?_
  refine lv_iconst (v := 1) hx hb dX9_passMinutes_6 (by decide) ?_
  refine lv_sipush (v := 240) hx hb dX9_passMinutes_7 (by decide) ?_
  obtain ⟨u1, hu1, hf⟩ := bn hf
  refine cm_S (As := [.int x1, .int 1, .int 240]) (rest := []) (w2 := (W_M aM vM_3 ++ (W_A E (aM 1) 306 vnow ++ (W_A E (aM 4) 2448 vearlier)))) hx hb hml hown hg (c_X9_in E l x1 1 240 u1 hu1) cs_X9_in ml_X9_55 ⟨⟨rfl, rfl⟩, Nat.le_of_ble_eq_true rfl, Nat.le_of_ble_eq_true rfl⟩ hK hE hP hD hS hA [] rfl rfl rfl rfl hl.1 rfl (Nat.le_of_ble_eq_true rfl) dX9_passMinutes_10 ⟨Nat.le_of_ble_eq_true rfl, Nat.le_of_ble_eq_true rfl⟩ [.int u1] rfl (fun H locs hP hD hS => ?_)
  refine lv_if_ne (tgt := 22) hx hb dX9_passMinutes_13 (by decide) (fun cq => ?_) (fun cq => ?_)
  · have hf := ie cq hf
    refine lv_aload_n hx hb dX9_passMinutes_22 rfl (lv_at hl 0 rfl) ?_
    refine gf_X9_7 hx hb hg hown hK hP 0 rfl rfl dX9_passMinutes_23 ?_
    refine lv_iconst (v := 0) hx hb dX9_passMinutes_26 (by decide) ?_
    obtain ⟨hi, hf⟩ := ck_o hf
    refine ar_ld hx hb hK hP 1 rfl hi dX9_passMinutes_27 ?_
    refine lv_iload_n hx hb dX9_passMinutes_28 rfl (lv_at hl 1 rfl) ?_
    refine lv_iadd hx hb dX9_passMinutes_29 ?_
    refine lv_sipush (v := 720) hx hb dX9_passMinutes_30 (by decide) ?_
    refine lv_icmp_le (tgt := 42) hx hb dX9_passMinutes_33 (by decide) (fun cq => ?_) (fun cq => ?_)
    · have hf := it cq hf
      refine lv_aload_n hx hb dX9_passMinutes_42 rfl (lv_at hl 0 rfl) ?_
      obtain ⟨u2, hu2, hf⟩ := bn hf
      refine cm_V (As := []) (rest := []) (w2 := (W_M aM u2.1 ++ (W_A E (aM 1) 306 vnow ++ (W_A E (aM 4) 2448 u2.2)))) hx hb hml hown hg (c_X9_keepsForUndo E l aM vM_3 vnow vearlier u2 hu2) cy_X9_keepsForUndo ml_X9_262 ⟨⟨rfl, rfl⟩, Nat.le_of_ble_eq_true rfl, Nat.le_of_ble_eq_true rfl⟩ hK hE hP hD hS hA [true, true, true] rfl rfl rfl 0 rfl rfl rfl hl.1 rfl (Nat.le_of_ble_eq_true rfl) dX9_passMinutes_43 ⟨Nat.le_of_ble_eq_true rfl, Nat.le_of_ble_eq_true rfl⟩ [] rfl (fun H locs hP hD hS => ?_)
      refine lv_aload_n hx hb dX9_passMinutes_46 rfl (lv_at hl 0 rfl) ?_
      refine gf_X9_7 hx hb hg hown hK hP 0 rfl rfl dX9_passMinutes_47 ?_
      refine lv_iconst (v := 4) hx hb dX9_passMinutes_50 (by decide) ?_
      obtain ⟨hi, hf⟩ := ck_o hf
      refine ar_ld hx hb hK hP 1 rfl hi dX9_passMinutes_51 ?_
      refine lv_istore_n (lv' := [(2, .int (vnow (Int32.toNatClampNeg 4))), (0, .ref (aM 0)), (1, .int x1)]) hx hb dX9_passMinutes_52 rfl hl (by decide) rfl (fun ls hl => ?_)
      refine lv_iconst (v := 0) hx hb dX9_passMinutes_53 (by decide) ?_
      refine lv_istore_n (lv' := [(3, .int 0), (2, .int (vnow (Int32.toNatClampNeg 4))), (0, .ref (aM 0)), (1, .int x1)]) hx hb dX9_passMinutes_54 rfl hl (by decide) rfl (fun ls hl => ?_)
      exact lp_55 FU _ _ _ _ _ _ _ _ hf hP hD hS (lv_sub hl [2, 3, 1, 0] rfl)
    · have hf := ie cq hf
      refine lv_aload_n hx hb dX9_passMinutes_36 rfl (lv_at hl 0 rfl) ?_
      refine lv_iconst (v := 2) hx hb dX9_passMinutes_37 (by decide) ?_
      obtain ⟨u3, hu3, hf⟩ := bn hf
      refine cm_V (As := [.int 2]) (rest := []) (w2 := (W_M aM u3.2 ++ (W_A E (aM 1) 306 vnow ++ (W_A E (aM 4) 2448 vearlier)))) hx hb hml hown hg (c_X9_fails E l aM vM_3 2 u3 hu3) cy_X9_fails ml_X9_133 ⟨⟨rfl, rfl⟩, Nat.le_of_ble_eq_true rfl, Nat.le_of_ble_eq_true rfl⟩ hK hE hP hD hS hA [true] rfl rfl rfl 0 rfl rfl rfl hl.1 rfl (Nat.le_of_ble_eq_true rfl) dX9_passMinutes_38 ⟨Nat.le_of_ble_eq_true rfl, Nat.le_of_ble_eq_true rfl⟩ [.int u3.1] rfl (fun H locs hP hD hS => ?_)
      obtain rfl := Option.some.inj hf
      exact cm_iret hx hb hr hlocks hP hS dX9_passMinutes_41
  · have hf := it cq hf
    refine lv_aload_n hx hb dX9_passMinutes_16 rfl (lv_at hl 0 rfl) ?_
    refine lv_iconst (v := 1) hx hb dX9_passMinutes_17 (by decide) ?_
    obtain ⟨u4, hu4, hf⟩ := bn hf
    refine cm_V (As := [.int 1]) (rest := []) (w2 := (W_M aM u4.2 ++ (W_A E (aM 1) 306 vnow ++ (W_A E (aM 4) 2448 vearlier)))) hx hb hml hown hg (c_X9_fails E l aM vM_3 1 u4 hu4) cy_X9_fails ml_X9_133 ⟨⟨rfl, rfl⟩, Nat.le_of_ble_eq_true rfl, Nat.le_of_ble_eq_true rfl⟩ hK hE hP hD hS hA [true] rfl rfl rfl 0 rfl rfl rfl hl.1 rfl (Nat.le_of_ble_eq_true rfl) dX9_passMinutes_18 ⟨Nat.le_of_ble_eq_true rfl, Nat.le_of_ble_eq_true rfl⟩ [.int u4.1] rfl (fun H locs hP hD hS => ?_)
    obtain rfl := Option.some.inj hf
    exact cm_iret hx hb hr hlocks hP hS dX9_passMinutes_21
def F_X9_walkDog (vM : (Nat → Int32) × Int64) (vnow : Nat → Int32) (vearlier : Nat → Int32) (x1 : Int32) : Option (Int32 × ((Nat → Int32) × Int64) × (Nat → Int32) × (Nat → Int32)) := lt (va_up vM.1 3 0, vM.2) (fun vM_7 => (F_X9_isGuest vM_7 vnow x1).bind (fun u1 => (if u1 = 0 then (F_X9_fails vM_7 1).bind (fun u10 => (some (u10.1, u10.2, vnow, vearlier))) else (F_X9_isAway vnow x1).bind (fun u2 => (if u2 = 0 then (F_X9_fails vM_7 2).bind (fun u9 => (some (u9.1, u9.2, vnow, vearlier))) else (F_X9_guestAt x1 2).bind (fun u3 => ck u3 306 ((if (vnow (Int32.toNatClampNeg u3)) = 0 then (F_X9_fails vM_7 2).bind (fun u8 => (some (u8.1, u8.2, vnow, vearlier))) else (F_X9_keepsForUndo vM_7 vnow vearlier).bind (fun u4 => (F_X9_guestAt x1 6).bind (fun u5 => ck 0 306 (ck u5 306 (lt (upd vnow (Int32.toNatClampNeg u5) (vnow (Int32.toNatClampNeg 0))) (fun vnow_8 => (F_X9_guestAt x1 7).bind (fun u6 => ck u6 306 (ck u6 306 (lt (upd vnow_8 (Int32.toNatClampNeg u6) ((vnow_8 (Int32.toNatClampNeg u6)) + 1)) (fun vnow_9 => (F_X9_guestAt x1 7).bind (fun u7 => ck u7 306 ((some ((vnow_9 (Int32.toNatClampNeg u7)), u4.1, vnow_9, u4.2)))))))))))))))))))))
abbrev rm_X9_walkDog : Room := { frames := 2, cells := 0, slots := 0, locals := 45 }
set_option maxHeartbeats 4000000 in
set_option maxRecDepth 100000 in
theorem c_X9_walkDog (E : Ev) (l : Launch) (aM : Nat → Nat) (vM : (Nat → Int32) × Int64) (vnow : Nat → Int32) (vearlier : Nat → Int32) (x1 : Int32) (r : Int32 × ((Nat → Int32) × Int64) × (Nat → Int32) × (Nat → Int32)) (hf : F_X9_walkDog vM vnow vearlier x1 = some r) : CM E l yX9_walkDog (.code yX9_walkDog cX9_walkDog 2 (some .int) :: GA) rm_X9_walkDog [.ref (aM 0), .int x1] (W_M aM vM ++ (W_A E (aM 1) 306 vnow ++ (W_A E (aM 4) 2448 vearlier))) (some (.int r.1)) (W_M aM r.2.1 ++ (W_A E (aM 1) 306 r.2.2.1 ++ (W_A E (aM 4) 2448 r.2.2.2))) := by
  refine CM.of (own := RX9) rfl (by decide) (Nat.le_of_ble_eq_true rfl) ?_
  intro p e s m below meth c A ls hx hb hr hml hown hg hlocks hK hE hA hP hD hS hl
  have hl : lv_has ls 2 [(0, .ref (aM 0)), (1, .int x1)] := hl
  unfold F_X9_walkDog at hf
  refine lv_aload_n hx hb dX9_walkDog_0 rfl (lv_at hl 0 rfl) ?_
  refine lv_iconst (v := 0) hx hb dX9_walkDog_1 (by decide) ?_
  refine pf_X9_48 (w2 := (W_M aM (va_up vM.1 3 0, vM.2) ++ (W_A E (aM 1) 306 vnow ++ (W_A E (aM 4) 2448 vearlier)))) hx hb hg hown hK hP hD hS 0 rfl (Nat.le_of_ble_eq_true rfl) rfl dX9_walkDog_2 (fun H locs hP hD hS => ?_)
  obtain ⟨vM_7, hv, hf⟩ := lt_o hf
  rw [← hv] at hP hD
  clear hv
  refine lv_aload_n hx hb dX9_walkDog_5 rfl (lv_at hl 0 rfl) ?_
  refine lv_iload_n hx hb dX9_walkDog_6 rfl (lv_at hl 1 rfl) ?_
  obtain ⟨u1, hu1, hf⟩ := bn hf
  refine cm_V (As := [.int x1]) (rest := []) (w2 := (W_M aM vM_7 ++ (W_A E (aM 1) 306 vnow ++ (W_A E (aM 4) 2448 vearlier)))) hx hb hml hown hg (c_X9_isGuest E l aM vM_7 vnow x1 u1 hu1) cy_X9_isGuest ml_X9_218 ⟨⟨rfl, rfl⟩, Nat.le_of_ble_eq_true rfl, Nat.le_of_ble_eq_true rfl⟩ hK hE hP hD hS hA [true, true] rfl rfl rfl 0 rfl rfl rfl hl.1 rfl (Nat.le_of_ble_eq_true rfl) dX9_walkDog_7 ⟨Nat.le_of_ble_eq_true rfl, Nat.le_of_ble_eq_true rfl⟩ [.int u1] rfl (fun H locs hP hD hS => ?_)
  refine lv_if_ne (tgt := 19) hx hb dX9_walkDog_10 (by decide) (fun cq => ?_) (fun cq => ?_)
  · have hf := ie cq hf
    refine lv_aload_n hx hb dX9_walkDog_19 rfl (lv_at hl 0 rfl) ?_
    refine gf_X9_7 hx hb hg hown hK hP 0 rfl rfl dX9_walkDog_20 ?_
    refine lv_iload_n hx hb dX9_walkDog_23 rfl (lv_at hl 1 rfl) ?_
    obtain ⟨u2, hu2, hf⟩ := bn hf
    refine cm_S (As := [.ref (aM 1), .int x1]) (rest := []) (w2 := (W_M aM vM_7 ++ (W_A E (aM 1) 306 vnow ++ (W_A E (aM 4) 2448 vearlier)))) hx hb hml hown hg (c_X9_isAway E l (aM 1) vnow x1 u2 hu2) cs_X9_isAway ml_X9_109 ⟨⟨rfl, rfl⟩, Nat.le_of_ble_eq_true rfl, Nat.le_of_ble_eq_true rfl⟩ hK hE hP hD hS hA [false, true] rfl rfl rfl rfl hl.1 rfl (Nat.le_of_ble_eq_true rfl) dX9_walkDog_24 ⟨Nat.le_of_ble_eq_true rfl, Nat.le_of_ble_eq_true rfl⟩ [.int u2] rfl (fun H locs hP hD hS => ?_)
    refine lv_if_ne (tgt := 36) hx hb dX9_walkDog_27 (by decide) (fun cq => ?_) (fun cq => ?_)
    · have hf := ie cq hf
      refine lv_aload_n hx hb dX9_walkDog_36 rfl (lv_at hl 0 rfl) ?_
      refine gf_X9_7 hx hb hg hown hK hP 0 rfl rfl dX9_walkDog_37 ?_
      refine lv_iload_n hx hb dX9_walkDog_40 rfl (lv_at hl 1 rfl) ?_
      refine lv_iconst (v := 2) hx hb dX9_walkDog_41 (by decide) ?_
      obtain ⟨u3, hu3, hf⟩ := bn hf
      refine cm_S (As := [.int x1, .int 2]) (rest := [.ref (aM 1)]) (w2 := (W_M aM vM_7 ++ (W_A E (aM 1) 306 vnow ++ (W_A E (aM 4) 2448 vearlier)))) hx hb hml hown hg (c_X9_guestAt E l x1 2 u3 hu3) cs_X9_guestAt ml_X9_59 ⟨⟨rfl, rfl⟩, Nat.le_of_ble_eq_true rfl, Nat.le_of_ble_eq_true rfl⟩ hK hE hP hD hS hA [] rfl rfl rfl rfl hl.1 rfl (Nat.le_of_ble_eq_true rfl) dX9_walkDog_42 ⟨Nat.le_of_ble_eq_true rfl, Nat.le_of_ble_eq_true rfl⟩ [.int u3, .ref (aM 1)] rfl (fun H locs hP hD hS => ?_)
      obtain ⟨hi, hf⟩ := ck_o hf
      refine ar_ld hx hb hK hP 1 rfl hi dX9_walkDog_45 ?_
      refine lv_if_ne (tgt := 55) hx hb dX9_walkDog_46 (by decide) (fun cq => ?_) (fun cq => ?_)
      · have hf := ie cq hf
        refine lv_aload_n hx hb dX9_walkDog_55 rfl (lv_at hl 0 rfl) ?_
        obtain ⟨u4, hu4, hf⟩ := bn hf
        refine cm_V (As := []) (rest := []) (w2 := (W_M aM u4.1 ++ (W_A E (aM 1) 306 vnow ++ (W_A E (aM 4) 2448 u4.2)))) hx hb hml hown hg (c_X9_keepsForUndo E l aM vM_7 vnow vearlier u4 hu4) cy_X9_keepsForUndo ml_X9_262 ⟨⟨rfl, rfl⟩, Nat.le_of_ble_eq_true rfl, Nat.le_of_ble_eq_true rfl⟩ hK hE hP hD hS hA [true, true, true] rfl rfl rfl 0 rfl rfl rfl hl.1 rfl (Nat.le_of_ble_eq_true rfl) dX9_walkDog_56 ⟨Nat.le_of_ble_eq_true rfl, Nat.le_of_ble_eq_true rfl⟩ [] rfl (fun H locs hP hD hS => ?_)
        refine lv_aload_n hx hb dX9_walkDog_59 rfl (lv_at hl 0 rfl) ?_
        refine gf_X9_7 hx hb hg hown hK hP 0 rfl rfl dX9_walkDog_60 ?_
        refine lv_iload_n hx hb dX9_walkDog_63 rfl (lv_at hl 1 rfl) ?_
        refine lv_bipush (v := 6) hx hb dX9_walkDog_64 (by decide) ?_
        obtain ⟨u5, hu5, hf⟩ := bn hf
        refine cm_S (As := [.int x1, .int 6]) (rest := [.ref (aM 1)]) (w2 := (W_M aM u4.1 ++ (W_A E (aM 1) 306 vnow ++ (W_A E (aM 4) 2448 u4.2)))) hx hb hml hown hg (c_X9_guestAt E l x1 6 u5 hu5) cs_X9_guestAt ml_X9_59 ⟨⟨rfl, rfl⟩, Nat.le_of_ble_eq_true rfl, Nat.le_of_ble_eq_true rfl⟩ hK hE hP hD hS hA [] rfl rfl rfl rfl hl.1 rfl (Nat.le_of_ble_eq_true rfl) dX9_walkDog_66 ⟨Nat.le_of_ble_eq_true rfl, Nat.le_of_ble_eq_true rfl⟩ [.int u5, .ref (aM 1)] rfl (fun H locs hP hD hS => ?_)
        refine lv_aload_n hx hb dX9_walkDog_69 rfl (lv_at hl 0 rfl) ?_
        refine gf_X9_7 hx hb hg hown hK hP 0 rfl rfl dX9_walkDog_70 ?_
        refine lv_iconst (v := 0) hx hb dX9_walkDog_73 (by decide) ?_
        obtain ⟨hi, hf⟩ := ck_o hf
        refine ar_ld hx hb hK hP 1 rfl hi dX9_walkDog_74 ?_
        obtain ⟨hi, hf⟩ := ck_o hf
        refine ar_st (w2 := (W_M aM u4.1 ++ (W_A E (aM 1) 306 (upd vnow (Int32.toNatClampNeg u5) (vnow (Int32.toNatClampNeg 0))) ++ (W_A E (aM 4) 2448 u4.2)))) hx hb hK hP hD hS 1 rfl hi rfl dX9_walkDog_75 (fun H locs hP hD hS => ?_)
        obtain ⟨vnow_8, hv, hf⟩ := lt_o hf
        rw [← hv] at hP hD
        clear hv
        refine lv_aload_n hx hb dX9_walkDog_76 rfl (lv_at hl 0 rfl) ?_
        refine gf_X9_7 hx hb hg hown hK hP 0 rfl rfl dX9_walkDog_77 ?_
        refine lv_iload_n hx hb dX9_walkDog_80 rfl (lv_at hl 1 rfl) ?_
        refine lv_bipush (v := 7) hx hb dX9_walkDog_81 (by decide) ?_
        obtain ⟨u6, hu6, hf⟩ := bn hf
        refine cm_S (As := [.int x1, .int 7]) (rest := [.ref (aM 1)]) (w2 := (W_M aM u4.1 ++ (W_A E (aM 1) 306 vnow_8 ++ (W_A E (aM 4) 2448 u4.2)))) hx hb hml hown hg (c_X9_guestAt E l x1 7 u6 hu6) cs_X9_guestAt ml_X9_59 ⟨⟨rfl, rfl⟩, Nat.le_of_ble_eq_true rfl, Nat.le_of_ble_eq_true rfl⟩ hK hE hP hD hS hA [] rfl rfl rfl rfl hl.1 rfl (Nat.le_of_ble_eq_true rfl) dX9_walkDog_83 ⟨Nat.le_of_ble_eq_true rfl, Nat.le_of_ble_eq_true rfl⟩ [.int u6, .ref (aM 1)] rfl (fun H locs hP hD hS => ?_)
        refine lv_dup2_11 hx hb dX9_walkDog_86 rfl rfl ?_
        obtain ⟨hi, hf⟩ := ck_o hf
        refine ar_ld hx hb hK hP 1 rfl hi dX9_walkDog_87 ?_
        refine lv_iconst (v := 1) hx hb dX9_walkDog_88 (by decide) ?_
        refine lv_iadd hx hb dX9_walkDog_89 ?_
        obtain ⟨hi, hf⟩ := ck_o hf
        refine ar_st (w2 := (W_M aM u4.1 ++ (W_A E (aM 1) 306 (upd vnow_8 (Int32.toNatClampNeg u6) ((vnow_8 (Int32.toNatClampNeg u6)) + 1)) ++ (W_A E (aM 4) 2448 u4.2)))) hx hb hK hP hD hS 1 rfl hi rfl dX9_walkDog_90 (fun H locs hP hD hS => ?_)
        obtain ⟨vnow_9, hv, hf⟩ := lt_o hf
        rw [← hv] at hP hD
        clear hv
        refine lv_aload_n hx hb dX9_walkDog_91 rfl (lv_at hl 0 rfl) ?_
        refine gf_X9_7 hx hb hg hown hK hP 0 rfl rfl dX9_walkDog_92 ?_
        refine lv_iload_n hx hb dX9_walkDog_95 rfl (lv_at hl 1 rfl) ?_
        refine lv_bipush (v := 7) hx hb dX9_walkDog_96 (by decide) ?_
        obtain ⟨u7, hu7, hf⟩ := bn hf
        refine cm_S (As := [.int x1, .int 7]) (rest := [.ref (aM 1)]) (w2 := (W_M aM u4.1 ++ (W_A E (aM 1) 306 vnow_9 ++ (W_A E (aM 4) 2448 u4.2)))) hx hb hml hown hg (c_X9_guestAt E l x1 7 u7 hu7) cs_X9_guestAt ml_X9_59 ⟨⟨rfl, rfl⟩, Nat.le_of_ble_eq_true rfl, Nat.le_of_ble_eq_true rfl⟩ hK hE hP hD hS hA [] rfl rfl rfl rfl hl.1 rfl (Nat.le_of_ble_eq_true rfl) dX9_walkDog_98 ⟨Nat.le_of_ble_eq_true rfl, Nat.le_of_ble_eq_true rfl⟩ [.int u7, .ref (aM 1)] rfl (fun H locs hP hD hS => ?_)
        obtain ⟨hi, hf⟩ := ck_o hf
        refine ar_ld hx hb hK hP 1 rfl hi dX9_walkDog_101 ?_
        obtain rfl := Option.some.inj hf
        exact cm_iret hx hb hr hlocks hP hS dX9_walkDog_102
      · have hf := it cq hf
        refine lv_aload_n hx hb dX9_walkDog_49 rfl (lv_at hl 0 rfl) ?_
        refine lv_iconst (v := 2) hx hb dX9_walkDog_50 (by decide) ?_
        obtain ⟨u8, hu8, hf⟩ := bn hf
        refine cm_V (As := [.int 2]) (rest := []) (w2 := (W_M aM u8.2 ++ (W_A E (aM 1) 306 vnow ++ (W_A E (aM 4) 2448 vearlier)))) hx hb hml hown hg (c_X9_fails E l aM vM_7 2 u8 hu8) cy_X9_fails ml_X9_133 ⟨⟨rfl, rfl⟩, Nat.le_of_ble_eq_true rfl, Nat.le_of_ble_eq_true rfl⟩ hK hE hP hD hS hA [true] rfl rfl rfl 0 rfl rfl rfl hl.1 rfl (Nat.le_of_ble_eq_true rfl) dX9_walkDog_51 ⟨Nat.le_of_ble_eq_true rfl, Nat.le_of_ble_eq_true rfl⟩ [.int u8.1] rfl (fun H locs hP hD hS => ?_)
        obtain rfl := Option.some.inj hf
        exact cm_iret hx hb hr hlocks hP hS dX9_walkDog_54
    · have hf := it cq hf
      refine lv_aload_n hx hb dX9_walkDog_30 rfl (lv_at hl 0 rfl) ?_
      refine lv_iconst (v := 2) hx hb dX9_walkDog_31 (by decide) ?_
      obtain ⟨u9, hu9, hf⟩ := bn hf
      refine cm_V (As := [.int 2]) (rest := []) (w2 := (W_M aM u9.2 ++ (W_A E (aM 1) 306 vnow ++ (W_A E (aM 4) 2448 vearlier)))) hx hb hml hown hg (c_X9_fails E l aM vM_7 2 u9 hu9) cy_X9_fails ml_X9_133 ⟨⟨rfl, rfl⟩, Nat.le_of_ble_eq_true rfl, Nat.le_of_ble_eq_true rfl⟩ hK hE hP hD hS hA [true] rfl rfl rfl 0 rfl rfl rfl hl.1 rfl (Nat.le_of_ble_eq_true rfl) dX9_walkDog_32 ⟨Nat.le_of_ble_eq_true rfl, Nat.le_of_ble_eq_true rfl⟩ [.int u9.1] rfl (fun H locs hP hD hS => ?_)
      obtain rfl := Option.some.inj hf
      exact cm_iret hx hb hr hlocks hP hS dX9_walkDog_35
  · have hf := it cq hf
    refine lv_aload_n hx hb dX9_walkDog_13 rfl (lv_at hl 0 rfl) ?_
    refine lv_iconst (v := 1) hx hb dX9_walkDog_14 (by decide) ?_
    obtain ⟨u10, hu10, hf⟩ := bn hf
    refine cm_V (As := [.int 1]) (rest := []) (w2 := (W_M aM u10.2 ++ (W_A E (aM 1) 306 vnow ++ (W_A E (aM 4) 2448 vearlier)))) hx hb hml hown hg (c_X9_fails E l aM vM_7 1 u10 hu10) cy_X9_fails ml_X9_133 ⟨⟨rfl, rfl⟩, Nat.le_of_ble_eq_true rfl, Nat.le_of_ble_eq_true rfl⟩ hK hE hP hD hS hA [true] rfl rfl rfl 0 rfl rfl rfl hl.1 rfl (Nat.le_of_ble_eq_true rfl) dX9_walkDog_15 ⟨Nat.le_of_ble_eq_true rfl, Nat.le_of_ble_eq_true rfl⟩ [.int u10.1] rfl (fun H locs hP hD hS => ?_)
    obtain rfl := Option.some.inj hf
    exact cm_iret hx hb hr hlocks hP hS dX9_walkDog_18
def F_X9_sets (vM : (Nat → Int32) × Int64) (vnow : Nat → Int32) (vearlier : Nat → Int32) (x1 : Int32) (x2 : Int32) : Option (Int32 × ((Nat → Int32) × Int64) × (Nat → Int32) × (Nat → Int32)) := (F_X9_keepsForUndo vM vnow vearlier).bind (fun u1 => ck x1 306 (ck x1 306 (lt (upd vnow (Int32.toNatClampNeg x1) x2) (fun vnow_3 => (some ((vnow (Int32.toNatClampNeg x1)), u1.1, vnow_3, u1.2))))))
abbrev rm_X9_sets : Room := { frames := 2, cells := 0, slots := 0, locals := 45 }
set_option maxHeartbeats 4000000 in
set_option maxRecDepth 100000 in
theorem c_X9_sets (E : Ev) (l : Launch) (aM : Nat → Nat) (vM : (Nat → Int32) × Int64) (vnow : Nat → Int32) (vearlier : Nat → Int32) (x1 : Int32) (x2 : Int32) (r : Int32 × ((Nat → Int32) × Int64) × (Nat → Int32) × (Nat → Int32)) (hf : F_X9_sets vM vnow vearlier x1 x2 = some r) : CM E l yX9_sets (.code yX9_sets cX9_sets 4 (some .int) :: GA) rm_X9_sets [.ref (aM 0), .int x1, .int x2] (W_M aM vM ++ (W_A E (aM 1) 306 vnow ++ (W_A E (aM 4) 2448 vearlier))) (some (.int r.1)) (W_M aM r.2.1 ++ (W_A E (aM 1) 306 r.2.2.1 ++ (W_A E (aM 4) 2448 r.2.2.2))) := by
  refine CM.of (own := RX9) rfl (by decide) (Nat.le_of_ble_eq_true rfl) ?_
  intro p e s m below meth c A ls hx hb hr hml hown hg hlocks hK hE hA hP hD hS hl
  have hl : lv_has ls 4 [(0, .ref (aM 0)), (1, .int x1), (2, .int x2)] := hl
  unfold F_X9_sets at hf
  refine lv_aload_n hx hb dX9_sets_0 rfl (lv_at hl 0 rfl) ?_
  obtain ⟨u1, hu1, hf⟩ := bn hf
  refine cm_V (As := []) (rest := []) (w2 := (W_M aM u1.1 ++ (W_A E (aM 1) 306 vnow ++ (W_A E (aM 4) 2448 u1.2)))) hx hb hml hown hg (c_X9_keepsForUndo E l aM vM vnow vearlier u1 hu1) cy_X9_keepsForUndo ml_X9_262 ⟨⟨rfl, rfl⟩, Nat.le_of_ble_eq_true rfl, Nat.le_of_ble_eq_true rfl⟩ hK hE hP hD hS hA [true, true, true] rfl rfl rfl 0 rfl rfl rfl hl.1 rfl (Nat.le_of_ble_eq_true rfl) dX9_sets_1 ⟨Nat.le_of_ble_eq_true rfl, Nat.le_of_ble_eq_true rfl⟩ [] rfl (fun H locs hP hD hS => ?_)
  refine lv_aload_n hx hb dX9_sets_4 rfl (lv_at hl 0 rfl) ?_
  refine gf_X9_7 hx hb hg hown hK hP 0 rfl rfl dX9_sets_5 ?_
  refine lv_iload_n hx hb dX9_sets_8 rfl (lv_at hl 1 rfl) ?_
  obtain ⟨hi, hf⟩ := ck_o hf
  refine ar_ld hx hb hK hP 1 rfl hi dX9_sets_9 ?_
  refine lv_istore_n (lv' := [(3, .int (vnow (Int32.toNatClampNeg x1))), (0, .ref (aM 0)), (1, .int x1), (2, .int x2)]) hx hb dX9_sets_10 rfl hl (by decide) rfl (fun ls hl => ?_)
  refine lv_aload_n hx hb dX9_sets_11 rfl (lv_at hl 1 rfl) ?_
  refine gf_X9_7 hx hb hg hown hK hP 0 rfl rfl dX9_sets_12 ?_
  refine lv_iload_n hx hb dX9_sets_15 rfl (lv_at hl 2 rfl) ?_
  refine lv_iload_n hx hb dX9_sets_16 rfl (lv_at hl 3 rfl) ?_
  obtain ⟨hi, hf⟩ := ck_o hf
  refine ar_st (w2 := (W_M aM u1.1 ++ (W_A E (aM 1) 306 (upd vnow (Int32.toNatClampNeg x1) x2) ++ (W_A E (aM 4) 2448 u1.2)))) hx hb hK hP hD hS 1 rfl hi rfl dX9_sets_17 (fun H locs hP hD hS => ?_)
  obtain ⟨vnow_3, hv, hf⟩ := lt_o hf
  rw [← hv] at hP hD
  clear hv
  refine lv_iload_n hx hb dX9_sets_18 rfl (lv_at hl 0 rfl) ?_
  obtain rfl := Option.some.inj hf
  exact cm_iret hx hb hr hlocks hP hS dX9_sets_19
def F_X9_setRain (vM : (Nat → Int32) × Int64) (vnow : Nat → Int32) (vearlier : Nat → Int32) (x1 : Int32) : Option (Int32 × ((Nat → Int32) × Int64) × (Nat → Int32) × (Nat → Int32)) := lt (va_up vM.1 3 0, vM.2) (fun vM_3 => (F_X9_in x1 0 9).bind (fun u1 => (if u1 = 0 then (F_X9_fails vM_3 1).bind (fun u3 => (some (u3.1, u3.2, vnow, vearlier))) else (F_X9_sets vM_3 vnow vearlier 1 x1).bind (fun u2 => (some (u2.1, u2.2.1, u2.2.2.1, u2.2.2.2))))))
abbrev rm_X9_setRain : Room := { frames := 3, cells := 0, slots := 0, locals := 68 }
set_option maxHeartbeats 4000000 in
set_option maxRecDepth 100000 in
theorem c_X9_setRain (E : Ev) (l : Launch) (aM : Nat → Nat) (vM : (Nat → Int32) × Int64) (vnow : Nat → Int32) (vearlier : Nat → Int32) (x1 : Int32) (r : Int32 × ((Nat → Int32) × Int64) × (Nat → Int32) × (Nat → Int32)) (hf : F_X9_setRain vM vnow vearlier x1 = some r) : CM E l yX9_setRain (.code yX9_setRain cX9_setRain 2 (some .int) :: GA) rm_X9_setRain [.ref (aM 0), .int x1] (W_M aM vM ++ (W_A E (aM 1) 306 vnow ++ (W_A E (aM 4) 2448 vearlier))) (some (.int r.1)) (W_M aM r.2.1 ++ (W_A E (aM 1) 306 r.2.2.1 ++ (W_A E (aM 4) 2448 r.2.2.2))) := by
  refine CM.of (own := RX9) rfl (by decide) (Nat.le_of_ble_eq_true rfl) ?_
  intro p e s m below meth c A ls hx hb hr hml hown hg hlocks hK hE hA hP hD hS hl
  have hl : lv_has ls 2 [(0, .ref (aM 0)), (1, .int x1)] := hl
  unfold F_X9_setRain at hf
  refine lv_aload_n hx hb dX9_setRain_0 rfl (lv_at hl 0 rfl) ?_
  refine lv_iconst (v := 0) hx hb dX9_setRain_1 (by decide) ?_
  refine pf_X9_48 (w2 := (W_M aM (va_up vM.1 3 0, vM.2) ++ (W_A E (aM 1) 306 vnow ++ (W_A E (aM 4) 2448 vearlier)))) hx hb hg hown hK hP hD hS 0 rfl (Nat.le_of_ble_eq_true rfl) rfl dX9_setRain_2 (fun H locs hP hD hS => ?_)
  obtain ⟨vM_3, hv, hf⟩ := lt_o hf
  rw [← hv] at hP hD
  clear hv
  refine lv_iload_n hx hb dX9_setRain_5 rfl (lv_at hl 1 rfl) ?_
  refine lv_iconst (v := 0) hx hb dX9_setRain_6 (by decide) ?_
  refine lv_bipush (v := 9) hx hb dX9_setRain_7 (by decide) ?_
  obtain ⟨u1, hu1, hf⟩ := bn hf
  refine cm_S (As := [.int x1, .int 0, .int 9]) (rest := []) (w2 := (W_M aM vM_3 ++ (W_A E (aM 1) 306 vnow ++ (W_A E (aM 4) 2448 vearlier)))) hx hb hml hown hg (c_X9_in E l x1 0 9 u1 hu1) cs_X9_in ml_X9_55 ⟨⟨rfl, rfl⟩, Nat.le_of_ble_eq_true rfl, Nat.le_of_ble_eq_true rfl⟩ hK hE hP hD hS hA [] rfl rfl rfl rfl hl.1 rfl (Nat.le_of_ble_eq_true rfl) dX9_setRain_9 ⟨Nat.le_of_ble_eq_true rfl, Nat.le_of_ble_eq_true rfl⟩ [.int u1] rfl (fun H locs hP hD hS => ?_)
  refine lv_if_ne (tgt := 21) hx hb dX9_setRain_12 (by decide) (fun cq => ?_) (fun cq => ?_)
  · have hf := ie cq hf
    refine lv_aload_n hx hb dX9_setRain_21 rfl (lv_at hl 0 rfl) ?_
    refine lv_iconst (v := 1) hx hb dX9_setRain_22 (by decide) ?_
    refine lv_iload_n hx hb dX9_setRain_23 rfl (lv_at hl 1 rfl) ?_
    obtain ⟨u2, hu2, hf⟩ := bn hf
    refine cm_V (As := [.int 1, .int x1]) (rest := []) (w2 := (W_M aM u2.2.1 ++ (W_A E (aM 1) 306 u2.2.2.1 ++ (W_A E (aM 4) 2448 u2.2.2.2)))) hx hb hml hown hg (c_X9_sets E l aM vM_3 vnow vearlier 1 x1 u2 hu2) cy_X9_sets ml_X9_271 ⟨⟨rfl, rfl⟩, Nat.le_of_ble_eq_true rfl, Nat.le_of_ble_eq_true rfl⟩ hK hE hP hD hS hA [true, true, true] rfl rfl rfl 0 rfl rfl rfl hl.1 rfl (Nat.le_of_ble_eq_true rfl) dX9_setRain_24 ⟨Nat.le_of_ble_eq_true rfl, Nat.le_of_ble_eq_true rfl⟩ [.int u2.1] rfl (fun H locs hP hD hS => ?_)
    obtain rfl := Option.some.inj hf
    exact cm_iret hx hb hr hlocks hP hS dX9_setRain_27
  · have hf := it cq hf
    refine lv_aload_n hx hb dX9_setRain_15 rfl (lv_at hl 0 rfl) ?_
    refine lv_iconst (v := 1) hx hb dX9_setRain_16 (by decide) ?_
    obtain ⟨u3, hu3, hf⟩ := bn hf
    refine cm_V (As := [.int 1]) (rest := []) (w2 := (W_M aM u3.2 ++ (W_A E (aM 1) 306 vnow ++ (W_A E (aM 4) 2448 vearlier)))) hx hb hml hown hg (c_X9_fails E l aM vM_3 1 u3 hu3) cy_X9_fails ml_X9_133 ⟨⟨rfl, rfl⟩, Nat.le_of_ble_eq_true rfl, Nat.le_of_ble_eq_true rfl⟩ hK hE hP hD hS hA [true] rfl rfl rfl 0 rfl rfl rfl hl.1 rfl (Nat.le_of_ble_eq_true rfl) dX9_setRain_17 ⟨Nat.le_of_ble_eq_true rfl, Nat.le_of_ble_eq_true rfl⟩ [.int u3.1] rfl (fun H locs hP hD hS => ?_)
    obtain rfl := Option.some.inj hf
    exact cm_iret hx hb hr hlocks hP hS dX9_setRain_20
def F_X9_setNoiseLimit (vM : (Nat → Int32) × Int64) (vnow : Nat → Int32) (vearlier : Nat → Int32) (x1 : Int32) : Option (Int32 × ((Nat → Int32) × Int64) × (Nat → Int32) × (Nat → Int32)) := lt (va_up vM.1 3 0, vM.2) (fun vM_3 => (F_X9_in x1 0 999).bind (fun u1 => (if u1 = 0 then (F_X9_fails vM_3 1).bind (fun u3 => (some (u3.1, u3.2, vnow, vearlier))) else (F_X9_sets vM_3 vnow vearlier 2 x1).bind (fun u2 => (some (u2.1, u2.2.1, u2.2.2.1, u2.2.2.2))))))
abbrev rm_X9_setNoiseLimit : Room := { frames := 3, cells := 0, slots := 0, locals := 68 }
set_option maxHeartbeats 4000000 in
set_option maxRecDepth 100000 in
theorem c_X9_setNoiseLimit (E : Ev) (l : Launch) (aM : Nat → Nat) (vM : (Nat → Int32) × Int64) (vnow : Nat → Int32) (vearlier : Nat → Int32) (x1 : Int32) (r : Int32 × ((Nat → Int32) × Int64) × (Nat → Int32) × (Nat → Int32)) (hf : F_X9_setNoiseLimit vM vnow vearlier x1 = some r) : CM E l yX9_setNoiseLimit (.code yX9_setNoiseLimit cX9_setNoiseLimit 2 (some .int) :: GA) rm_X9_setNoiseLimit [.ref (aM 0), .int x1] (W_M aM vM ++ (W_A E (aM 1) 306 vnow ++ (W_A E (aM 4) 2448 vearlier))) (some (.int r.1)) (W_M aM r.2.1 ++ (W_A E (aM 1) 306 r.2.2.1 ++ (W_A E (aM 4) 2448 r.2.2.2))) := by
  refine CM.of (own := RX9) rfl (by decide) (Nat.le_of_ble_eq_true rfl) ?_
  intro p e s m below meth c A ls hx hb hr hml hown hg hlocks hK hE hA hP hD hS hl
  have hl : lv_has ls 2 [(0, .ref (aM 0)), (1, .int x1)] := hl
  unfold F_X9_setNoiseLimit at hf
  refine lv_aload_n hx hb dX9_setNoiseLimit_0 rfl (lv_at hl 0 rfl) ?_
  refine lv_iconst (v := 0) hx hb dX9_setNoiseLimit_1 (by decide) ?_
  refine pf_X9_48 (w2 := (W_M aM (va_up vM.1 3 0, vM.2) ++ (W_A E (aM 1) 306 vnow ++ (W_A E (aM 4) 2448 vearlier)))) hx hb hg hown hK hP hD hS 0 rfl (Nat.le_of_ble_eq_true rfl) rfl dX9_setNoiseLimit_2 (fun H locs hP hD hS => ?_)
  obtain ⟨vM_3, hv, hf⟩ := lt_o hf
  rw [← hv] at hP hD
  clear hv
  refine lv_iload_n hx hb dX9_setNoiseLimit_5 rfl (lv_at hl 1 rfl) ?_
  refine lv_iconst (v := 0) hx hb dX9_setNoiseLimit_6 (by decide) ?_
  refine lv_sipush (v := 999) hx hb dX9_setNoiseLimit_7 (by decide) ?_
  obtain ⟨u1, hu1, hf⟩ := bn hf
  refine cm_S (As := [.int x1, .int 0, .int 999]) (rest := []) (w2 := (W_M aM vM_3 ++ (W_A E (aM 1) 306 vnow ++ (W_A E (aM 4) 2448 vearlier)))) hx hb hml hown hg (c_X9_in E l x1 0 999 u1 hu1) cs_X9_in ml_X9_55 ⟨⟨rfl, rfl⟩, Nat.le_of_ble_eq_true rfl, Nat.le_of_ble_eq_true rfl⟩ hK hE hP hD hS hA [] rfl rfl rfl rfl hl.1 rfl (Nat.le_of_ble_eq_true rfl) dX9_setNoiseLimit_10 ⟨Nat.le_of_ble_eq_true rfl, Nat.le_of_ble_eq_true rfl⟩ [.int u1] rfl (fun H locs hP hD hS => ?_)
  refine lv_if_ne (tgt := 22) hx hb dX9_setNoiseLimit_13 (by decide) (fun cq => ?_) (fun cq => ?_)
  · have hf := ie cq hf
    refine lv_aload_n hx hb dX9_setNoiseLimit_22 rfl (lv_at hl 0 rfl) ?_
    refine lv_iconst (v := 2) hx hb dX9_setNoiseLimit_23 (by decide) ?_
    refine lv_iload_n hx hb dX9_setNoiseLimit_24 rfl (lv_at hl 1 rfl) ?_
    obtain ⟨u2, hu2, hf⟩ := bn hf
    refine cm_V (As := [.int 2, .int x1]) (rest := []) (w2 := (W_M aM u2.2.1 ++ (W_A E (aM 1) 306 u2.2.2.1 ++ (W_A E (aM 4) 2448 u2.2.2.2)))) hx hb hml hown hg (c_X9_sets E l aM vM_3 vnow vearlier 2 x1 u2 hu2) cy_X9_sets ml_X9_271 ⟨⟨rfl, rfl⟩, Nat.le_of_ble_eq_true rfl, Nat.le_of_ble_eq_true rfl⟩ hK hE hP hD hS hA [true, true, true] rfl rfl rfl 0 rfl rfl rfl hl.1 rfl (Nat.le_of_ble_eq_true rfl) dX9_setNoiseLimit_25 ⟨Nat.le_of_ble_eq_true rfl, Nat.le_of_ble_eq_true rfl⟩ [.int u2.1] rfl (fun H locs hP hD hS => ?_)
    obtain rfl := Option.some.inj hf
    exact cm_iret hx hb hr hlocks hP hS dX9_setNoiseLimit_28
  · have hf := it cq hf
    refine lv_aload_n hx hb dX9_setNoiseLimit_16 rfl (lv_at hl 0 rfl) ?_
    refine lv_iconst (v := 1) hx hb dX9_setNoiseLimit_17 (by decide) ?_
    obtain ⟨u3, hu3, hf⟩ := bn hf
    refine cm_V (As := [.int 1]) (rest := []) (w2 := (W_M aM u3.2 ++ (W_A E (aM 1) 306 vnow ++ (W_A E (aM 4) 2448 vearlier)))) hx hb hml hown hg (c_X9_fails E l aM vM_3 1 u3 hu3) cy_X9_fails ml_X9_133 ⟨⟨rfl, rfl⟩, Nat.le_of_ble_eq_true rfl, Nat.le_of_ble_eq_true rfl⟩ hK hE hP hD hS hA [true] rfl rfl rfl 0 rfl rfl rfl hl.1 rfl (Nat.le_of_ble_eq_true rfl) dX9_setNoiseLimit_18 ⟨Nat.le_of_ble_eq_true rfl, Nat.le_of_ble_eq_true rfl⟩ [.int u3.1] rfl (fun H locs hP hD hS => ?_)
    obtain rfl := Option.some.inj hf
    exact cm_iret hx hb hr hlocks hP hS dX9_setNoiseLimit_21
def F_X9_undo (vM : (Nat → Int32) × Int64) (vnow : Nat → Int32) (vearlier : Nat → Int32) : Option (Int32 × ((Nat → Int32) × Int64) × (Nat → Int32)) := lt (va_up vM.1 3 0, vM.2) (fun vM_5 => (if (vM_5.1 0) = 0 then (F_X9_fails vM_5 1).bind (fun u2 => (some (u2.1, u2.2, vnow))) else lt (va_up vM_5.1 0 ((vM_5.1 0) - 1), vM_5.2) (fun vM_6 => (F_X9_layRow_r 306 2448 vnow vearlier (306 * (vM_6.1 0)) 0).bind (fun u1 => (some ((vM_6.1 0), vM_6, u1))))))
abbrev rm_X9_undo : Room := { frames := 1, cells := 0, slots := 0, locals := 24 }
set_option maxHeartbeats 4000000 in
set_option maxRecDepth 100000 in
theorem c_X9_undo (E : Ev) (l : Launch) (aM : Nat → Nat) (vM : (Nat → Int32) × Int64) (vnow : Nat → Int32) (vearlier : Nat → Int32) (r : Int32 × ((Nat → Int32) × Int64) × (Nat → Int32)) (hf : F_X9_undo vM vnow vearlier = some r) : CM E l yX9_undo (.code yX9_undo cX9_undo 1 (some .int) :: GA) rm_X9_undo [.ref (aM 0)] (W_M aM vM ++ (W_A E (aM 1) 306 vnow ++ (W_A E (aM 4) 2448 vearlier))) (some (.int r.1)) (W_M aM r.2.1 ++ (W_A E (aM 1) 306 r.2.2 ++ (W_A E (aM 4) 2448 vearlier))) := by
  refine CM.of (own := RX9) rfl (by decide) (Nat.le_of_ble_eq_true rfl) ?_
  intro p e s m below meth c A ls hx hb hr hml hown hg hlocks hK hE hA hP hD hS hl
  have hl : lv_has ls 1 [(0, .ref (aM 0))] := hl
  unfold F_X9_undo at hf
  refine lv_aload_n hx hb dX9_undo_0 rfl (lv_at hl 0 rfl) ?_
  refine lv_iconst (v := 0) hx hb dX9_undo_1 (by decide) ?_
  refine pf_X9_48 (w2 := (W_M aM (va_up vM.1 3 0, vM.2) ++ (W_A E (aM 1) 306 vnow ++ (W_A E (aM 4) 2448 vearlier)))) hx hb hg hown hK hP hD hS 0 rfl (Nat.le_of_ble_eq_true rfl) rfl dX9_undo_2 (fun H locs hP hD hS => ?_)
  obtain ⟨vM_5, hv, hf⟩ := lt_o hf
  rw [← hv] at hP hD
  clear hv
  refine lv_aload_n hx hb dX9_undo_5 rfl (lv_at hl 0 rfl) ?_
  refine gf_X9_212 hx hb hg hown hK hP 0 rfl rfl dX9_undo_6 ?_
  refine lv_if_ne (tgt := 18) hx hb dX9_undo_9 (by decide) (fun cq => ?_) (fun cq => ?_)
  · have hf := ie cq hf
    refine lv_aload_n hx hb dX9_undo_18 rfl (lv_at hl 0 rfl) ?_
    refine lv_dup hx hb dX9_undo_19 rfl ?_
    refine gf_X9_212 hx hb hg hown hK hP 0 rfl rfl dX9_undo_20 ?_
    refine lv_iconst (v := 1) hx hb dX9_undo_23 (by decide) ?_
    refine lv_isub hx hb dX9_undo_24 ?_
    refine pf_X9_212 (w2 := (W_M aM (va_up vM_5.1 0 ((vM_5.1 0) - 1), vM_5.2) ++ (W_A E (aM 1) 306 vnow ++ (W_A E (aM 4) 2448 vearlier)))) hx hb hg hown hK hP hD hS 0 rfl (Nat.le_of_ble_eq_true rfl) rfl dX9_undo_25 (fun H locs hP hD hS => ?_)
    obtain ⟨vM_6, hv, hf⟩ := lt_o hf
    rw [← hv] at hP hD
    clear hv
    refine lv_aload_n hx hb dX9_undo_28 rfl (lv_at hl 0 rfl) ?_
    refine gf_X9_19 hx hb hg hown hK hP 0 rfl rfl dX9_undo_29 ?_
    refine lv_sipush (v := 306) hx hb dX9_undo_32 (by decide) ?_
    refine lv_aload_n hx hb dX9_undo_35 rfl (lv_at hl 0 rfl) ?_
    refine gf_X9_212 hx hb hg hown hK hP 0 rfl rfl dX9_undo_36 ?_
    refine lv_imul hx hb dX9_undo_39 ?_
    refine lv_aload_n hx hb dX9_undo_40 rfl (lv_at hl 0 rfl) ?_
    refine gf_X9_7 hx hb hg hown hK hP 0 rfl rfl dX9_undo_41 ?_
    refine lv_iconst (v := 0) hx hb dX9_undo_44 (by decide) ?_
    obtain ⟨u1, hu1, hf⟩ := bn hf
    refine cm_S (As := [.ref (aM 4), .int (306 * (vM_6.1 0)), .ref (aM 1), .int 0]) (rest := []) (w2 := (W_M aM vM_6 ++ (W_A E (aM 1) 306 u1 ++ (W_A E (aM 4) 2448 vearlier)))) hx hb hml hown hg (c_X9_layRow_r E l (aM 1) 306 (aM 4) 2448 vnow vearlier (306 * (vM_6.1 0)) 0 u1 hu1) cs_X9_layRow ml_X9_51 ⟨⟨rfl, rfl⟩, Nat.le_of_ble_eq_true rfl, Nat.le_of_ble_eq_true rfl⟩ hK hE hP hD hS hA [false, true, true] rfl rfl rfl rfl hl.1 rfl (Nat.le_of_ble_eq_true rfl) dX9_undo_45 ⟨Nat.le_of_ble_eq_true rfl, Nat.le_of_ble_eq_true rfl⟩ [] rfl (fun H locs hP hD hS => ?_)
    refine lv_aload_n hx hb dX9_undo_48 rfl (lv_at hl 0 rfl) ?_
    refine gf_X9_212 hx hb hg hown hK hP 0 rfl rfl dX9_undo_49 ?_
    obtain rfl := Option.some.inj hf
    exact cm_iret hx hb hr hlocks hP hS dX9_undo_52
  · have hf := it cq hf
    refine lv_aload_n hx hb dX9_undo_12 rfl (lv_at hl 0 rfl) ?_
    refine lv_iconst (v := 1) hx hb dX9_undo_13 (by decide) ?_
    obtain ⟨u2, hu2, hf⟩ := bn hf
    refine cm_V (As := [.int 1]) (rest := []) (w2 := (W_M aM u2.2 ++ (W_A E (aM 1) 306 vnow ++ (W_A E (aM 4) 2448 vearlier)))) hx hb hml hown hg (c_X9_fails E l aM vM_5 1 u2 hu2) cy_X9_fails ml_X9_133 ⟨⟨rfl, rfl⟩, Nat.le_of_ble_eq_true rfl, Nat.le_of_ble_eq_true rfl⟩ hK hE hP hD hS hA [true] rfl rfl rfl 0 rfl rfl rfl hl.1 rfl (Nat.le_of_ble_eq_true rfl) dX9_undo_14 ⟨Nat.le_of_ble_eq_true rfl, Nat.le_of_ble_eq_true rfl⟩ [.int u2.1] rfl (fun H locs hP hD hS => ?_)
    obtain rfl := Option.some.inj hf
    exact cm_iret hx hb hr hlocks hP hS dX9_undo_17
def F_X9_saveSnapshot (vM : (Nat → Int32) × Int64) (vnow : Nat → Int32) (vslots : Nat → Int32) (visKept : Nat → Int32) (x1 : Int32) : Option (Int32 × ((Nat → Int32) × Int64) × (Nat → Int32) × (Nat → Int32)) := lt (va_up vM.1 3 0, vM.2) (fun vM_5 => (F_X9_in x1 0 1).bind (fun u1 => (if u1 = 0 then (F_X9_fails vM_5 1).bind (fun u3 => (some (u3.1, u3.2, vslots, visKept))) else (F_X9_layRow_d 306 612 vnow vslots 0 (306 * x1)).bind (fun u2 => ck x1 2 (lt (upd visKept (Int32.toNatClampNeg x1) 1) (fun visKept_6 => ck 0 306 ((some ((vnow (Int32.toNatClampNeg 0)), vM_5, u2, visKept_6)))))))))
abbrev rm_X9_saveSnapshot : Room := { frames := 1, cells := 0, slots := 0, locals := 24 }
set_option maxHeartbeats 4000000 in
set_option maxRecDepth 100000 in
theorem c_X9_saveSnapshot (E : Ev) (l : Launch) (aM : Nat → Nat) (vM : (Nat → Int32) × Int64) (vnow : Nat → Int32) (vslots : Nat → Int32) (visKept : Nat → Int32) (x1 : Int32) (r : Int32 × ((Nat → Int32) × Int64) × (Nat → Int32) × (Nat → Int32)) (hf : F_X9_saveSnapshot vM vnow vslots visKept x1 = some r) : CM E l yX9_saveSnapshot (.code yX9_saveSnapshot cX9_saveSnapshot 2 (some .int) :: GA) rm_X9_saveSnapshot [.ref (aM 0), .int x1] (W_M aM vM ++ (W_A E (aM 1) 306 vnow ++ (W_A E (aM 5) 612 vslots ++ (W_Z E (aM 6) 2 visKept)))) (some (.int r.1)) (W_M aM r.2.1 ++ (W_A E (aM 1) 306 vnow ++ (W_A E (aM 5) 612 r.2.2.1 ++ (W_Z E (aM 6) 2 r.2.2.2)))) := by
  refine CM.of (own := RX9) rfl (by decide) (Nat.le_of_ble_eq_true rfl) ?_
  intro p e s m below meth c A ls hx hb hr hml hown hg hlocks hK hE hA hP hD hS hl
  have hl : lv_has ls 2 [(0, .ref (aM 0)), (1, .int x1)] := hl
  unfold F_X9_saveSnapshot at hf
  refine lv_aload_n hx hb dX9_saveSnapshot_0 rfl (lv_at hl 0 rfl) ?_
  refine lv_iconst (v := 0) hx hb dX9_saveSnapshot_1 (by decide) ?_
  refine pf_X9_48 (w2 := (W_M aM (va_up vM.1 3 0, vM.2) ++ (W_A E (aM 1) 306 vnow ++ (W_A E (aM 5) 612 vslots ++ (W_Z E (aM 6) 2 visKept))))) hx hb hg hown hK hP hD hS 0 rfl (Nat.le_of_ble_eq_true rfl) rfl dX9_saveSnapshot_2 (fun H locs hP hD hS => ?_)
  obtain ⟨vM_5, hv, hf⟩ := lt_o hf
  rw [← hv] at hP hD
  clear hv
  refine lv_iload_n hx hb dX9_saveSnapshot_5 rfl (lv_at hl 1 rfl) ?_
  refine lv_iconst (v := 0) hx hb dX9_saveSnapshot_6 (by decide) ?_
  refine lv_iconst (v := 1) hx hb dX9_saveSnapshot_7 (by decide) ?_
  obtain ⟨u1, hu1, hf⟩ := bn hf
  refine cm_S (As := [.int x1, .int 0, .int 1]) (rest := []) (w2 := (W_M aM vM_5 ++ (W_A E (aM 1) 306 vnow ++ (W_A E (aM 5) 612 vslots ++ (W_Z E (aM 6) 2 visKept))))) hx hb hml hown hg (c_X9_in E l x1 0 1 u1 hu1) cs_X9_in ml_X9_55 ⟨⟨rfl, rfl⟩, Nat.le_of_ble_eq_true rfl, Nat.le_of_ble_eq_true rfl⟩ hK hE hP hD hS hA [] rfl rfl rfl rfl hl.1 rfl (Nat.le_of_ble_eq_true rfl) dX9_saveSnapshot_8 ⟨Nat.le_of_ble_eq_true rfl, Nat.le_of_ble_eq_true rfl⟩ [.int u1] rfl (fun H locs hP hD hS => ?_)
  refine lv_if_ne (tgt := 20) hx hb dX9_saveSnapshot_11 (by decide) (fun cq => ?_) (fun cq => ?_)
  · have hf := ie cq hf
    refine lv_aload_n hx hb dX9_saveSnapshot_20 rfl (lv_at hl 0 rfl) ?_
    refine gf_X9_7 hx hb hg hown hK hP 0 rfl rfl dX9_saveSnapshot_21 ?_
    refine lv_iconst (v := 0) hx hb dX9_saveSnapshot_24 (by decide) ?_
    refine lv_aload_n hx hb dX9_saveSnapshot_25 rfl (lv_at hl 0 rfl) ?_
    refine gf_X9_22 hx hb hg hown hK hP 0 rfl rfl dX9_saveSnapshot_26 ?_
    refine lv_sipush (v := 306) hx hb dX9_saveSnapshot_29 (by decide) ?_
    refine lv_iload_n hx hb dX9_saveSnapshot_32 rfl (lv_at hl 1 rfl) ?_
    refine lv_imul hx hb dX9_saveSnapshot_33 ?_
    obtain ⟨u2, hu2, hf⟩ := bn hf
    refine cm_S (As := [.ref (aM 1), .int 0, .ref (aM 5), .int (306 * x1)]) (rest := []) (w2 := (W_M aM vM_5 ++ (W_A E (aM 1) 306 vnow ++ (W_A E (aM 5) 612 u2 ++ (W_Z E (aM 6) 2 visKept))))) hx hb hml hown hg (c_X9_layRow_d E l (aM 1) 306 (aM 5) 612 vnow vslots 0 (306 * x1) u2 hu2) cs_X9_layRow ml_X9_51 ⟨⟨rfl, rfl⟩, Nat.le_of_ble_eq_true rfl, Nat.le_of_ble_eq_true rfl⟩ hK hE hP hD hS hA [false, true, true] rfl rfl rfl rfl hl.1 rfl (Nat.le_of_ble_eq_true rfl) dX9_saveSnapshot_34 ⟨Nat.le_of_ble_eq_true rfl, Nat.le_of_ble_eq_true rfl⟩ [] rfl (fun H locs hP hD hS => ?_)
    refine lv_aload_n hx hb dX9_saveSnapshot_37 rfl (lv_at hl 0 rfl) ?_
    refine gf_X9_25 hx hb hg hown hK hP 0 rfl rfl dX9_saveSnapshot_38 ?_
    refine lv_iload_n hx hb dX9_saveSnapshot_41 rfl (lv_at hl 1 rfl) ?_
    refine lv_iconst (v := 1) hx hb dX9_saveSnapshot_42 (by decide) ?_
    obtain ⟨hi, hf⟩ := ck_o hf
    refine az_st (w2 := (W_M aM vM_5 ++ (W_A E (aM 1) 306 vnow ++ (W_A E (aM 5) 612 u2 ++ (W_Z E (aM 6) 2 (upd visKept (Int32.toNatClampNeg x1) 1)))))) hx hb hK hP hD hS 3 rfl hi rfl rfl dX9_saveSnapshot_43 (fun H locs hP hD hS => ?_)
    obtain ⟨visKept_6, hv, hf⟩ := lt_o hf
    rw [← hv] at hP hD
    clear hv
    refine lv_aload_n hx hb dX9_saveSnapshot_44 rfl (lv_at hl 0 rfl) ?_
    refine gf_X9_7 hx hb hg hown hK hP 0 rfl rfl dX9_saveSnapshot_45 ?_
    refine lv_iconst (v := 0) hx hb dX9_saveSnapshot_48 (by decide) ?_
    obtain ⟨hi, hf⟩ := ck_o hf
    refine ar_ld hx hb hK hP 1 rfl hi dX9_saveSnapshot_49 ?_
    obtain rfl := Option.some.inj hf
    exact cm_iret hx hb hr hlocks hP hS dX9_saveSnapshot_50
  · have hf := it cq hf
    refine lv_aload_n hx hb dX9_saveSnapshot_14 rfl (lv_at hl 0 rfl) ?_
    refine lv_iconst (v := 1) hx hb dX9_saveSnapshot_15 (by decide) ?_
    obtain ⟨u3, hu3, hf⟩ := bn hf
    refine cm_V (As := [.int 1]) (rest := []) (w2 := (W_M aM u3.2 ++ (W_A E (aM 1) 306 vnow ++ (W_A E (aM 5) 612 vslots ++ (W_Z E (aM 6) 2 visKept))))) hx hb hml hown hg (c_X9_fails E l aM vM_5 1 u3 hu3) cy_X9_fails ml_X9_133 ⟨⟨rfl, rfl⟩, Nat.le_of_ble_eq_true rfl, Nat.le_of_ble_eq_true rfl⟩ hK hE hP hD hS hA [true] rfl rfl rfl 0 rfl rfl rfl hl.1 rfl (Nat.le_of_ble_eq_true rfl) dX9_saveSnapshot_16 ⟨Nat.le_of_ble_eq_true rfl, Nat.le_of_ble_eq_true rfl⟩ [.int u3.1] rfl (fun H locs hP hD hS => ?_)
    obtain rfl := Option.some.inj hf
    exact cm_iret hx hb hr hlocks hP hS dX9_saveSnapshot_19
def F_X9_restoreSnapshot (vM : (Nat → Int32) × Int64) (vnow : Nat → Int32) (vearlier : Nat → Int32) (vslots : Nat → Int32) (visKept : Nat → Int32) (x1 : Int32) : Option (Int32 × ((Nat → Int32) × Int64) × (Nat → Int32) × (Nat → Int32)) := lt (va_up vM.1 3 0, vM.2) (fun vM_3 => (F_X9_in x1 0 1).bind (fun u1 => (if u1 = 0 then (F_X9_fails vM_3 1).bind (fun u5 => (some (u5.1, u5.2, vnow, vearlier))) else ck x1 2 ((if (visKept (Int32.toNatClampNeg x1)) = 0 then (F_X9_fails vM_3 2).bind (fun u4 => (some (u4.1, u4.2, vnow, vearlier))) else (F_X9_keepsForUndo vM_3 vnow vearlier).bind (fun u2 => (F_X9_layRow_r 306 612 vnow vslots (306 * x1) 0).bind (fun u3 => ck 0 306 ((some ((u3 (Int32.toNatClampNeg 0)), u2.1, u3, u2.2))))))))))
abbrev rm_X9_restoreSnapshot : Room := { frames := 2, cells := 0, slots := 0, locals := 45 }
set_option maxHeartbeats 4000000 in
set_option maxRecDepth 100000 in
theorem c_X9_restoreSnapshot (E : Ev) (l : Launch) (aM : Nat → Nat) (vM : (Nat → Int32) × Int64) (vnow : Nat → Int32) (vearlier : Nat → Int32) (vslots : Nat → Int32) (visKept : Nat → Int32) (x1 : Int32) (r : Int32 × ((Nat → Int32) × Int64) × (Nat → Int32) × (Nat → Int32)) (hf : F_X9_restoreSnapshot vM vnow vearlier vslots visKept x1 = some r) : CM E l yX9_restoreSnapshot (.code yX9_restoreSnapshot cX9_restoreSnapshot 2 (some .int) :: GA) rm_X9_restoreSnapshot [.ref (aM 0), .int x1] (W_M aM vM ++ (W_A E (aM 1) 306 vnow ++ (W_A E (aM 4) 2448 vearlier ++ (W_A E (aM 5) 612 vslots ++ (W_Z E (aM 6) 2 visKept))))) (some (.int r.1)) (W_M aM r.2.1 ++ (W_A E (aM 1) 306 r.2.2.1 ++ (W_A E (aM 4) 2448 r.2.2.2 ++ (W_A E (aM 5) 612 vslots ++ (W_Z E (aM 6) 2 visKept))))) := by
  refine CM.of (own := RX9) rfl (by decide) (Nat.le_of_ble_eq_true rfl) ?_
  intro p e s m below meth c A ls hx hb hr hml hown hg hlocks hK hE hA hP hD hS hl
  have hl : lv_has ls 2 [(0, .ref (aM 0)), (1, .int x1)] := hl
  unfold F_X9_restoreSnapshot at hf
  refine lv_aload_n hx hb dX9_restoreSnapshot_0 rfl (lv_at hl 0 rfl) ?_
  refine lv_iconst (v := 0) hx hb dX9_restoreSnapshot_1 (by decide) ?_
  refine pf_X9_48 (w2 := (W_M aM (va_up vM.1 3 0, vM.2) ++ (W_A E (aM 1) 306 vnow ++ (W_A E (aM 4) 2448 vearlier ++ (W_A E (aM 5) 612 vslots ++ (W_Z E (aM 6) 2 visKept)))))) hx hb hg hown hK hP hD hS 0 rfl (Nat.le_of_ble_eq_true rfl) rfl dX9_restoreSnapshot_2 (fun H locs hP hD hS => ?_)
  obtain ⟨vM_3, hv, hf⟩ := lt_o hf
  rw [← hv] at hP hD
  clear hv
  refine lv_iload_n hx hb dX9_restoreSnapshot_5 rfl (lv_at hl 1 rfl) ?_
  refine lv_iconst (v := 0) hx hb dX9_restoreSnapshot_6 (by decide) ?_
  refine lv_iconst (v := 1) hx hb dX9_restoreSnapshot_7 (by decide) ?_
  obtain ⟨u1, hu1, hf⟩ := bn hf
  refine cm_S (As := [.int x1, .int 0, .int 1]) (rest := []) (w2 := (W_M aM vM_3 ++ (W_A E (aM 1) 306 vnow ++ (W_A E (aM 4) 2448 vearlier ++ (W_A E (aM 5) 612 vslots ++ (W_Z E (aM 6) 2 visKept)))))) hx hb hml hown hg (c_X9_in E l x1 0 1 u1 hu1) cs_X9_in ml_X9_55 ⟨⟨rfl, rfl⟩, Nat.le_of_ble_eq_true rfl, Nat.le_of_ble_eq_true rfl⟩ hK hE hP hD hS hA [] rfl rfl rfl rfl hl.1 rfl (Nat.le_of_ble_eq_true rfl) dX9_restoreSnapshot_8 ⟨Nat.le_of_ble_eq_true rfl, Nat.le_of_ble_eq_true rfl⟩ [.int u1] rfl (fun H locs hP hD hS => ?_)
  refine lv_if_ne (tgt := 20) hx hb dX9_restoreSnapshot_11 (by decide) (fun cq => ?_) (fun cq => ?_)
  · have hf := ie cq hf
    refine lv_aload_n hx hb dX9_restoreSnapshot_20 rfl (lv_at hl 0 rfl) ?_
    refine gf_X9_25 hx hb hg hown hK hP 0 rfl rfl dX9_restoreSnapshot_21 ?_
    refine lv_iload_n hx hb dX9_restoreSnapshot_24 rfl (lv_at hl 1 rfl) ?_
    obtain ⟨hi, hf⟩ := ck_o hf
    refine az_ld hx hb hK hP 4 rfl hi dX9_restoreSnapshot_25 ?_
    refine lv_if_ne (tgt := 35) hx hb dX9_restoreSnapshot_26 (by decide) (fun cq => ?_) (fun cq => ?_)
    · have hf := ie cq hf
      refine lv_aload_n hx hb dX9_restoreSnapshot_35 rfl (lv_at hl 0 rfl) ?_
      obtain ⟨u2, hu2, hf⟩ := bn hf
      refine cm_V (As := []) (rest := []) (w2 := (W_M aM u2.1 ++ (W_A E (aM 1) 306 vnow ++ (W_A E (aM 4) 2448 u2.2 ++ (W_A E (aM 5) 612 vslots ++ (W_Z E (aM 6) 2 visKept)))))) hx hb hml hown hg (c_X9_keepsForUndo E l aM vM_3 vnow vearlier u2 hu2) cy_X9_keepsForUndo ml_X9_262 ⟨⟨rfl, rfl⟩, Nat.le_of_ble_eq_true rfl, Nat.le_of_ble_eq_true rfl⟩ hK hE hP hD hS hA [true, true, true] rfl rfl rfl 0 rfl rfl rfl hl.1 rfl (Nat.le_of_ble_eq_true rfl) dX9_restoreSnapshot_36 ⟨Nat.le_of_ble_eq_true rfl, Nat.le_of_ble_eq_true rfl⟩ [] rfl (fun H locs hP hD hS => ?_)
      refine lv_aload_n hx hb dX9_restoreSnapshot_39 rfl (lv_at hl 0 rfl) ?_
      refine gf_X9_22 hx hb hg hown hK hP 0 rfl rfl dX9_restoreSnapshot_40 ?_
      refine lv_sipush (v := 306) hx hb dX9_restoreSnapshot_43 (by decide) ?_
      refine lv_iload_n hx hb dX9_restoreSnapshot_46 rfl (lv_at hl 1 rfl) ?_
      refine lv_imul hx hb dX9_restoreSnapshot_47 ?_
      refine lv_aload_n hx hb dX9_restoreSnapshot_48 rfl (lv_at hl 0 rfl) ?_
      refine gf_X9_7 hx hb hg hown hK hP 0 rfl rfl dX9_restoreSnapshot_49 ?_
      refine lv_iconst (v := 0) hx hb dX9_restoreSnapshot_52 (by decide) ?_
      obtain ⟨u3, hu3, hf⟩ := bn hf
      refine cm_S (As := [.ref (aM 5), .int (306 * x1), .ref (aM 1), .int 0]) (rest := []) (w2 := (W_M aM u2.1 ++ (W_A E (aM 1) 306 u3 ++ (W_A E (aM 4) 2448 u2.2 ++ (W_A E (aM 5) 612 vslots ++ (W_Z E (aM 6) 2 visKept)))))) hx hb hml hown hg (c_X9_layRow_r E l (aM 1) 306 (aM 5) 612 vnow vslots (306 * x1) 0 u3 hu3) cs_X9_layRow ml_X9_51 ⟨⟨rfl, rfl⟩, Nat.le_of_ble_eq_true rfl, Nat.le_of_ble_eq_true rfl⟩ hK hE hP hD hS hA [false, true, false, true] rfl rfl rfl rfl hl.1 rfl (Nat.le_of_ble_eq_true rfl) dX9_restoreSnapshot_53 ⟨Nat.le_of_ble_eq_true rfl, Nat.le_of_ble_eq_true rfl⟩ [] rfl (fun H locs hP hD hS => ?_)
      refine lv_aload_n hx hb dX9_restoreSnapshot_56 rfl (lv_at hl 0 rfl) ?_
      refine gf_X9_7 hx hb hg hown hK hP 0 rfl rfl dX9_restoreSnapshot_57 ?_
      refine lv_iconst (v := 0) hx hb dX9_restoreSnapshot_60 (by decide) ?_
      obtain ⟨hi, hf⟩ := ck_o hf
      refine ar_ld hx hb hK hP 1 rfl hi dX9_restoreSnapshot_61 ?_
      obtain rfl := Option.some.inj hf
      exact cm_iret hx hb hr hlocks hP hS dX9_restoreSnapshot_62
    · have hf := it cq hf
      refine lv_aload_n hx hb dX9_restoreSnapshot_29 rfl (lv_at hl 0 rfl) ?_
      refine lv_iconst (v := 2) hx hb dX9_restoreSnapshot_30 (by decide) ?_
      obtain ⟨u4, hu4, hf⟩ := bn hf
      refine cm_V (As := [.int 2]) (rest := []) (w2 := (W_M aM u4.2 ++ (W_A E (aM 1) 306 vnow ++ (W_A E (aM 4) 2448 vearlier ++ (W_A E (aM 5) 612 vslots ++ (W_Z E (aM 6) 2 visKept)))))) hx hb hml hown hg (c_X9_fails E l aM vM_3 2 u4 hu4) cy_X9_fails ml_X9_133 ⟨⟨rfl, rfl⟩, Nat.le_of_ble_eq_true rfl, Nat.le_of_ble_eq_true rfl⟩ hK hE hP hD hS hA [true] rfl rfl rfl 0 rfl rfl rfl hl.1 rfl (Nat.le_of_ble_eq_true rfl) dX9_restoreSnapshot_31 ⟨Nat.le_of_ble_eq_true rfl, Nat.le_of_ble_eq_true rfl⟩ [.int u4.1] rfl (fun H locs hP hD hS => ?_)
      obtain rfl := Option.some.inj hf
      exact cm_iret hx hb hr hlocks hP hS dX9_restoreSnapshot_34
  · have hf := it cq hf
    refine lv_aload_n hx hb dX9_restoreSnapshot_14 rfl (lv_at hl 0 rfl) ?_
    refine lv_iconst (v := 1) hx hb dX9_restoreSnapshot_15 (by decide) ?_
    obtain ⟨u5, hu5, hf⟩ := bn hf
    refine cm_V (As := [.int 1]) (rest := []) (w2 := (W_M aM u5.2 ++ (W_A E (aM 1) 306 vnow ++ (W_A E (aM 4) 2448 vearlier ++ (W_A E (aM 5) 612 vslots ++ (W_Z E (aM 6) 2 visKept)))))) hx hb hml hown hg (c_X9_fails E l aM vM_3 1 u5 hu5) cy_X9_fails ml_X9_133 ⟨⟨rfl, rfl⟩, Nat.le_of_ble_eq_true rfl, Nat.le_of_ble_eq_true rfl⟩ hK hE hP hD hS hA [true] rfl rfl rfl 0 rfl rfl rfl hl.1 rfl (Nat.le_of_ble_eq_true rfl) dX9_restoreSnapshot_16 ⟨Nat.le_of_ble_eq_true rfl, Nat.le_of_ble_eq_true rfl⟩ [.int u5.1] rfl (fun H locs hP hD hS => ?_)
    obtain rfl := Option.some.inj hf
    exact cm_iret hx hb hr hlocks hP hS dX9_restoreSnapshot_19
def F_X9_writes (vM : (Nat → Int32) × Int64) (vout : Nat → Int32) (x1 : Int32) : Option (((Nat → Int32) × Int64) × (Nat → Int32)) := ck (vM.1 9) 400 (lt (upd vout (Int32.toNatClampNeg (vM.1 9)) x1) (fun vout_5 => lt (va_up vM.1 9 ((vM.1 9) + 1), vM.2) (fun vM_6 => (some (vM_6, vout_5)))))
abbrev rm_X9_writes : Room := { frames := 0, cells := 0, slots := 0, locals := 0 }
set_option maxHeartbeats 4000000 in
set_option maxRecDepth 100000 in
theorem c_X9_writes (E : Ev) (l : Launch) (aM : Nat → Nat) (vM : (Nat → Int32) × Int64) (vout : Nat → Int32) (x1 : Int32) (r : ((Nat → Int32) × Int64) × (Nat → Int32)) (hf : F_X9_writes vM vout x1 = some r) : CM E l yX9_writes (.code yX9_writes cX9_writes 2 none :: GA) rm_X9_writes [.ref (aM 0), .int x1] (W_M aM vM ++ (W_A E (aM 8) 400 vout)) none (W_M aM r.1 ++ (W_A E (aM 8) 400 r.2)) := by
  refine CM.of (own := RX9) rfl (by decide) (Nat.le_of_ble_eq_true rfl) ?_
  intro p e s m below meth c A ls hx hb hr hml hown hg hlocks hK hE hA hP hD hS hl
  have hl : lv_has ls 2 [(0, .ref (aM 0)), (1, .int x1)] := hl
  unfold F_X9_writes at hf
  refine lv_aload_n hx hb dX9_writes_0 rfl (lv_at hl 0 rfl) ?_
  refine gf_X9_36 hx hb hg hown hK hP 0 rfl rfl dX9_writes_1 ?_
  refine lv_aload_n hx hb dX9_writes_4 rfl (lv_at hl 0 rfl) ?_
  refine gf_X9_274 hx hb hg hown hK hP 0 rfl rfl dX9_writes_5 ?_
  refine lv_iload_n hx hb dX9_writes_8 rfl (lv_at hl 1 rfl) ?_
  obtain ⟨hi, hf⟩ := ck_o hf
  refine ar_st (w2 := (W_M aM vM ++ (W_A E (aM 8) 400 (upd vout (Int32.toNatClampNeg (vM.1 9)) x1)))) hx hb hK hP hD hS 1 rfl hi rfl dX9_writes_9 (fun H locs hP hD hS => ?_)
  obtain ⟨vout_5, hv, hf⟩ := lt_o hf
  rw [← hv] at hP hD
  clear hv
  refine lv_aload_n hx hb dX9_writes_10 rfl (lv_at hl 0 rfl) ?_
  refine lv_dup hx hb dX9_writes_11 rfl ?_
  refine gf_X9_274 hx hb hg hown hK hP 0 rfl rfl dX9_writes_12 ?_
  refine lv_iconst (v := 1) hx hb dX9_writes_15 (by decide) ?_
  refine lv_iadd hx hb dX9_writes_16 ?_
  refine pf_X9_274 (w2 := (W_M aM (va_up vM.1 9 ((vM.1 9) + 1), vM.2) ++ (W_A E (aM 8) 400 vout_5))) hx hb hg hown hK hP hD hS 0 rfl (Nat.le_of_ble_eq_true rfl) rfl dX9_writes_17 (fun H locs hP hD hS => ?_)
  obtain ⟨vM_6, hv, hf⟩ := lt_o hf
  rw [← hv] at hP hD
  clear hv
  obtain rfl := Option.some.inj hf
  exact cm_vret hx hb hr hlocks hP hS dX9_writes_20
def B_X9_writesNumber_18 (rec : Int32 → ((Nat → Int32) × Int64) → (Nat → Int32) → Option (((Nat → Int32) × Int64) × (Nat → Int32))) (x1 : Int32) (x2 : Int32) (vM : (Nat → Int32) × Int64) (vout : Nat → Int32) : Option (((Nat → Int32) × Int64) × (Nat → Int32)) := (if x2 ≤ 0 then (some (vM, vout)) else cn (¬ x2 = 0) ((F_X9_writes vM vout (48 + ((x1 / x2) - (x1 / x2) / 10 * 10))).bind (fun u1 => (rec (x2 / 10) u1.1 u1.2))))
def L_X9_writesNumber_18 (x1 : Int32) : Nat → Int32 → ((Nat → Int32) × Int64) → (Nat → Int32) → Option (((Nat → Int32) × Int64) × (Nat → Int32))
  | 0 => fun _ _ _ => none
  | n + 1 => fun x2 vM vout => B_X9_writesNumber_18 (L_X9_writesNumber_18 x1 n) x1 x2 vM vout
def B_X9_writesNumber_2 (rec : Int32 → ((Nat → Int32) × Int64) → (Nat → Int32) → Option (((Nat → Int32) × Int64) × (Nat → Int32))) (x1 : Int32) (x2 : Int32) (vM : (Nat → Int32) × Int64) (vout : Nat → Int32) : Option (((Nat → Int32) × Int64) × (Nat → Int32)) := (if (x1 / 10) < x2 then (L_X9_writesNumber_18 x1 FU x2 vM vout) else (rec (x2 * 10) vM vout))
def L_X9_writesNumber_2 (x1 : Int32) : Nat → Int32 → ((Nat → Int32) × Int64) → (Nat → Int32) → Option (((Nat → Int32) × Int64) × (Nat → Int32))
  | 0 => fun _ _ _ => none
  | n + 1 => fun x2 vM vout => B_X9_writesNumber_2 (L_X9_writesNumber_2 x1 n) x1 x2 vM vout
def F_X9_writesNumber (vM : (Nat → Int32) × Int64) (vout : Nat → Int32) (x1 : Int32) : Option (((Nat → Int32) × Int64) × (Nat → Int32)) := (L_X9_writesNumber_2 x1 FU 1 vM vout)
abbrev rm_X9_writesNumber : Room := { frames := 1, cells := 0, slots := 0, locals := 21 }
set_option maxHeartbeats 4000000 in
set_option maxRecDepth 100000 in
theorem c_X9_writesNumber (E : Ev) (l : Launch) (aM : Nat → Nat) (vM : (Nat → Int32) × Int64) (vout : Nat → Int32) (x1 : Int32) (r : ((Nat → Int32) × Int64) × (Nat → Int32)) (hf : F_X9_writesNumber vM vout x1 = some r) : CM E l yX9_writesNumber (.code yX9_writesNumber cX9_writesNumber 3 none :: GA) rm_X9_writesNumber [.ref (aM 0), .int x1] (W_M aM vM ++ (W_A E (aM 8) 400 vout)) none (W_M aM r.1 ++ (W_A E (aM 8) 400 r.2)) := by
  refine CM.of (own := RX9) rfl (by decide) (Nat.le_of_ble_eq_true rfl) ?_
  intro p e s m below meth c A ls hx hb hr hml hown hg hlocks hK hE hA hP hD hS hl
  have hl : lv_has ls 3 [(0, .ref (aM 0)), (1, .int x1)] := hl
  have lp_18 : ∀ (n : Nat) (x2 : Int32) (vM : (Nat → Int32) × Int64) (vout : Nat → Int32) (H : Heap) (locs : List Loc) (ls : Array Slot), L_X9_writesNumber_18 x1 n x2 vM vout = some r → va_P E.1 vwCl (W_M aM vM ++ (W_A E (aM 8) 400 vout)) H → va_D A (W_M aM vM ++ (W_A E (aM 8) 400 vout)) → va_S A s.heap H locs → lv_has ls 3 [(0, .ref (aM 0)), (1, .int x1), (2, .int x2)] → W p l e rm_X9_writesNumber s m ([.ref (aM 0), .int x1] : List Value).toArray below meth c H locs 0 0 (MQ below (QW E none (W_M aM r.1 ++ (W_A E (aM 8) 400 r.2)) A) ([.ref (aM 0), .int x1] : List Value).toArray s 0 0 A) (F0 m 18 ls []) := by
    intro n
    induction n with
    | zero => intro x2 vM vout H locs ls hf; cases hf
    | succ n ih =>
      intro x2 vM vout H locs ls hf hP hD hS hl
      replace hf : B_X9_writesNumber_18 (L_X9_writesNumber_18 x1 n) x1 x2 vM vout = some r := hf
      unfold B_X9_writesNumber_18 at hf
      refine lv_iload_n hx hb dX9_writesNumber_18 rfl (lv_at hl 2 rfl) ?_
      refine lv_if_le (tgt := 43) hx hb dX9_writesNumber_19 (by decide) (fun cq => ?_) (fun cq => ?_)
      · have hf := it cq hf
        obtain rfl := Option.some.inj hf
        exact cm_vret hx hb hr hlocks hP hS dX9_writesNumber_43
      · have hf := ie cq hf
        refine lv_aload_n hx hb dX9_writesNumber_22 rfl (lv_at hl 0 rfl) ?_
        refine lv_bipush (v := 48) hx hb dX9_writesNumber_23 (by decide) ?_
        refine lv_iload_n hx hb dX9_writesNumber_25 rfl (lv_at hl 1 rfl) ?_
        refine lv_iload_n hx hb dX9_writesNumber_26 rfl (lv_at hl 2 rfl) ?_
        obtain ⟨h0, hf⟩ := cn_o hf
        refine lv_idiv hx hb dX9_writesNumber_27 h0 ?_
        refine lv_bipush (v := 10) hx hb dX9_writesNumber_28 (by decide) ?_
        refine lv_irem hx hb dX9_writesNumber_30 (by decide) ?_
        refine lv_iadd hx hb dX9_writesNumber_31 ?_
        obtain ⟨u1, hu1, hf⟩ := bn hf
        refine cm_V (As := [.int (48 + ((x1 / x2) - (x1 / x2) / 10 * 10))]) (rest := []) (w2 := (W_M aM u1.1 ++ (W_A E (aM 8) 400 u1.2))) hx hb hml hown hg (c_X9_writes E l aM vM vout (48 + ((x1 / x2) - (x1 / x2) / 10 * 10)) u1 hu1) cy_X9_writes ml_X9_277 ⟨⟨rfl, rfl⟩, Nat.le_of_ble_eq_true rfl, Nat.le_of_ble_eq_true rfl⟩ hK hE hP hD hS hA [true, true] rfl rfl rfl 0 rfl rfl rfl hl.1 rfl (Nat.le_of_ble_eq_true rfl) dX9_writesNumber_32 ⟨Nat.le_of_ble_eq_true rfl, Nat.le_of_ble_eq_true rfl⟩ [] rfl (fun H locs hP hD hS => ?_)
        refine lv_iload_n hx hb dX9_writesNumber_35 rfl (lv_at hl 2 rfl) ?_
        refine lv_bipush (v := 10) hx hb dX9_writesNumber_36 (by decide) ?_
        refine lv_idiv hx hb dX9_writesNumber_38 (by decide) ?_
        refine lv_istore_n (lv' := [(2, .int (x2 / 10)), (0, .ref (aM 0)), (1, .int x1)]) hx hb dX9_writesNumber_39 rfl hl (by decide) rfl (fun ls hl => ?_)
        refine lv_goto (tgt := 18) hx hb dX9_writesNumber_40 (by decide) ?_
        exact ih _ _ _ _ _ _ hf hP hD hS (lv_sub hl [1, 2, 0] rfl)
  have lp_2 : ∀ (n : Nat) (x2 : Int32) (vM : (Nat → Int32) × Int64) (vout : Nat → Int32) (H : Heap) (locs : List Loc) (ls : Array Slot), L_X9_writesNumber_2 x1 n x2 vM vout = some r → va_P E.1 vwCl (W_M aM vM ++ (W_A E (aM 8) 400 vout)) H → va_D A (W_M aM vM ++ (W_A E (aM 8) 400 vout)) → va_S A s.heap H locs → lv_has ls 3 [(0, .ref (aM 0)), (1, .int x1), (2, .int x2)] → W p l e rm_X9_writesNumber s m ([.ref (aM 0), .int x1] : List Value).toArray below meth c H locs 0 0 (MQ below (QW E none (W_M aM r.1 ++ (W_A E (aM 8) 400 r.2)) A) ([.ref (aM 0), .int x1] : List Value).toArray s 0 0 A) (F0 m 2 ls []) := by
    intro n
    induction n with
    | zero => intro x2 vM vout H locs ls hf; cases hf
    | succ n ih =>
      intro x2 vM vout H locs ls hf hP hD hS hl
      replace hf : B_X9_writesNumber_2 (L_X9_writesNumber_2 x1 n) x1 x2 vM vout = some r := hf
      unfold B_X9_writesNumber_2 at hf
      refine lv_iload_n hx hb dX9_writesNumber_2 rfl (lv_at hl 2 rfl) ?_
      refine lv_iload_n hx hb dX9_writesNumber_3 rfl (lv_at hl 1 rfl) ?_
      refine lv_bipush (v := 10) hx hb dX9_writesNumber_4 (by decide) ?_
      refine lv_idiv hx hb dX9_writesNumber_6 (by decide) ?_
      refine lv_icmp_gt (tgt := 18) hx hb dX9_writesNumber_7 (by decide) (fun cq => ?_) (fun cq => ?_)
      · have hf := it cq hf
        exact lp_18 FU _ _ _ _ _ _ hf hP hD hS (lv_sub hl [0, 1, 2] rfl)
      · have hf := ie cq hf
        refine lv_iload_n hx hb dX9_writesNumber_10 rfl (lv_at hl 2 rfl) ?_
        refine lv_bipush (v := 10) hx hb dX9_writesNumber_11 (by decide) ?_
        refine lv_imul hx hb dX9_writesNumber_13 ?_
        refine lv_istore_n (lv' := [(2, .int (x2 * 10)), (0, .ref (aM 0)), (1, .int x1)]) hx hb dX9_writesNumber_14 rfl hl (by decide) rfl (fun ls hl => ?_)
        refine lv_goto (tgt := 2) hx hb dX9_writesNumber_15 (by decide) ?_
        exact ih _ _ _ _ _ _ hf hP hD hS (lv_sub hl [1, 2, 0] rfl)
  unfold F_X9_writesNumber at hf
  refine lv_iconst (v := 1) hx hb dX9_writesNumber_0 (by decide) ?_
  refine lv_istore_n (lv' := [(2, .int 1), (0, .ref (aM 0)), (1, .int x1)]) hx hb dX9_writesNumber_1 rfl hl (by decide) rfl (fun ls hl => ?_)
  exact lp_2 FU _ _ _ _ _ _ hf hP hD hS (lv_sub hl [1, 2, 0] rfl)
def F_X9_writesEntry (vM : (Nat → Int32) × Int64) (vnow : Nat → Int32) (vout : Nat → Int32) (x1 : Int32) : Option (((Nat → Int32) × Int64) × (Nat → Int32)) := (F_X9_entryAt x1 2).bind (fun u1 => ck u1 306 ((if (vnow (Int32.toNatClampNeg u1)) = 1 then (F_X9_writes vM vout 45).bind (fun u6 => (F_X9_entryAt x1 0).bind (fun u7 => ck u7 306 ((F_X9_writesNumber u6.1 u6.2 (vnow (Int32.toNatClampNeg u7))).bind (fun u8 => (F_X9_writes u8.1 u8.2 10).bind (fun u9 => (some (u9.1, u9.2))))))) else (F_X9_writes vM vout 43).bind (fun u2 => (F_X9_entryAt x1 0).bind (fun u3 => ck u3 306 ((F_X9_writesNumber u2.1 u2.2 (vnow (Int32.toNatClampNeg u3))).bind (fun u4 => (F_X9_writes u4.1 u4.2 10).bind (fun u5 => (some (u5.1, u5.2))))))))))
abbrev rm_X9_writesEntry : Room := { frames := 2, cells := 0, slots := 0, locals := 43 }
set_option maxHeartbeats 4000000 in
set_option maxRecDepth 100000 in
theorem c_X9_writesEntry (E : Ev) (l : Launch) (aM : Nat → Nat) (vM : (Nat → Int32) × Int64) (vnow : Nat → Int32) (vout : Nat → Int32) (x1 : Int32) (r : ((Nat → Int32) × Int64) × (Nat → Int32)) (hf : F_X9_writesEntry vM vnow vout x1 = some r) : CM E l yX9_writesEntry (.code yX9_writesEntry cX9_writesEntry 2 none :: GA) rm_X9_writesEntry [.ref (aM 0), .int x1] (W_M aM vM ++ (W_A E (aM 1) 306 vnow ++ (W_A E (aM 8) 400 vout))) none (W_M aM r.1 ++ (W_A E (aM 1) 306 vnow ++ (W_A E (aM 8) 400 r.2))) := by
  refine CM.of (own := RX9) rfl (by decide) (Nat.le_of_ble_eq_true rfl) ?_
  intro p e s m below meth c A ls hx hb hr hml hown hg hlocks hK hE hA hP hD hS hl
  have hl : lv_has ls 2 [(0, .ref (aM 0)), (1, .int x1)] := hl
  unfold F_X9_writesEntry at hf
  refine lv_aload_n hx hb dX9_writesEntry_0 rfl (lv_at hl 0 rfl) ?_
  refine gf_X9_7 hx hb hg hown hK hP 0 rfl rfl dX9_writesEntry_1 ?_
  refine lv_iload_n hx hb dX9_writesEntry_4 rfl (lv_at hl 1 rfl) ?_
  refine lv_iconst (v := 2) hx hb dX9_writesEntry_5 (by decide) ?_
  obtain ⟨u1, hu1, hf⟩ := bn hf
  refine cm_S (As := [.int x1, .int 2]) (rest := [.ref (aM 1)]) (w2 := (W_M aM vM ++ (W_A E (aM 1) 306 vnow ++ (W_A E (aM 8) 400 vout)))) hx hb hml hown hg (c_X9_entryAt E l x1 2 u1 hu1) cs_X9_entryAt ml_X9_81 ⟨⟨rfl, rfl⟩, Nat.le_of_ble_eq_true rfl, Nat.le_of_ble_eq_true rfl⟩ hK hE hP hD hS hA [] rfl rfl rfl rfl hl.1 rfl (Nat.le_of_ble_eq_true rfl) dX9_writesEntry_6 ⟨Nat.le_of_ble_eq_true rfl, Nat.le_of_ble_eq_true rfl⟩ [.int u1, .ref (aM 1)] rfl (fun H locs hP hD hS => ?_)
  obtain ⟨hi, hf⟩ := ck_o hf
  refine ar_ld hx hb hK hP 1 rfl hi dX9_writesEntry_9 ?_
  refine lv_iconst (v := 1) hx hb dX9_writesEntry_10 (by decide) ?_
  refine lv_icmp_ne (tgt := 23) hx hb dX9_writesEntry_11 (by decide) (fun cq => ?_) (fun cq => ?_)
  · have hf := ie cq hf
    refine lv_aload_n hx hb dX9_writesEntry_23 rfl (lv_at hl 0 rfl) ?_
    refine lv_bipush (v := 43) hx hb dX9_writesEntry_24 (by decide) ?_
    obtain ⟨u2, hu2, hf⟩ := bn hf
    refine cm_V (As := [.int 43]) (rest := []) (w2 := (W_M aM u2.1 ++ (W_A E (aM 1) 306 vnow ++ (W_A E (aM 8) 400 u2.2)))) hx hb hml hown hg (c_X9_writes E l aM vM vout 43 u2 hu2) cy_X9_writes ml_X9_277 ⟨⟨rfl, rfl⟩, Nat.le_of_ble_eq_true rfl, Nat.le_of_ble_eq_true rfl⟩ hK hE hP hD hS hA [true, false, true] rfl rfl rfl 0 rfl rfl rfl hl.1 rfl (Nat.le_of_ble_eq_true rfl) dX9_writesEntry_26 ⟨Nat.le_of_ble_eq_true rfl, Nat.le_of_ble_eq_true rfl⟩ [] rfl (fun H locs hP hD hS => ?_)
    refine lv_aload_n hx hb dX9_writesEntry_29 rfl (lv_at hl 0 rfl) ?_
    refine lv_aload_n hx hb dX9_writesEntry_30 rfl (lv_at hl 0 rfl) ?_
    refine gf_X9_7 hx hb hg hown hK hP 0 rfl rfl dX9_writesEntry_31 ?_
    refine lv_iload_n hx hb dX9_writesEntry_34 rfl (lv_at hl 1 rfl) ?_
    refine lv_iconst (v := 0) hx hb dX9_writesEntry_35 (by decide) ?_
    obtain ⟨u3, hu3, hf⟩ := bn hf
    refine cm_S (As := [.int x1, .int 0]) (rest := [.ref (aM 1), .ref (aM 0)]) (w2 := (W_M aM u2.1 ++ (W_A E (aM 1) 306 vnow ++ (W_A E (aM 8) 400 u2.2)))) hx hb hml hown hg (c_X9_entryAt E l x1 0 u3 hu3) cs_X9_entryAt ml_X9_81 ⟨⟨rfl, rfl⟩, Nat.le_of_ble_eq_true rfl, Nat.le_of_ble_eq_true rfl⟩ hK hE hP hD hS hA [] rfl rfl rfl rfl hl.1 rfl (Nat.le_of_ble_eq_true rfl) dX9_writesEntry_36 ⟨Nat.le_of_ble_eq_true rfl, Nat.le_of_ble_eq_true rfl⟩ [.int u3, .ref (aM 1), .ref (aM 0)] rfl (fun H locs hP hD hS => ?_)
    obtain ⟨hi, hf⟩ := ck_o hf
    refine ar_ld hx hb hK hP 1 rfl hi dX9_writesEntry_39 ?_
    obtain ⟨u4, hu4, hf⟩ := bn hf
    refine cm_V (As := [.int (vnow (Int32.toNatClampNeg u3))]) (rest := []) (w2 := (W_M aM u4.1 ++ (W_A E (aM 1) 306 vnow ++ (W_A E (aM 8) 400 u4.2)))) hx hb hml hown hg (c_X9_writesNumber E l aM u2.1 u2.2 (vnow (Int32.toNatClampNeg u3)) u4 hu4) cy_X9_writesNumber ml_X9_281 ⟨⟨rfl, rfl⟩, Nat.le_of_ble_eq_true rfl, Nat.le_of_ble_eq_true rfl⟩ hK hE hP hD hS hA [true, false, true] rfl rfl rfl 0 rfl rfl rfl hl.1 rfl (Nat.le_of_ble_eq_true rfl) dX9_writesEntry_40 ⟨Nat.le_of_ble_eq_true rfl, Nat.le_of_ble_eq_true rfl⟩ [] rfl (fun H locs hP hD hS => ?_)
    refine lv_aload_n hx hb dX9_writesEntry_43 rfl (lv_at hl 0 rfl) ?_
    refine lv_bipush (v := 10) hx hb dX9_writesEntry_44 (by decide) ?_
    obtain ⟨u5, hu5, hf⟩ := bn hf
    refine cm_V (As := [.int 10]) (rest := []) (w2 := (W_M aM u5.1 ++ (W_A E (aM 1) 306 vnow ++ (W_A E (aM 8) 400 u5.2)))) hx hb hml hown hg (c_X9_writes E l aM u4.1 u4.2 10 u5 hu5) cy_X9_writes ml_X9_277 ⟨⟨rfl, rfl⟩, Nat.le_of_ble_eq_true rfl, Nat.le_of_ble_eq_true rfl⟩ hK hE hP hD hS hA [true, false, true] rfl rfl rfl 0 rfl rfl rfl hl.1 rfl (Nat.le_of_ble_eq_true rfl) dX9_writesEntry_46 ⟨Nat.le_of_ble_eq_true rfl, Nat.le_of_ble_eq_true rfl⟩ [] rfl (fun H locs hP hD hS => ?_)
    obtain rfl := Option.some.inj hf
    exact cm_vret hx hb hr hlocks hP hS dX9_writesEntry_49
  · have hf := it cq hf
    refine lv_aload_n hx hb dX9_writesEntry_14 rfl (lv_at hl 0 rfl) ?_
    refine lv_bipush (v := 45) hx hb dX9_writesEntry_15 (by decide) ?_
    obtain ⟨u6, hu6, hf⟩ := bn hf
    refine cm_V (As := [.int 45]) (rest := []) (w2 := (W_M aM u6.1 ++ (W_A E (aM 1) 306 vnow ++ (W_A E (aM 8) 400 u6.2)))) hx hb hml hown hg (c_X9_writes E l aM vM vout 45 u6 hu6) cy_X9_writes ml_X9_277 ⟨⟨rfl, rfl⟩, Nat.le_of_ble_eq_true rfl, Nat.le_of_ble_eq_true rfl⟩ hK hE hP hD hS hA [true, false, true] rfl rfl rfl 0 rfl rfl rfl hl.1 rfl (Nat.le_of_ble_eq_true rfl) dX9_writesEntry_17 ⟨Nat.le_of_ble_eq_true rfl, Nat.le_of_ble_eq_true rfl⟩ [] rfl (fun H locs hP hD hS => ?_)
    refine lv_goto (tgt := 29) hx hb dX9_writesEntry_20 (by decide) ?_
    refine lv_aload_n hx hb dX9_writesEntry_29 rfl (lv_at hl 0 rfl) ?_
    refine lv_aload_n hx hb dX9_writesEntry_30 rfl (lv_at hl 0 rfl) ?_
    refine gf_X9_7 hx hb hg hown hK hP 0 rfl rfl dX9_writesEntry_31 ?_
    refine lv_iload_n hx hb dX9_writesEntry_34 rfl (lv_at hl 1 rfl) ?_
    refine lv_iconst (v := 0) hx hb dX9_writesEntry_35 (by decide) ?_
    obtain ⟨u7, hu7, hf⟩ := bn hf
    refine cm_S (As := [.int x1, .int 0]) (rest := [.ref (aM 1), .ref (aM 0)]) (w2 := (W_M aM u6.1 ++ (W_A E (aM 1) 306 vnow ++ (W_A E (aM 8) 400 u6.2)))) hx hb hml hown hg (c_X9_entryAt E l x1 0 u7 hu7) cs_X9_entryAt ml_X9_81 ⟨⟨rfl, rfl⟩, Nat.le_of_ble_eq_true rfl, Nat.le_of_ble_eq_true rfl⟩ hK hE hP hD hS hA [] rfl rfl rfl rfl hl.1 rfl (Nat.le_of_ble_eq_true rfl) dX9_writesEntry_36 ⟨Nat.le_of_ble_eq_true rfl, Nat.le_of_ble_eq_true rfl⟩ [.int u7, .ref (aM 1), .ref (aM 0)] rfl (fun H locs hP hD hS => ?_)
    obtain ⟨hi, hf⟩ := ck_o hf
    refine ar_ld hx hb hK hP 1 rfl hi dX9_writesEntry_39 ?_
    obtain ⟨u8, hu8, hf⟩ := bn hf
    refine cm_V (As := [.int (vnow (Int32.toNatClampNeg u7))]) (rest := []) (w2 := (W_M aM u8.1 ++ (W_A E (aM 1) 306 vnow ++ (W_A E (aM 8) 400 u8.2)))) hx hb hml hown hg (c_X9_writesNumber E l aM u6.1 u6.2 (vnow (Int32.toNatClampNeg u7)) u8 hu8) cy_X9_writesNumber ml_X9_281 ⟨⟨rfl, rfl⟩, Nat.le_of_ble_eq_true rfl, Nat.le_of_ble_eq_true rfl⟩ hK hE hP hD hS hA [true, false, true] rfl rfl rfl 0 rfl rfl rfl hl.1 rfl (Nat.le_of_ble_eq_true rfl) dX9_writesEntry_40 ⟨Nat.le_of_ble_eq_true rfl, Nat.le_of_ble_eq_true rfl⟩ [] rfl (fun H locs hP hD hS => ?_)
    refine lv_aload_n hx hb dX9_writesEntry_43 rfl (lv_at hl 0 rfl) ?_
    refine lv_bipush (v := 10) hx hb dX9_writesEntry_44 (by decide) ?_
    obtain ⟨u9, hu9, hf⟩ := bn hf
    refine cm_V (As := [.int 10]) (rest := []) (w2 := (W_M aM u9.1 ++ (W_A E (aM 1) 306 vnow ++ (W_A E (aM 8) 400 u9.2)))) hx hb hml hown hg (c_X9_writes E l aM u8.1 u8.2 10 u9 hu9) cy_X9_writes ml_X9_277 ⟨⟨rfl, rfl⟩, Nat.le_of_ble_eq_true rfl, Nat.le_of_ble_eq_true rfl⟩ hK hE hP hD hS hA [true, false, true] rfl rfl rfl 0 rfl rfl rfl hl.1 rfl (Nat.le_of_ble_eq_true rfl) dX9_writesEntry_46 ⟨Nat.le_of_ble_eq_true rfl, Nat.le_of_ble_eq_true rfl⟩ [] rfl (fun H locs hP hD hS => ?_)
    obtain rfl := Option.some.inj hf
    exact cm_vret hx hb hr hlocks hP hS dX9_writesEntry_49
def B_X9_writeEntries_26 (rec : Int32 → ((Nat → Int32) × Int64) → (Nat → Int32) → Option (Int32 × ((Nat → Int32) × Int64) × (Nat → Int32))) (vnow : Nat → Int32) (x1 : Int32) (x2 : Int32) (vM : (Nat → Int32) × Int64) (vout : Nat → Int32) : Option (Int32 × ((Nat → Int32) × Int64) × (Nat → Int32)) := ck 9 306 ((if (vnow (Int32.toNatClampNeg 9)) ≤ x2 then (some ((vM.1 9), vM, vout)) else (F_X9_entryAt x2 1).bind (fun u1 => ck u1 306 ((if (vnow (Int32.toNatClampNeg u1)) = x1 then (F_X9_writesEntry vM vnow vout x2).bind (fun u2 => (rec (x2 + 1) u2.1 u2.2)) else (rec (x2 + 1) vM vout))))))
def L_X9_writeEntries_26 (vnow : Nat → Int32) (x1 : Int32) : Nat → Int32 → ((Nat → Int32) × Int64) → (Nat → Int32) → Option (Int32 × ((Nat → Int32) × Int64) × (Nat → Int32))
  | 0 => fun _ _ _ => none
  | n + 1 => fun x2 vM vout => B_X9_writeEntries_26 (L_X9_writeEntries_26 vnow x1 n) vnow x1 x2 vM vout
def F_X9_writeEntries (vM : (Nat → Int32) × Int64) (vnow : Nat → Int32) (vout : Nat → Int32) (x1 : Int32) : Option (Int32 × ((Nat → Int32) × Int64) × (Nat → Int32)) := lt (va_up vM.1 3 0, vM.2) (fun vM_5 => (F_X9_isGuest vM_5 vnow x1).bind (fun u1 => (if u1 = 0 then (F_X9_fails vM_5 1).bind (fun u2 => (some (u2.1, u2.2, vout))) else lt (va_up vM_5.1 9 0, vM_5.2) (fun vM_6 => (L_X9_writeEntries_26 vnow x1 FU 0 vM_6 vout)))))
abbrev rm_X9_writeEntries : Room := { frames := 3, cells := 0, slots := 0, locals := 64 }
set_option maxHeartbeats 4000000 in
set_option maxRecDepth 100000 in
theorem c_X9_writeEntries (E : Ev) (l : Launch) (aM : Nat → Nat) (vM : (Nat → Int32) × Int64) (vnow : Nat → Int32) (vout : Nat → Int32) (x1 : Int32) (r : Int32 × ((Nat → Int32) × Int64) × (Nat → Int32)) (hf : F_X9_writeEntries vM vnow vout x1 = some r) : CM E l yX9_writeEntries (.code yX9_writeEntries cX9_writeEntries 3 (some .int) :: GA) rm_X9_writeEntries [.ref (aM 0), .int x1] (W_M aM vM ++ (W_A E (aM 1) 306 vnow ++ (W_A E (aM 8) 400 vout))) (some (.int r.1)) (W_M aM r.2.1 ++ (W_A E (aM 1) 306 vnow ++ (W_A E (aM 8) 400 r.2.2))) := by
  refine CM.of (own := RX9) rfl (by decide) (Nat.le_of_ble_eq_true rfl) ?_
  intro p e s m below meth c A ls hx hb hr hml hown hg hlocks hK hE hA hP hD hS hl
  have hl : lv_has ls 3 [(0, .ref (aM 0)), (1, .int x1)] := hl
  have lp_26 : ∀ (n : Nat) (x2 : Int32) (vM : (Nat → Int32) × Int64) (vout : Nat → Int32) (H : Heap) (locs : List Loc) (ls : Array Slot), L_X9_writeEntries_26 vnow x1 n x2 vM vout = some r → va_P E.1 vwCl (W_M aM vM ++ (W_A E (aM 1) 306 vnow ++ (W_A E (aM 8) 400 vout))) H → va_D A (W_M aM vM ++ (W_A E (aM 1) 306 vnow ++ (W_A E (aM 8) 400 vout))) → va_S A s.heap H locs → lv_has ls 3 [(0, .ref (aM 0)), (1, .int x1), (2, .int x2)] → W p l e rm_X9_writeEntries s m ([.ref (aM 0), .int x1] : List Value).toArray below meth c H locs 0 0 (MQ below (QW E (some (.int r.1)) (W_M aM r.2.1 ++ (W_A E (aM 1) 306 vnow ++ (W_A E (aM 8) 400 r.2.2))) A) ([.ref (aM 0), .int x1] : List Value).toArray s 0 0 A) (F0 m 26 ls []) := by
    intro n
    induction n with
    | zero => intro x2 vM vout H locs ls hf; cases hf
    | succ n ih =>
      intro x2 vM vout H locs ls hf hP hD hS hl
      replace hf : B_X9_writeEntries_26 (L_X9_writeEntries_26 vnow x1 n) vnow x1 x2 vM vout = some r := hf
      unfold B_X9_writeEntries_26 at hf
      refine lv_iload_n hx hb dX9_writeEntries_26 rfl (lv_at hl 2 rfl) ?_
      refine lv_aload_n hx hb dX9_writeEntries_27 rfl (lv_at hl 0 rfl) ?_
      refine gf_X9_7 hx hb hg hown hK hP 0 rfl rfl dX9_writeEntries_28 ?_
      refine lv_bipush (v := 9) hx hb dX9_writeEntries_31 (by decide) ?_
      obtain ⟨hi, hf⟩ := ck_o hf
      refine ar_ld hx hb hK hP 1 rfl hi dX9_writeEntries_33 ?_
      refine lv_icmp_ge (tgt := 62) hx hb dX9_writeEntries_34 (by decide) (fun cq => ?_) (fun cq => ?_)
      · have hf := it cq hf
        refine lv_aload_n hx hb dX9_writeEntries_62 rfl (lv_at hl 0 rfl) ?_
        refine gf_X9_274 hx hb hg hown hK hP 0 rfl rfl dX9_writeEntries_63 ?_
        obtain rfl := Option.some.inj hf
        exact cm_iret hx hb hr hlocks hP hS dX9_writeEntries_66
      · have hf := ie cq hf
        refine lv_aload_n hx hb dX9_writeEntries_37 rfl (lv_at hl 0 rfl) ?_
        refine gf_X9_7 hx hb hg hown hK hP 0 rfl rfl dX9_writeEntries_38 ?_
        refine lv_iload_n hx hb dX9_writeEntries_41 rfl (lv_at hl 2 rfl) ?_
        refine lv_iconst (v := 1) hx hb dX9_writeEntries_42 (by decide) ?_
        obtain ⟨u1, hu1, hf⟩ := bn hf
        refine cm_S (As := [.int x2, .int 1]) (rest := [.ref (aM 1)]) (w2 := (W_M aM vM ++ (W_A E (aM 1) 306 vnow ++ (W_A E (aM 8) 400 vout)))) hx hb hml hown hg (c_X9_entryAt E l x2 1 u1 hu1) cs_X9_entryAt ml_X9_81 ⟨⟨rfl, rfl⟩, Nat.le_of_ble_eq_true rfl, Nat.le_of_ble_eq_true rfl⟩ hK hE hP hD hS hA [] rfl rfl rfl rfl hl.1 rfl (Nat.le_of_ble_eq_true rfl) dX9_writeEntries_43 ⟨Nat.le_of_ble_eq_true rfl, Nat.le_of_ble_eq_true rfl⟩ [.int u1, .ref (aM 1)] rfl (fun H locs hP hD hS => ?_)
        obtain ⟨hi, hf⟩ := ck_o hf
        refine ar_ld hx hb hK hP 1 rfl hi dX9_writeEntries_46 ?_
        refine lv_iload_n hx hb dX9_writeEntries_47 rfl (lv_at hl 1 rfl) ?_
        refine lv_icmp_ne (tgt := 56) hx hb dX9_writeEntries_48 (by decide) (fun cq => ?_) (fun cq => ?_)
        · have hf := ie cq hf
          refine lv_iinc (v := (x2 + 1)) (lv' := [(2, .int (x2 + 1)), (0, .ref (aM 0)), (1, .int x1)]) hx hb dX9_writeEntries_56 hl (k := 2) rfl rfl (by decide) rfl (fun ls hl => ?_)
          refine lv_goto (tgt := 26) hx hb dX9_writeEntries_59 (by decide) ?_
          exact ih _ _ _ _ _ _ hf hP hD hS (lv_sub hl [1, 2, 0] rfl)
        · have hf := it cq hf
          refine lv_aload_n hx hb dX9_writeEntries_51 rfl (lv_at hl 0 rfl) ?_
          refine lv_iload_n hx hb dX9_writeEntries_52 rfl (lv_at hl 2 rfl) ?_
          obtain ⟨u2, hu2, hf⟩ := bn hf
          refine cm_V (As := [.int x2]) (rest := []) (w2 := (W_M aM u2.1 ++ (W_A E (aM 1) 306 vnow ++ (W_A E (aM 8) 400 u2.2)))) hx hb hml hown hg (c_X9_writesEntry E l aM vM vnow vout x2 u2 hu2) cy_X9_writesEntry ml_X9_284 ⟨⟨rfl, rfl⟩, Nat.le_of_ble_eq_true rfl, Nat.le_of_ble_eq_true rfl⟩ hK hE hP hD hS hA [true, true, true] rfl rfl rfl 0 rfl rfl rfl hl.1 rfl (Nat.le_of_ble_eq_true rfl) dX9_writeEntries_53 ⟨Nat.le_of_ble_eq_true rfl, Nat.le_of_ble_eq_true rfl⟩ [] rfl (fun H locs hP hD hS => ?_)
          refine lv_iinc (v := (x2 + 1)) (lv' := [(2, .int (x2 + 1)), (0, .ref (aM 0)), (1, .int x1)]) hx hb dX9_writeEntries_56 hl (k := 2) rfl rfl (by decide) rfl (fun ls hl => ?_)
          refine lv_goto (tgt := 26) hx hb dX9_writeEntries_59 (by decide) ?_
          exact ih _ _ _ _ _ _ hf hP hD hS (lv_sub hl [1, 2, 0] rfl)
  unfold F_X9_writeEntries at hf
  refine lv_aload_n hx hb dX9_writeEntries_0 rfl (lv_at hl 0 rfl) ?_
  refine lv_iconst (v := 0) hx hb dX9_writeEntries_1 (by decide) ?_
  refine pf_X9_48 (w2 := (W_M aM (va_up vM.1 3 0, vM.2) ++ (W_A E (aM 1) 306 vnow ++ (W_A E (aM 8) 400 vout)))) hx hb hg hown hK hP hD hS 0 rfl (Nat.le_of_ble_eq_true rfl) rfl dX9_writeEntries_2 (fun H locs hP hD hS => ?_)
  obtain ⟨vM_5, hv, hf⟩ := lt_o hf
  rw [← hv] at hP hD
  clear hv
  refine lv_aload_n hx hb dX9_writeEntries_5 rfl (lv_at hl 0 rfl) ?_
  refine lv_iload_n hx hb dX9_writeEntries_6 rfl (lv_at hl 1 rfl) ?_
  obtain ⟨u1, hu1, hf⟩ := bn hf
  refine cm_V (As := [.int x1]) (rest := []) (w2 := (W_M aM vM_5 ++ (W_A E (aM 1) 306 vnow ++ (W_A E (aM 8) 400 vout)))) hx hb hml hown hg (c_X9_isGuest E l aM vM_5 vnow x1 u1 hu1) cy_X9_isGuest ml_X9_218 ⟨⟨rfl, rfl⟩, Nat.le_of_ble_eq_true rfl, Nat.le_of_ble_eq_true rfl⟩ hK hE hP hD hS hA [true, true] rfl rfl rfl 0 rfl rfl rfl hl.1 rfl (Nat.le_of_ble_eq_true rfl) dX9_writeEntries_7 ⟨Nat.le_of_ble_eq_true rfl, Nat.le_of_ble_eq_true rfl⟩ [.int u1] rfl (fun H locs hP hD hS => ?_)
  refine lv_if_ne (tgt := 19) hx hb dX9_writeEntries_10 (by decide) (fun cq => ?_) (fun cq => ?_)
  · have hf := ie cq hf
    refine lv_aload_n hx hb dX9_writeEntries_19 rfl (lv_at hl 0 rfl) ?_
    refine lv_iconst (v := 0) hx hb dX9_writeEntries_20 (by decide) ?_
    refine pf_X9_274 (w2 := (W_M aM (va_up vM_5.1 9 0, vM_5.2) ++ (W_A E (aM 1) 306 vnow ++ (W_A E (aM 8) 400 vout)))) hx hb hg hown hK hP hD hS 0 rfl (Nat.le_of_ble_eq_true rfl) rfl dX9_writeEntries_21 (fun H locs hP hD hS => ?_)
    obtain ⟨vM_6, hv, hf⟩ := lt_o hf
    rw [← hv] at hP hD
    clear hv
    refine lv_iconst (v := 0) hx hb dX9_writeEntries_24 (by decide) ?_
    refine lv_istore_n (lv' := [(2, .int 0), (0, .ref (aM 0)), (1, .int x1)]) hx hb dX9_writeEntries_25 rfl hl (by decide) rfl (fun ls hl => ?_)
    exact lp_26 FU _ _ _ _ _ _ hf hP hD hS (lv_sub hl [1, 2, 0] rfl)
  · have hf := it cq hf
    refine lv_aload_n hx hb dX9_writeEntries_13 rfl (lv_at hl 0 rfl) ?_
    refine lv_iconst (v := 1) hx hb dX9_writeEntries_14 (by decide) ?_
    obtain ⟨u2, hu2, hf⟩ := bn hf
    refine cm_V (As := [.int 1]) (rest := []) (w2 := (W_M aM u2.2 ++ (W_A E (aM 1) 306 vnow ++ (W_A E (aM 8) 400 vout)))) hx hb hml hown hg (c_X9_fails E l aM vM_5 1 u2 hu2) cy_X9_fails ml_X9_133 ⟨⟨rfl, rfl⟩, Nat.le_of_ble_eq_true rfl, Nat.le_of_ble_eq_true rfl⟩ hK hE hP hD hS hA [true] rfl rfl rfl 0 rfl rfl rfl hl.1 rfl (Nat.le_of_ble_eq_true rfl) dX9_writeEntries_15 ⟨Nat.le_of_ble_eq_true rfl, Nat.le_of_ble_eq_true rfl⟩ [.int u2.1] rfl (fun H locs hP hD hS => ?_)
    obtain rfl := Option.some.inj hf
    exact cm_iret hx hb hr hlocks hP hS dX9_writeEntries_18
def F_X9_writtenByte (vM : (Nat → Int32) × Int64) (vout : Nat → Int32) (x1 : Int32) : Option (Int32 × ((Nat → Int32) × Int64)) := lt (va_up vM.1 3 0, vM.2) (fun vM_3 => (F_X9_in x1 0 ((vM_3.1 9) - 1)).bind (fun u1 => (if u1 = 0 then (F_X9_fails vM_3 1).bind (fun u2 => (some (u2.1, u2.2))) else ck x1 400 ((some ((vout (Int32.toNatClampNeg x1)), vM_3))))))
abbrev rm_X9_writtenByte : Room := { frames := 1, cells := 0, slots := 0, locals := 22 }
set_option maxHeartbeats 4000000 in
set_option maxRecDepth 100000 in
theorem c_X9_writtenByte (E : Ev) (l : Launch) (aM : Nat → Nat) (vM : (Nat → Int32) × Int64) (vout : Nat → Int32) (x1 : Int32) (r : Int32 × ((Nat → Int32) × Int64)) (hf : F_X9_writtenByte vM vout x1 = some r) : CM E l yX9_writtenByte (.code yX9_writtenByte cX9_writtenByte 2 (some .int) :: GA) rm_X9_writtenByte [.ref (aM 0), .int x1] (W_M aM vM ++ (W_A E (aM 8) 400 vout)) (some (.int r.1)) (W_M aM r.2 ++ (W_A E (aM 8) 400 vout)) := by
  refine CM.of (own := RX9) rfl (by decide) (Nat.le_of_ble_eq_true rfl) ?_
  intro p e s m below meth c A ls hx hb hr hml hown hg hlocks hK hE hA hP hD hS hl
  have hl : lv_has ls 2 [(0, .ref (aM 0)), (1, .int x1)] := hl
  unfold F_X9_writtenByte at hf
  refine lv_aload_n hx hb dX9_writtenByte_0 rfl (lv_at hl 0 rfl) ?_
  refine lv_iconst (v := 0) hx hb dX9_writtenByte_1 (by decide) ?_
  refine pf_X9_48 (w2 := (W_M aM (va_up vM.1 3 0, vM.2) ++ (W_A E (aM 8) 400 vout))) hx hb hg hown hK hP hD hS 0 rfl (Nat.le_of_ble_eq_true rfl) rfl dX9_writtenByte_2 (fun H locs hP hD hS => ?_)
  obtain ⟨vM_3, hv, hf⟩ := lt_o hf
  rw [← hv] at hP hD
  clear hv
  refine lv_iload_n hx hb dX9_writtenByte_5 rfl (lv_at hl 1 rfl) ?_
  refine lv_iconst (v := 0) hx hb dX9_writtenByte_6 (by decide) ?_
  refine lv_aload_n hx hb dX9_writtenByte_7 rfl (lv_at hl 0 rfl) ?_
  refine gf_X9_274 hx hb hg hown hK hP 0 rfl rfl dX9_writtenByte_8 ?_
  refine lv_iconst (v := 1) hx hb dX9_writtenByte_11 (by decide) ?_
  refine lv_isub hx hb dX9_writtenByte_12 ?_
  obtain ⟨u1, hu1, hf⟩ := bn hf
  refine cm_S (As := [.int x1, .int 0, .int ((vM_3.1 9) - 1)]) (rest := []) (w2 := (W_M aM vM_3 ++ (W_A E (aM 8) 400 vout))) hx hb hml hown hg (c_X9_in E l x1 0 ((vM_3.1 9) - 1) u1 hu1) cs_X9_in ml_X9_55 ⟨⟨rfl, rfl⟩, Nat.le_of_ble_eq_true rfl, Nat.le_of_ble_eq_true rfl⟩ hK hE hP hD hS hA [] rfl rfl rfl rfl hl.1 rfl (Nat.le_of_ble_eq_true rfl) dX9_writtenByte_13 ⟨Nat.le_of_ble_eq_true rfl, Nat.le_of_ble_eq_true rfl⟩ [.int u1] rfl (fun H locs hP hD hS => ?_)
  refine lv_if_eq (tgt := 26) hx hb dX9_writtenByte_16 (by decide) (fun cq => ?_) (fun cq => ?_)
  · have hf := it cq hf
    refine lv_aload_n hx hb dX9_writtenByte_26 rfl (lv_at hl 0 rfl) ?_
    refine lv_iconst (v := 1) hx hb dX9_writtenByte_27 (by decide) ?_
    obtain ⟨u2, hu2, hf⟩ := bn hf
    refine cm_V (As := [.int 1]) (rest := []) (w2 := (W_M aM u2.2 ++ (W_A E (aM 8) 400 vout))) hx hb hml hown hg (c_X9_fails E l aM vM_3 1 u2 hu2) cy_X9_fails ml_X9_133 ⟨⟨rfl, rfl⟩, Nat.le_of_ble_eq_true rfl, Nat.le_of_ble_eq_true rfl⟩ hK hE hP hD hS hA [true] rfl rfl rfl 0 rfl rfl rfl hl.1 rfl (Nat.le_of_ble_eq_true rfl) dX9_writtenByte_28 ⟨Nat.le_of_ble_eq_true rfl, Nat.le_of_ble_eq_true rfl⟩ [.int u2.1] rfl (fun H locs hP hD hS => ?_)
    obtain rfl := Option.some.inj hf
    exact cm_iret hx hb hr hlocks hP hS dX9_writtenByte_31
  · have hf := ie cq hf
    refine lv_aload_n hx hb dX9_writtenByte_19 rfl (lv_at hl 0 rfl) ?_
    refine gf_X9_36 hx hb hg hown hK hP 0 rfl rfl dX9_writtenByte_20 ?_
    refine lv_iload_n hx hb dX9_writtenByte_23 rfl (lv_at hl 1 rfl) ?_
    obtain ⟨hi, hf⟩ := ck_o hf
    refine ar_ld hx hb hK hP 1 rfl hi dX9_writtenByte_24 ?_
    obtain rfl := Option.some.inj hf
    exact cm_iret hx hb hr hlocks hP hS dX9_writtenByte_25
def J_X9_next_52 (vbuffer : Nat → Int32) (vM : (Nat → Int32) × Int64) : Option (((Nat → Int32) × Int64)) := lt (va_up vM.1 5 (vM.1 4), vM.2) (fun vM_35 => lt (va_up vM_35.1 7 0, vM_35.2) (fun vM_36 => lt (vM_36.1, 0) (fun vM_37 => (if (vM_37.1 4) = (vM_37.1 1) then lt (va_up vM_37.1 6 0, vM_37.2) (fun vM_42 => (some vM_42)) else (F_X9_isSmall vM_37 vbuffer (vM_37.1 4)).bind (fun u1 => (if u1 = 0 then (F_X9_isDigit vM_37 vbuffer (vM_37.1 4)).bind (fun u2 => (if u2 = 0 then lt (va_up vM_37.1 6 4, vM_37.2) (fun vM_38 => ck (vM_38.1 4) 600 ((if (vbuffer (Int32.toNatClampNeg (vM_38.1 4))) = 59 then lt (va_up vM_38.1 6 3, vM_38.2) (fun vM_40 => lt (va_up vM_40.1 4 ((vM_40.1 4) + 1), vM_40.2) (fun vM_41 => (some vM_41))) else lt (va_up vM_38.1 4 ((vM_38.1 4) + 1), vM_38.2) (fun vM_39 => (some vM_39))))) else (F_X9_nextNumber vM_37 vbuffer).bind (fun u3 => (some u3)))) else (F_X9_nextWord vM_37 vbuffer).bind (fun u4 => (some u4))))))))
def B_X9_next_0 (rec : ((Nat → Int32) × Int64) → Option (((Nat → Int32) × Int64))) (vbuffer : Nat → Int32) (vM : (Nat → Int32) × Int64) : Option (((Nat → Int32) × Int64)) := (if (vM.1 1) ≤ (vM.1 4) then (J_X9_next_52 vbuffer vM) else ck (vM.1 4) 600 ((if (vbuffer (Int32.toNatClampNeg (vM.1 4))) = 32 then lt (va_up vM.1 4 ((vM.1 4) + 1), vM.2) (fun vM_43 => (rec vM_43)) else ck (vM.1 4) 600 ((if (vbuffer (Int32.toNatClampNeg (vM.1 4))) = 10 then lt (va_up vM.1 4 ((vM.1 4) + 1), vM.2) (fun vM_44 => (rec vM_44)) else (J_X9_next_52 vbuffer vM))))))
def L_X9_next_0 (vbuffer : Nat → Int32) : Nat → ((Nat → Int32) × Int64) → Option (((Nat → Int32) × Int64))
  | 0 => fun _ => none
  | n + 1 => fun vM => B_X9_next_0 (L_X9_next_0 vbuffer n) vbuffer vM
def F_X9_next (vM : (Nat → Int32) × Int64) (vbuffer : Nat → Int32) : Option (((Nat → Int32) × Int64)) := (L_X9_next_0 vbuffer FU vM)
abbrev rm_X9_next : Room := { frames := 2, cells := 0, slots := 0, locals := 41 }
set_option maxHeartbeats 4000000 in
set_option maxRecDepth 100000 in
theorem c_X9_next (E : Ev) (l : Launch) (aM : Nat → Nat) (vM : (Nat → Int32) × Int64) (vbuffer : Nat → Int32) (r : ((Nat → Int32) × Int64)) (hf : F_X9_next vM vbuffer = some r) : CM E l yX9_next (.code yX9_next cX9_next 1 none :: GA) rm_X9_next [.ref (aM 0)] (W_M aM vM ++ (W_A E (aM 7) 600 vbuffer)) none (W_M aM r ++ (W_A E (aM 7) 600 vbuffer)) := by
  refine CM.of (own := RX9) rfl (by decide) (Nat.le_of_ble_eq_true rfl) ?_
  intro p e s m below meth c A ls hx hb hr hml hown hg hlocks hK hE hA hP hD hS hl
  have hl : lv_has ls 1 [(0, .ref (aM 0))] := hl
  have jp_52 : ∀ (vM : (Nat → Int32) × Int64) (H : Heap) (locs : List Loc) (ls : Array Slot), J_X9_next_52 vbuffer vM = some r → va_P E.1 vwCl (W_M aM vM ++ (W_A E (aM 7) 600 vbuffer)) H → va_D A (W_M aM vM ++ (W_A E (aM 7) 600 vbuffer)) → va_S A s.heap H locs → lv_has ls 1 [(0, .ref (aM 0))] → W p l e rm_X9_next s m ([.ref (aM 0)] : List Value).toArray below meth c H locs 0 0 (MQ below (QW E none (W_M aM r ++ (W_A E (aM 7) 600 vbuffer)) A) ([.ref (aM 0)] : List Value).toArray s 0 0 A) (F0 m 52 ls []) := by
    intro vM H locs ls hf hP hD hS hl
    unfold J_X9_next_52 at hf
    refine lv_aload_n hx hb dX9_next_52 rfl (lv_at hl 0 rfl) ?_
    refine lv_aload_n hx hb dX9_next_53 rfl (lv_at hl 0 rfl) ?_
    refine gf_X9_137 hx hb hg hown hK hP 0 rfl rfl dX9_next_54 ?_
    refine pf_X9_140 (w2 := (W_M aM (va_up vM.1 5 (vM.1 4), vM.2) ++ (W_A E (aM 7) 600 vbuffer))) hx hb hg hown hK hP hD hS 0 rfl (Nat.le_of_ble_eq_true rfl) rfl dX9_next_57 (fun H locs hP hD hS => ?_)
    obtain ⟨vM_35, hv, hf⟩ := lt_o hf
    rw [← hv] at hP hD
    clear hv
    refine lv_aload_n hx hb dX9_next_60 rfl (lv_at hl 0 rfl) ?_
    refine lv_iconst (v := 0) hx hb dX9_next_61 (by decide) ?_
    refine pf_X9_143 (w2 := (W_M aM (va_up vM_35.1 7 0, vM_35.2) ++ (W_A E (aM 7) 600 vbuffer))) hx hb hg hown hK hP hD hS 0 rfl (Nat.le_of_ble_eq_true rfl) rfl dX9_next_62 (fun H locs hP hD hS => ?_)
    obtain ⟨vM_36, hv, hf⟩ := lt_o hf
    rw [← hv] at hP hD
    clear hv
    refine lv_aload_n hx hb dX9_next_65 rfl (lv_at hl 0 rfl) ?_
    refine lv_lconst (v := 0) hx hb dX9_next_66 rfl ?_
    refine pf_X9_146 (w2 := (W_M aM (vM_36.1, 0) ++ (W_A E (aM 7) 600 vbuffer))) hx hb hg hown hK hP hD hS 0 rfl (Nat.le_of_ble_eq_true rfl) rfl dX9_next_67 (fun H locs hP hD hS => ?_)
    obtain ⟨vM_37, hv, hf⟩ := lt_o hf
    rw [← hv] at hP hD
    clear hv
    refine lv_aload_n hx hb dX9_next_70 rfl (lv_at hl 0 rfl) ?_
    refine gf_X9_137 hx hb hg hown hK hP 0 rfl rfl dX9_next_71 ?_
    refine lv_aload_n hx hb dX9_next_74 rfl (lv_at hl 0 rfl) ?_
    refine gf_X9_130 hx hb hg hown hK hP 0 rfl rfl dX9_next_75 ?_
    refine lv_icmp_ne (tgt := 89) hx hb dX9_next_78 (by decide) (fun cq => ?_) (fun cq => ?_)
    · have hf := ie cq hf
      refine lv_aload_n hx hb dX9_next_89 rfl (lv_at hl 0 rfl) ?_
      refine lv_aload_n hx hb dX9_next_90 rfl (lv_at hl 0 rfl) ?_
      refine gf_X9_137 hx hb hg hown hK hP 0 rfl rfl dX9_next_91 ?_
      obtain ⟨u1, hu1, hf⟩ := bn hf
      refine cm_V (As := [.int (vM_37.1 4)]) (rest := []) (w2 := (W_M aM vM_37 ++ (W_A E (aM 7) 600 vbuffer))) hx hb hml hown hg (c_X9_isSmall E l aM vM_37 vbuffer (vM_37.1 4) u1 hu1) cy_X9_isSmall ml_X9_153 ⟨⟨rfl, rfl⟩, Nat.le_of_ble_eq_true rfl, Nat.le_of_ble_eq_true rfl⟩ hK hE hP hD hS hA [true, true] rfl rfl rfl 0 rfl rfl rfl hl.1 rfl (Nat.le_of_ble_eq_true rfl) dX9_next_94 ⟨Nat.le_of_ble_eq_true rfl, Nat.le_of_ble_eq_true rfl⟩ [.int u1] rfl (fun H locs hP hD hS => ?_)
      refine lv_if_eq (tgt := 107) hx hb dX9_next_97 (by decide) (fun cq => ?_) (fun cq => ?_)
      · have hf := it cq hf
        refine lv_aload_n hx hb dX9_next_107 rfl (lv_at hl 0 rfl) ?_
        refine lv_aload_n hx hb dX9_next_108 rfl (lv_at hl 0 rfl) ?_
        refine gf_X9_137 hx hb hg hown hK hP 0 rfl rfl dX9_next_109 ?_
        obtain ⟨u2, hu2, hf⟩ := bn hf
        refine cm_V (As := [.int (vM_37.1 4)]) (rest := []) (w2 := (W_M aM vM_37 ++ (W_A E (aM 7) 600 vbuffer))) hx hb hml hown hg (c_X9_isDigit E l aM vM_37 vbuffer (vM_37.1 4) u2 hu2) cy_X9_isDigit ml_X9_160 ⟨⟨rfl, rfl⟩, Nat.le_of_ble_eq_true rfl, Nat.le_of_ble_eq_true rfl⟩ hK hE hP hD hS hA [true, true] rfl rfl rfl 0 rfl rfl rfl hl.1 rfl (Nat.le_of_ble_eq_true rfl) dX9_next_112 ⟨Nat.le_of_ble_eq_true rfl, Nat.le_of_ble_eq_true rfl⟩ [.int u2] rfl (fun H locs hP hD hS => ?_)
        refine lv_if_eq (tgt := 125) hx hb dX9_next_115 (by decide) (fun cq => ?_) (fun cq => ?_)
        · have hf := it cq hf
          refine lv_aload_n hx hb dX9_next_125 rfl (lv_at hl 0 rfl) ?_
          refine lv_iconst (v := 4) hx hb dX9_next_126 (by decide) ?_
          refine pf_X9_150 (w2 := (W_M aM (va_up vM_37.1 6 4, vM_37.2) ++ (W_A E (aM 7) 600 vbuffer))) hx hb hg hown hK hP hD hS 0 rfl (Nat.le_of_ble_eq_true rfl) rfl dX9_next_127 (fun H locs hP hD hS => ?_)
          obtain ⟨vM_38, hv, hf⟩ := lt_o hf
          rw [← hv] at hP hD
          clear hv
          refine lv_aload_n hx hb dX9_next_130 rfl (lv_at hl 0 rfl) ?_
          refine gf_X9_29 hx hb hg hown hK hP 0 rfl rfl dX9_next_131 ?_
          refine lv_aload_n hx hb dX9_next_134 rfl (lv_at hl 0 rfl) ?_
          refine gf_X9_137 hx hb hg hown hK hP 0 rfl rfl dX9_next_135 ?_
          obtain ⟨hi, hf⟩ := ck_o hf
          refine ar_ld hx hb hK hP 1 rfl hi dX9_next_138 ?_
          refine lv_bipush (v := 59) hx hb dX9_next_139 (by decide) ?_
          refine lv_icmp_ne (tgt := 149) hx hb dX9_next_141 (by decide) (fun cq => ?_) (fun cq => ?_)
          · have hf := ie cq hf
            refine lv_aload_n hx hb dX9_next_149 rfl (lv_at hl 0 rfl) ?_
            refine lv_dup hx hb dX9_next_150 rfl ?_
            refine gf_X9_137 hx hb hg hown hK hP 0 rfl rfl dX9_next_151 ?_
            refine lv_iconst (v := 1) hx hb dX9_next_154 (by decide) ?_
            refine lv_iadd hx hb dX9_next_155 ?_
            refine pf_X9_137 (w2 := (W_M aM (va_up vM_38.1 4 ((vM_38.1 4) + 1), vM_38.2) ++ (W_A E (aM 7) 600 vbuffer))) hx hb hg hown hK hP hD hS 0 rfl (Nat.le_of_ble_eq_true rfl) rfl dX9_next_156 (fun H locs hP hD hS => ?_)
            obtain ⟨vM_39, hv, hf⟩ := lt_o hf
            rw [← hv] at hP hD
            clear hv
            obtain rfl := Option.some.inj hf
            exact cm_vret hx hb hr hlocks hP hS dX9_next_159
          · have hf := it cq hf
            refine lv_aload_n hx hb dX9_next_144 rfl (lv_at hl 0 rfl) ?_
            refine lv_iconst (v := 3) hx hb dX9_next_145 (by decide) ?_
            refine pf_X9_150 (w2 := (W_M aM (va_up vM_38.1 6 3, vM_38.2) ++ (W_A E (aM 7) 600 vbuffer))) hx hb hg hown hK hP hD hS 0 rfl (Nat.le_of_ble_eq_true rfl) rfl dX9_next_146 (fun H locs hP hD hS => ?_)
            obtain ⟨vM_40, hv, hf⟩ := lt_o hf
            rw [← hv] at hP hD
            clear hv
            refine lv_aload_n hx hb dX9_next_149 rfl (lv_at hl 0 rfl) ?_
            refine lv_dup hx hb dX9_next_150 rfl ?_
            refine gf_X9_137 hx hb hg hown hK hP 0 rfl rfl dX9_next_151 ?_
            refine lv_iconst (v := 1) hx hb dX9_next_154 (by decide) ?_
            refine lv_iadd hx hb dX9_next_155 ?_
            refine pf_X9_137 (w2 := (W_M aM (va_up vM_40.1 4 ((vM_40.1 4) + 1), vM_40.2) ++ (W_A E (aM 7) 600 vbuffer))) hx hb hg hown hK hP hD hS 0 rfl (Nat.le_of_ble_eq_true rfl) rfl dX9_next_156 (fun H locs hP hD hS => ?_)
            obtain ⟨vM_41, hv, hf⟩ := lt_o hf
            rw [← hv] at hP hD
            clear hv
            obtain rfl := Option.some.inj hf
            exact cm_vret hx hb hr hlocks hP hS dX9_next_159
        · have hf := ie cq hf
          refine lv_aload_n hx hb dX9_next_118 rfl (lv_at hl 0 rfl) ?_
          obtain ⟨u3, hu3, hf⟩ := bn hf
          refine cm_V (As := []) (rest := []) (w2 := (W_M aM u3 ++ (W_A E (aM 7) 600 vbuffer))) hx hb hml hown hg (c_X9_nextNumber E l aM vM_37 vbuffer u3 hu3) cy_X9_nextNumber ml_X9_163 ⟨⟨rfl, rfl⟩, Nat.le_of_ble_eq_true rfl, Nat.le_of_ble_eq_true rfl⟩ hK hE hP hD hS hA [true, true] rfl rfl rfl 0 rfl rfl rfl hl.1 rfl (Nat.le_of_ble_eq_true rfl) dX9_next_119 ⟨Nat.le_of_ble_eq_true rfl, Nat.le_of_ble_eq_true rfl⟩ [] rfl (fun H locs hP hD hS => ?_)
          refine lv_goto (tgt := 159) hx hb dX9_next_122 (by decide) ?_
          obtain rfl := Option.some.inj hf
          exact cm_vret hx hb hr hlocks hP hS dX9_next_159
      · have hf := ie cq hf
        refine lv_aload_n hx hb dX9_next_100 rfl (lv_at hl 0 rfl) ?_
        obtain ⟨u4, hu4, hf⟩ := bn hf
        refine cm_V (As := []) (rest := []) (w2 := (W_M aM u4 ++ (W_A E (aM 7) 600 vbuffer))) hx hb hml hown hg (c_X9_nextWord E l aM vM_37 vbuffer u4 hu4) cy_X9_nextWord ml_X9_157 ⟨⟨rfl, rfl⟩, Nat.le_of_ble_eq_true rfl, Nat.le_of_ble_eq_true rfl⟩ hK hE hP hD hS hA [true, true] rfl rfl rfl 0 rfl rfl rfl hl.1 rfl (Nat.le_of_ble_eq_true rfl) dX9_next_101 ⟨Nat.le_of_ble_eq_true rfl, Nat.le_of_ble_eq_true rfl⟩ [] rfl (fun H locs hP hD hS => ?_)
        refine lv_goto (tgt := 159) hx hb dX9_next_104 (by decide) ?_
        obtain rfl := Option.some.inj hf
        exact cm_vret hx hb hr hlocks hP hS dX9_next_159
    · have hf := it cq hf
      refine lv_aload_n hx hb dX9_next_81 rfl (lv_at hl 0 rfl) ?_
      refine lv_iconst (v := 0) hx hb dX9_next_82 (by decide) ?_
      refine pf_X9_150 (w2 := (W_M aM (va_up vM_37.1 6 0, vM_37.2) ++ (W_A E (aM 7) 600 vbuffer))) hx hb hg hown hK hP hD hS 0 rfl (Nat.le_of_ble_eq_true rfl) rfl dX9_next_83 (fun H locs hP hD hS => ?_)
      obtain ⟨vM_42, hv, hf⟩ := lt_o hf
      rw [← hv] at hP hD
      clear hv
      refine lv_goto (tgt := 159) hx hb dX9_next_86 (by decide) ?_
      obtain rfl := Option.some.inj hf
      exact cm_vret hx hb hr hlocks hP hS dX9_next_159
  have lp_0 : ∀ (n : Nat) (vM : (Nat → Int32) × Int64) (H : Heap) (locs : List Loc) (ls : Array Slot), L_X9_next_0 vbuffer n vM = some r → va_P E.1 vwCl (W_M aM vM ++ (W_A E (aM 7) 600 vbuffer)) H → va_D A (W_M aM vM ++ (W_A E (aM 7) 600 vbuffer)) → va_S A s.heap H locs → lv_has ls 1 [(0, .ref (aM 0))] → W p l e rm_X9_next s m ([.ref (aM 0)] : List Value).toArray below meth c H locs 0 0 (MQ below (QW E none (W_M aM r ++ (W_A E (aM 7) 600 vbuffer)) A) ([.ref (aM 0)] : List Value).toArray s 0 0 A) (F0 m 0 ls []) := by
    intro n
    induction n with
    | zero => intro vM H locs ls hf; cases hf
    | succ n ih =>
      intro vM H locs ls hf hP hD hS hl
      replace hf : B_X9_next_0 (L_X9_next_0 vbuffer n) vbuffer vM = some r := hf
      unfold B_X9_next_0 at hf
      refine lv_aload_n hx hb dX9_next_0 rfl (lv_at hl 0 rfl) ?_
      refine gf_X9_137 hx hb hg hown hK hP 0 rfl rfl dX9_next_1 ?_
      refine lv_aload_n hx hb dX9_next_4 rfl (lv_at hl 0 rfl) ?_
      refine gf_X9_130 hx hb hg hown hK hP 0 rfl rfl dX9_next_5 ?_
      refine lv_icmp_ge (tgt := 52) hx hb dX9_next_8 (by decide) (fun cq => ?_) (fun cq => ?_)
      · have hf := it cq hf
        exact jp_52 _ _ _ _ hf hP hD hS (lv_sub hl [0] rfl)
      · have hf := ie cq hf
        refine lv_aload_n hx hb dX9_next_11 rfl (lv_at hl 0 rfl) ?_
        refine gf_X9_29 hx hb hg hown hK hP 0 rfl rfl dX9_next_12 ?_
        refine lv_aload_n hx hb dX9_next_15 rfl (lv_at hl 0 rfl) ?_
        refine gf_X9_137 hx hb hg hown hK hP 0 rfl rfl dX9_next_16 ?_
        obtain ⟨hi, hf⟩ := ck_o hf
        refine ar_ld hx hb hK hP 1 rfl hi dX9_next_19 ?_
        refine lv_bipush (v := 32) hx hb dX9_next_20 (by decide) ?_
        refine lv_icmp_eq (tgt := 39) hx hb dX9_next_22 (by decide) (fun cq => ?_) (fun cq => ?_)
        · have hf := it cq hf
          refine lv_aload_n hx hb dX9_next_39 rfl (lv_at hl 0 rfl) ?_
          refine lv_dup hx hb dX9_next_40 rfl ?_
          refine gf_X9_137 hx hb hg hown hK hP 0 rfl rfl dX9_next_41 ?_
          refine lv_iconst (v := 1) hx hb dX9_next_44 (by decide) ?_
          refine lv_iadd hx hb dX9_next_45 ?_
          refine pf_X9_137 (w2 := (W_M aM (va_up vM.1 4 ((vM.1 4) + 1), vM.2) ++ (W_A E (aM 7) 600 vbuffer))) hx hb hg hown hK hP hD hS 0 rfl (Nat.le_of_ble_eq_true rfl) rfl dX9_next_46 (fun H locs hP hD hS => ?_)
          obtain ⟨vM_43, hv, hf⟩ := lt_o hf
          rw [← hv] at hP hD
          clear hv
          refine lv_goto (tgt := 0) hx hb dX9_next_49 (by decide) ?_
          exact ih _ _ _ _ hf hP hD hS (lv_sub hl [0] rfl)
        · have hf := ie cq hf
          refine lv_aload_n hx hb dX9_next_25 rfl (lv_at hl 0 rfl) ?_
          refine gf_X9_29 hx hb hg hown hK hP 0 rfl rfl dX9_next_26 ?_
          refine lv_aload_n hx hb dX9_next_29 rfl (lv_at hl 0 rfl) ?_
          refine gf_X9_137 hx hb hg hown hK hP 0 rfl rfl dX9_next_30 ?_
          obtain ⟨hi, hf⟩ := ck_o hf
          refine ar_ld hx hb hK hP 1 rfl hi dX9_next_33 ?_
          refine lv_bipush (v := 10) hx hb dX9_next_34 (by decide) ?_
          refine lv_icmp_ne (tgt := 52) hx hb dX9_next_36 (by decide) (fun cq => ?_) (fun cq => ?_)
          · have hf := ie cq hf
            exact jp_52 _ _ _ _ hf hP hD hS (lv_sub hl [0] rfl)
          · have hf := it cq hf
            refine lv_aload_n hx hb dX9_next_39 rfl (lv_at hl 0 rfl) ?_
            refine lv_dup hx hb dX9_next_40 rfl ?_
            refine gf_X9_137 hx hb hg hown hK hP 0 rfl rfl dX9_next_41 ?_
            refine lv_iconst (v := 1) hx hb dX9_next_44 (by decide) ?_
            refine lv_iadd hx hb dX9_next_45 ?_
            refine pf_X9_137 (w2 := (W_M aM (va_up vM.1 4 ((vM.1 4) + 1), vM.2) ++ (W_A E (aM 7) 600 vbuffer))) hx hb hg hown hK hP hD hS 0 rfl (Nat.le_of_ble_eq_true rfl) rfl dX9_next_46 (fun H locs hP hD hS => ?_)
            obtain ⟨vM_44, hv, hf⟩ := lt_o hf
            rw [← hv] at hP hD
            clear hv
            refine lv_goto (tgt := 0) hx hb dX9_next_49 (by decide) ?_
            exact ih _ _ _ _ hf hP hD hS (lv_sub hl [0] rfl)
  unfold F_X9_next at hf
  exact lp_0 FU _ _ _ _ hf hP hD hS (lv_sub hl [0] rfl)
def F_X9_takes (vM : (Nat → Int32) × Int64) (vbuffer : Nat → Int32) (x1 : Int32) : Option (Int32 × ((Nat → Int32) × Int64)) := (if (vM.1 8) = 0 then (if x1 = 0 then lt (va_up vM.1 8 1, vM.2) (fun vM_5 => lt (va_up vM_5.1 2 (vM_5.1 5), vM_5.2) (fun vM_6 => (some (0, vM_6)))) else (F_X9_next vM vbuffer).bind (fun u1 => (some (1, u1)))) else (some (0, vM)))
abbrev rm_X9_takes : Room := { frames := 3, cells := 0, slots := 0, locals := 61 }
set_option maxHeartbeats 4000000 in
set_option maxRecDepth 100000 in
theorem c_X9_takes (E : Ev) (l : Launch) (aM : Nat → Nat) (vM : (Nat → Int32) × Int64) (vbuffer : Nat → Int32) (x1 : Int32) (r : Int32 × ((Nat → Int32) × Int64)) (hf : F_X9_takes vM vbuffer x1 = some r) : CM E l yX9_takes (.code yX9_takes cX9_takes 2 (some .boolean) :: GA) rm_X9_takes [.ref (aM 0), .int x1] (W_M aM vM ++ (W_A E (aM 7) 600 vbuffer)) (some (.int r.1)) (W_M aM r.2 ++ (W_A E (aM 7) 600 vbuffer)) := by
  refine CM.of (own := RX9) rfl (by decide) (Nat.le_of_ble_eq_true rfl) ?_
  intro p e s m below meth c A ls hx hb hr hml hown hg hlocks hK hE hA hP hD hS hl
  have hl : lv_has ls 2 [(0, .ref (aM 0)), (1, .int x1)] := hl
  unfold F_X9_takes at hf
  refine lv_aload_n hx hb dX9_takes_0 rfl (lv_at hl 0 rfl) ?_
  refine gf_X9_170 hx hb hg hown hK hP 0 rfl rfl dX9_takes_1 ?_
  refine lv_if_eq (tgt := 9) hx hb dX9_takes_4 (by decide) (fun cq => ?_) (fun cq => ?_)
  · have hf := it cq hf
    refine lv_iload_n hx hb dX9_takes_9 rfl (lv_at hl 1 rfl) ?_
    refine lv_if_ne (tgt := 28) hx hb dX9_takes_10 (by decide) (fun cq => ?_) (fun cq => ?_)
    · have hf := ie cq hf
      refine lv_aload_n hx hb dX9_takes_28 rfl (lv_at hl 0 rfl) ?_
      obtain ⟨u1, hu1, hf⟩ := bn hf
      refine cm_V (As := []) (rest := []) (w2 := (W_M aM u1 ++ (W_A E (aM 7) 600 vbuffer))) hx hb hml hown hg (c_X9_next E l aM vM vbuffer u1 hu1) cy_X9_next ml_X9_174 ⟨⟨rfl, rfl⟩, Nat.le_of_ble_eq_true rfl, Nat.le_of_ble_eq_true rfl⟩ hK hE hP hD hS hA [true, true] rfl rfl rfl 0 rfl rfl rfl hl.1 rfl (Nat.le_of_ble_eq_true rfl) dX9_takes_29 ⟨Nat.le_of_ble_eq_true rfl, Nat.le_of_ble_eq_true rfl⟩ [] rfl (fun H locs hP hD hS => ?_)
      refine lv_iconst (v := 1) hx hb dX9_takes_32 (by decide) ?_
      obtain rfl := Option.some.inj hf
      exact cm_zret (v := 1) hx hb hr hlocks hP hS rfl dX9_takes_33
    · have hf := it cq hf
      refine lv_aload_n hx hb dX9_takes_13 rfl (lv_at hl 0 rfl) ?_
      refine lv_iconst (v := 1) hx hb dX9_takes_14 (by decide) ?_
      refine pf_X9_170 (w2 := (W_M aM (va_up vM.1 8 1, vM.2) ++ (W_A E (aM 7) 600 vbuffer))) hx hb hg hown hK hP hD hS 0 rfl rfl rfl (Nat.le_of_ble_eq_true rfl) rfl dX9_takes_15 (fun H locs hP hD hS => ?_)
      obtain ⟨vM_5, hv, hf⟩ := lt_o hf
      rw [← hv] at hP hD
      clear hv
      refine lv_aload_n hx hb dX9_takes_18 rfl (lv_at hl 0 rfl) ?_
      refine lv_aload_n hx hb dX9_takes_19 rfl (lv_at hl 0 rfl) ?_
      refine gf_X9_140 hx hb hg hown hK hP 0 rfl rfl dX9_takes_20 ?_
      refine pf_X9_32 (w2 := (W_M aM (va_up vM_5.1 2 (vM_5.1 5), vM_5.2) ++ (W_A E (aM 7) 600 vbuffer))) hx hb hg hown hK hP hD hS 0 rfl (Nat.le_of_ble_eq_true rfl) rfl dX9_takes_23 (fun H locs hP hD hS => ?_)
      obtain ⟨vM_6, hv, hf⟩ := lt_o hf
      rw [← hv] at hP hD
      clear hv
      refine lv_iconst (v := 0) hx hb dX9_takes_26 (by decide) ?_
      obtain rfl := Option.some.inj hf
      exact cm_zret (v := 0) hx hb hr hlocks hP hS rfl dX9_takes_27
  · have hf := ie cq hf
    refine lv_iconst (v := 0) hx hb dX9_takes_7 (by decide) ?_
    obtain rfl := Option.some.inj hf
    exact cm_zret (v := 0) hx hb hr hlocks hP hS rfl dX9_takes_8
def F_X9_takesNumber (vM : (Nat → Int32) × Int64) (vbuffer : Nat → Int32) (x1 : Int32) (x2 : Int32) : Option (Int32 × ((Nat → Int32) × Int64)) := (if (vM.1 6) = 2 then (F_X9_in (vM.1 7) x1 x2).bind (fun u2 => (if u2 = 0 then (F_X9_takes vM vbuffer 0).bind (fun u3 => (if u3.1 = 0 then (some (x1, u3.2)) else (some ((vM.1 7), u3.2)))) else (F_X9_takes vM vbuffer 1).bind (fun u4 => (if u4.1 = 0 then (some (x1, u4.2)) else (some ((vM.1 7), u4.2)))))) else (F_X9_takes vM vbuffer 0).bind (fun u1 => (if u1.1 = 0 then (some (x1, u1.2)) else (some ((vM.1 7), u1.2)))))
abbrev rm_X9_takesNumber : Room := { frames := 4, cells := 0, slots := 0, locals := 82 }
set_option maxHeartbeats 4000000 in
set_option maxRecDepth 100000 in
theorem c_X9_takesNumber (E : Ev) (l : Launch) (aM : Nat → Nat) (vM : (Nat → Int32) × Int64) (vbuffer : Nat → Int32) (x1 : Int32) (x2 : Int32) (r : Int32 × ((Nat → Int32) × Int64)) (hf : F_X9_takesNumber vM vbuffer x1 x2 = some r) : CM E l yX9_takesNumber (.code yX9_takesNumber cX9_takesNumber 4 (some .int) :: GA) rm_X9_takesNumber [.ref (aM 0), .int x1, .int x2] (W_M aM vM ++ (W_A E (aM 7) 600 vbuffer)) (some (.int r.1)) (W_M aM r.2 ++ (W_A E (aM 7) 600 vbuffer)) := by
  refine CM.of (own := RX9) rfl (by decide) (Nat.le_of_ble_eq_true rfl) ?_
  intro p e s m below meth c A ls hx hb hr hml hown hg hlocks hK hE hA hP hD hS hl
  have hl : lv_has ls 4 [(0, .ref (aM 0)), (1, .int x1), (2, .int x2)] := hl
  unfold F_X9_takesNumber at hf
  refine lv_aload_n hx hb dX9_takesNumber_0 rfl (lv_at hl 0 rfl) ?_
  refine gf_X9_143 hx hb hg hown hK hP 0 rfl rfl dX9_takesNumber_1 ?_
  refine lv_istore_n (lv' := [(3, .int (vM.1 7)), (0, .ref (aM 0)), (1, .int x1), (2, .int x2)]) hx hb dX9_takesNumber_4 rfl hl (by decide) rfl (fun ls hl => ?_)
  refine lv_aload_n hx hb dX9_takesNumber_5 rfl (lv_at hl 1 rfl) ?_
  refine lv_aload_n hx hb dX9_takesNumber_6 rfl (lv_at hl 1 rfl) ?_
  refine gf_X9_150 hx hb hg hown hK hP 0 rfl rfl dX9_takesNumber_7 ?_
  refine lv_iconst (v := 2) hx hb dX9_takesNumber_10 (by decide) ?_
  refine lv_icmp_ne (tgt := 27) hx hb dX9_takesNumber_11 (by decide) (fun cq => ?_) (fun cq => ?_)
  · have hf := ie cq hf
    refine lv_iconst (v := 0) hx hb dX9_takesNumber_27 (by decide) ?_
    obtain ⟨u1, hu1, hf⟩ := bn hf
    refine cm_V (As := [.int 0]) (rest := []) (w2 := (W_M aM u1.2 ++ (W_A E (aM 7) 600 vbuffer))) hx hb hml hown hg (c_X9_takes E l aM vM vbuffer 0 u1 hu1) cy_X9_takes ml_X9_177 ⟨⟨rfl, rfl⟩, Nat.le_of_ble_eq_true rfl, Nat.le_of_ble_eq_true rfl⟩ hK hE hP hD hS hA [true, true] rfl rfl rfl 0 rfl rfl rfl hl.1 rfl (Nat.le_of_ble_eq_true rfl) dX9_takesNumber_28 ⟨Nat.le_of_ble_eq_true rfl, Nat.le_of_ble_eq_true rfl⟩ [.int u1.1] rfl (fun H locs hP hD hS => ?_)
    refine lv_if_eq (tgt := 36) hx hb dX9_takesNumber_31 (by decide) (fun cq => ?_) (fun cq => ?_)
    · have hf := it cq hf
      refine lv_iload_n hx hb dX9_takesNumber_36 rfl (lv_at hl 2 rfl) ?_
      obtain rfl := Option.some.inj hf
      exact cm_iret hx hb hr hlocks hP hS dX9_takesNumber_37
    · have hf := ie cq hf
      refine lv_iload_n hx hb dX9_takesNumber_34 rfl (lv_at hl 0 rfl) ?_
      obtain rfl := Option.some.inj hf
      exact cm_iret hx hb hr hlocks hP hS dX9_takesNumber_35
  · have hf := it cq hf
    refine lv_iload_n hx hb dX9_takesNumber_14 rfl (lv_at hl 0 rfl) ?_
    refine lv_iload_n hx hb dX9_takesNumber_15 rfl (lv_at hl 2 rfl) ?_
    refine lv_iload_n hx hb dX9_takesNumber_16 rfl (lv_at hl 3 rfl) ?_
    obtain ⟨u2, hu2, hf⟩ := bn hf
    refine cm_S (As := [.int (vM.1 7), .int x1, .int x2]) (rest := [.ref (aM 0)]) (w2 := (W_M aM vM ++ (W_A E (aM 7) 600 vbuffer))) hx hb hml hown hg (c_X9_in E l (vM.1 7) x1 x2 u2 hu2) cs_X9_in ml_X9_55 ⟨⟨rfl, rfl⟩, Nat.le_of_ble_eq_true rfl, Nat.le_of_ble_eq_true rfl⟩ hK hE hP hD hS hA [] rfl rfl rfl rfl hl.1 rfl (Nat.le_of_ble_eq_true rfl) dX9_takesNumber_17 ⟨Nat.le_of_ble_eq_true rfl, Nat.le_of_ble_eq_true rfl⟩ [.int u2, .ref (aM 0)] rfl (fun H locs hP hD hS => ?_)
    refine lv_if_eq (tgt := 27) hx hb dX9_takesNumber_20 (by decide) (fun cq => ?_) (fun cq => ?_)
    · have hf := it cq hf
      refine lv_iconst (v := 0) hx hb dX9_takesNumber_27 (by decide) ?_
      obtain ⟨u3, hu3, hf⟩ := bn hf
      refine cm_V (As := [.int 0]) (rest := []) (w2 := (W_M aM u3.2 ++ (W_A E (aM 7) 600 vbuffer))) hx hb hml hown hg (c_X9_takes E l aM vM vbuffer 0 u3 hu3) cy_X9_takes ml_X9_177 ⟨⟨rfl, rfl⟩, Nat.le_of_ble_eq_true rfl, Nat.le_of_ble_eq_true rfl⟩ hK hE hP hD hS hA [true, true] rfl rfl rfl 0 rfl rfl rfl hl.1 rfl (Nat.le_of_ble_eq_true rfl) dX9_takesNumber_28 ⟨Nat.le_of_ble_eq_true rfl, Nat.le_of_ble_eq_true rfl⟩ [.int u3.1] rfl (fun H locs hP hD hS => ?_)
      refine lv_if_eq (tgt := 36) hx hb dX9_takesNumber_31 (by decide) (fun cq => ?_) (fun cq => ?_)
      · have hf := it cq hf
        refine lv_iload_n hx hb dX9_takesNumber_36 rfl (lv_at hl 2 rfl) ?_
        obtain rfl := Option.some.inj hf
        exact cm_iret hx hb hr hlocks hP hS dX9_takesNumber_37
      · have hf := ie cq hf
        refine lv_iload_n hx hb dX9_takesNumber_34 rfl (lv_at hl 0 rfl) ?_
        obtain rfl := Option.some.inj hf
        exact cm_iret hx hb hr hlocks hP hS dX9_takesNumber_35
    · have hf := ie cq hf
      refine lv_iconst (v := 1) hx hb dX9_takesNumber_23 (by decide) ?_
      refine lv_goto (tgt := 28) hx hb dX9_takesNumber_24 (by decide) ?_
      obtain ⟨u4, hu4, hf⟩ := bn hf
      refine cm_V (As := [.int 1]) (rest := []) (w2 := (W_M aM u4.2 ++ (W_A E (aM 7) 600 vbuffer))) hx hb hml hown hg (c_X9_takes E l aM vM vbuffer 1 u4 hu4) cy_X9_takes ml_X9_177 ⟨⟨rfl, rfl⟩, Nat.le_of_ble_eq_true rfl, Nat.le_of_ble_eq_true rfl⟩ hK hE hP hD hS hA [true, true] rfl rfl rfl 0 rfl rfl rfl hl.1 rfl (Nat.le_of_ble_eq_true rfl) dX9_takesNumber_28 ⟨Nat.le_of_ble_eq_true rfl, Nat.le_of_ble_eq_true rfl⟩ [.int u4.1] rfl (fun H locs hP hD hS => ?_)
      refine lv_if_eq (tgt := 36) hx hb dX9_takesNumber_31 (by decide) (fun cq => ?_) (fun cq => ?_)
      · have hf := it cq hf
        refine lv_iload_n hx hb dX9_takesNumber_36 rfl (lv_at hl 2 rfl) ?_
        obtain rfl := Option.some.inj hf
        exact cm_iret hx hb hr hlocks hP hS dX9_takesNumber_37
      · have hf := ie cq hf
        refine lv_iload_n hx hb dX9_takesNumber_34 rfl (lv_at hl 0 rfl) ?_
        obtain rfl := Option.some.inj hf
        exact cm_iret hx hb hr hlocks hP hS dX9_takesNumber_35
def J_X9_readGuest_94 (vbuffer : Nat → Int32) (x1 : Int32) (x2 : Int32) (x3 : Int32) (vM : (Nat → Int32) × Int64) (vdraft : Nat → Int32) : Option (((Nat → Int32) × Int64) × (Nat → Int32)) := (F_X9_takes vM vbuffer (if (vM.1 6) = 3 then 1 else 0)).bind (fun u1 => (if u1.1 = 0 then (some (u1.2, vdraft)) else (F_X9_addsGuest vdraft x1 x2 x3).bind (fun u2 => (some (u1.2, u2.2)))))
def J_X9_readGuest_51 (vbuffer : Nat → Int32) (x1 : Int32) (t1 : Int32) (vM : (Nat → Int32) × Int64) (vdraft : Nat → Int32) : Option (((Nat → Int32) × Int64) × (Nat → Int32)) := (F_X9_takes vM vbuffer t1).bind (fun u1 => (F_X9_takesNumber u1.2 vbuffer 0 9).bind (fun u2 => (if (u2.2.1 8) = 0 then (F_X9_isWord u2.2 3328).bind (fun u3 => (if u3 = 0 then (J_X9_readGuest_94 vbuffer x1 u2.1 0 u2.2 vdraft) else (F_X9_next u2.2 vbuffer).bind (fun u4 => (F_X9_takesNumber u4 vbuffer 1 9).bind (fun u5 => (J_X9_readGuest_94 vbuffer x1 u2.1 u5.1 u5.2 vdraft))))) else (J_X9_readGuest_94 vbuffer x1 u2.1 0 u2.2 vdraft))))
def F_X9_readGuest (vM : (Nat → Int32) × Int64) (vdraft : Nat → Int32) (vbuffer : Nat → Int32) : Option (((Nat → Int32) × Int64) × (Nat → Int32)) := ck 7 306 ((F_X9_takes vM vbuffer (if 10 ≤ (vdraft (Int32.toNatClampNeg 7)) then 0 else 1)).bind (fun u1 => (if u1.1 = 0 then (some (u1.2, vdraft)) else (F_X9_wordName u1.2).bind (fun u2 => (if u2 ≤ 0 then (J_X9_readGuest_51 vbuffer u2 0 u1.2 vdraft) else (F_X9_guestBy vdraft u2).bind (fun u3 => (if 0 ≤ u3 then (J_X9_readGuest_51 vbuffer u2 0 u1.2 vdraft) else (J_X9_readGuest_51 vbuffer u2 1 u1.2 vdraft))))))))
abbrev rm_X9_readGuest : Room := { frames := 5, cells := 0, slots := 0, locals := 105 }
set_option maxHeartbeats 4000000 in
set_option maxRecDepth 100000 in
theorem c_X9_readGuest (E : Ev) (l : Launch) (aM : Nat → Nat) (vM : (Nat → Int32) × Int64) (vdraft : Nat → Int32) (vbuffer : Nat → Int32) (r : ((Nat → Int32) × Int64) × (Nat → Int32)) (hf : F_X9_readGuest vM vdraft vbuffer = some r) : CM E l yX9_readGuest (.code yX9_readGuest cX9_readGuest 4 none :: GA) rm_X9_readGuest [.ref (aM 0)] (W_M aM vM ++ (W_A E (aM 2) 306 vdraft ++ (W_A E (aM 7) 600 vbuffer))) none (W_M aM r.1 ++ (W_A E (aM 2) 306 r.2 ++ (W_A E (aM 7) 600 vbuffer))) := by
  refine CM.of (own := RX9) rfl (by decide) (Nat.le_of_ble_eq_true rfl) ?_
  intro p e s m below meth c A ls hx hb hr hml hown hg hlocks hK hE hA hP hD hS hl
  have hl : lv_has ls 4 [(0, .ref (aM 0))] := hl
  have jp_94 : ∀ (x1 : Int32) (x2 : Int32) (x3 : Int32) (vM : (Nat → Int32) × Int64) (vdraft : Nat → Int32) (H : Heap) (locs : List Loc) (ls : Array Slot), J_X9_readGuest_94 vbuffer x1 x2 x3 vM vdraft = some r → va_P E.1 vwCl (W_M aM vM ++ (W_A E (aM 2) 306 vdraft ++ (W_A E (aM 7) 600 vbuffer))) H → va_D A (W_M aM vM ++ (W_A E (aM 2) 306 vdraft ++ (W_A E (aM 7) 600 vbuffer))) → va_S A s.heap H locs → lv_has ls 4 [(0, .ref (aM 0)), (1, .int x1), (2, .int x2), (3, .int x3)] → W p l e rm_X9_readGuest s m ([.ref (aM 0)] : List Value).toArray below meth c H locs 0 0 (MQ below (QW E none (W_M aM r.1 ++ (W_A E (aM 2) 306 r.2 ++ (W_A E (aM 7) 600 vbuffer))) A) ([.ref (aM 0)] : List Value).toArray s 0 0 A) (F0 m 94 ls []) := by
    intro x1 x2 x3 vM vdraft H locs ls hf hP hD hS hl
    unfold J_X9_readGuest_94 at hf
    refine lv_aload_n hx hb dX9_readGuest_94 rfl (lv_at hl 0 rfl) ?_
    refine lv_aload_n hx hb dX9_readGuest_95 rfl (lv_at hl 0 rfl) ?_
    refine gf_X9_150 hx hb hg hown hK hP 0 rfl rfl dX9_readGuest_96 ?_
    refine lv_iconst (v := 3) hx hb dX9_readGuest_99 (by decide) ?_
    refine wj (F0 m 108 ls [.int (if (vM.1 6) = 3 then 1 else 0), .ref (aM 0)]) ?_ (fun jk => ?_)
    rotate_left
    · refine lv_icmp_ne (tgt := 107) hx hb dX9_readGuest_100 (by decide) (fun cq => ?_) (fun cq => ?_)
      · rw [if_neg cq] at jk
        refine lv_iconst (v := 0) hx hb dX9_readGuest_107 (by decide) ?_
        exact jk
      · rw [if_pos cq] at jk
        refine lv_iconst (v := 1) hx hb dX9_readGuest_103 (by decide) ?_
        refine lv_goto (tgt := 108) hx hb dX9_readGuest_104 (by decide) ?_
        exact jk
    obtain ⟨u1, hu1, hf⟩ := bn hf
    refine cm_V (As := [.int (if (vM.1 6) = 3 then 1 else 0)]) (rest := []) (w2 := (W_M aM u1.2 ++ (W_A E (aM 2) 306 vdraft ++ (W_A E (aM 7) 600 vbuffer)))) hx hb hml hown hg (c_X9_takes E l aM vM vbuffer (if (vM.1 6) = 3 then 1 else 0) u1 hu1) cy_X9_takes ml_X9_177 ⟨⟨rfl, rfl⟩, Nat.le_of_ble_eq_true rfl, Nat.le_of_ble_eq_true rfl⟩ hK hE hP hD hS hA [true, false, true] rfl rfl rfl 0 rfl rfl rfl hl.1 rfl (Nat.le_of_ble_eq_true rfl) dX9_readGuest_108 ⟨Nat.le_of_ble_eq_true rfl, Nat.le_of_ble_eq_true rfl⟩ [.int u1.1] rfl (fun H locs hP hD hS => ?_)
    refine lv_if_eq (tgt := 125) hx hb dX9_readGuest_111 (by decide) (fun cq => ?_) (fun cq => ?_)
    · have hf := it cq hf
      obtain rfl := Option.some.inj hf
      exact cm_vret hx hb hr hlocks hP hS dX9_readGuest_125
    · have hf := ie cq hf
      refine lv_aload_n hx hb dX9_readGuest_114 rfl (lv_at hl 0 rfl) ?_
      refine gf_X9_13 hx hb hg hown hK hP 0 rfl rfl dX9_readGuest_115 ?_
      refine lv_iload_n hx hb dX9_readGuest_118 rfl (lv_at hl 1 rfl) ?_
      refine lv_iload_n hx hb dX9_readGuest_119 rfl (lv_at hl 2 rfl) ?_
      refine lv_iload_n hx hb dX9_readGuest_120 rfl (lv_at hl 3 rfl) ?_
      obtain ⟨u2, hu2, hf⟩ := bn hf
      refine cm_S (As := [.ref (aM 2), .int x1, .int x2, .int x3]) (rest := []) (w2 := (W_M aM u1.2 ++ (W_A E (aM 2) 306 u2.2 ++ (W_A E (aM 7) 600 vbuffer)))) hx hb hml hown hg (c_X9_addsGuest E l (aM 2) vdraft x1 x2 x3 u2 hu2) cs_X9_addsGuest ml_X9_39 ⟨⟨rfl, rfl⟩, Nat.le_of_ble_eq_true rfl, Nat.le_of_ble_eq_true rfl⟩ hK hE hP hD hS hA [false, true] rfl rfl rfl rfl hl.1 rfl (Nat.le_of_ble_eq_true rfl) dX9_readGuest_121 ⟨Nat.le_of_ble_eq_true rfl, Nat.le_of_ble_eq_true rfl⟩ [.int u2.1] rfl (fun H locs hP hD hS => ?_)
      refine lv_pop hx hb dX9_readGuest_124 rfl ?_
      obtain rfl := Option.some.inj hf
      exact cm_vret hx hb hr hlocks hP hS dX9_readGuest_125
  have jp_51 : ∀ (x1 : Int32) (t1 : Int32) (vM : (Nat → Int32) × Int64) (vdraft : Nat → Int32) (H : Heap) (locs : List Loc) (ls : Array Slot), J_X9_readGuest_51 vbuffer x1 t1 vM vdraft = some r → va_P E.1 vwCl (W_M aM vM ++ (W_A E (aM 2) 306 vdraft ++ (W_A E (aM 7) 600 vbuffer))) H → va_D A (W_M aM vM ++ (W_A E (aM 2) 306 vdraft ++ (W_A E (aM 7) 600 vbuffer))) → va_S A s.heap H locs → lv_has ls 4 [(0, .ref (aM 0)), (1, .int x1)] → W p l e rm_X9_readGuest s m ([.ref (aM 0)] : List Value).toArray below meth c H locs 0 0 (MQ below (QW E none (W_M aM r.1 ++ (W_A E (aM 2) 306 r.2 ++ (W_A E (aM 7) 600 vbuffer))) A) ([.ref (aM 0)] : List Value).toArray s 0 0 A) (F0 m 51 ls [.int t1, .ref (aM 0)]) := by
    intro x1 t1 vM vdraft H locs ls hf hP hD hS hl
    unfold J_X9_readGuest_51 at hf
    obtain ⟨u1, hu1, hf⟩ := bn hf
    refine cm_V (As := [.int t1]) (rest := []) (w2 := (W_M aM u1.2 ++ (W_A E (aM 2) 306 vdraft ++ (W_A E (aM 7) 600 vbuffer)))) hx hb hml hown hg (c_X9_takes E l aM vM vbuffer t1 u1 hu1) cy_X9_takes ml_X9_177 ⟨⟨rfl, rfl⟩, Nat.le_of_ble_eq_true rfl, Nat.le_of_ble_eq_true rfl⟩ hK hE hP hD hS hA [true, false, true] rfl rfl rfl 0 rfl rfl rfl hl.1 rfl (Nat.le_of_ble_eq_true rfl) dX9_readGuest_51 ⟨Nat.le_of_ble_eq_true rfl, Nat.le_of_ble_eq_true rfl⟩ [.int u1.1] rfl (fun H locs hP hD hS => ?_)
    refine lv_pop hx hb dX9_readGuest_54 rfl ?_
    refine lv_aload_n hx hb dX9_readGuest_55 rfl (lv_at hl 0 rfl) ?_
    refine lv_iconst (v := 0) hx hb dX9_readGuest_56 (by decide) ?_
    refine lv_bipush (v := 9) hx hb dX9_readGuest_57 (by decide) ?_
    obtain ⟨u2, hu2, hf⟩ := bn hf
    refine cm_V (As := [.int 0, .int 9]) (rest := []) (w2 := (W_M aM u2.2 ++ (W_A E (aM 2) 306 vdraft ++ (W_A E (aM 7) 600 vbuffer)))) hx hb hml hown hg (c_X9_takesNumber E l aM u1.2 vbuffer 0 9 u2 hu2) cy_X9_takesNumber ml_X9_188 ⟨⟨rfl, rfl⟩, Nat.le_of_ble_eq_true rfl, Nat.le_of_ble_eq_true rfl⟩ hK hE hP hD hS hA [true, false, true] rfl rfl rfl 0 rfl rfl rfl hl.1 rfl (Nat.le_of_ble_eq_true rfl) dX9_readGuest_59 ⟨Nat.le_of_ble_eq_true rfl, Nat.le_of_ble_eq_true rfl⟩ [.int u2.1] rfl (fun H locs hP hD hS => ?_)
    refine lv_istore_n (lv' := [(2, .int u2.1), (0, .ref (aM 0)), (1, .int x1)]) hx hb dX9_readGuest_62 rfl hl (by decide) rfl (fun ls hl => ?_)
    refine lv_iconst (v := 0) hx hb dX9_readGuest_63 (by decide) ?_
    refine lv_istore_n (lv' := [(3, .int 0), (2, .int u2.1), (0, .ref (aM 0)), (1, .int x1)]) hx hb dX9_readGuest_64 rfl hl (by decide) rfl (fun ls hl => ?_)
    refine lv_aload_n hx hb dX9_readGuest_65 rfl (lv_at hl 2 rfl) ?_
    refine gf_X9_170 hx hb hg hown hK hP 0 rfl rfl dX9_readGuest_66 ?_
    refine lv_if_ne (tgt := 94) hx hb dX9_readGuest_69 (by decide) (fun cq => ?_) (fun cq => ?_)
    · have hf := ie cq hf
      exact jp_94 _ _ _ _ _ _ _ _ hf hP hD hS (lv_sub hl [2, 3, 1, 0] rfl)
    · have hf := it cq hf
      refine lv_aload_n hx hb dX9_readGuest_72 rfl (lv_at hl 2 rfl) ?_
      refine lv_ldc2 (v := 3328) hx hb hown (hg _ kl_X9_191) dX9_readGuest_73 ?_
      obtain ⟨u3, hu3, hf⟩ := bn hf
      refine cm_V (As := [.long 3328]) (rest := []) (w2 := (W_M aM u2.2 ++ (W_A E (aM 2) 306 vdraft ++ (W_A E (aM 7) 600 vbuffer)))) hx hb hml hown hg (c_X9_isWord E l aM u2.2 3328 u3 hu3) cy_X9_isWord ml_X9_193 ⟨⟨rfl, rfl⟩, Nat.le_of_ble_eq_true rfl, Nat.le_of_ble_eq_true rfl⟩ hK hE hP hD hS hA [true] rfl rfl rfl 0 rfl rfl rfl hl.1 rfl (Nat.le_of_ble_eq_true rfl) dX9_readGuest_76 ⟨Nat.le_of_ble_eq_true rfl, Nat.le_of_ble_eq_true rfl⟩ [.int u3] rfl (fun H locs hP hD hS => ?_)
      refine lv_if_eq (tgt := 94) hx hb dX9_readGuest_79 (by decide) (fun cq => ?_) (fun cq => ?_)
      · have hf := it cq hf
        exact jp_94 _ _ _ _ _ _ _ _ hf hP hD hS (lv_sub hl [2, 3, 1, 0] rfl)
      · have hf := ie cq hf
        refine lv_aload_n hx hb dX9_readGuest_82 rfl (lv_at hl 2 rfl) ?_
        obtain ⟨u4, hu4, hf⟩ := bn hf
        refine cm_V (As := []) (rest := []) (w2 := (W_M aM u4 ++ (W_A E (aM 2) 306 vdraft ++ (W_A E (aM 7) 600 vbuffer)))) hx hb hml hown hg (c_X9_next E l aM u2.2 vbuffer u4 hu4) cy_X9_next ml_X9_174 ⟨⟨rfl, rfl⟩, Nat.le_of_ble_eq_true rfl, Nat.le_of_ble_eq_true rfl⟩ hK hE hP hD hS hA [true, false, true] rfl rfl rfl 0 rfl rfl rfl hl.1 rfl (Nat.le_of_ble_eq_true rfl) dX9_readGuest_83 ⟨Nat.le_of_ble_eq_true rfl, Nat.le_of_ble_eq_true rfl⟩ [] rfl (fun H locs hP hD hS => ?_)
        refine lv_aload_n hx hb dX9_readGuest_86 rfl (lv_at hl 2 rfl) ?_
        refine lv_iconst (v := 1) hx hb dX9_readGuest_87 (by decide) ?_
        refine lv_bipush (v := 9) hx hb dX9_readGuest_88 (by decide) ?_
        obtain ⟨u5, hu5, hf⟩ := bn hf
        refine cm_V (As := [.int 1, .int 9]) (rest := []) (w2 := (W_M aM u5.2 ++ (W_A E (aM 2) 306 vdraft ++ (W_A E (aM 7) 600 vbuffer)))) hx hb hml hown hg (c_X9_takesNumber E l aM u4 vbuffer 1 9 u5 hu5) cy_X9_takesNumber ml_X9_188 ⟨⟨rfl, rfl⟩, Nat.le_of_ble_eq_true rfl, Nat.le_of_ble_eq_true rfl⟩ hK hE hP hD hS hA [true, false, true] rfl rfl rfl 0 rfl rfl rfl hl.1 rfl (Nat.le_of_ble_eq_true rfl) dX9_readGuest_90 ⟨Nat.le_of_ble_eq_true rfl, Nat.le_of_ble_eq_true rfl⟩ [.int u5.1] rfl (fun H locs hP hD hS => ?_)
        refine lv_istore_n (lv' := [(3, .int u5.1), (2, .int u2.1), (0, .ref (aM 0)), (1, .int x1)]) hx hb dX9_readGuest_93 rfl hl (by decide) rfl (fun ls hl => ?_)
        exact jp_94 _ _ _ _ _ _ _ _ hf hP hD hS (lv_sub hl [2, 3, 1, 0] rfl)
  unfold F_X9_readGuest at hf
  refine lv_aload_n hx hb dX9_readGuest_0 rfl (lv_at hl 0 rfl) ?_
  refine lv_aload_n hx hb dX9_readGuest_1 rfl (lv_at hl 0 rfl) ?_
  refine gf_X9_13 hx hb hg hown hK hP 0 rfl rfl dX9_readGuest_2 ?_
  refine lv_bipush (v := 7) hx hb dX9_readGuest_5 (by decide) ?_
  obtain ⟨hi, hf⟩ := ck_o hf
  refine ar_ld hx hb hK hP 1 rfl hi dX9_readGuest_7 ?_
  refine lv_bipush (v := 10) hx hb dX9_readGuest_8 (by decide) ?_
  refine wj (F0 m 18 ls [.int (if 10 ≤ (vdraft (Int32.toNatClampNeg 7)) then 0 else 1), .ref (aM 0)]) ?_ (fun jk => ?_)
  rotate_left
  · refine lv_icmp_ge (tgt := 17) hx hb dX9_readGuest_10 (by decide) (fun cq => ?_) (fun cq => ?_)
    · rw [if_pos cq] at jk
      refine lv_iconst (v := 0) hx hb dX9_readGuest_17 (by decide) ?_
      exact jk
    · rw [if_neg cq] at jk
      refine lv_iconst (v := 1) hx hb dX9_readGuest_13 (by decide) ?_
      refine lv_goto (tgt := 18) hx hb dX9_readGuest_14 (by decide) ?_
      exact jk
  obtain ⟨u1, hu1, hf⟩ := bn hf
  refine cm_V (As := [.int (if 10 ≤ (vdraft (Int32.toNatClampNeg 7)) then 0 else 1)]) (rest := []) (w2 := (W_M aM u1.2 ++ (W_A E (aM 2) 306 vdraft ++ (W_A E (aM 7) 600 vbuffer)))) hx hb hml hown hg (c_X9_takes E l aM vM vbuffer (if 10 ≤ (vdraft (Int32.toNatClampNeg 7)) then 0 else 1) u1 hu1) cy_X9_takes ml_X9_177 ⟨⟨rfl, rfl⟩, Nat.le_of_ble_eq_true rfl, Nat.le_of_ble_eq_true rfl⟩ hK hE hP hD hS hA [true, false, true] rfl rfl rfl 0 rfl rfl rfl hl.1 rfl (Nat.le_of_ble_eq_true rfl) dX9_readGuest_18 ⟨Nat.le_of_ble_eq_true rfl, Nat.le_of_ble_eq_true rfl⟩ [.int u1.1] rfl (fun H locs hP hD hS => ?_)
  refine lv_if_ne (tgt := 25) hx hb dX9_readGuest_21 (by decide) (fun cq => ?_) (fun cq => ?_)
  · have hf := ie cq hf
    refine lv_aload_n hx hb dX9_readGuest_25 rfl (lv_at hl 0 rfl) ?_
    obtain ⟨u2, hu2, hf⟩ := bn hf
    refine cm_V (As := []) (rest := []) (w2 := (W_M aM u1.2 ++ (W_A E (aM 2) 306 vdraft ++ (W_A E (aM 7) 600 vbuffer)))) hx hb hml hown hg (c_X9_wordName E l aM u1.2 u2 hu2) cy_X9_wordName ml_X9_181 ⟨⟨rfl, rfl⟩, Nat.le_of_ble_eq_true rfl, Nat.le_of_ble_eq_true rfl⟩ hK hE hP hD hS hA [true] rfl rfl rfl 0 rfl rfl rfl hl.1 rfl (Nat.le_of_ble_eq_true rfl) dX9_readGuest_26 ⟨Nat.le_of_ble_eq_true rfl, Nat.le_of_ble_eq_true rfl⟩ [.int u2] rfl (fun H locs hP hD hS => ?_)
    refine lv_istore_n (lv' := [(1, .int u2), (0, .ref (aM 0))]) hx hb dX9_readGuest_29 rfl hl (by decide) rfl (fun ls hl => ?_)
    refine lv_aload_n hx hb dX9_readGuest_30 rfl (lv_at hl 1 rfl) ?_
    refine lv_iload_n hx hb dX9_readGuest_31 rfl (lv_at hl 0 rfl) ?_
    refine lv_if_le (tgt := 50) hx hb dX9_readGuest_32 (by decide) (fun cq => ?_) (fun cq => ?_)
    · have hf := it cq hf
      refine lv_iconst (v := 0) hx hb dX9_readGuest_50 (by decide) ?_
      exact jp_51 _ _ _ _ _ _ _ hf hP hD hS (lv_sub hl [1, 0] rfl)
    · have hf := ie cq hf
      refine lv_aload_n hx hb dX9_readGuest_35 rfl (lv_at hl 1 rfl) ?_
      refine gf_X9_13 hx hb hg hown hK hP 0 rfl rfl dX9_readGuest_36 ?_
      refine lv_iload_n hx hb dX9_readGuest_39 rfl (lv_at hl 0 rfl) ?_
      obtain ⟨u3, hu3, hf⟩ := bn hf
      refine cm_S (As := [.ref (aM 2), .int u2]) (rest := [.ref (aM 0)]) (w2 := (W_M aM u1.2 ++ (W_A E (aM 2) 306 vdraft ++ (W_A E (aM 7) 600 vbuffer)))) hx hb hml hown hg (c_X9_guestBy E l (aM 2) vdraft u2 u3 hu3) cs_X9_guestBy ml_X9_185 ⟨⟨rfl, rfl⟩, Nat.le_of_ble_eq_true rfl, Nat.le_of_ble_eq_true rfl⟩ hK hE hP hD hS hA [false, true] rfl rfl rfl rfl hl.1 rfl (Nat.le_of_ble_eq_true rfl) dX9_readGuest_40 ⟨Nat.le_of_ble_eq_true rfl, Nat.le_of_ble_eq_true rfl⟩ [.int u3, .ref (aM 0)] rfl (fun H locs hP hD hS => ?_)
      refine lv_if_ge (tgt := 50) hx hb dX9_readGuest_43 (by decide) (fun cq => ?_) (fun cq => ?_)
      · have hf := it cq hf
        refine lv_iconst (v := 0) hx hb dX9_readGuest_50 (by decide) ?_
        exact jp_51 _ _ _ _ _ _ _ hf hP hD hS (lv_sub hl [1, 0] rfl)
      · have hf := ie cq hf
        refine lv_iconst (v := 1) hx hb dX9_readGuest_46 (by decide) ?_
        refine lv_goto (tgt := 51) hx hb dX9_readGuest_47 (by decide) ?_
        exact jp_51 _ _ _ _ _ _ _ hf hP hD hS (lv_sub hl [1, 0] rfl)
  · have hf := it cq hf
    obtain rfl := Option.some.inj hf
    exact cm_vret hx hb hr hlocks hP hS dX9_readGuest_24
def J_X9_readUmbrella_45 (vbuffer : Nat → Int32) (x2 : Int32) (vM : (Nat → Int32) × Int64) (vdraft : Nat → Int32) : Option (((Nat → Int32) × Int64) × (Nat → Int32)) := (F_X9_takes vM vbuffer (if x2 < 0 then 0 else 1)).bind (fun u1 => (F_X9_takesNumber u1.2 vbuffer 0 99).bind (fun u2 => (F_X9_takes u2.2 vbuffer (if (u2.2.1 6) = 3 then 1 else 0)).bind (fun u3 => (if u3.1 = 0 then (some (u3.2, vdraft)) else (F_X9_addsUmbrella vdraft x2 u2.1).bind (fun u4 => (some (u3.2, u4.2)))))))
def F_X9_readUmbrella (vM : (Nat → Int32) × Int64) (vdraft : Nat → Int32) (vbuffer : Nat → Int32) : Option (((Nat → Int32) × Int64) × (Nat → Int32)) := ck 8 306 ((F_X9_takes vM vbuffer (if 12 ≤ (vdraft (Int32.toNatClampNeg 8)) then 0 else 1)).bind (fun u1 => (if u1.1 = 0 then (some (u1.2, vdraft)) else (F_X9_wordName u1.2).bind (fun u2 => (if u2 ≤ 0 then (J_X9_readUmbrella_45 vbuffer (-1) u1.2 vdraft) else (F_X9_guestBy vdraft u2).bind (fun u3 => (J_X9_readUmbrella_45 vbuffer u3 u1.2 vdraft)))))))
abbrev rm_X9_readUmbrella : Room := { frames := 5, cells := 0, slots := 0, locals := 105 }
set_option maxHeartbeats 4000000 in
set_option maxRecDepth 100000 in
theorem c_X9_readUmbrella (E : Ev) (l : Launch) (aM : Nat → Nat) (vM : (Nat → Int32) × Int64) (vdraft : Nat → Int32) (vbuffer : Nat → Int32) (r : ((Nat → Int32) × Int64) × (Nat → Int32)) (hf : F_X9_readUmbrella vM vdraft vbuffer = some r) : CM E l yX9_readUmbrella (.code yX9_readUmbrella cX9_readUmbrella 4 none :: GA) rm_X9_readUmbrella [.ref (aM 0)] (W_M aM vM ++ (W_A E (aM 2) 306 vdraft ++ (W_A E (aM 7) 600 vbuffer))) none (W_M aM r.1 ++ (W_A E (aM 2) 306 r.2 ++ (W_A E (aM 7) 600 vbuffer))) := by
  refine CM.of (own := RX9) rfl (by decide) (Nat.le_of_ble_eq_true rfl) ?_
  intro p e s m below meth c A ls hx hb hr hml hown hg hlocks hK hE hA hP hD hS hl
  have hl : lv_has ls 4 [(0, .ref (aM 0))] := hl
  have jp_45 : ∀ (x2 : Int32) (vM : (Nat → Int32) × Int64) (vdraft : Nat → Int32) (H : Heap) (locs : List Loc) (ls : Array Slot), J_X9_readUmbrella_45 vbuffer x2 vM vdraft = some r → va_P E.1 vwCl (W_M aM vM ++ (W_A E (aM 2) 306 vdraft ++ (W_A E (aM 7) 600 vbuffer))) H → va_D A (W_M aM vM ++ (W_A E (aM 2) 306 vdraft ++ (W_A E (aM 7) 600 vbuffer))) → va_S A s.heap H locs → lv_has ls 4 [(0, .ref (aM 0)), (2, .int x2)] → W p l e rm_X9_readUmbrella s m ([.ref (aM 0)] : List Value).toArray below meth c H locs 0 0 (MQ below (QW E none (W_M aM r.1 ++ (W_A E (aM 2) 306 r.2 ++ (W_A E (aM 7) 600 vbuffer))) A) ([.ref (aM 0)] : List Value).toArray s 0 0 A) (F0 m 45 ls []) := by
    intro x2 vM vdraft H locs ls hf hP hD hS hl
    unfold J_X9_readUmbrella_45 at hf
    refine lv_aload_n hx hb dX9_readUmbrella_45 rfl (lv_at hl 0 rfl) ?_
    refine lv_iload_n hx hb dX9_readUmbrella_46 rfl (lv_at hl 1 rfl) ?_
    refine wj (F0 m 55 ls [.int (if x2 < 0 then 0 else 1), .ref (aM 0)]) ?_ (fun jk => ?_)
    rotate_left
    · refine lv_if_lt (tgt := 54) hx hb dX9_readUmbrella_47 (by decide) (fun cq => ?_) (fun cq => ?_)
      · rw [if_pos cq] at jk
        refine lv_iconst (v := 0) hx hb dX9_readUmbrella_54 (by decide) ?_
        exact jk
      · rw [if_neg cq] at jk
        refine lv_iconst (v := 1) hx hb dX9_readUmbrella_50 (by decide) ?_
        refine lv_goto (tgt := 55) hx hb dX9_readUmbrella_51 (by decide) ?_
        exact jk
    obtain ⟨u1, hu1, hf⟩ := bn hf
    refine cm_V (As := [.int (if x2 < 0 then 0 else 1)]) (rest := []) (w2 := (W_M aM u1.2 ++ (W_A E (aM 2) 306 vdraft ++ (W_A E (aM 7) 600 vbuffer)))) hx hb hml hown hg (c_X9_takes E l aM vM vbuffer (if x2 < 0 then 0 else 1) u1 hu1) cy_X9_takes ml_X9_177 ⟨⟨rfl, rfl⟩, Nat.le_of_ble_eq_true rfl, Nat.le_of_ble_eq_true rfl⟩ hK hE hP hD hS hA [true, false, true] rfl rfl rfl 0 rfl rfl rfl hl.1 rfl (Nat.le_of_ble_eq_true rfl) dX9_readUmbrella_55 ⟨Nat.le_of_ble_eq_true rfl, Nat.le_of_ble_eq_true rfl⟩ [.int u1.1] rfl (fun H locs hP hD hS => ?_)
    refine lv_pop hx hb dX9_readUmbrella_58 rfl ?_
    refine lv_aload_n hx hb dX9_readUmbrella_59 rfl (lv_at hl 0 rfl) ?_
    refine lv_iconst (v := 0) hx hb dX9_readUmbrella_60 (by decide) ?_
    refine lv_bipush (v := 99) hx hb dX9_readUmbrella_61 (by decide) ?_
    obtain ⟨u2, hu2, hf⟩ := bn hf
    refine cm_V (As := [.int 0, .int 99]) (rest := []) (w2 := (W_M aM u2.2 ++ (W_A E (aM 2) 306 vdraft ++ (W_A E (aM 7) 600 vbuffer)))) hx hb hml hown hg (c_X9_takesNumber E l aM u1.2 vbuffer 0 99 u2 hu2) cy_X9_takesNumber ml_X9_188 ⟨⟨rfl, rfl⟩, Nat.le_of_ble_eq_true rfl, Nat.le_of_ble_eq_true rfl⟩ hK hE hP hD hS hA [true, false, true] rfl rfl rfl 0 rfl rfl rfl hl.1 rfl (Nat.le_of_ble_eq_true rfl) dX9_readUmbrella_63 ⟨Nat.le_of_ble_eq_true rfl, Nat.le_of_ble_eq_true rfl⟩ [.int u2.1] rfl (fun H locs hP hD hS => ?_)
    refine lv_istore_n (lv' := [(3, .int u2.1), (0, .ref (aM 0)), (2, .int x2)]) hx hb dX9_readUmbrella_66 rfl hl (by decide) rfl (fun ls hl => ?_)
    refine lv_aload_n hx hb dX9_readUmbrella_67 rfl (lv_at hl 1 rfl) ?_
    refine lv_aload_n hx hb dX9_readUmbrella_68 rfl (lv_at hl 1 rfl) ?_
    refine gf_X9_150 hx hb hg hown hK hP 0 rfl rfl dX9_readUmbrella_69 ?_
    refine lv_iconst (v := 3) hx hb dX9_readUmbrella_72 (by decide) ?_
    refine wj (F0 m 81 ls [.int (if (u2.2.1 6) = 3 then 1 else 0), .ref (aM 0)]) ?_ (fun jk => ?_)
    rotate_left
    · refine lv_icmp_ne (tgt := 80) hx hb dX9_readUmbrella_73 (by decide) (fun cq => ?_) (fun cq => ?_)
      · rw [if_neg cq] at jk
        refine lv_iconst (v := 0) hx hb dX9_readUmbrella_80 (by decide) ?_
        exact jk
      · rw [if_pos cq] at jk
        refine lv_iconst (v := 1) hx hb dX9_readUmbrella_76 (by decide) ?_
        refine lv_goto (tgt := 81) hx hb dX9_readUmbrella_77 (by decide) ?_
        exact jk
    obtain ⟨u3, hu3, hf⟩ := bn hf
    refine cm_V (As := [.int (if (u2.2.1 6) = 3 then 1 else 0)]) (rest := []) (w2 := (W_M aM u3.2 ++ (W_A E (aM 2) 306 vdraft ++ (W_A E (aM 7) 600 vbuffer)))) hx hb hml hown hg (c_X9_takes E l aM u2.2 vbuffer (if (u2.2.1 6) = 3 then 1 else 0) u3 hu3) cy_X9_takes ml_X9_177 ⟨⟨rfl, rfl⟩, Nat.le_of_ble_eq_true rfl, Nat.le_of_ble_eq_true rfl⟩ hK hE hP hD hS hA [true, false, true] rfl rfl rfl 0 rfl rfl rfl hl.1 rfl (Nat.le_of_ble_eq_true rfl) dX9_readUmbrella_81 ⟨Nat.le_of_ble_eq_true rfl, Nat.le_of_ble_eq_true rfl⟩ [.int u3.1] rfl (fun H locs hP hD hS => ?_)
    refine lv_if_eq (tgt := 97) hx hb dX9_readUmbrella_84 (by decide) (fun cq => ?_) (fun cq => ?_)
    · have hf := it cq hf
      obtain rfl := Option.some.inj hf
      exact cm_vret hx hb hr hlocks hP hS dX9_readUmbrella_97
    · have hf := ie cq hf
      refine lv_aload_n hx hb dX9_readUmbrella_87 rfl (lv_at hl 1 rfl) ?_
      refine gf_X9_13 hx hb hg hown hK hP 0 rfl rfl dX9_readUmbrella_88 ?_
      refine lv_iload_n hx hb dX9_readUmbrella_91 rfl (lv_at hl 2 rfl) ?_
      refine lv_iload_n hx hb dX9_readUmbrella_92 rfl (lv_at hl 0 rfl) ?_
      obtain ⟨u4, hu4, hf⟩ := bn hf
      refine cm_S (As := [.ref (aM 2), .int x2, .int u2.1]) (rest := []) (w2 := (W_M aM u3.2 ++ (W_A E (aM 2) 306 u4.2 ++ (W_A E (aM 7) 600 vbuffer)))) hx hb hml hown hg (c_X9_addsUmbrella E l (aM 2) vdraft x2 u2.1 u4 hu4) cs_X9_addsUmbrella ml_X9_44 ⟨⟨rfl, rfl⟩, Nat.le_of_ble_eq_true rfl, Nat.le_of_ble_eq_true rfl⟩ hK hE hP hD hS hA [false, true] rfl rfl rfl rfl hl.1 rfl (Nat.le_of_ble_eq_true rfl) dX9_readUmbrella_93 ⟨Nat.le_of_ble_eq_true rfl, Nat.le_of_ble_eq_true rfl⟩ [.int u4.1] rfl (fun H locs hP hD hS => ?_)
      refine lv_pop hx hb dX9_readUmbrella_96 rfl ?_
      obtain rfl := Option.some.inj hf
      exact cm_vret hx hb hr hlocks hP hS dX9_readUmbrella_97
  unfold F_X9_readUmbrella at hf
  refine lv_aload_n hx hb dX9_readUmbrella_0 rfl (lv_at hl 0 rfl) ?_
  refine lv_aload_n hx hb dX9_readUmbrella_1 rfl (lv_at hl 0 rfl) ?_
  refine gf_X9_13 hx hb hg hown hK hP 0 rfl rfl dX9_readUmbrella_2 ?_
  refine lv_bipush (v := 8) hx hb dX9_readUmbrella_5 (by decide) ?_
  obtain ⟨hi, hf⟩ := ck_o hf
  refine ar_ld hx hb hK hP 1 rfl hi dX9_readUmbrella_7 ?_
  refine lv_bipush (v := 12) hx hb dX9_readUmbrella_8 (by decide) ?_
  refine wj (F0 m 18 ls [.int (if 12 ≤ (vdraft (Int32.toNatClampNeg 8)) then 0 else 1), .ref (aM 0)]) ?_ (fun jk => ?_)
  rotate_left
  · refine lv_icmp_ge (tgt := 17) hx hb dX9_readUmbrella_10 (by decide) (fun cq => ?_) (fun cq => ?_)
    · rw [if_pos cq] at jk
      refine lv_iconst (v := 0) hx hb dX9_readUmbrella_17 (by decide) ?_
      exact jk
    · rw [if_neg cq] at jk
      refine lv_iconst (v := 1) hx hb dX9_readUmbrella_13 (by decide) ?_
      refine lv_goto (tgt := 18) hx hb dX9_readUmbrella_14 (by decide) ?_
      exact jk
  obtain ⟨u1, hu1, hf⟩ := bn hf
  refine cm_V (As := [.int (if 12 ≤ (vdraft (Int32.toNatClampNeg 8)) then 0 else 1)]) (rest := []) (w2 := (W_M aM u1.2 ++ (W_A E (aM 2) 306 vdraft ++ (W_A E (aM 7) 600 vbuffer)))) hx hb hml hown hg (c_X9_takes E l aM vM vbuffer (if 12 ≤ (vdraft (Int32.toNatClampNeg 8)) then 0 else 1) u1 hu1) cy_X9_takes ml_X9_177 ⟨⟨rfl, rfl⟩, Nat.le_of_ble_eq_true rfl, Nat.le_of_ble_eq_true rfl⟩ hK hE hP hD hS hA [true, false, true] rfl rfl rfl 0 rfl rfl rfl hl.1 rfl (Nat.le_of_ble_eq_true rfl) dX9_readUmbrella_18 ⟨Nat.le_of_ble_eq_true rfl, Nat.le_of_ble_eq_true rfl⟩ [.int u1.1] rfl (fun H locs hP hD hS => ?_)
  refine lv_if_ne (tgt := 25) hx hb dX9_readUmbrella_21 (by decide) (fun cq => ?_) (fun cq => ?_)
  · have hf := ie cq hf
    refine lv_aload_n hx hb dX9_readUmbrella_25 rfl (lv_at hl 0 rfl) ?_
    obtain ⟨u2, hu2, hf⟩ := bn hf
    refine cm_V (As := []) (rest := []) (w2 := (W_M aM u1.2 ++ (W_A E (aM 2) 306 vdraft ++ (W_A E (aM 7) 600 vbuffer)))) hx hb hml hown hg (c_X9_wordName E l aM u1.2 u2 hu2) cy_X9_wordName ml_X9_181 ⟨⟨rfl, rfl⟩, Nat.le_of_ble_eq_true rfl, Nat.le_of_ble_eq_true rfl⟩ hK hE hP hD hS hA [true] rfl rfl rfl 0 rfl rfl rfl hl.1 rfl (Nat.le_of_ble_eq_true rfl) dX9_readUmbrella_26 ⟨Nat.le_of_ble_eq_true rfl, Nat.le_of_ble_eq_true rfl⟩ [.int u2] rfl (fun H locs hP hD hS => ?_)
    refine lv_istore_n (lv' := [(1, .int u2), (0, .ref (aM 0))]) hx hb dX9_readUmbrella_29 rfl hl (by decide) rfl (fun ls hl => ?_)
    refine lv_iconst (v := (-1)) hx hb dX9_readUmbrella_30 (by decide) ?_
    refine lv_istore_n (lv' := [(2, .int (-1)), (1, .int u2), (0, .ref (aM 0))]) hx hb dX9_readUmbrella_31 rfl hl (by decide) rfl (fun ls hl => ?_)
    refine lv_iload_n hx hb dX9_readUmbrella_32 rfl (lv_at hl 1 rfl) ?_
    refine lv_if_le (tgt := 45) hx hb dX9_readUmbrella_33 (by decide) (fun cq => ?_) (fun cq => ?_)
    · have hf := it cq hf
      exact jp_45 _ _ _ _ _ _ hf hP hD hS (lv_sub hl [2, 0] rfl)
    · have hf := ie cq hf
      refine lv_aload_n hx hb dX9_readUmbrella_36 rfl (lv_at hl 2 rfl) ?_
      refine gf_X9_13 hx hb hg hown hK hP 0 rfl rfl dX9_readUmbrella_37 ?_
      refine lv_iload_n hx hb dX9_readUmbrella_40 rfl (lv_at hl 1 rfl) ?_
      obtain ⟨u3, hu3, hf⟩ := bn hf
      refine cm_S (As := [.ref (aM 2), .int u2]) (rest := []) (w2 := (W_M aM u1.2 ++ (W_A E (aM 2) 306 vdraft ++ (W_A E (aM 7) 600 vbuffer)))) hx hb hml hown hg (c_X9_guestBy E l (aM 2) vdraft u2 u3 hu3) cs_X9_guestBy ml_X9_185 ⟨⟨rfl, rfl⟩, Nat.le_of_ble_eq_true rfl, Nat.le_of_ble_eq_true rfl⟩ hK hE hP hD hS hA [false, true] rfl rfl rfl rfl hl.1 rfl (Nat.le_of_ble_eq_true rfl) dX9_readUmbrella_41 ⟨Nat.le_of_ble_eq_true rfl, Nat.le_of_ble_eq_true rfl⟩ [.int u3] rfl (fun H locs hP hD hS => ?_)
      refine lv_istore_n (lv' := [(2, .int u3), (1, .int u2), (0, .ref (aM 0))]) hx hb dX9_readUmbrella_44 rfl hl (by decide) rfl (fun ls hl => ?_)
      exact jp_45 _ _ _ _ _ _ hf hP hD hS (lv_sub hl [2, 0] rfl)
  · have hf := it cq hf
    obtain rfl := Option.some.inj hf
    exact cm_vret hx hb hr hlocks hP hS dX9_readUmbrella_24
def B_X9_readText_81 (rec : ((Nat → Int32) × Int64) → (Nat → Int32) → Option (((Nat → Int32) × Int64) × (Nat → Int32))) (vbuffer : Nat → Int32) (vM : (Nat → Int32) × Int64) (vdraft : Nat → Int32) : Option (((Nat → Int32) × Int64) × (Nat → Int32)) := (if (vM.1 8) = 0 then (F_X9_isWord vM 224742254860).bind (fun u2 => (if u2 = 0 then (if (vM.1 8) = 0 then (if (vM.1 6) = 0 then (some (vM, vdraft)) else (F_X9_takes vM vbuffer 0).bind (fun u3 => (some (u3.2, vdraft)))) else (some (vM, vdraft))) else (F_X9_readUmbrella vM vdraft vbuffer).bind (fun u4 => (rec u4.1 u4.2)))) else (if (vM.1 8) = 0 then (if (vM.1 6) = 0 then (some (vM, vdraft)) else (F_X9_takes vM vbuffer 0).bind (fun u1 => (some (u1.2, vdraft)))) else (some (vM, vdraft))))
def L_X9_readText_81 (vbuffer : Nat → Int32) : Nat → ((Nat → Int32) × Int64) → (Nat → Int32) → Option (((Nat → Int32) × Int64) × (Nat → Int32))
  | 0 => fun _ _ => none
  | n + 1 => fun vM vdraft => B_X9_readText_81 (L_X9_readText_81 vbuffer n) vbuffer vM vdraft
def B_X9_readText_57 (rec : ((Nat → Int32) × Int64) → (Nat → Int32) → Option (((Nat → Int32) × Int64) × (Nat → Int32))) (vbuffer : Nat → Int32) (vM : (Nat → Int32) × Int64) (vdraft : Nat → Int32) : Option (((Nat → Int32) × Int64) × (Nat → Int32)) := (if (vM.1 8) = 0 then (F_X9_isWord vM 4137608).bind (fun u1 => (if u1 = 0 then (L_X9_readText_81 vbuffer FU vM vdraft) else (F_X9_readGuest vM vdraft vbuffer).bind (fun u2 => (rec u2.1 u2.2)))) else (L_X9_readText_81 vbuffer FU vM vdraft))
def L_X9_readText_57 (vbuffer : Nat → Int32) : Nat → ((Nat → Int32) × Int64) → (Nat → Int32) → Option (((Nat → Int32) × Int64) × (Nat → Int32))
  | 0 => fun _ _ => none
  | n + 1 => fun vM vdraft => B_X9_readText_57 (L_X9_readText_57 vbuffer n) vbuffer vM vdraft
def F_X9_readText (vM : (Nat → Int32) × Int64) (vdraft : Nat → Int32) (vbuffer : Nat → Int32) : Option (((Nat → Int32) × Int64) × (Nat → Int32)) := (F_X9_isWord vM 7622660).bind (fun u1 => (F_X9_takes vM vbuffer u1).bind (fun u2 => (F_X9_takesNumber u2.2 vbuffer 0 9).bind (fun u3 => ck 1 306 (lt (upd vdraft (Int32.toNatClampNeg 1) u3.1) (fun vdraft_5 => (F_X9_takesNumber u3.2 vbuffer 0 999).bind (fun u4 => ck 2 306 (lt (upd vdraft_5 (Int32.toNatClampNeg 2) u4.1) (fun vdraft_6 => (F_X9_takes u4.2 vbuffer (if (u4.2.1 6) = 3 then 1 else 0)).bind (fun u5 => (L_X9_readText_57 vbuffer FU u5.2 vdraft_6))))))))))
abbrev rm_X9_readText : Room := { frames := 6, cells := 0, slots := 0, locals := 128 }
set_option maxHeartbeats 4000000 in
set_option maxRecDepth 100000 in
theorem c_X9_readText (E : Ev) (l : Launch) (aM : Nat → Nat) (vM : (Nat → Int32) × Int64) (vdraft : Nat → Int32) (vbuffer : Nat → Int32) (r : ((Nat → Int32) × Int64) × (Nat → Int32)) (hf : F_X9_readText vM vdraft vbuffer = some r) : CM E l yX9_readText (.code yX9_readText cX9_readText 1 none :: GA) rm_X9_readText [.ref (aM 0)] (W_M aM vM ++ (W_A E (aM 2) 306 vdraft ++ (W_A E (aM 7) 600 vbuffer))) none (W_M aM r.1 ++ (W_A E (aM 2) 306 r.2 ++ (W_A E (aM 7) 600 vbuffer))) := by
  refine CM.of (own := RX9) rfl (by decide) (Nat.le_of_ble_eq_true rfl) ?_
  intro p e s m below meth c A ls hx hb hr hml hown hg hlocks hK hE hA hP hD hS hl
  have hl : lv_has ls 1 [(0, .ref (aM 0))] := hl
  have lp_81 : ∀ (n : Nat) (vM : (Nat → Int32) × Int64) (vdraft : Nat → Int32) (H : Heap) (locs : List Loc) (ls : Array Slot), L_X9_readText_81 vbuffer n vM vdraft = some r → va_P E.1 vwCl (W_M aM vM ++ (W_A E (aM 2) 306 vdraft ++ (W_A E (aM 7) 600 vbuffer))) H → va_D A (W_M aM vM ++ (W_A E (aM 2) 306 vdraft ++ (W_A E (aM 7) 600 vbuffer))) → va_S A s.heap H locs → lv_has ls 1 [(0, .ref (aM 0))] → W p l e rm_X9_readText s m ([.ref (aM 0)] : List Value).toArray below meth c H locs 0 0 (MQ below (QW E none (W_M aM r.1 ++ (W_A E (aM 2) 306 r.2 ++ (W_A E (aM 7) 600 vbuffer))) A) ([.ref (aM 0)] : List Value).toArray s 0 0 A) (F0 m 81 ls []) := by
    intro n
    induction n with
    | zero => intro vM vdraft H locs ls hf; cases hf
    | succ n ih =>
      intro vM vdraft H locs ls hf hP hD hS hl
      replace hf : B_X9_readText_81 (L_X9_readText_81 vbuffer n) vbuffer vM vdraft = some r := hf
      unfold B_X9_readText_81 at hf
      refine lv_aload_n hx hb dX9_readText_81 rfl (lv_at hl 0 rfl) ?_
      refine gf_X9_170 hx hb hg hown hK hP 0 rfl rfl dX9_readText_82 ?_
      refine lv_if_ne (tgt := 105) hx hb dX9_readText_85 (by decide) (fun cq => ?_) (fun cq => ?_)
      · have hf := ie cq hf
        refine lv_aload_n hx hb dX9_readText_105 rfl (lv_at hl 0 rfl) ?_
        refine gf_X9_170 hx hb hg hown hK hP 0 rfl rfl dX9_readText_106 ?_
        refine lv_if_ne (tgt := 125) hx hb dX9_readText_109 (by decide) (fun cq => ?_) (fun cq => ?_)
        · have hf := ie cq hf
          obtain rfl := Option.some.inj hf
          exact cm_vret hx hb hr hlocks hP hS dX9_readText_125
        · have hf := it cq hf
          refine lv_aload_n hx hb dX9_readText_112 rfl (lv_at hl 0 rfl) ?_
          refine gf_X9_150 hx hb hg hown hK hP 0 rfl rfl dX9_readText_113 ?_
          refine lv_if_eq (tgt := 125) hx hb dX9_readText_116 (by decide) (fun cq => ?_) (fun cq => ?_)
          · have hf := it cq hf
            obtain rfl := Option.some.inj hf
            exact cm_vret hx hb hr hlocks hP hS dX9_readText_125
          · have hf := ie cq hf
            refine lv_aload_n hx hb dX9_readText_119 rfl (lv_at hl 0 rfl) ?_
            refine lv_iconst (v := 0) hx hb dX9_readText_120 (by decide) ?_
            obtain ⟨u1, hu1, hf⟩ := bn hf
            refine cm_V (As := [.int 0]) (rest := []) (w2 := (W_M aM u1.2 ++ (W_A E (aM 2) 306 vdraft ++ (W_A E (aM 7) 600 vbuffer)))) hx hb hml hown hg (c_X9_takes E l aM vM vbuffer 0 u1 hu1) cy_X9_takes ml_X9_177 ⟨⟨rfl, rfl⟩, Nat.le_of_ble_eq_true rfl, Nat.le_of_ble_eq_true rfl⟩ hK hE hP hD hS hA [true, false, true] rfl rfl rfl 0 rfl rfl rfl hl.1 rfl (Nat.le_of_ble_eq_true rfl) dX9_readText_121 ⟨Nat.le_of_ble_eq_true rfl, Nat.le_of_ble_eq_true rfl⟩ [.int u1.1] rfl (fun H locs hP hD hS => ?_)
            refine lv_pop hx hb dX9_readText_124 rfl ?_
            obtain rfl := Option.some.inj hf
            exact cm_vret hx hb hr hlocks hP hS dX9_readText_125
      · have hf := it cq hf
        refine lv_aload_n hx hb dX9_readText_88 rfl (lv_at hl 0 rfl) ?_
        refine lv_ldc2 (v := 224742254860) hx hb hown (hg _ kl_X9_204) dX9_readText_89 ?_
        obtain ⟨u2, hu2, hf⟩ := bn hf
        refine cm_V (As := [.long 224742254860]) (rest := []) (w2 := (W_M aM vM ++ (W_A E (aM 2) 306 vdraft ++ (W_A E (aM 7) 600 vbuffer)))) hx hb hml hown hg (c_X9_isWord E l aM vM 224742254860 u2 hu2) cy_X9_isWord ml_X9_193 ⟨⟨rfl, rfl⟩, Nat.le_of_ble_eq_true rfl, Nat.le_of_ble_eq_true rfl⟩ hK hE hP hD hS hA [true] rfl rfl rfl 0 rfl rfl rfl hl.1 rfl (Nat.le_of_ble_eq_true rfl) dX9_readText_92 ⟨Nat.le_of_ble_eq_true rfl, Nat.le_of_ble_eq_true rfl⟩ [.int u2] rfl (fun H locs hP hD hS => ?_)
        refine lv_if_eq (tgt := 105) hx hb dX9_readText_95 (by decide) (fun cq => ?_) (fun cq => ?_)
        · have hf := it cq hf
          refine lv_aload_n hx hb dX9_readText_105 rfl (lv_at hl 0 rfl) ?_
          refine gf_X9_170 hx hb hg hown hK hP 0 rfl rfl dX9_readText_106 ?_
          refine lv_if_ne (tgt := 125) hx hb dX9_readText_109 (by decide) (fun cq => ?_) (fun cq => ?_)
          · have hf := ie cq hf
            obtain rfl := Option.some.inj hf
            exact cm_vret hx hb hr hlocks hP hS dX9_readText_125
          · have hf := it cq hf
            refine lv_aload_n hx hb dX9_readText_112 rfl (lv_at hl 0 rfl) ?_
            refine gf_X9_150 hx hb hg hown hK hP 0 rfl rfl dX9_readText_113 ?_
            refine lv_if_eq (tgt := 125) hx hb dX9_readText_116 (by decide) (fun cq => ?_) (fun cq => ?_)
            · have hf := it cq hf
              obtain rfl := Option.some.inj hf
              exact cm_vret hx hb hr hlocks hP hS dX9_readText_125
            · have hf := ie cq hf
              refine lv_aload_n hx hb dX9_readText_119 rfl (lv_at hl 0 rfl) ?_
              refine lv_iconst (v := 0) hx hb dX9_readText_120 (by decide) ?_
              obtain ⟨u3, hu3, hf⟩ := bn hf
              refine cm_V (As := [.int 0]) (rest := []) (w2 := (W_M aM u3.2 ++ (W_A E (aM 2) 306 vdraft ++ (W_A E (aM 7) 600 vbuffer)))) hx hb hml hown hg (c_X9_takes E l aM vM vbuffer 0 u3 hu3) cy_X9_takes ml_X9_177 ⟨⟨rfl, rfl⟩, Nat.le_of_ble_eq_true rfl, Nat.le_of_ble_eq_true rfl⟩ hK hE hP hD hS hA [true, false, true] rfl rfl rfl 0 rfl rfl rfl hl.1 rfl (Nat.le_of_ble_eq_true rfl) dX9_readText_121 ⟨Nat.le_of_ble_eq_true rfl, Nat.le_of_ble_eq_true rfl⟩ [.int u3.1] rfl (fun H locs hP hD hS => ?_)
              refine lv_pop hx hb dX9_readText_124 rfl ?_
              obtain rfl := Option.some.inj hf
              exact cm_vret hx hb hr hlocks hP hS dX9_readText_125
        · have hf := ie cq hf
          refine lv_aload_n hx hb dX9_readText_98 rfl (lv_at hl 0 rfl) ?_
          obtain ⟨u4, hu4, hf⟩ := bn hf
          refine cm_V (As := []) (rest := []) (w2 := (W_M aM u4.1 ++ (W_A E (aM 2) 306 u4.2 ++ (W_A E (aM 7) 600 vbuffer)))) hx hb hml hown hg (c_X9_readUmbrella E l aM vM vdraft vbuffer u4 hu4) cy_X9_readUmbrella ml_X9_206 ⟨⟨rfl, rfl⟩, Nat.le_of_ble_eq_true rfl, Nat.le_of_ble_eq_true rfl⟩ hK hE hP hD hS hA [true, true, true] rfl rfl rfl 0 rfl rfl rfl hl.1 rfl (Nat.le_of_ble_eq_true rfl) dX9_readText_99 ⟨Nat.le_of_ble_eq_true rfl, Nat.le_of_ble_eq_true rfl⟩ [] rfl (fun H locs hP hD hS => ?_)
          refine lv_goto (tgt := 81) hx hb dX9_readText_102 (by decide) ?_
          exact ih _ _ _ _ _ hf hP hD hS (lv_sub hl [0] rfl)
  have lp_57 : ∀ (n : Nat) (vM : (Nat → Int32) × Int64) (vdraft : Nat → Int32) (H : Heap) (locs : List Loc) (ls : Array Slot), L_X9_readText_57 vbuffer n vM vdraft = some r → va_P E.1 vwCl (W_M aM vM ++ (W_A E (aM 2) 306 vdraft ++ (W_A E (aM 7) 600 vbuffer))) H → va_D A (W_M aM vM ++ (W_A E (aM 2) 306 vdraft ++ (W_A E (aM 7) 600 vbuffer))) → va_S A s.heap H locs → lv_has ls 1 [(0, .ref (aM 0))] → W p l e rm_X9_readText s m ([.ref (aM 0)] : List Value).toArray below meth c H locs 0 0 (MQ below (QW E none (W_M aM r.1 ++ (W_A E (aM 2) 306 r.2 ++ (W_A E (aM 7) 600 vbuffer))) A) ([.ref (aM 0)] : List Value).toArray s 0 0 A) (F0 m 57 ls []) := by
    intro n
    induction n with
    | zero => intro vM vdraft H locs ls hf; cases hf
    | succ n ih =>
      intro vM vdraft H locs ls hf hP hD hS hl
      replace hf : B_X9_readText_57 (L_X9_readText_57 vbuffer n) vbuffer vM vdraft = some r := hf
      unfold B_X9_readText_57 at hf
      refine lv_aload_n hx hb dX9_readText_57 rfl (lv_at hl 0 rfl) ?_
      refine gf_X9_170 hx hb hg hown hK hP 0 rfl rfl dX9_readText_58 ?_
      refine lv_if_ne (tgt := 81) hx hb dX9_readText_61 (by decide) (fun cq => ?_) (fun cq => ?_)
      · have hf := ie cq hf
        exact lp_81 FU _ _ _ _ _ hf hP hD hS (lv_sub hl [0] rfl)
      · have hf := it cq hf
        refine lv_aload_n hx hb dX9_readText_64 rfl (lv_at hl 0 rfl) ?_
        refine lv_ldc2 (v := 4137608) hx hb hown (hg _ kl_X9_199) dX9_readText_65 ?_
        obtain ⟨u1, hu1, hf⟩ := bn hf
        refine cm_V (As := [.long 4137608]) (rest := []) (w2 := (W_M aM vM ++ (W_A E (aM 2) 306 vdraft ++ (W_A E (aM 7) 600 vbuffer)))) hx hb hml hown hg (c_X9_isWord E l aM vM 4137608 u1 hu1) cy_X9_isWord ml_X9_193 ⟨⟨rfl, rfl⟩, Nat.le_of_ble_eq_true rfl, Nat.le_of_ble_eq_true rfl⟩ hK hE hP hD hS hA [true] rfl rfl rfl 0 rfl rfl rfl hl.1 rfl (Nat.le_of_ble_eq_true rfl) dX9_readText_68 ⟨Nat.le_of_ble_eq_true rfl, Nat.le_of_ble_eq_true rfl⟩ [.int u1] rfl (fun H locs hP hD hS => ?_)
        refine lv_if_eq (tgt := 81) hx hb dX9_readText_71 (by decide) (fun cq => ?_) (fun cq => ?_)
        · have hf := it cq hf
          exact lp_81 FU _ _ _ _ _ hf hP hD hS (lv_sub hl [0] rfl)
        · have hf := ie cq hf
          refine lv_aload_n hx hb dX9_readText_74 rfl (lv_at hl 0 rfl) ?_
          obtain ⟨u2, hu2, hf⟩ := bn hf
          refine cm_V (As := []) (rest := []) (w2 := (W_M aM u2.1 ++ (W_A E (aM 2) 306 u2.2 ++ (W_A E (aM 7) 600 vbuffer)))) hx hb hml hown hg (c_X9_readGuest E l aM vM vdraft vbuffer u2 hu2) cy_X9_readGuest ml_X9_201 ⟨⟨rfl, rfl⟩, Nat.le_of_ble_eq_true rfl, Nat.le_of_ble_eq_true rfl⟩ hK hE hP hD hS hA [true, true, true] rfl rfl rfl 0 rfl rfl rfl hl.1 rfl (Nat.le_of_ble_eq_true rfl) dX9_readText_75 ⟨Nat.le_of_ble_eq_true rfl, Nat.le_of_ble_eq_true rfl⟩ [] rfl (fun H locs hP hD hS => ?_)
          refine lv_goto (tgt := 57) hx hb dX9_readText_78 (by decide) ?_
          exact ih _ _ _ _ _ hf hP hD hS (lv_sub hl [0] rfl)
  unfold F_X9_readText at hf
  refine lv_aload_n hx hb dX9_readText_0 rfl (lv_at hl 0 rfl) ?_
  refine lv_aload_n hx hb dX9_readText_1 rfl (lv_at hl 0 rfl) ?_
  refine lv_ldc2 (v := 7622660) hx hb hown (hg _ kl_X9_197) dX9_readText_2 ?_
  obtain ⟨u1, hu1, hf⟩ := bn hf
  refine cm_V (As := [.long 7622660]) (rest := [.ref (aM 0)]) (w2 := (W_M aM vM ++ (W_A E (aM 2) 306 vdraft ++ (W_A E (aM 7) 600 vbuffer)))) hx hb hml hown hg (c_X9_isWord E l aM vM 7622660 u1 hu1) cy_X9_isWord ml_X9_193 ⟨⟨rfl, rfl⟩, Nat.le_of_ble_eq_true rfl, Nat.le_of_ble_eq_true rfl⟩ hK hE hP hD hS hA [true] rfl rfl rfl 0 rfl rfl rfl hl.1 rfl (Nat.le_of_ble_eq_true rfl) dX9_readText_5 ⟨Nat.le_of_ble_eq_true rfl, Nat.le_of_ble_eq_true rfl⟩ [.int u1, .ref (aM 0)] rfl (fun H locs hP hD hS => ?_)
  obtain ⟨u2, hu2, hf⟩ := bn hf
  refine cm_V (As := [.int u1]) (rest := []) (w2 := (W_M aM u2.2 ++ (W_A E (aM 2) 306 vdraft ++ (W_A E (aM 7) 600 vbuffer)))) hx hb hml hown hg (c_X9_takes E l aM vM vbuffer u1 u2 hu2) cy_X9_takes ml_X9_177 ⟨⟨rfl, rfl⟩, Nat.le_of_ble_eq_true rfl, Nat.le_of_ble_eq_true rfl⟩ hK hE hP hD hS hA [true, false, true] rfl rfl rfl 0 rfl rfl rfl hl.1 rfl (Nat.le_of_ble_eq_true rfl) dX9_readText_8 ⟨Nat.le_of_ble_eq_true rfl, Nat.le_of_ble_eq_true rfl⟩ [.int u2.1] rfl (fun H locs hP hD hS => ?_)
  refine lv_pop hx hb dX9_readText_11 rfl ?_
  refine lv_aload_n hx hb dX9_readText_12 rfl (lv_at hl 0 rfl) ?_
  refine gf_X9_13 hx hb hg hown hK hP 0 rfl rfl dX9_readText_13 ?_
  refine lv_iconst (v := 1) hx hb dX9_readText_16 (by decide) ?_
  refine lv_aload_n hx hb dX9_readText_17 rfl (lv_at hl 0 rfl) ?_
  refine lv_iconst (v := 0) hx hb dX9_readText_18 (by decide) ?_
  refine lv_bipush (v := 9) hx hb dX9_readText_19 (by decide) ?_
  obtain ⟨u3, hu3, hf⟩ := bn hf
  refine cm_V (As := [.int 0, .int 9]) (rest := [.int 1, .ref (aM 2)]) (w2 := (W_M aM u3.2 ++ (W_A E (aM 2) 306 vdraft ++ (W_A E (aM 7) 600 vbuffer)))) hx hb hml hown hg (c_X9_takesNumber E l aM u2.2 vbuffer 0 9 u3 hu3) cy_X9_takesNumber ml_X9_188 ⟨⟨rfl, rfl⟩, Nat.le_of_ble_eq_true rfl, Nat.le_of_ble_eq_true rfl⟩ hK hE hP hD hS hA [true, false, true] rfl rfl rfl 0 rfl rfl rfl hl.1 rfl (Nat.le_of_ble_eq_true rfl) dX9_readText_21 ⟨Nat.le_of_ble_eq_true rfl, Nat.le_of_ble_eq_true rfl⟩ [.int u3.1, .int 1, .ref (aM 2)] rfl (fun H locs hP hD hS => ?_)
  obtain ⟨hi, hf⟩ := ck_o hf
  refine ar_st (w2 := (W_M aM u3.2 ++ (W_A E (aM 2) 306 (upd vdraft (Int32.toNatClampNeg 1) u3.1) ++ (W_A E (aM 7) 600 vbuffer)))) hx hb hK hP hD hS 1 rfl hi rfl dX9_readText_24 (fun H locs hP hD hS => ?_)
  obtain ⟨vdraft_5, hv, hf⟩ := lt_o hf
  rw [← hv] at hP hD
  clear hv
  refine lv_aload_n hx hb dX9_readText_25 rfl (lv_at hl 0 rfl) ?_
  refine gf_X9_13 hx hb hg hown hK hP 0 rfl rfl dX9_readText_26 ?_
  refine lv_iconst (v := 2) hx hb dX9_readText_29 (by decide) ?_
  refine lv_aload_n hx hb dX9_readText_30 rfl (lv_at hl 0 rfl) ?_
  refine lv_iconst (v := 0) hx hb dX9_readText_31 (by decide) ?_
  refine lv_sipush (v := 999) hx hb dX9_readText_32 (by decide) ?_
  obtain ⟨u4, hu4, hf⟩ := bn hf
  refine cm_V (As := [.int 0, .int 999]) (rest := [.int 2, .ref (aM 2)]) (w2 := (W_M aM u4.2 ++ (W_A E (aM 2) 306 vdraft_5 ++ (W_A E (aM 7) 600 vbuffer)))) hx hb hml hown hg (c_X9_takesNumber E l aM u3.2 vbuffer 0 999 u4 hu4) cy_X9_takesNumber ml_X9_188 ⟨⟨rfl, rfl⟩, Nat.le_of_ble_eq_true rfl, Nat.le_of_ble_eq_true rfl⟩ hK hE hP hD hS hA [true, false, true] rfl rfl rfl 0 rfl rfl rfl hl.1 rfl (Nat.le_of_ble_eq_true rfl) dX9_readText_35 ⟨Nat.le_of_ble_eq_true rfl, Nat.le_of_ble_eq_true rfl⟩ [.int u4.1, .int 2, .ref (aM 2)] rfl (fun H locs hP hD hS => ?_)
  obtain ⟨hi, hf⟩ := ck_o hf
  refine ar_st (w2 := (W_M aM u4.2 ++ (W_A E (aM 2) 306 (upd vdraft_5 (Int32.toNatClampNeg 2) u4.1) ++ (W_A E (aM 7) 600 vbuffer)))) hx hb hK hP hD hS 1 rfl hi rfl dX9_readText_38 (fun H locs hP hD hS => ?_)
  obtain ⟨vdraft_6, hv, hf⟩ := lt_o hf
  rw [← hv] at hP hD
  clear hv
  refine lv_aload_n hx hb dX9_readText_39 rfl (lv_at hl 0 rfl) ?_
  refine lv_aload_n hx hb dX9_readText_40 rfl (lv_at hl 0 rfl) ?_
  refine gf_X9_150 hx hb hg hown hK hP 0 rfl rfl dX9_readText_41 ?_
  refine lv_iconst (v := 3) hx hb dX9_readText_44 (by decide) ?_
  refine wj (F0 m 53 ls [.int (if (u4.2.1 6) = 3 then 1 else 0), .ref (aM 0)]) ?_ (fun jk => ?_)
  rotate_left
  · refine lv_icmp_ne (tgt := 52) hx hb dX9_readText_45 (by decide) (fun cq => ?_) (fun cq => ?_)
    · rw [if_neg cq] at jk
      refine lv_iconst (v := 0) hx hb dX9_readText_52 (by decide) ?_
      exact jk
    · rw [if_pos cq] at jk
      refine lv_iconst (v := 1) hx hb dX9_readText_48 (by decide) ?_
      refine lv_goto (tgt := 53) hx hb dX9_readText_49 (by decide) ?_
      exact jk
  obtain ⟨u5, hu5, hf⟩ := bn hf
  refine cm_V (As := [.int (if (u4.2.1 6) = 3 then 1 else 0)]) (rest := []) (w2 := (W_M aM u5.2 ++ (W_A E (aM 2) 306 vdraft_6 ++ (W_A E (aM 7) 600 vbuffer)))) hx hb hml hown hg (c_X9_takes E l aM u4.2 vbuffer (if (u4.2.1 6) = 3 then 1 else 0) u5 hu5) cy_X9_takes ml_X9_177 ⟨⟨rfl, rfl⟩, Nat.le_of_ble_eq_true rfl, Nat.le_of_ble_eq_true rfl⟩ hK hE hP hD hS hA [true, false, true] rfl rfl rfl 0 rfl rfl rfl hl.1 rfl (Nat.le_of_ble_eq_true rfl) dX9_readText_53 ⟨Nat.le_of_ble_eq_true rfl, Nat.le_of_ble_eq_true rfl⟩ [.int u5.1] rfl (fun H locs hP hD hS => ?_)
  refine lv_pop hx hb dX9_readText_56 rfl ?_
  exact lp_57 FU _ _ _ _ _ hf hP hD hS (lv_sub hl [0] rfl)
def B_X9_load_88 (rec : Int32 → ((Nat → Int32) × Int64) → (Nat → Int32) → (Nat → Int32) → (Nat → Int32) → Option (Int32 × ((Nat → Int32) × Int64) × (Nat → Int32) × (Nat → Int32) × (Nat → Int32))) (vbuffer : Nat → Int32) (x1 : Int32) (vM : (Nat → Int32) × Int64) (vnow : Nat → Int32) (vdraft : Nat → Int32) (visKept : Nat → Int32) : Option (Int32 × ((Nat → Int32) × Int64) × (Nat → Int32) × (Nat → Int32) × (Nat → Int32)) := (if 2 ≤ x1 then ck 7 306 ((some ((vnow (Int32.toNatClampNeg 7)), vM, vnow, vdraft, visKept))) else ck x1 2 (lt (upd visKept (Int32.toNatClampNeg x1) 0) (fun visKept_24 => (rec (x1 + 1) vM vnow vdraft visKept_24))))
def L_X9_load_88 (vbuffer : Nat → Int32) : Nat → Int32 → ((Nat → Int32) × Int64) → (Nat → Int32) → (Nat → Int32) → (Nat → Int32) → Option (Int32 × ((Nat → Int32) × Int64) × (Nat → Int32) × (Nat → Int32) × (Nat → Int32))
  | 0 => fun _ _ _ _ _ => none
  | n + 1 => fun x1 vM vnow vdraft visKept => B_X9_load_88 (L_X9_load_88 vbuffer n) vbuffer x1 vM vnow vdraft visKept
def B_X9_load_7 (rec : Int32 → ((Nat → Int32) × Int64) → (Nat → Int32) → (Nat → Int32) → (Nat → Int32) → Option (Int32 × ((Nat → Int32) × Int64) × (Nat → Int32) × (Nat → Int32) × (Nat → Int32))) (vbuffer : Nat → Int32) (x1 : Int32) (vM : (Nat → Int32) × Int64) (vnow : Nat → Int32) (vdraft : Nat → Int32) (visKept : Nat → Int32) : Option (Int32 × ((Nat → Int32) × Int64) × (Nat → Int32) × (Nat → Int32) × (Nat → Int32)) := (if 306 ≤ x1 then lt (va_up vM.1 4 0, vM.2) (fun vM_25 => lt (va_up vM_25.1 8 0, vM_25.2) (fun vM_26 => lt (va_up vM_26.1 2 (-1), vM_26.2) (fun vM_27 => (F_X9_next vM_27 vbuffer).bind (fun u1 => (F_X9_readText u1 vdraft vbuffer).bind (fun u2 => lt (va_up u2.1.1 1 0, u2.1.2) (fun vM_28 => (if (vM_28.1 8) = 0 then (F_X9_layRow_r 306 306 vnow u2.2 0 0).bind (fun u3 => lt (va_up vM_28.1 0 0, vM_28.2) (fun vM_29 => (L_X9_load_88 vbuffer FU 0 vM_29 u3 u2.2 visKept))) else (F_X9_fails vM_28 1).bind (fun u4 => (some (u4.1, u4.2, vnow, u2.2, visKept)))))))))) else ck x1 306 (lt (upd vdraft (Int32.toNatClampNeg x1) 0) (fun vdraft_30 => (rec (x1 + 1) vM vnow vdraft_30 visKept))))
def L_X9_load_7 (vbuffer : Nat → Int32) : Nat → Int32 → ((Nat → Int32) × Int64) → (Nat → Int32) → (Nat → Int32) → (Nat → Int32) → Option (Int32 × ((Nat → Int32) × Int64) × (Nat → Int32) × (Nat → Int32) × (Nat → Int32))
  | 0 => fun _ _ _ _ _ => none
  | n + 1 => fun x1 vM vnow vdraft visKept => B_X9_load_7 (L_X9_load_7 vbuffer n) vbuffer x1 vM vnow vdraft visKept
def F_X9_load (vM : (Nat → Int32) × Int64) (vnow : Nat → Int32) (vdraft : Nat → Int32) (visKept : Nat → Int32) (vbuffer : Nat → Int32) : Option (Int32 × ((Nat → Int32) × Int64) × (Nat → Int32) × (Nat → Int32) × (Nat → Int32)) := lt (va_up vM.1 3 0, vM.2) (fun vM_31 => (L_X9_load_7 vbuffer FU 0 vM_31 vnow vdraft visKept))
abbrev rm_X9_load : Room := { frames := 7, cells := 0, slots := 0, locals := 148 }
set_option maxHeartbeats 4000000 in
set_option maxRecDepth 100000 in
theorem c_X9_load (E : Ev) (l : Launch) (aM : Nat → Nat) (vM : (Nat → Int32) × Int64) (vnow : Nat → Int32) (vdraft : Nat → Int32) (visKept : Nat → Int32) (vbuffer : Nat → Int32) (r : Int32 × ((Nat → Int32) × Int64) × (Nat → Int32) × (Nat → Int32) × (Nat → Int32)) (hf : F_X9_load vM vnow vdraft visKept vbuffer = some r) : CM E l yX9_load (.code yX9_load cX9_load 2 (some .int) :: GA) rm_X9_load [.ref (aM 0)] (W_M aM vM ++ (W_A E (aM 1) 306 vnow ++ (W_A E (aM 2) 306 vdraft ++ (W_Z E (aM 6) 2 visKept ++ (W_A E (aM 7) 600 vbuffer))))) (some (.int r.1)) (W_M aM r.2.1 ++ (W_A E (aM 1) 306 r.2.2.1 ++ (W_A E (aM 2) 306 r.2.2.2.1 ++ (W_Z E (aM 6) 2 r.2.2.2.2 ++ (W_A E (aM 7) 600 vbuffer))))) := by
  refine CM.of (own := RX9) rfl (by decide) (Nat.le_of_ble_eq_true rfl) ?_
  intro p e s m below meth c A ls hx hb hr hml hown hg hlocks hK hE hA hP hD hS hl
  have hl : lv_has ls 2 [(0, .ref (aM 0))] := hl
  have lp_88 : ∀ (n : Nat) (x1 : Int32) (vM : (Nat → Int32) × Int64) (vnow : Nat → Int32) (vdraft : Nat → Int32) (visKept : Nat → Int32) (H : Heap) (locs : List Loc) (ls : Array Slot), L_X9_load_88 vbuffer n x1 vM vnow vdraft visKept = some r → va_P E.1 vwCl (W_M aM vM ++ (W_A E (aM 1) 306 vnow ++ (W_A E (aM 2) 306 vdraft ++ (W_Z E (aM 6) 2 visKept ++ (W_A E (aM 7) 600 vbuffer))))) H → va_D A (W_M aM vM ++ (W_A E (aM 1) 306 vnow ++ (W_A E (aM 2) 306 vdraft ++ (W_Z E (aM 6) 2 visKept ++ (W_A E (aM 7) 600 vbuffer))))) → va_S A s.heap H locs → lv_has ls 2 [(0, .ref (aM 0)), (1, .int x1)] → W p l e rm_X9_load s m ([.ref (aM 0)] : List Value).toArray below meth c H locs 0 0 (MQ below (QW E (some (.int r.1)) (W_M aM r.2.1 ++ (W_A E (aM 1) 306 r.2.2.1 ++ (W_A E (aM 2) 306 r.2.2.2.1 ++ (W_Z E (aM 6) 2 r.2.2.2.2 ++ (W_A E (aM 7) 600 vbuffer))))) A) ([.ref (aM 0)] : List Value).toArray s 0 0 A) (F0 m 88 ls []) := by
    intro n
    induction n with
    | zero => intro x1 vM vnow vdraft visKept H locs ls hf; cases hf
    | succ n ih =>
      intro x1 vM vnow vdraft visKept H locs ls hf hP hD hS hl
      replace hf : B_X9_load_88 (L_X9_load_88 vbuffer n) vbuffer x1 vM vnow vdraft visKept = some r := hf
      unfold B_X9_load_88 at hf
      refine lv_iload_n hx hb dX9_load_88 rfl (lv_at hl 1 rfl) ?_
      refine lv_iconst (v := 2) hx hb dX9_load_89 (by decide) ?_
      refine lv_icmp_ge (tgt := 106) hx hb dX9_load_90 (by decide) (fun cq => ?_) (fun cq => ?_)
      · have hf := it cq hf
        refine lv_aload_n hx hb dX9_load_106 rfl (lv_at hl 0 rfl) ?_
        refine gf_X9_7 hx hb hg hown hK hP 0 rfl rfl dX9_load_107 ?_
        refine lv_bipush (v := 7) hx hb dX9_load_110 (by decide) ?_
        obtain ⟨hi, hf⟩ := ck_o hf
        refine ar_ld hx hb hK hP 1 rfl hi dX9_load_112 ?_
        obtain rfl := Option.some.inj hf
        exact cm_iret hx hb hr hlocks hP hS dX9_load_113
      · have hf := ie cq hf
        refine lv_aload_n hx hb dX9_load_93 rfl (lv_at hl 0 rfl) ?_
        refine gf_X9_25 hx hb hg hown hK hP 0 rfl rfl dX9_load_94 ?_
        refine lv_iload_n hx hb dX9_load_97 rfl (lv_at hl 1 rfl) ?_
        refine lv_iconst (v := 0) hx hb dX9_load_98 (by decide) ?_
        obtain ⟨hi, hf⟩ := ck_o hf
        refine az_st (w2 := (W_M aM vM ++ (W_A E (aM 1) 306 vnow ++ (W_A E (aM 2) 306 vdraft ++ (W_Z E (aM 6) 2 (upd visKept (Int32.toNatClampNeg x1) 0) ++ (W_A E (aM 7) 600 vbuffer)))))) hx hb hK hP hD hS 3 rfl hi rfl rfl dX9_load_99 (fun H locs hP hD hS => ?_)
        obtain ⟨visKept_24, hv, hf⟩ := lt_o hf
        rw [← hv] at hP hD
        clear hv
        refine lv_iinc (v := (x1 + 1)) (lv' := [(1, .int (x1 + 1)), (0, .ref (aM 0))]) hx hb dX9_load_100 hl (k := 1) rfl rfl (by decide) rfl (fun ls hl => ?_)
        refine lv_goto (tgt := 88) hx hb dX9_load_103 (by decide) ?_
        exact ih _ _ _ _ _ _ _ _ hf hP hD hS (lv_sub hl [1, 0] rfl)
  have lp_7 : ∀ (n : Nat) (x1 : Int32) (vM : (Nat → Int32) × Int64) (vnow : Nat → Int32) (vdraft : Nat → Int32) (visKept : Nat → Int32) (H : Heap) (locs : List Loc) (ls : Array Slot), L_X9_load_7 vbuffer n x1 vM vnow vdraft visKept = some r → va_P E.1 vwCl (W_M aM vM ++ (W_A E (aM 1) 306 vnow ++ (W_A E (aM 2) 306 vdraft ++ (W_Z E (aM 6) 2 visKept ++ (W_A E (aM 7) 600 vbuffer))))) H → va_D A (W_M aM vM ++ (W_A E (aM 1) 306 vnow ++ (W_A E (aM 2) 306 vdraft ++ (W_Z E (aM 6) 2 visKept ++ (W_A E (aM 7) 600 vbuffer))))) → va_S A s.heap H locs → lv_has ls 2 [(0, .ref (aM 0)), (1, .int x1)] → W p l e rm_X9_load s m ([.ref (aM 0)] : List Value).toArray below meth c H locs 0 0 (MQ below (QW E (some (.int r.1)) (W_M aM r.2.1 ++ (W_A E (aM 1) 306 r.2.2.1 ++ (W_A E (aM 2) 306 r.2.2.2.1 ++ (W_Z E (aM 6) 2 r.2.2.2.2 ++ (W_A E (aM 7) 600 vbuffer))))) A) ([.ref (aM 0)] : List Value).toArray s 0 0 A) (F0 m 7 ls []) := by
    intro n
    induction n with
    | zero => intro x1 vM vnow vdraft visKept H locs ls hf; cases hf
    | succ n ih =>
      intro x1 vM vnow vdraft visKept H locs ls hf hP hD hS hl
      replace hf : B_X9_load_7 (L_X9_load_7 vbuffer n) vbuffer x1 vM vnow vdraft visKept = some r := hf
      unfold B_X9_load_7 at hf
      refine lv_iload_n hx hb dX9_load_7 rfl (lv_at hl 1 rfl) ?_
      refine lv_sipush (v := 306) hx hb dX9_load_8 (by decide) ?_
      refine lv_icmp_ge (tgt := 27) hx hb dX9_load_11 (by decide) (fun cq => ?_) (fun cq => ?_)
      · have hf := it cq hf
        refine lv_aload_n hx hb dX9_load_27 rfl (lv_at hl 0 rfl) ?_
        refine lv_iconst (v := 0) hx hb dX9_load_28 (by decide) ?_
        refine pf_X9_137 (w2 := (W_M aM (va_up vM.1 4 0, vM.2) ++ (W_A E (aM 1) 306 vnow ++ (W_A E (aM 2) 306 vdraft ++ (W_Z E (aM 6) 2 visKept ++ (W_A E (aM 7) 600 vbuffer)))))) hx hb hg hown hK hP hD hS 0 rfl (Nat.le_of_ble_eq_true rfl) rfl dX9_load_29 (fun H locs hP hD hS => ?_)
        obtain ⟨vM_25, hv, hf⟩ := lt_o hf
        rw [← hv] at hP hD
        clear hv
        refine lv_aload_n hx hb dX9_load_32 rfl (lv_at hl 0 rfl) ?_
        refine lv_iconst (v := 0) hx hb dX9_load_33 (by decide) ?_
        refine pf_X9_170 (w2 := (W_M aM (va_up vM_25.1 8 0, vM_25.2) ++ (W_A E (aM 1) 306 vnow ++ (W_A E (aM 2) 306 vdraft ++ (W_Z E (aM 6) 2 visKept ++ (W_A E (aM 7) 600 vbuffer)))))) hx hb hg hown hK hP hD hS 0 rfl rfl rfl (Nat.le_of_ble_eq_true rfl) rfl dX9_load_34 (fun H locs hP hD hS => ?_)
        obtain ⟨vM_26, hv, hf⟩ := lt_o hf
        rw [← hv] at hP hD
        clear hv
        refine lv_aload_n hx hb dX9_load_37 rfl (lv_at hl 0 rfl) ?_
        refine lv_iconst (v := (-1)) hx hb dX9_load_38 (by decide) ?_
        refine pf_X9_32 (w2 := (W_M aM (va_up vM_26.1 2 (-1), vM_26.2) ++ (W_A E (aM 1) 306 vnow ++ (W_A E (aM 2) 306 vdraft ++ (W_Z E (aM 6) 2 visKept ++ (W_A E (aM 7) 600 vbuffer)))))) hx hb hg hown hK hP hD hS 0 rfl (Nat.le_of_ble_eq_true rfl) rfl dX9_load_39 (fun H locs hP hD hS => ?_)
        obtain ⟨vM_27, hv, hf⟩ := lt_o hf
        rw [← hv] at hP hD
        clear hv
        refine lv_aload_n hx hb dX9_load_42 rfl (lv_at hl 0 rfl) ?_
        obtain ⟨u1, hu1, hf⟩ := bn hf
        refine cm_V (As := []) (rest := []) (w2 := (W_M aM u1 ++ (W_A E (aM 1) 306 vnow ++ (W_A E (aM 2) 306 vdraft ++ (W_Z E (aM 6) 2 visKept ++ (W_A E (aM 7) 600 vbuffer)))))) hx hb hml hown hg (c_X9_next E l aM vM_27 vbuffer u1 hu1) cy_X9_next ml_X9_174 ⟨⟨rfl, rfl⟩, Nat.le_of_ble_eq_true rfl, Nat.le_of_ble_eq_true rfl⟩ hK hE hP hD hS hA [true, false, false, false, true] rfl rfl rfl 0 rfl rfl rfl hl.1 rfl (Nat.le_of_ble_eq_true rfl) dX9_load_43 ⟨Nat.le_of_ble_eq_true rfl, Nat.le_of_ble_eq_true rfl⟩ [] rfl (fun H locs hP hD hS => ?_)
        refine lv_aload_n hx hb dX9_load_46 rfl (lv_at hl 0 rfl) ?_
        obtain ⟨u2, hu2, hf⟩ := bn hf
        refine cm_V (As := []) (rest := []) (w2 := (W_M aM u2.1 ++ (W_A E (aM 1) 306 vnow ++ (W_A E (aM 2) 306 u2.2 ++ (W_Z E (aM 6) 2 visKept ++ (W_A E (aM 7) 600 vbuffer)))))) hx hb hml hown hg (c_X9_readText E l aM u1 vdraft vbuffer u2 hu2) cy_X9_readText ml_X9_209 ⟨⟨rfl, rfl⟩, Nat.le_of_ble_eq_true rfl, Nat.le_of_ble_eq_true rfl⟩ hK hE hP hD hS hA [true, false, true, false, true] rfl rfl rfl 0 rfl rfl rfl hl.1 rfl (Nat.le_of_ble_eq_true rfl) dX9_load_47 ⟨Nat.le_of_ble_eq_true rfl, Nat.le_of_ble_eq_true rfl⟩ [] rfl (fun H locs hP hD hS => ?_)
        refine lv_aload_n hx hb dX9_load_50 rfl (lv_at hl 0 rfl) ?_
        refine lv_iconst (v := 0) hx hb dX9_load_51 (by decide) ?_
        refine pf_X9_130 (w2 := (W_M aM (va_up u2.1.1 1 0, u2.1.2) ++ (W_A E (aM 1) 306 vnow ++ (W_A E (aM 2) 306 u2.2 ++ (W_Z E (aM 6) 2 visKept ++ (W_A E (aM 7) 600 vbuffer)))))) hx hb hg hown hK hP hD hS 0 rfl (Nat.le_of_ble_eq_true rfl) rfl dX9_load_52 (fun H locs hP hD hS => ?_)
        obtain ⟨vM_28, hv, hf⟩ := lt_o hf
        rw [← hv] at hP hD
        clear hv
        refine lv_aload_n hx hb dX9_load_55 rfl (lv_at hl 0 rfl) ?_
        refine gf_X9_170 hx hb hg hown hK hP 0 rfl rfl dX9_load_56 ?_
        refine lv_if_eq (tgt := 68) hx hb dX9_load_59 (by decide) (fun cq => ?_) (fun cq => ?_)
        · have hf := it cq hf
          refine lv_aload_n hx hb dX9_load_68 rfl (lv_at hl 0 rfl) ?_
          refine gf_X9_13 hx hb hg hown hK hP 0 rfl rfl dX9_load_69 ?_
          refine lv_iconst (v := 0) hx hb dX9_load_72 (by decide) ?_
          refine lv_aload_n hx hb dX9_load_73 rfl (lv_at hl 0 rfl) ?_
          refine gf_X9_7 hx hb hg hown hK hP 0 rfl rfl dX9_load_74 ?_
          refine lv_iconst (v := 0) hx hb dX9_load_77 (by decide) ?_
          obtain ⟨u3, hu3, hf⟩ := bn hf
          refine cm_S (As := [.ref (aM 2), .int 0, .ref (aM 1), .int 0]) (rest := []) (w2 := (W_M aM vM_28 ++ (W_A E (aM 1) 306 u3 ++ (W_A E (aM 2) 306 u2.2 ++ (W_Z E (aM 6) 2 visKept ++ (W_A E (aM 7) 600 vbuffer)))))) hx hb hml hown hg (c_X9_layRow_r E l (aM 1) 306 (aM 2) 306 vnow u2.2 0 0 u3 hu3) cs_X9_layRow ml_X9_51 ⟨⟨rfl, rfl⟩, Nat.le_of_ble_eq_true rfl, Nat.le_of_ble_eq_true rfl⟩ hK hE hP hD hS hA [false, true, true] rfl rfl rfl rfl hl.1 rfl (Nat.le_of_ble_eq_true rfl) dX9_load_78 ⟨Nat.le_of_ble_eq_true rfl, Nat.le_of_ble_eq_true rfl⟩ [] rfl (fun H locs hP hD hS => ?_)
          refine lv_aload_n hx hb dX9_load_81 rfl (lv_at hl 0 rfl) ?_
          refine lv_iconst (v := 0) hx hb dX9_load_82 (by decide) ?_
          refine pf_X9_212 (w2 := (W_M aM (va_up vM_28.1 0 0, vM_28.2) ++ (W_A E (aM 1) 306 u3 ++ (W_A E (aM 2) 306 u2.2 ++ (W_Z E (aM 6) 2 visKept ++ (W_A E (aM 7) 600 vbuffer)))))) hx hb hg hown hK hP hD hS 0 rfl (Nat.le_of_ble_eq_true rfl) rfl dX9_load_83 (fun H locs hP hD hS => ?_)
          obtain ⟨vM_29, hv, hf⟩ := lt_o hf
          rw [← hv] at hP hD
          clear hv
          refine lv_iconst (v := 0) hx hb dX9_load_86 (by decide) ?_
          refine lv_istore_n (lv' := [(1, .int 0), (0, .ref (aM 0))]) hx hb dX9_load_87 rfl hl (by decide) rfl (fun ls hl => ?_)
          exact lp_88 FU _ _ _ _ _ _ _ _ hf hP hD hS (lv_sub hl [1, 0] rfl)
        · have hf := ie cq hf
          refine lv_aload_n hx hb dX9_load_62 rfl (lv_at hl 0 rfl) ?_
          refine lv_iconst (v := 1) hx hb dX9_load_63 (by decide) ?_
          obtain ⟨u4, hu4, hf⟩ := bn hf
          refine cm_V (As := [.int 1]) (rest := []) (w2 := (W_M aM u4.2 ++ (W_A E (aM 1) 306 vnow ++ (W_A E (aM 2) 306 u2.2 ++ (W_Z E (aM 6) 2 visKept ++ (W_A E (aM 7) 600 vbuffer)))))) hx hb hml hown hg (c_X9_fails E l aM vM_28 1 u4 hu4) cy_X9_fails ml_X9_133 ⟨⟨rfl, rfl⟩, Nat.le_of_ble_eq_true rfl, Nat.le_of_ble_eq_true rfl⟩ hK hE hP hD hS hA [true] rfl rfl rfl 0 rfl rfl rfl hl.1 rfl (Nat.le_of_ble_eq_true rfl) dX9_load_64 ⟨Nat.le_of_ble_eq_true rfl, Nat.le_of_ble_eq_true rfl⟩ [.int u4.1] rfl (fun H locs hP hD hS => ?_)
          obtain rfl := Option.some.inj hf
          exact cm_iret hx hb hr hlocks hP hS dX9_load_67
      · have hf := ie cq hf
        refine lv_aload_n hx hb dX9_load_14 rfl (lv_at hl 0 rfl) ?_
        refine gf_X9_13 hx hb hg hown hK hP 0 rfl rfl dX9_load_15 ?_
        refine lv_iload_n hx hb dX9_load_18 rfl (lv_at hl 1 rfl) ?_
        refine lv_iconst (v := 0) hx hb dX9_load_19 (by decide) ?_
        obtain ⟨hi, hf⟩ := ck_o hf
        refine ar_st (w2 := (W_M aM vM ++ (W_A E (aM 1) 306 vnow ++ (W_A E (aM 2) 306 (upd vdraft (Int32.toNatClampNeg x1) 0) ++ (W_Z E (aM 6) 2 visKept ++ (W_A E (aM 7) 600 vbuffer)))))) hx hb hK hP hD hS 2 rfl hi rfl dX9_load_20 (fun H locs hP hD hS => ?_)
        obtain ⟨vdraft_30, hv, hf⟩ := lt_o hf
        rw [← hv] at hP hD
        clear hv
        refine lv_iinc (v := (x1 + 1)) (lv' := [(1, .int (x1 + 1)), (0, .ref (aM 0))]) hx hb dX9_load_21 hl (k := 1) rfl rfl (by decide) rfl (fun ls hl => ?_)
        refine lv_goto (tgt := 7) hx hb dX9_load_24 (by decide) ?_
        exact ih _ _ _ _ _ _ _ _ hf hP hD hS (lv_sub hl [1, 0] rfl)
  unfold F_X9_load at hf
  refine lv_aload_n hx hb dX9_load_0 rfl (lv_at hl 0 rfl) ?_
  refine lv_iconst (v := 0) hx hb dX9_load_1 (by decide) ?_
  refine pf_X9_48 (w2 := (W_M aM (va_up vM.1 3 0, vM.2) ++ (W_A E (aM 1) 306 vnow ++ (W_A E (aM 2) 306 vdraft ++ (W_Z E (aM 6) 2 visKept ++ (W_A E (aM 7) 600 vbuffer)))))) hx hb hg hown hK hP hD hS 0 rfl (Nat.le_of_ble_eq_true rfl) rfl dX9_load_2 (fun H locs hP hD hS => ?_)
  obtain ⟨vM_31, hv, hf⟩ := lt_o hf
  rw [← hv] at hP hD
  clear hv
  refine lv_iconst (v := 0) hx hb dX9_load_5 (by decide) ?_
  refine lv_istore_n (lv' := [(1, .int 0), (0, .ref (aM 0))]) hx hb dX9_load_6 rfl hl (by decide) rfl (fun ls hl => ?_)
  exact lp_7 FU _ _ _ _ _ _ _ _ hf hP hD hS (lv_sub hl [1, 0] rfl)
