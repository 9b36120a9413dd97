def B_X0_addText_0_2 (rec : Int32 → (Nat → Nat → Int32) → Option ((Nat → Nat → Int32))) (x2 : Int32) (vB : Nat → Nat → Int32) : Option ((Nat → Nat → Int32)) := (if 101 ≤ x2 then (some vB) else ck x2 101 ((F_X0_add vB (chS 0 x2)).bind (fun u1 => (rec (x2 + 1) u1))))
def L_X0_addText_0_2 : Nat → Int32 → (Nat → Nat → Int32) → Option ((Nat → Nat → Int32))
  | 0 => fun _ _ => none
  | n + 1 => fun x2 vB => B_X0_addText_0_2 (L_X0_addText_0_2 n) x2 vB
def F_X0_addText_0 (vB : Nat → Nat → Int32) : Option ((Nat → Nat → Int32)) := (L_X0_addText_0_2 FU 0 vB)
abbrev rm_X0_addText_0 : Room := { frames := 4, cells := 0, slots := 0, locals := 85 }
set_option maxHeartbeats 4000000 in
set_option maxRecDepth 100000 in
theorem c_X0_addText_0 (E : Ev) (l : Launch) (aB : Nat → Nat) (vB : Nat → Nat → Int32) (r : (Nat → Nat → Int32)) (hf : F_X0_addText_0 vB = some r) : CM E l yX0_addText (.code yX0_addText cX0_addText 3 none :: GA) rm_X0_addText_0 [.ref (aB 0), .ref (E.2.2.2.2.2.1 0)] (W_B E aB vB) none (W_B E aB r) := by
  refine CM.of (own := RX0) rfl (by decide) (Nat.le_of_ble_eq_true rfl) ?_
  intro p e s m below meth c A ls hx hb hr hml hown hg hlocks hK hE hA hP hD hS hl
  have hl : lv_has ls 3 [(0, .ref (aB 0)), (1, .ref (E.2.2.2.2.2.1 0))] := hl
  have lp_2 : ∀ (n : Nat) (x2 : Int32) (vB : Nat → Nat → Int32) (H : Heap) (locs : List Loc) (ls : Array Slot), L_X0_addText_0_2 n x2 vB = some r → va_P E.1 vwCl (W_B E aB vB) H → va_D A (W_B E aB vB) → va_S A s.heap H locs → lv_has ls 3 [(0, .ref (aB 0)), (1, .ref (E.2.2.2.2.2.1 0)), (2, .int x2)] → W p l e rm_X0_addText_0 s m ([.ref (aB 0), .ref (E.2.2.2.2.2.1 0)] : List Value).toArray below meth c H locs 0 0 (MQ below (QW E none (W_B E aB r) A) ([.ref (aB 0), .ref (E.2.2.2.2.2.1 0)] : List Value).toArray s 0 0 A) (F0 m 2 ls []) := by
    intro n
    induction n with
    | zero => intro x2 vB H locs ls hf; cases hf
    | succ n ih =>
      intro x2 vB H locs ls hf hP hD hS hl
      replace hf : B_X0_addText_0_2 (L_X0_addText_0_2 n) x2 vB = some r := hf
      unfold B_X0_addText_0_2 at hf
      refine lv_iload_n hx hb dX0_addText_2 rfl (lv_at hl 2 rfl) ?_
      refine lv_aload_n hx hb dX0_addText_3 rfl (lv_at hl 1 rfl) ?_
      refine cm_Vs (As := []) (rest := [.int x2]) (i := 0) hx hb hml hown hg (c_length E l 0 (by decide)) cy_J0_length_8abf5 ml_X0_23 (by decide) ⟨⟨rfl, rfl⟩, Nat.le_of_ble_eq_true rfl, Nat.le_of_ble_eq_true rfl⟩ hK hE hP hD hS hA rfl hl.1 rfl (Nat.le_of_ble_eq_true rfl) dX0_addText_4 ⟨Nat.le_of_ble_eq_true rfl, Nat.le_of_ble_eq_true rfl⟩ [.int 101, .int x2] rfl (fun H locs hP hD hS => ?_)
      refine lv_icmp_ge (tgt := 25) hx hb dX0_addText_7 (by decide) (fun cq => ?_) (fun cq => ?_)
      · have hf := it cq hf
        obtain rfl := Option.some.inj hf
        exact cm_vret hx hb hr hlocks hP hS dX0_addText_25
      · have hf := ie cq hf
        refine lv_aload_n hx hb dX0_addText_10 rfl (lv_at hl 0 rfl) ?_
        refine lv_aload_n hx hb dX0_addText_11 rfl (lv_at hl 1 rfl) ?_
        refine lv_iload_n hx hb dX0_addText_12 rfl (lv_at hl 2 rfl) ?_
        obtain ⟨hi, hf⟩ := ck_o hf
        refine cm_Vs (As := [.int x2]) (rest := [.ref (aB 0)]) (i := 0) hx hb hml hown hg (c_charAt E l 0 (by decide) x2 hi) cy_J0_charAt_5068e ml_X0_28 (by decide) ⟨⟨rfl, rfl⟩, Nat.le_of_ble_eq_true rfl, Nat.le_of_ble_eq_true rfl⟩ hK hE hP hD hS hA rfl hl.1 rfl (Nat.le_of_ble_eq_true rfl) dX0_addText_13 ⟨Nat.le_of_ble_eq_true rfl, Nat.le_of_ble_eq_true rfl⟩ [.int (chS 0 x2), .ref (aB 0)] rfl (fun H locs hP hD hS => ?_)
        obtain ⟨u1, hu1, hf⟩ := bn hf
        refine cm_V (As := [.int (chS 0 x2)]) (rest := []) (w2 := (W_B E aB u1)) hx hb hml hown hg (c_X0_add E l aB vB (chS 0 x2) u1 hu1) cy_X0_add ml_X0_19 ⟨⟨rfl, rfl⟩, Nat.le_of_ble_eq_true rfl, Nat.le_of_ble_eq_true rfl⟩ hK hE hP hD hS hA [true, true] rfl rfl rfl 0 rfl rfl rfl hl.1 rfl (Nat.le_of_ble_eq_true rfl) dX0_addText_16 ⟨Nat.le_of_ble_eq_true rfl, Nat.le_of_ble_eq_true rfl⟩ [] rfl (fun H locs hP hD hS => ?_)
        refine lv_iinc (v := (x2 + 1)) (lv' := [(2, .int (x2 + 1)), (0, .ref (aB 0)), (1, .ref (E.2.2.2.2.2.1 0))]) hx hb dX0_addText_19 hl (k := 2) rfl rfl (by decide) rfl (fun ls hl => ?_)
        refine lv_goto (tgt := 2) hx hb dX0_addText_22 (by decide) ?_
        exact ih _ _ _ _ _ hf hP hD hS (lv_sub hl [1, 2, 0] rfl)
  unfold F_X0_addText_0 at hf
  refine lv_iconst (v := 0) hx hb dX0_addText_0 (by decide) ?_
  refine lv_istore_n (lv' := [(2, .int 0), (0, .ref (aB 0)), (1, .ref (E.2.2.2.2.2.1 0))]) hx hb dX0_addText_1 rfl hl (by decide) rfl (fun ls hl => ?_)
  exact lp_2 FU _ _ _ _ _ hf hP hD hS (lv_sub hl [1, 2, 0] rfl)
