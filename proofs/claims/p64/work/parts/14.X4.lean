def B_X4_takeWord_0 (rec : (Nat → Int32) → Option ((Nat → Int32))) (vB : Nat → Nat → Int32) (vP : Nat → Int32) : Option ((Nat → Int32)) := (if (vB 0 0) ≤ (vP 2) then lt (va_up vP 0 1) (fun vP_16 => (some vP_16)) else ck (vP 2) 600 ((F_X8_isLetter (vB 1 (Int32.toNatClampNeg (vP 2)))).bind (fun u1 => (if u1 = 0 then lt (va_up vP 0 1) (fun vP_17 => (some vP_17)) else lt (va_up vP 2 ((vP 2) + 1)) (fun vP_18 => (rec vP_18))))))
def L_X4_takeWord_0 (vB : Nat → Nat → Int32) : Nat → (Nat → Int32) → Option ((Nat → Int32))
  | 0 => fun _ => none
  | n + 1 => fun vP => B_X4_takeWord_0 (L_X4_takeWord_0 vB n) vB vP
def F_X4_takeWord (vP : Nat → Int32) (vB : Nat → Nat → Int32) : Option ((Nat → Int32)) := (L_X4_takeWord_0 vB FU vP)
abbrev rm_X4_takeWord : Room := { frames := 1, cells := 0, slots := 0, locals := 20 }
set_option maxHeartbeats 4000000 in
set_option maxRecDepth 100000 in
theorem c_X4_takeWord (E : Ev) (l : Launch) (aP : Nat) (aB : Nat → Nat) (vP : Nat → Int32) (vB : Nat → Nat → Int32) (r : (Nat → Int32)) (hf : F_X4_takeWord vP vB = some r) : CM E l yX4_takeWord (.code yX4_takeWord cX4_takeWord 1 none :: GA) rm_X4_takeWord [.ref aP] (W_P aP aB vP ++ (W_B E aB vB)) none (W_P aP aB r ++ (W_B E aB vB)) := by
  refine CM.of (own := RX4) rfl (by decide) (Nat.le_of_ble_eq_true rfl) ?_
  intro p e s m below meth c A ls hx hb hr hml hown hg hlocks hK hE hA hP hD hS hl
  have hl : lv_has ls 1 [(0, .ref aP)] := hl
  have lp_0 : ∀ (n : Nat) (vP : Nat → Int32) (H : Heap) (locs : List Loc) (ls : Array Slot), L_X4_takeWord_0 vB n vP = some r → va_P E.1 vwCl (W_P aP aB vP ++ (W_B E aB vB)) H → va_D A (W_P aP aB vP ++ (W_B E aB vB)) → va_S A s.heap H locs → lv_has ls 1 [(0, .ref aP)] → W p l e rm_X4_takeWord s m ([.ref aP] : List Value).toArray below meth c H locs 0 0 (MQ below (QW E none (W_P aP aB r ++ (W_B E aB vB)) A) ([.ref aP] : List Value).toArray s 0 0 A) (F0 m 0 ls []) := by
    intro n
    induction n with
    | zero => intro vP H locs ls hf; cases hf
    | succ n ih =>
      intro vP H locs ls hf hP hD hS hl
      replace hf : B_X4_takeWord_0 (L_X4_takeWord_0 vB n) vB vP = some r := hf
      unfold B_X4_takeWord_0 at hf
      refine lv_aload_n hx hb dX4_takeWord_0 rfl (lv_at hl 0 rfl) ?_
      refine gf_X4_18 hx hb hg hown hK hP 0 rfl rfl dX4_takeWord_1 ?_
      refine lv_aload_n hx hb dX4_takeWord_4 rfl (lv_at hl 0 rfl) ?_
      refine gf_X4_24 hx hb hg hown hK hP 0 rfl rfl dX4_takeWord_5 ?_
      refine gf_X4_112 hx hb hg hown hK hP 1 rfl rfl dX4_takeWord_8 ?_
      refine lv_icmp_ge (tgt := 45) hx hb dX4_takeWord_11 (by decide) (fun cq => ?_) (fun cq => ?_)
      · have hf := it cq hf
        refine lv_aload_n hx hb dX4_takeWord_45 rfl (lv_at hl 0 rfl) ?_
        refine lv_iconst (v := 1) hx hb dX4_takeWord_46 (by decide) ?_
        refine pf_X4_11 (w2 := (W_P aP aB (va_up vP 0 1) ++ (W_B E aB vB))) hx hb hg hown hK hP hD hS 0 rfl (Nat.le_of_ble_eq_true rfl) rfl dX4_takeWord_47 (fun H locs hP hD hS => ?_)
        obtain ⟨vP_16, hv, hf⟩ := lt_o hf
        rw [← hv] at hP hD
        clear hv
        obtain rfl := Option.some.inj hf
        exact cm_vret hx hb hr hlocks hP hS dX4_takeWord_50
      · have hf := ie cq hf
        refine lv_aload_n hx hb dX4_takeWord_14 rfl (lv_at hl 0 rfl) ?_
        refine gf_X4_24 hx hb hg hown hK hP 0 rfl rfl dX4_takeWord_15 ?_
        refine gf_X4_102 hx hb hg hown hK hP 1 rfl rfl dX4_takeWord_18 ?_
        refine lv_aload_n hx hb dX4_takeWord_21 rfl (lv_at hl 0 rfl) ?_
        refine gf_X4_18 hx hb hg hown hK hP 0 rfl rfl dX4_takeWord_22 ?_
        obtain ⟨hi, hf⟩ := ck_o hf
        refine ar_ld hx hb hK hP 2 rfl hi dX4_takeWord_25 ?_
        obtain ⟨u1, hu1, hf⟩ := bn hf
        refine cm_SN (host := "NightPorter") (As := [.int (vB 1 (Int32.toNatClampNeg (vP 2)))]) (rest := []) (w2 := (W_P aP aB vP ++ (W_B E aB vB))) hx hb hml hown hg (c_X8_isLetter E l (vB 1 (Int32.toNatClampNeg (vP 2))) u1 hu1) cs_X8_isLetter (by decide) ⟨⟨rfl, rfl⟩, Nat.le_of_ble_eq_true rfl, Nat.le_of_ble_eq_true rfl⟩ hK hE hP hD hS hA [] rfl rfl rfl rfl hl.1 rfl (Nat.le_of_ble_eq_true rfl) dX4_takeWord_26 ⟨Nat.le_of_ble_eq_true rfl, Nat.le_of_ble_eq_true rfl⟩ [.int u1] rfl (fun H locs hP hD hS => ?_)
        refine lv_if_eq (tgt := 45) hx hb dX4_takeWord_29 (by decide) (fun cq => ?_) (fun cq => ?_)
        · have hf := it cq hf
          refine lv_aload_n hx hb dX4_takeWord_45 rfl (lv_at hl 0 rfl) ?_
          refine lv_iconst (v := 1) hx hb dX4_takeWord_46 (by decide) ?_
          refine pf_X4_11 (w2 := (W_P aP aB (va_up vP 0 1) ++ (W_B E aB vB))) hx hb hg hown hK hP hD hS 0 rfl (Nat.le_of_ble_eq_true rfl) rfl dX4_takeWord_47 (fun H locs hP hD hS => ?_)
          obtain ⟨vP_17, hv, hf⟩ := lt_o hf
          rw [← hv] at hP hD
          clear hv
          obtain rfl := Option.some.inj hf
          exact cm_vret hx hb hr hlocks hP hS dX4_takeWord_50
        · have hf := ie cq hf
          refine lv_aload_n hx hb dX4_takeWord_32 rfl (lv_at hl 0 rfl) ?_
          refine lv_dup hx hb dX4_takeWord_33 rfl ?_
          refine gf_X4_18 hx hb hg hown hK hP 0 rfl rfl dX4_takeWord_34 ?_
          refine lv_iconst (v := 1) hx hb dX4_takeWord_37 (by decide) ?_
          refine lv_iadd hx hb dX4_takeWord_38 ?_
          refine pf_X4_18 (w2 := (W_P aP aB (va_up vP 2 ((vP 2) + 1)) ++ (W_B E aB vB))) hx hb hg hown hK hP hD hS 0 rfl (Nat.le_of_ble_eq_true rfl) rfl dX4_takeWord_39 (fun H locs hP hD hS => ?_)
          obtain ⟨vP_18, hv, hf⟩ := lt_o hf
          rw [← hv] at hP hD
          clear hv
          refine lv_goto (tgt := 0) hx hb dX4_takeWord_42 (by decide) ?_
          exact ih _ _ _ _ hf hP hD hS (lv_sub hl [0] rfl)
  unfold F_X4_takeWord at hf
  exact lp_0 FU _ _ _ _ hf hP hD hS (lv_sub hl [0] rfl)
def J_X4_takeNumber_77 (vB : Nat → Nat → Int32) (vP : Nat → Int32) : Option ((Nat → Int32)) := lt (va_up vP 0 (if ((vP 2) - (vP 1)) ≤ 3 then 2 else 4)) (fun vP_12 => (some vP_12))
def B_X4_takeNumber_5 (rec : (Nat → Int32) → Option ((Nat → Int32))) (vB : Nat → Nat → Int32) (vP : Nat → Int32) : Option ((Nat → Int32)) := (if (vB 0 0) ≤ (vP 2) then (J_X4_takeNumber_77 vB vP) else ck (vP 2) 600 ((F_X8_isDigit (vB 1 (Int32.toNatClampNeg (vP 2)))).bind (fun u1 => (if u1 = 0 then (J_X4_takeNumber_77 vB vP) else ck (vP 2) 600 (lt (va_up vP 3 ((((vP 3) * 10) + (vB 1 (Int32.toNatClampNeg (vP 2)))) - 48)) (fun vP_13 => lt (va_up vP_13 2 ((vP_13 2) + 1)) (fun vP_14 => (rec vP_14))))))))
def L_X4_takeNumber_5 (vB : Nat → Nat → Int32) : Nat → (Nat → Int32) → Option ((Nat → Int32))
  | 0 => fun _ => none
  | n + 1 => fun vP => B_X4_takeNumber_5 (L_X4_takeNumber_5 vB n) vB vP
def F_X4_takeNumber (vP : Nat → Int32) (vB : Nat → Nat → Int32) : Option ((Nat → Int32)) := lt (va_up vP 3 0) (fun vP_15 => (L_X4_takeNumber_5 vB FU vP_15))
abbrev rm_X4_takeNumber : Room := { frames := 1, cells := 0, slots := 0, locals := 20 }
set_option maxHeartbeats 4000000 in
set_option maxRecDepth 100000 in
theorem c_X4_takeNumber (E : Ev) (l : Launch) (aP : Nat) (aB : Nat → Nat) (vP : Nat → Int32) (vB : Nat → Nat → Int32) (r : (Nat → Int32)) (hf : F_X4_takeNumber vP vB = some r) : CM E l yX4_takeNumber (.code yX4_takeNumber cX4_takeNumber 1 none :: GA) rm_X4_takeNumber [.ref aP] (W_P aP aB vP ++ (W_B E aB vB)) none (W_P aP aB r ++ (W_B E aB vB)) := by
  refine CM.of (own := RX4) rfl (by decide) (Nat.le_of_ble_eq_true rfl) ?_
  intro p e s m below meth c A ls hx hb hr hml hown hg hlocks hK hE hA hP hD hS hl
  have hl : lv_has ls 1 [(0, .ref aP)] := hl
  have jp_77 : ∀ (vP : Nat → Int32) (H : Heap) (locs : List Loc) (ls : Array Slot), J_X4_takeNumber_77 vB vP = some r → va_P E.1 vwCl (W_P aP aB vP ++ (W_B E aB vB)) H → va_D A (W_P aP aB vP ++ (W_B E aB vB)) → va_S A s.heap H locs → lv_has ls 1 [(0, .ref aP)] → W p l e rm_X4_takeNumber s m ([.ref aP] : List Value).toArray below meth c H locs 0 0 (MQ below (QW E none (W_P aP aB r ++ (W_B E aB vB)) A) ([.ref aP] : List Value).toArray s 0 0 A) (F0 m 77 ls []) := by
    intro vP H locs ls hf hP hD hS hl
    unfold J_X4_takeNumber_77 at hf
    refine lv_aload_n hx hb dX4_takeNumber_77 rfl (lv_at hl 0 rfl) ?_
    refine lv_aload_n hx hb dX4_takeNumber_78 rfl (lv_at hl 0 rfl) ?_
    refine gf_X4_18 hx hb hg hown hK hP 0 rfl rfl dX4_takeNumber_79 ?_
    refine lv_aload_n hx hb dX4_takeNumber_82 rfl (lv_at hl 0 rfl) ?_
    refine gf_X4_15 hx hb hg hown hK hP 0 rfl rfl dX4_takeNumber_83 ?_
    refine lv_isub hx hb dX4_takeNumber_86 ?_
    refine lv_iconst (v := 3) hx hb dX4_takeNumber_87 (by decide) ?_
    refine wj (F0 m 96 ls [.int (if ((vP 2) - (vP 1)) ≤ 3 then 2 else 4), .ref aP]) ?_ (fun jk => ?_)
    rotate_left
    · refine lv_icmp_le (tgt := 95) hx hb dX4_takeNumber_88 (by decide) (fun cq => ?_) (fun cq => ?_)
      · rw [if_pos cq] at jk
        refine lv_iconst (v := 2) hx hb dX4_takeNumber_95 (by decide) ?_
        exact jk
      · rw [if_neg cq] at jk
        refine lv_iconst (v := 4) hx hb dX4_takeNumber_91 (by decide) ?_
        refine lv_goto (tgt := 96) hx hb dX4_takeNumber_92 (by decide) ?_
        exact jk
    refine pf_X4_11 (w2 := (W_P aP aB (va_up vP 0 (if ((vP 2) - (vP 1)) ≤ 3 then 2 else 4)) ++ (W_B E aB vB))) hx hb hg hown hK hP hD hS 0 rfl (Nat.le_of_ble_eq_true rfl) rfl dX4_takeNumber_96 (fun H locs hP hD hS => ?_)
    obtain ⟨vP_12, hv, hf⟩ := lt_o hf
    rw [← hv] at hP hD
    clear hv
    obtain rfl := Option.some.inj hf
    exact cm_vret hx hb hr hlocks hP hS dX4_takeNumber_99
  have lp_5 : ∀ (n : Nat) (vP : Nat → Int32) (H : Heap) (locs : List Loc) (ls : Array Slot), L_X4_takeNumber_5 vB n vP = some r → va_P E.1 vwCl (W_P aP aB vP ++ (W_B E aB vB)) H → va_D A (W_P aP aB vP ++ (W_B E aB vB)) → va_S A s.heap H locs → lv_has ls 1 [(0, .ref aP)] → W p l e rm_X4_takeNumber s m ([.ref aP] : List Value).toArray below meth c H locs 0 0 (MQ below (QW E none (W_P aP aB r ++ (W_B E aB vB)) A) ([.ref aP] : List Value).toArray s 0 0 A) (F0 m 5 ls []) := by
    intro n
    induction n with
    | zero => intro vP H locs ls hf; cases hf
    | succ n ih =>
      intro vP H locs ls hf hP hD hS hl
      replace hf : B_X4_takeNumber_5 (L_X4_takeNumber_5 vB n) vB vP = some r := hf
      unfold B_X4_takeNumber_5 at hf
      refine lv_aload_n hx hb dX4_takeNumber_5 rfl (lv_at hl 0 rfl) ?_
      refine gf_X4_18 hx hb hg hown hK hP 0 rfl rfl dX4_takeNumber_6 ?_
      refine lv_aload_n hx hb dX4_takeNumber_9 rfl (lv_at hl 0 rfl) ?_
      refine gf_X4_24 hx hb hg hown hK hP 0 rfl rfl dX4_takeNumber_10 ?_
      refine gf_X4_112 hx hb hg hown hK hP 1 rfl rfl dX4_takeNumber_13 ?_
      refine lv_icmp_ge (tgt := 77) hx hb dX4_takeNumber_16 (by decide) (fun cq => ?_) (fun cq => ?_)
      · have hf := it cq hf
        exact jp_77 _ _ _ _ hf hP hD hS (lv_sub hl [0] rfl)
      · have hf := ie cq hf
        refine lv_aload_n hx hb dX4_takeNumber_19 rfl (lv_at hl 0 rfl) ?_
        refine gf_X4_24 hx hb hg hown hK hP 0 rfl rfl dX4_takeNumber_20 ?_
        refine gf_X4_102 hx hb hg hown hK hP 1 rfl rfl dX4_takeNumber_23 ?_
        refine lv_aload_n hx hb dX4_takeNumber_26 rfl (lv_at hl 0 rfl) ?_
        refine gf_X4_18 hx hb hg hown hK hP 0 rfl rfl dX4_takeNumber_27 ?_
        obtain ⟨hi, hf⟩ := ck_o hf
        refine ar_ld hx hb hK hP 2 rfl hi dX4_takeNumber_30 ?_
        obtain ⟨u1, hu1, hf⟩ := bn hf
        refine cm_SN (host := "NightPorter") (As := [.int (vB 1 (Int32.toNatClampNeg (vP 2)))]) (rest := []) (w2 := (W_P aP aB vP ++ (W_B E aB vB))) hx hb hml hown hg (c_X8_isDigit E l (vB 1 (Int32.toNatClampNeg (vP 2))) u1 hu1) cs_X8_isDigit (by decide) ⟨⟨rfl, rfl⟩, Nat.le_of_ble_eq_true rfl, Nat.le_of_ble_eq_true rfl⟩ hK hE hP hD hS hA [] rfl rfl rfl rfl hl.1 rfl (Nat.le_of_ble_eq_true rfl) dX4_takeNumber_31 ⟨Nat.le_of_ble_eq_true rfl, Nat.le_of_ble_eq_true rfl⟩ [.int u1] rfl (fun H locs hP hD hS => ?_)
        refine lv_if_eq (tgt := 77) hx hb dX4_takeNumber_34 (by decide) (fun cq => ?_) (fun cq => ?_)
        · have hf := it cq hf
          exact jp_77 _ _ _ _ hf hP hD hS (lv_sub hl [0] rfl)
        · have hf := ie cq hf
          refine lv_aload_n hx hb dX4_takeNumber_37 rfl (lv_at hl 0 rfl) ?_
          refine lv_aload_n hx hb dX4_takeNumber_38 rfl (lv_at hl 0 rfl) ?_
          refine gf_X4_21 hx hb hg hown hK hP 0 rfl rfl dX4_takeNumber_39 ?_
          refine lv_bipush (v := 10) hx hb dX4_takeNumber_42 (by decide) ?_
          refine lv_imul hx hb dX4_takeNumber_44 ?_
          refine lv_aload_n hx hb dX4_takeNumber_45 rfl (lv_at hl 0 rfl) ?_
          refine gf_X4_24 hx hb hg hown hK hP 0 rfl rfl dX4_takeNumber_46 ?_
          refine gf_X4_102 hx hb hg hown hK hP 1 rfl rfl dX4_takeNumber_49 ?_
          refine lv_aload_n hx hb dX4_takeNumber_52 rfl (lv_at hl 0 rfl) ?_
          refine gf_X4_18 hx hb hg hown hK hP 0 rfl rfl dX4_takeNumber_53 ?_
          obtain ⟨hi, hf⟩ := ck_o hf
          refine ar_ld hx hb hK hP 2 rfl hi dX4_takeNumber_56 ?_
          refine lv_iadd hx hb dX4_takeNumber_57 ?_
          refine lv_bipush (v := 48) hx hb dX4_takeNumber_58 (by decide) ?_
          refine lv_isub hx hb dX4_takeNumber_60 ?_
          refine pf_X4_21 (w2 := (W_P aP aB (va_up vP 3 ((((vP 3) * 10) + (vB 1 (Int32.toNatClampNeg (vP 2)))) - 48)) ++ (W_B E aB vB))) hx hb hg hown hK hP hD hS 0 rfl (Nat.le_of_ble_eq_true rfl) rfl dX4_takeNumber_61 (fun H locs hP hD hS => ?_)
          obtain ⟨vP_13, hv, hf⟩ := lt_o hf
          rw [← hv] at hP hD
          clear hv
          refine lv_aload_n hx hb dX4_takeNumber_64 rfl (lv_at hl 0 rfl) ?_
          refine lv_dup hx hb dX4_takeNumber_65 rfl ?_
          refine gf_X4_18 hx hb hg hown hK hP 0 rfl rfl dX4_takeNumber_66 ?_
          refine lv_iconst (v := 1) hx hb dX4_takeNumber_69 (by decide) ?_
          refine lv_iadd hx hb dX4_takeNumber_70 ?_
          refine pf_X4_18 (w2 := (W_P aP aB (va_up vP_13 2 ((vP_13 2) + 1)) ++ (W_B E aB vB))) hx hb hg hown hK hP hD hS 0 rfl (Nat.le_of_ble_eq_true rfl) rfl dX4_takeNumber_71 (fun H locs hP hD hS => ?_)
          obtain ⟨vP_14, hv, hf⟩ := lt_o hf
          rw [← hv] at hP hD
          clear hv
          refine lv_goto (tgt := 5) hx hb dX4_takeNumber_74 (by decide) ?_
          exact ih _ _ _ _ hf hP hD hS (lv_sub hl [0] rfl)
  unfold F_X4_takeNumber at hf
  refine lv_aload_n hx hb dX4_takeNumber_0 rfl (lv_at hl 0 rfl) ?_
  refine lv_iconst (v := 0) hx hb dX4_takeNumber_1 (by decide) ?_
  refine pf_X4_21 (w2 := (W_P aP aB (va_up vP 3 0) ++ (W_B E aB vB))) hx hb hg hown hK hP hD hS 0 rfl (Nat.le_of_ble_eq_true rfl) rfl dX4_takeNumber_2 (fun H locs hP hD hS => ?_)
  obtain ⟨vP_15, hv, hf⟩ := lt_o hf
  rw [← hv] at hP hD
  clear hv
  exact lp_5 FU _ _ _ _ hf hP hD hS (lv_sub hl [0] rfl)
def J_X4_advance_53 (vB : Nat → Nat → Int32) (vP : Nat → Int32) : Option ((Nat → Int32)) := lt (va_up vP 2 (vP 1)) (fun vP_18 => (if (vP_18 1) < (vB 0 0) then ck (vP_18 1) 600 ((F_X8_isLetter (vB 1 (Int32.toNatClampNeg (vP_18 1)))).bind (fun u1 => (if u1 = 0 then ck (vP_18 1) 600 ((F_X8_isDigit (vB 1 (Int32.toNatClampNeg (vP_18 1)))).bind (fun u2 => (if u2 = 0 then ck (vP_18 1) 600 (lt (va_up vP_18 0 (if (vB 1 (Int32.toNatClampNeg (vP_18 1))) = 59 then 3 else 4)) (fun vP_19 => lt (va_up vP_19 2 ((vP_19 1) + 1)) (fun vP_20 => (some vP_20)))) else (F_X4_takeNumber vP_18 vB).bind (fun u3 => (some u3))))) else (F_X4_takeWord vP_18 vB).bind (fun u4 => (some u4))))) else lt (va_up vP_18 0 0) (fun vP_21 => (some vP_21))))
def B_X4_advance_8 (rec : (Nat → Int32) → Option ((Nat → Int32))) (vB : Nat → Nat → Int32) (vP : Nat → Int32) : Option ((Nat → Int32)) := (if (vB 0 0) ≤ (vP 1) then (J_X4_advance_53 vB vP) else ck (vP 1) 600 ((F_X8_isBlank (vB 1 (Int32.toNatClampNeg (vP 1)))).bind (fun u1 => (if u1 = 0 then (J_X4_advance_53 vB vP) else lt (va_up vP 1 ((vP 1) + 1)) (fun vP_22 => (rec vP_22))))))
def L_X4_advance_8 (vB : Nat → Nat → Int32) : Nat → (Nat → Int32) → Option ((Nat → Int32))
  | 0 => fun _ => none
  | n + 1 => fun vP => B_X4_advance_8 (L_X4_advance_8 vB n) vB vP
def F_X4_advance (vP : Nat → Int32) (vB : Nat → Nat → Int32) : Option ((Nat → Int32)) := lt (va_up vP 1 (vP 2)) (fun vP_23 => (L_X4_advance_8 vB FU vP_23))
abbrev rm_X4_advance : Room := { frames := 2, cells := 0, slots := 0, locals := 40 }
set_option maxHeartbeats 4000000 in
set_option maxRecDepth 100000 in
theorem c_X4_advance (E : Ev) (l : Launch) (aP : Nat) (aB : Nat → Nat) (vP : Nat → Int32) (vB : Nat → Nat → Int32) (r : (Nat → Int32)) (hf : F_X4_advance vP vB = some r) : CM E l yX4_advance (.code yX4_advance cX4_advance 1 none :: GA) rm_X4_advance [.ref aP] (W_P aP aB vP ++ (W_B E aB vB)) none (W_P aP aB r ++ (W_B E aB vB)) := by
  refine CM.of (own := RX4) rfl (by decide) (Nat.le_of_ble_eq_true rfl) ?_
  intro p e s m below meth c A ls hx hb hr hml hown hg hlocks hK hE hA hP hD hS hl
  have hl : lv_has ls 1 [(0, .ref aP)] := hl
  have jp_53 : ∀ (vP : Nat → Int32) (H : Heap) (locs : List Loc) (ls : Array Slot), J_X4_advance_53 vB vP = some r → va_P E.1 vwCl (W_P aP aB vP ++ (W_B E aB vB)) H → va_D A (W_P aP aB vP ++ (W_B E aB vB)) → va_S A s.heap H locs → lv_has ls 1 [(0, .ref aP)] → W p l e rm_X4_advance s m ([.ref aP] : List Value).toArray below meth c H locs 0 0 (MQ below (QW E none (W_P aP aB r ++ (W_B E aB vB)) A) ([.ref aP] : List Value).toArray s 0 0 A) (F0 m 53 ls []) := by
    intro vP H locs ls hf hP hD hS hl
    unfold J_X4_advance_53 at hf
    refine lv_aload_n hx hb dX4_advance_53 rfl (lv_at hl 0 rfl) ?_
    refine lv_aload_n hx hb dX4_advance_54 rfl (lv_at hl 0 rfl) ?_
    refine gf_X4_15 hx hb hg hown hK hP 0 rfl rfl dX4_advance_55 ?_
    refine pf_X4_18 (w2 := (W_P aP aB (va_up vP 2 (vP 1)) ++ (W_B E aB vB))) hx hb hg hown hK hP hD hS 0 rfl (Nat.le_of_ble_eq_true rfl) rfl dX4_advance_58 (fun H locs hP hD hS => ?_)
    obtain ⟨vP_18, hv, hf⟩ := lt_o hf
    rw [← hv] at hP hD
    clear hv
    refine lv_aload_n hx hb dX4_advance_61 rfl (lv_at hl 0 rfl) ?_
    refine gf_X4_15 hx hb hg hown hK hP 0 rfl rfl dX4_advance_62 ?_
    refine lv_aload_n hx hb dX4_advance_65 rfl (lv_at hl 0 rfl) ?_
    refine gf_X4_24 hx hb hg hown hK hP 0 rfl rfl dX4_advance_66 ?_
    refine gf_X4_112 hx hb hg hown hK hP 1 rfl rfl dX4_advance_69 ?_
    refine lv_icmp_lt (tgt := 83) hx hb dX4_advance_72 (by decide) (fun cq => ?_) (fun cq => ?_)
    · have hf := it cq hf
      refine lv_aload_n hx hb dX4_advance_83 rfl (lv_at hl 0 rfl) ?_
      refine gf_X4_24 hx hb hg hown hK hP 0 rfl rfl dX4_advance_84 ?_
      refine gf_X4_102 hx hb hg hown hK hP 1 rfl rfl dX4_advance_87 ?_
      refine lv_aload_n hx hb dX4_advance_90 rfl (lv_at hl 0 rfl) ?_
      refine gf_X4_15 hx hb hg hown hK hP 0 rfl rfl dX4_advance_91 ?_
      obtain ⟨hi, hf⟩ := ck_o hf
      refine ar_ld hx hb hK hP 2 rfl hi dX4_advance_94 ?_
      obtain ⟨u1, hu1, hf⟩ := bn hf
      refine cm_SN (host := "NightPorter") (As := [.int (vB 1 (Int32.toNatClampNeg (vP_18 1)))]) (rest := []) (w2 := (W_P aP aB vP_18 ++ (W_B E aB vB))) hx hb hml hown hg (c_X8_isLetter E l (vB 1 (Int32.toNatClampNeg (vP_18 1))) u1 hu1) cs_X8_isLetter (by decide) ⟨⟨rfl, rfl⟩, Nat.le_of_ble_eq_true rfl, Nat.le_of_ble_eq_true rfl⟩ hK hE hP hD hS hA [] rfl rfl rfl rfl hl.1 rfl (Nat.le_of_ble_eq_true rfl) dX4_advance_95 ⟨Nat.le_of_ble_eq_true rfl, Nat.le_of_ble_eq_true rfl⟩ [.int u1] rfl (fun H locs hP hD hS => ?_)
      refine lv_if_eq (tgt := 108) hx hb dX4_advance_98 (by decide) (fun cq => ?_) (fun cq => ?_)
      · have hf := it cq hf
        refine lv_aload_n hx hb dX4_advance_108 rfl (lv_at hl 0 rfl) ?_
        refine gf_X4_24 hx hb hg hown hK hP 0 rfl rfl dX4_advance_109 ?_
        refine gf_X4_102 hx hb hg hown hK hP 1 rfl rfl dX4_advance_112 ?_
        refine lv_aload_n hx hb dX4_advance_115 rfl (lv_at hl 0 rfl) ?_
        refine gf_X4_15 hx hb hg hown hK hP 0 rfl rfl dX4_advance_116 ?_
        obtain ⟨hi, hf⟩ := ck_o hf
        refine ar_ld hx hb hK hP 2 rfl hi dX4_advance_119 ?_
        obtain ⟨u2, hu2, hf⟩ := bn hf
        refine cm_SN (host := "NightPorter") (As := [.int (vB 1 (Int32.toNatClampNeg (vP_18 1)))]) (rest := []) (w2 := (W_P aP aB vP_18 ++ (W_B E aB vB))) hx hb hml hown hg (c_X8_isDigit E l (vB 1 (Int32.toNatClampNeg (vP_18 1))) u2 hu2) cs_X8_isDigit (by decide) ⟨⟨rfl, rfl⟩, Nat.le_of_ble_eq_true rfl, Nat.le_of_ble_eq_true rfl⟩ hK hE hP hD hS hA [] rfl rfl rfl rfl hl.1 rfl (Nat.le_of_ble_eq_true rfl) dX4_advance_120 ⟨Nat.le_of_ble_eq_true rfl, Nat.le_of_ble_eq_true rfl⟩ [.int u2] rfl (fun H locs hP hD hS => ?_)
        refine lv_if_eq (tgt := 133) hx hb dX4_advance_123 (by decide) (fun cq => ?_) (fun cq => ?_)
        · have hf := it cq hf
          refine lv_aload_n hx hb dX4_advance_133 rfl (lv_at hl 0 rfl) ?_
          refine lv_aload_n hx hb dX4_advance_134 rfl (lv_at hl 0 rfl) ?_
          refine gf_X4_24 hx hb hg hown hK hP 0 rfl rfl dX4_advance_135 ?_
          refine gf_X4_102 hx hb hg hown hK hP 1 rfl rfl dX4_advance_138 ?_
          refine lv_aload_n hx hb dX4_advance_141 rfl (lv_at hl 0 rfl) ?_
          refine gf_X4_15 hx hb hg hown hK hP 0 rfl rfl dX4_advance_142 ?_
          obtain ⟨hi, hf⟩ := ck_o hf
          refine ar_ld hx hb hK hP 2 rfl hi dX4_advance_145 ?_
          refine lv_bipush (v := 59) hx hb dX4_advance_146 (by decide) ?_
          refine wj (F0 m 156 ls [.int (if (vB 1 (Int32.toNatClampNeg (vP_18 1))) = 59 then 3 else 4), .ref aP]) ?_ (fun jk => ?_)
          rotate_left
          · refine lv_icmp_ne (tgt := 155) hx hb dX4_advance_148 (by decide) (fun cq => ?_) (fun cq => ?_)
            · rw [if_neg cq] at jk
              refine lv_iconst (v := 4) hx hb dX4_advance_155 (by decide) ?_
              exact jk
            · rw [if_pos cq] at jk
              refine lv_iconst (v := 3) hx hb dX4_advance_151 (by decide) ?_
              refine lv_goto (tgt := 156) hx hb dX4_advance_152 (by decide) ?_
              exact jk
          refine pf_X4_11 (w2 := (W_P aP aB (va_up vP_18 0 (if (vB 1 (Int32.toNatClampNeg (vP_18 1))) = 59 then 3 else 4)) ++ (W_B E aB vB))) hx hb hg hown hK hP hD hS 0 rfl (Nat.le_of_ble_eq_true rfl) rfl dX4_advance_156 (fun H locs hP hD hS => ?_)
          obtain ⟨vP_19, hv, hf⟩ := lt_o hf
          rw [← hv] at hP hD
          clear hv
          refine lv_aload_n hx hb dX4_advance_159 rfl (lv_at hl 0 rfl) ?_
          refine lv_aload_n hx hb dX4_advance_160 rfl (lv_at hl 0 rfl) ?_
          refine gf_X4_15 hx hb hg hown hK hP 0 rfl rfl dX4_advance_161 ?_
          refine lv_iconst (v := 1) hx hb dX4_advance_164 (by decide) ?_
          refine lv_iadd hx hb dX4_advance_165 ?_
          refine pf_X4_18 (w2 := (W_P aP aB (va_up vP_19 2 ((vP_19 1) + 1)) ++ (W_B E aB vB))) hx hb hg hown hK hP hD hS 0 rfl (Nat.le_of_ble_eq_true rfl) rfl dX4_advance_166 (fun H locs hP hD hS => ?_)
          obtain ⟨vP_20, hv, hf⟩ := lt_o hf
          rw [← hv] at hP hD
          clear hv
          obtain rfl := Option.some.inj hf
          exact cm_vret hx hb hr hlocks hP hS dX4_advance_169
        · have hf := ie cq hf
          refine lv_aload_n hx hb dX4_advance_126 rfl (lv_at hl 0 rfl) ?_
          obtain ⟨u3, hu3, hf⟩ := bn hf
          refine cm_V (As := []) (rest := []) (w2 := (W_P aP aB u3 ++ (W_B E aB vB))) hx hb hml hown hg (c_X4_takeNumber E l aP aB vP_18 vB u3 hu3) cy_X4_takeNumber ml_X4_127 ⟨⟨rfl, rfl⟩, Nat.le_of_ble_eq_true rfl, Nat.le_of_ble_eq_true rfl⟩ hK hE hP hD hS hA [true, true, true] rfl rfl rfl 0 rfl rfl rfl hl.1 rfl (Nat.le_of_ble_eq_true rfl) dX4_advance_127 ⟨Nat.le_of_ble_eq_true rfl, Nat.le_of_ble_eq_true rfl⟩ [] rfl (fun H locs hP hD hS => ?_)
          refine lv_goto (tgt := 169) hx hb dX4_advance_130 (by decide) ?_
          obtain rfl := Option.some.inj hf
          exact cm_vret hx hb hr hlocks hP hS dX4_advance_169
      · have hf := ie cq hf
        refine lv_aload_n hx hb dX4_advance_101 rfl (lv_at hl 0 rfl) ?_
        obtain ⟨u4, hu4, hf⟩ := bn hf
        refine cm_V (As := []) (rest := []) (w2 := (W_P aP aB u4 ++ (W_B E aB vB))) hx hb hml hown hg (c_X4_takeWord E l aP aB vP_18 vB u4 hu4) cy_X4_takeWord ml_X4_121 ⟨⟨rfl, rfl⟩, Nat.le_of_ble_eq_true rfl, Nat.le_of_ble_eq_true rfl⟩ hK hE hP hD hS hA [true, true, true] rfl rfl rfl 0 rfl rfl rfl hl.1 rfl (Nat.le_of_ble_eq_true rfl) dX4_advance_102 ⟨Nat.le_of_ble_eq_true rfl, Nat.le_of_ble_eq_true rfl⟩ [] rfl (fun H locs hP hD hS => ?_)
        refine lv_goto (tgt := 169) hx hb dX4_advance_105 (by decide) ?_
        obtain rfl := Option.some.inj hf
        exact cm_vret hx hb hr hlocks hP hS dX4_advance_169
    · have hf := ie cq hf
      refine lv_aload_n hx hb dX4_advance_75 rfl (lv_at hl 0 rfl) ?_
      refine lv_iconst (v := 0) hx hb dX4_advance_76 (by decide) ?_
      refine pf_X4_11 (w2 := (W_P aP aB (va_up vP_18 0 0) ++ (W_B E aB vB))) hx hb hg hown hK hP hD hS 0 rfl (Nat.le_of_ble_eq_true rfl) rfl dX4_advance_77 (fun H locs hP hD hS => ?_)
      obtain ⟨vP_21, hv, hf⟩ := lt_o hf
      rw [← hv] at hP hD
      clear hv
      refine lv_goto (tgt := 169) hx hb dX4_advance_80 (by decide) ?_
      obtain rfl := Option.some.inj hf
      exact cm_vret hx hb hr hlocks hP hS dX4_advance_169
  have lp_8 : ∀ (n : Nat) (vP : Nat → Int32) (H : Heap) (locs : List Loc) (ls : Array Slot), L_X4_advance_8 vB n vP = some r → va_P E.1 vwCl (W_P aP aB vP ++ (W_B E aB vB)) H → va_D A (W_P aP aB vP ++ (W_B E aB vB)) → va_S A s.heap H locs → lv_has ls 1 [(0, .ref aP)] → W p l e rm_X4_advance s m ([.ref aP] : List Value).toArray below meth c H locs 0 0 (MQ below (QW E none (W_P aP aB r ++ (W_B E aB vB)) A) ([.ref aP] : List Value).toArray s 0 0 A) (F0 m 8 ls []) := by
    intro n
    induction n with
    | zero => intro vP H locs ls hf; cases hf
    | succ n ih =>
      intro vP H locs ls hf hP hD hS hl
      replace hf : B_X4_advance_8 (L_X4_advance_8 vB n) vB vP = some r := hf
      unfold B_X4_advance_8 at hf
      refine lv_aload_n hx hb dX4_advance_8 rfl (lv_at hl 0 rfl) ?_
      refine gf_X4_15 hx hb hg hown hK hP 0 rfl rfl dX4_advance_9 ?_
      refine lv_aload_n hx hb dX4_advance_12 rfl (lv_at hl 0 rfl) ?_
      refine gf_X4_24 hx hb hg hown hK hP 0 rfl rfl dX4_advance_13 ?_
      refine gf_X4_112 hx hb hg hown hK hP 1 rfl rfl dX4_advance_16 ?_
      refine lv_icmp_ge (tgt := 53) hx hb dX4_advance_19 (by decide) (fun cq => ?_) (fun cq => ?_)
      · have hf := it cq hf
        exact jp_53 _ _ _ _ hf hP hD hS (lv_sub hl [0] rfl)
      · have hf := ie cq hf
        refine lv_aload_n hx hb dX4_advance_22 rfl (lv_at hl 0 rfl) ?_
        refine gf_X4_24 hx hb hg hown hK hP 0 rfl rfl dX4_advance_23 ?_
        refine gf_X4_102 hx hb hg hown hK hP 1 rfl rfl dX4_advance_26 ?_
        refine lv_aload_n hx hb dX4_advance_29 rfl (lv_at hl 0 rfl) ?_
        refine gf_X4_15 hx hb hg hown hK hP 0 rfl rfl dX4_advance_30 ?_
        obtain ⟨hi, hf⟩ := ck_o hf
        refine ar_ld hx hb hK hP 2 rfl hi dX4_advance_33 ?_
        obtain ⟨u1, hu1, hf⟩ := bn hf
        refine cm_SN (host := "NightPorter") (As := [.int (vB 1 (Int32.toNatClampNeg (vP 1)))]) (rest := []) (w2 := (W_P aP aB vP ++ (W_B E aB vB))) hx hb hml hown hg (c_X8_isBlank E l (vB 1 (Int32.toNatClampNeg (vP 1))) u1 hu1) cs_X8_isBlank (by decide) ⟨⟨rfl, rfl⟩, Nat.le_of_ble_eq_true rfl, Nat.le_of_ble_eq_true rfl⟩ hK hE hP hD hS hA [] rfl rfl rfl rfl hl.1 rfl (Nat.le_of_ble_eq_true rfl) dX4_advance_34 ⟨Nat.le_of_ble_eq_true rfl, Nat.le_of_ble_eq_true rfl⟩ [.int u1] rfl (fun H locs hP hD hS => ?_)
        refine lv_if_eq (tgt := 53) hx hb dX4_advance_37 (by decide) (fun cq => ?_) (fun cq => ?_)
        · have hf := it cq hf
          exact jp_53 _ _ _ _ hf hP hD hS (lv_sub hl [0] rfl)
        · have hf := ie cq hf
          refine lv_aload_n hx hb dX4_advance_40 rfl (lv_at hl 0 rfl) ?_
          refine lv_dup hx hb dX4_advance_41 rfl ?_
          refine gf_X4_15 hx hb hg hown hK hP 0 rfl rfl dX4_advance_42 ?_
          refine lv_iconst (v := 1) hx hb dX4_advance_45 (by decide) ?_
          refine lv_iadd hx hb dX4_advance_46 ?_
          refine pf_X4_15 (w2 := (W_P aP aB (va_up vP 1 ((vP 1) + 1)) ++ (W_B E aB vB))) hx hb hg hown hK hP hD hS 0 rfl (Nat.le_of_ble_eq_true rfl) rfl dX4_advance_47 (fun H locs hP hD hS => ?_)
          obtain ⟨vP_22, hv, hf⟩ := lt_o hf
          rw [← hv] at hP hD
          clear hv
          refine lv_goto (tgt := 8) hx hb dX4_advance_50 (by decide) ?_
          exact ih _ _ _ _ hf hP hD hS (lv_sub hl [0] rfl)
  unfold F_X4_advance at hf
  refine lv_aload_n hx hb dX4_advance_0 rfl (lv_at hl 0 rfl) ?_
  refine lv_aload_n hx hb dX4_advance_1 rfl (lv_at hl 0 rfl) ?_
  refine gf_X4_18 hx hb hg hown hK hP 0 rfl rfl dX4_advance_2 ?_
  refine pf_X4_15 (w2 := (W_P aP aB (va_up vP 1 (vP 2)) ++ (W_B E aB vB))) hx hb hg hown hK hP hD hS 0 rfl (Nat.le_of_ble_eq_true rfl) rfl dX4_advance_5 (fun H locs hP hD hS => ?_)
  obtain ⟨vP_23, hv, hf⟩ := lt_o hf
  rw [← hv] at hP hD
  clear hv
  exact lp_8 FU _ _ _ _ hf hP hD hS (lv_sub hl [0] rfl)
def F_X4_isNumber (vP : Nat → Int32) (x1 : Int32) (x2 : Int32) : Option (Int32) := (if (vP 0) = 2 then (if (vP 3) < x1 then (some 0) else (if x2 < (vP 3) then (some 0) else (some 1))) else (some 0))
abbrev rm_X4_isNumber : Room := { frames := 0, cells := 0, slots := 0, locals := 0 }
set_option maxHeartbeats 4000000 in
set_option maxRecDepth 100000 in
theorem c_X4_isNumber (E : Ev) (l : Launch) (aP : Nat) (aB : Nat → Nat) (vP : Nat → Int32) (x1 : Int32) (x2 : Int32) (r : Int32) (hf : F_X4_isNumber vP x1 x2 = some r) : CM E l yX4_isNumber (.code yX4_isNumber cX4_isNumber 3 (some .boolean) :: GA) rm_X4_isNumber [.ref aP, .int x1, .int x2] (W_P aP aB vP) (some (.int r)) (W_P aP aB vP) := by
  refine CM.of (own := RX4) rfl (by decide) (Nat.le_of_ble_eq_true rfl) ?_
  intro p e s m below meth c A ls hx hb hr hml hown hg hlocks hK hE hA hP hD hS hl
  have hl : lv_has ls 3 [(0, .ref aP), (1, .int x1), (2, .int x2)] := hl
  unfold F_X4_isNumber at hf
  refine lv_aload_n hx hb dX4_isNumber_0 rfl (lv_at hl 0 rfl) ?_
  refine gf_X4_11 hx hb hg hown hK hP 0 rfl rfl dX4_isNumber_1 ?_
  refine lv_iconst (v := 2) hx hb dX4_isNumber_4 (by decide) ?_
  refine lv_icmp_ne (tgt := 28) hx hb dX4_isNumber_5 (by decide) (fun cq => ?_) (fun cq => ?_)
  · have hf := ie cq hf
    refine lv_iconst (v := 0) hx hb dX4_isNumber_28 (by decide) ?_
    obtain rfl := Option.some.inj hf
    exact cm_zret (v := 0) hx hb hr hlocks hP hS rfl dX4_isNumber_29
  · have hf := it cq hf
    refine lv_aload_n hx hb dX4_isNumber_8 rfl (lv_at hl 0 rfl) ?_
    refine gf_X4_21 hx hb hg hown hK hP 0 rfl rfl dX4_isNumber_9 ?_
    refine lv_iload_n hx hb dX4_isNumber_12 rfl (lv_at hl 1 rfl) ?_
    refine lv_icmp_lt (tgt := 28) hx hb dX4_isNumber_13 (by decide) (fun cq => ?_) (fun cq => ?_)
    · have hf := it cq hf
      refine lv_iconst (v := 0) hx hb dX4_isNumber_28 (by decide) ?_
      obtain rfl := Option.some.inj hf
      exact cm_zret (v := 0) hx hb hr hlocks hP hS rfl dX4_isNumber_29
    · have hf := ie cq hf
      refine lv_aload_n hx hb dX4_isNumber_16 rfl (lv_at hl 0 rfl) ?_
      refine gf_X4_21 hx hb hg hown hK hP 0 rfl rfl dX4_isNumber_17 ?_
      refine lv_iload_n hx hb dX4_isNumber_20 rfl (lv_at hl 2 rfl) ?_
      refine lv_icmp_gt (tgt := 28) hx hb dX4_isNumber_21 (by decide) (fun cq => ?_) (fun cq => ?_)
      · have hf := it cq hf
        refine lv_iconst (v := 0) hx hb dX4_isNumber_28 (by decide) ?_
        obtain rfl := Option.some.inj hf
        exact cm_zret (v := 0) hx hb hr hlocks hP hS rfl dX4_isNumber_29
      · have hf := ie cq hf
        refine lv_iconst (v := 1) hx hb dX4_isNumber_24 (by decide) ?_
        refine lv_goto (tgt := 29) hx hb dX4_isNumber_25 (by decide) ?_
        obtain rfl := Option.some.inj hf
        exact cm_zret (v := 1) hx hb hr hlocks hP hS rfl dX4_isNumber_29
def F_X4_passSemicolon (vP : Nat → Int32) (vB : Nat → Nat → Int32) : Option (Int32 × (Nat → Int32)) := (if (vP 0) = 3 then (F_X4_advance vP vB).bind (fun u1 => (some (1, u1))) else (some (0, vP)))
abbrev rm_X4_passSemicolon : Room := { frames := 3, cells := 0, slots := 0, locals := 60 }
set_option maxHeartbeats 4000000 in
set_option maxRecDepth 100000 in
theorem c_X4_passSemicolon (E : Ev) (l : Launch) (aP : Nat) (aB : Nat → Nat) (vP : Nat → Int32) (vB : Nat → Nat → Int32) (r : Int32 × (Nat → Int32)) (hf : F_X4_passSemicolon vP vB = some r) : CM E l yX4_passSemicolon (.code yX4_passSemicolon cX4_passSemicolon 1 (some .boolean) :: GA) rm_X4_passSemicolon [.ref aP] (W_P aP aB vP ++ (W_B E aB vB)) (some (.int r.1)) (W_P aP aB r.2 ++ (W_B E aB vB)) := by
  refine CM.of (own := RX4) rfl (by decide) (Nat.le_of_ble_eq_true rfl) ?_
  intro p e s m below meth c A ls hx hb hr hml hown hg hlocks hK hE hA hP hD hS hl
  have hl : lv_has ls 1 [(0, .ref aP)] := hl
  unfold F_X4_passSemicolon at hf
  refine lv_aload_n hx hb dX4_passSemicolon_0 rfl (lv_at hl 0 rfl) ?_
  refine gf_X4_11 hx hb hg hown hK hP 0 rfl rfl dX4_passSemicolon_1 ?_
  refine lv_iconst (v := 3) hx hb dX4_passSemicolon_4 (by decide) ?_
  refine lv_icmp_eq (tgt := 10) hx hb dX4_passSemicolon_5 (by decide) (fun cq => ?_) (fun cq => ?_)
  · have hf := it cq hf
    refine lv_aload_n hx hb dX4_passSemicolon_10 rfl (lv_at hl 0 rfl) ?_
    obtain ⟨u1, hu1, hf⟩ := bn hf
    refine cm_V (As := []) (rest := []) (w2 := (W_P aP aB u1 ++ (W_B E aB vB))) hx hb hml hown hg (c_X4_advance E l aP aB vP vB u1 hu1) cy_X4_advance ml_X4_33 ⟨⟨rfl, rfl⟩, Nat.le_of_ble_eq_true rfl, Nat.le_of_ble_eq_true rfl⟩ hK hE hP hD hS hA [true, true, true] rfl rfl rfl 0 rfl rfl rfl hl.1 rfl (Nat.le_of_ble_eq_true rfl) dX4_passSemicolon_11 ⟨Nat.le_of_ble_eq_true rfl, Nat.le_of_ble_eq_true rfl⟩ [] rfl (fun H locs hP hD hS => ?_)
    refine lv_iconst (v := 1) hx hb dX4_passSemicolon_14 (by decide) ?_
    obtain rfl := Option.some.inj hf
    exact cm_zret (v := 1) hx hb hr hlocks hP hS rfl dX4_passSemicolon_15
  · have hf := ie cq hf
    refine lv_iconst (v := 0) hx hb dX4_passSemicolon_8 (by decide) ?_
    obtain rfl := Option.some.inj hf
    exact cm_zret (v := 0) hx hb hr hlocks hP hS rfl dX4_passSemicolon_9
def B_X4_isWord_1_28 (rec : Int32 → Option (Int32)) (vP : Nat → Int32) (vB : Nat → Nat → Int32) (x2 : Int32) : Option (Int32) := (if 5 ≤ x2 then (some 1) else ck ((vP 1) + x2) 600 (ck x2 5 ((if (vB 1 (Int32.toNatClampNeg ((vP 1) + x2))) = (chS 1 x2) then (rec (x2 + 1)) else (some 0)))))
def L_X4_isWord_1_28 (vP : Nat → Int32) (vB : Nat → Nat → Int32) : Nat → Int32 → Option (Int32)
  | 0 => fun _ => none
  | n + 1 => fun x2 => B_X4_isWord_1_28 (L_X4_isWord_1_28 vP vB n) vP vB x2
def F_X4_isWord_1 (vP : Nat → Int32) (vB : Nat → Nat → Int32) : Option (Int32) := (if (vP 0) = 1 then (if ((vP 2) - (vP 1)) = 5 then (L_X4_isWord_1_28 vP vB FU 0) else (some 0)) else (some 0))
abbrev rm_X4_isWord_1 : Room := { frames := 4, cells := 0, slots := 0, locals := 85 }
set_option maxHeartbeats 4000000 in
set_option maxRecDepth 100000 in
theorem c_X4_isWord_1 (E : Ev) (l : Launch) (aP : Nat) (aB : Nat → Nat) (vP : Nat → Int32) (vB : Nat → Nat → Int32) (r : Int32) (hf : F_X4_isWord_1 vP vB = some r) : CM E l yX4_isWord (.code yX4_isWord cX4_isWord 3 (some .boolean) :: GA) rm_X4_isWord_1 [.ref aP, .ref (E.2.2.2.2.2.1 1)] (W_P aP aB vP ++ (W_B E aB vB)) (some (.int r)) (W_P aP aB vP ++ (W_B E aB vB)) := by
  refine CM.of (own := RX4) rfl (by decide) (Nat.le_of_ble_eq_true rfl) ?_
  intro p e s m below meth c A ls hx hb hr hml hown hg hlocks hK hE hA hP hD hS hl
  have hl : lv_has ls 3 [(0, .ref aP), (1, .ref (E.2.2.2.2.2.1 1))] := hl
  have lp_28 : ∀ (n : Nat) (x2 : Int32) (H : Heap) (locs : List Loc) (ls : Array Slot), L_X4_isWord_1_28 vP vB n x2 = some r → va_P E.1 vwCl (W_P aP aB vP ++ (W_B E aB vB)) H → va_D A (W_P aP aB vP ++ (W_B E aB vB)) → va_S A s.heap H locs → lv_has ls 3 [(0, .ref aP), (1, .ref (E.2.2.2.2.2.1 1)), (2, .int x2)] → W p l e rm_X4_isWord_1 s m ([.ref aP, .ref (E.2.2.2.2.2.1 1)] : List Value).toArray below meth c H locs 0 0 (MQ below (QW E (some (.int r)) (W_P aP aB vP ++ (W_B E aB vB)) A) ([.ref aP, .ref (E.2.2.2.2.2.1 1)] : List Value).toArray s 0 0 A) (F0 m 28 ls []) := by
    intro n
    induction n with
    | zero => intro x2 H locs ls hf; cases hf
    | succ n ih =>
      intro x2 H locs ls hf hP hD hS hl
      replace hf : B_X4_isWord_1_28 (L_X4_isWord_1_28 vP vB n) vP vB x2 = some r := hf
      unfold B_X4_isWord_1_28 at hf
      refine lv_iload_n hx hb dX4_isWord_28 rfl (lv_at hl 2 rfl) ?_
      refine lv_aload_n hx hb dX4_isWord_29 rfl (lv_at hl 1 rfl) ?_
      refine cm_Vs (As := []) (rest := [.int x2]) (i := 1) hx hb hml hown hg (c_length E l 1 (by decide)) cy_J0_length_8abf5 ml_X4_96 (by decide) ⟨⟨rfl, rfl⟩, Nat.le_of_ble_eq_true rfl, Nat.le_of_ble_eq_true rfl⟩ hK hE hP hD hS hA rfl hl.1 rfl (Nat.le_of_ble_eq_true rfl) dX4_isWord_30 ⟨Nat.le_of_ble_eq_true rfl, Nat.le_of_ble_eq_true rfl⟩ [.int 5, .int x2] rfl (fun H locs hP hD hS => ?_)
      refine lv_icmp_ge (tgt := 66) hx hb dX4_isWord_33 (by decide) (fun cq => ?_) (fun cq => ?_)
      · have hf := it cq hf
        refine lv_iconst (v := 1) hx hb dX4_isWord_66 (by decide) ?_
        obtain rfl := Option.some.inj hf
        exact cm_zret (v := 1) hx hb hr hlocks hP hS rfl dX4_isWord_67
      · have hf := ie cq hf
        refine lv_aload_n hx hb dX4_isWord_36 rfl (lv_at hl 0 rfl) ?_
        refine gf_X4_24 hx hb hg hown hK hP 0 rfl rfl dX4_isWord_37 ?_
        refine gf_X4_102 hx hb hg hown hK hP 1 rfl rfl dX4_isWord_40 ?_
        refine lv_aload_n hx hb dX4_isWord_43 rfl (lv_at hl 0 rfl) ?_
        refine gf_X4_15 hx hb hg hown hK hP 0 rfl rfl dX4_isWord_44 ?_
        refine lv_iload_n hx hb dX4_isWord_47 rfl (lv_at hl 2 rfl) ?_
        refine lv_iadd hx hb dX4_isWord_48 ?_
        obtain ⟨hi, hf⟩ := ck_o hf
        refine ar_ld hx hb hK hP 2 rfl hi dX4_isWord_49 ?_
        refine lv_aload_n hx hb dX4_isWord_50 rfl (lv_at hl 1 rfl) ?_
        refine lv_iload_n hx hb dX4_isWord_51 rfl (lv_at hl 2 rfl) ?_
        obtain ⟨hi, hf⟩ := ck_o hf
        refine cm_Vs (As := [.int x2]) (rest := [.int (vB 1 (Int32.toNatClampNeg ((vP 1) + x2)))]) (i := 1) hx hb hml hown hg (c_charAt E l 1 (by decide) x2 hi) cy_J0_charAt_5068e ml_X4_108 (by decide) ⟨⟨rfl, rfl⟩, Nat.le_of_ble_eq_true rfl, Nat.le_of_ble_eq_true rfl⟩ hK hE hP hD hS hA rfl hl.1 rfl (Nat.le_of_ble_eq_true rfl) dX4_isWord_52 ⟨Nat.le_of_ble_eq_true rfl, Nat.le_of_ble_eq_true rfl⟩ [.int (chS 1 x2), .int (vB 1 (Int32.toNatClampNeg ((vP 1) + x2)))] rfl (fun H locs hP hD hS => ?_)
        refine lv_icmp_eq (tgt := 60) hx hb dX4_isWord_55 (by decide) (fun cq => ?_) (fun cq => ?_)
        · have hf := it cq hf
          refine lv_iinc (v := (x2 + 1)) (lv' := [(2, .int (x2 + 1)), (0, .ref aP), (1, .ref (E.2.2.2.2.2.1 1))]) hx hb dX4_isWord_60 hl (k := 2) rfl rfl (by decide) rfl (fun ls hl => ?_)
          refine lv_goto (tgt := 28) hx hb dX4_isWord_63 (by decide) ?_
          exact ih _ _ _ _ hf hP hD hS (lv_sub hl [1, 2, 0] rfl)
        · have hf := ie cq hf
          refine lv_iconst (v := 0) hx hb dX4_isWord_58 (by decide) ?_
          obtain rfl := Option.some.inj hf
          exact cm_zret (v := 0) hx hb hr hlocks hP hS rfl dX4_isWord_59
  unfold F_X4_isWord_1 at hf
  refine lv_aload_n hx hb dX4_isWord_0 rfl (lv_at hl 0 rfl) ?_
  refine gf_X4_11 hx hb hg hown hK hP 0 rfl rfl dX4_isWord_1 ?_
  refine lv_iconst (v := 1) hx hb dX4_isWord_4 (by decide) ?_
  refine lv_icmp_ne (tgt := 24) hx hb dX4_isWord_5 (by decide) (fun cq => ?_) (fun cq => ?_)
  · have hf := ie cq hf
    refine lv_iconst (v := 0) hx hb dX4_isWord_24 (by decide) ?_
    obtain rfl := Option.some.inj hf
    exact cm_zret (v := 0) hx hb hr hlocks hP hS rfl dX4_isWord_25
  · have hf := it cq hf
    refine lv_aload_n hx hb dX4_isWord_8 rfl (lv_at hl 0 rfl) ?_
    refine gf_X4_18 hx hb hg hown hK hP 0 rfl rfl dX4_isWord_9 ?_
    refine lv_aload_n hx hb dX4_isWord_12 rfl (lv_at hl 0 rfl) ?_
    refine gf_X4_15 hx hb hg hown hK hP 0 rfl rfl dX4_isWord_13 ?_
    refine lv_isub hx hb dX4_isWord_16 ?_
    refine lv_aload_n hx hb dX4_isWord_17 rfl (lv_at hl 1 rfl) ?_
    refine cm_Vs (As := []) (rest := [.int ((vP 2) - (vP 1))]) (i := 1) hx hb hml hown hg (c_length E l 1 (by decide)) cy_J0_length_8abf5 ml_X4_96 (by decide) ⟨⟨rfl, rfl⟩, Nat.le_of_ble_eq_true rfl, Nat.le_of_ble_eq_true rfl⟩ hK hE hP hD hS hA rfl hl.1 rfl (Nat.le_of_ble_eq_true rfl) dX4_isWord_18 ⟨Nat.le_of_ble_eq_true rfl, Nat.le_of_ble_eq_true rfl⟩ [.int 5, .int ((vP 2) - (vP 1))] rfl (fun H locs hP hD hS => ?_)
    refine lv_icmp_eq (tgt := 26) hx hb dX4_isWord_21 (by decide) (fun cq => ?_) (fun cq => ?_)
    · have hf := it cq hf
      refine lv_iconst (v := 0) hx hb dX4_isWord_26 (by decide) ?_
      refine lv_istore_n (lv' := [(2, .int 0), (0, .ref aP), (1, .ref (E.2.2.2.2.2.1 1))]) hx hb dX4_isWord_27 rfl hl (by decide) rfl (fun ls hl => ?_)
      exact lp_28 FU _ _ _ _ hf hP hD hS (lv_sub hl [1, 2, 0] rfl)
    · have hf := ie cq hf
      refine lv_iconst (v := 0) hx hb dX4_isWord_24 (by decide) ?_
      obtain rfl := Option.some.inj hf
      exact cm_zret (v := 0) hx hb hr hlocks hP hS rfl dX4_isWord_25
def B_X4_isWord_2_28 (rec : Int32 → Option (Int32)) (vP : Nat → Int32) (vB : Nat → Nat → Int32) (x2 : Int32) : Option (Int32) := (if 5 ≤ x2 then (some 1) else ck ((vP 1) + x2) 600 (ck x2 5 ((if (vB 1 (Int32.toNatClampNeg ((vP 1) + x2))) = (chS 2 x2) then (rec (x2 + 1)) else (some 0)))))
def L_X4_isWord_2_28 (vP : Nat → Int32) (vB : Nat → Nat → Int32) : Nat → Int32 → Option (Int32)
  | 0 => fun _ => none
  | n + 1 => fun x2 => B_X4_isWord_2_28 (L_X4_isWord_2_28 vP vB n) vP vB x2
def F_X4_isWord_2 (vP : Nat → Int32) (vB : Nat → Nat → Int32) : Option (Int32) := (if (vP 0) = 1 then (if ((vP 2) - (vP 1)) = 5 then (L_X4_isWord_2_28 vP vB FU 0) else (some 0)) else (some 0))
abbrev rm_X4_isWord_2 : Room := { frames := 4, cells := 0, slots := 0, locals := 85 }
set_option maxHeartbeats 4000000 in
set_option maxRecDepth 100000 in
theorem c_X4_isWord_2 (E : Ev) (l : Launch) (aP : Nat) (aB : Nat → Nat) (vP : Nat → Int32) (vB : Nat → Nat → Int32) (r : Int32) (hf : F_X4_isWord_2 vP vB = some r) : CM E l yX4_isWord (.code yX4_isWord cX4_isWord 3 (some .boolean) :: GA) rm_X4_isWord_2 [.ref aP, .ref (E.2.2.2.2.2.1 2)] (W_P aP aB vP ++ (W_B E aB vB)) (some (.int r)) (W_P aP aB vP ++ (W_B E aB vB)) := by
  refine CM.of (own := RX4) rfl (by decide) (Nat.le_of_ble_eq_true rfl) ?_
  intro p e s m below meth c A ls hx hb hr hml hown hg hlocks hK hE hA hP hD hS hl
  have hl : lv_has ls 3 [(0, .ref aP), (1, .ref (E.2.2.2.2.2.1 2))] := hl
  have lp_28 : ∀ (n : Nat) (x2 : Int32) (H : Heap) (locs : List Loc) (ls : Array Slot), L_X4_isWord_2_28 vP vB n x2 = some r → va_P E.1 vwCl (W_P aP aB vP ++ (W_B E aB vB)) H → va_D A (W_P aP aB vP ++ (W_B E aB vB)) → va_S A s.heap H locs → lv_has ls 3 [(0, .ref aP), (1, .ref (E.2.2.2.2.2.1 2)), (2, .int x2)] → W p l e rm_X4_isWord_2 s m ([.ref aP, .ref (E.2.2.2.2.2.1 2)] : List Value).toArray below meth c H locs 0 0 (MQ below (QW E (some (.int r)) (W_P aP aB vP ++ (W_B E aB vB)) A) ([.ref aP, .ref (E.2.2.2.2.2.1 2)] : List Value).toArray s 0 0 A) (F0 m 28 ls []) := by
    intro n
    induction n with
    | zero => intro x2 H locs ls hf; cases hf
    | succ n ih =>
      intro x2 H locs ls hf hP hD hS hl
      replace hf : B_X4_isWord_2_28 (L_X4_isWord_2_28 vP vB n) vP vB x2 = some r := hf
      unfold B_X4_isWord_2_28 at hf
      refine lv_iload_n hx hb dX4_isWord_28 rfl (lv_at hl 2 rfl) ?_
      refine lv_aload_n hx hb dX4_isWord_29 rfl (lv_at hl 1 rfl) ?_
      refine cm_Vs (As := []) (rest := [.int x2]) (i := 2) hx hb hml hown hg (c_length E l 2 (by decide)) cy_J0_length_8abf5 ml_X4_96 (by decide) ⟨⟨rfl, rfl⟩, Nat.le_of_ble_eq_true rfl, Nat.le_of_ble_eq_true rfl⟩ hK hE hP hD hS hA rfl hl.1 rfl (Nat.le_of_ble_eq_true rfl) dX4_isWord_30 ⟨Nat.le_of_ble_eq_true rfl, Nat.le_of_ble_eq_true rfl⟩ [.int 5, .int x2] rfl (fun H locs hP hD hS => ?_)
      refine lv_icmp_ge (tgt := 66) hx hb dX4_isWord_33 (by decide) (fun cq => ?_) (fun cq => ?_)
      · have hf := it cq hf
        refine lv_iconst (v := 1) hx hb dX4_isWord_66 (by decide) ?_
        obtain rfl := Option.some.inj hf
        exact cm_zret (v := 1) hx hb hr hlocks hP hS rfl dX4_isWord_67
      · have hf := ie cq hf
        refine lv_aload_n hx hb dX4_isWord_36 rfl (lv_at hl 0 rfl) ?_
        refine gf_X4_24 hx hb hg hown hK hP 0 rfl rfl dX4_isWord_37 ?_
        refine gf_X4_102 hx hb hg hown hK hP 1 rfl rfl dX4_isWord_40 ?_
        refine lv_aload_n hx hb dX4_isWord_43 rfl (lv_at hl 0 rfl) ?_
        refine gf_X4_15 hx hb hg hown hK hP 0 rfl rfl dX4_isWord_44 ?_
        refine lv_iload_n hx hb dX4_isWord_47 rfl (lv_at hl 2 rfl) ?_
        refine lv_iadd hx hb dX4_isWord_48 ?_
        obtain ⟨hi, hf⟩ := ck_o hf
        refine ar_ld hx hb hK hP 2 rfl hi dX4_isWord_49 ?_
        refine lv_aload_n hx hb dX4_isWord_50 rfl (lv_at hl 1 rfl) ?_
        refine lv_iload_n hx hb dX4_isWord_51 rfl (lv_at hl 2 rfl) ?_
        obtain ⟨hi, hf⟩ := ck_o hf
        refine cm_Vs (As := [.int x2]) (rest := [.int (vB 1 (Int32.toNatClampNeg ((vP 1) + x2)))]) (i := 2) hx hb hml hown hg (c_charAt E l 2 (by decide) x2 hi) cy_J0_charAt_5068e ml_X4_108 (by decide) ⟨⟨rfl, rfl⟩, Nat.le_of_ble_eq_true rfl, Nat.le_of_ble_eq_true rfl⟩ hK hE hP hD hS hA rfl hl.1 rfl (Nat.le_of_ble_eq_true rfl) dX4_isWord_52 ⟨Nat.le_of_ble_eq_true rfl, Nat.le_of_ble_eq_true rfl⟩ [.int (chS 2 x2), .int (vB 1 (Int32.toNatClampNeg ((vP 1) + x2)))] rfl (fun H locs hP hD hS => ?_)
        refine lv_icmp_eq (tgt := 60) hx hb dX4_isWord_55 (by decide) (fun cq => ?_) (fun cq => ?_)
        · have hf := it cq hf
          refine lv_iinc (v := (x2 + 1)) (lv' := [(2, .int (x2 + 1)), (0, .ref aP), (1, .ref (E.2.2.2.2.2.1 2))]) hx hb dX4_isWord_60 hl (k := 2) rfl rfl (by decide) rfl (fun ls hl => ?_)
          refine lv_goto (tgt := 28) hx hb dX4_isWord_63 (by decide) ?_
          exact ih _ _ _ _ hf hP hD hS (lv_sub hl [1, 2, 0] rfl)
        · have hf := ie cq hf
          refine lv_iconst (v := 0) hx hb dX4_isWord_58 (by decide) ?_
          obtain rfl := Option.some.inj hf
          exact cm_zret (v := 0) hx hb hr hlocks hP hS rfl dX4_isWord_59
  unfold F_X4_isWord_2 at hf
  refine lv_aload_n hx hb dX4_isWord_0 rfl (lv_at hl 0 rfl) ?_
  refine gf_X4_11 hx hb hg hown hK hP 0 rfl rfl dX4_isWord_1 ?_
  refine lv_iconst (v := 1) hx hb dX4_isWord_4 (by decide) ?_
  refine lv_icmp_ne (tgt := 24) hx hb dX4_isWord_5 (by decide) (fun cq => ?_) (fun cq => ?_)
  · have hf := ie cq hf
    refine lv_iconst (v := 0) hx hb dX4_isWord_24 (by decide) ?_
    obtain rfl := Option.some.inj hf
    exact cm_zret (v := 0) hx hb hr hlocks hP hS rfl dX4_isWord_25
  · have hf := it cq hf
    refine lv_aload_n hx hb dX4_isWord_8 rfl (lv_at hl 0 rfl) ?_
    refine gf_X4_18 hx hb hg hown hK hP 0 rfl rfl dX4_isWord_9 ?_
    refine lv_aload_n hx hb dX4_isWord_12 rfl (lv_at hl 0 rfl) ?_
    refine gf_X4_15 hx hb hg hown hK hP 0 rfl rfl dX4_isWord_13 ?_
    refine lv_isub hx hb dX4_isWord_16 ?_
    refine lv_aload_n hx hb dX4_isWord_17 rfl (lv_at hl 1 rfl) ?_
    refine cm_Vs (As := []) (rest := [.int ((vP 2) - (vP 1))]) (i := 2) hx hb hml hown hg (c_length E l 2 (by decide)) cy_J0_length_8abf5 ml_X4_96 (by decide) ⟨⟨rfl, rfl⟩, Nat.le_of_ble_eq_true rfl, Nat.le_of_ble_eq_true rfl⟩ hK hE hP hD hS hA rfl hl.1 rfl (Nat.le_of_ble_eq_true rfl) dX4_isWord_18 ⟨Nat.le_of_ble_eq_true rfl, Nat.le_of_ble_eq_true rfl⟩ [.int 5, .int ((vP 2) - (vP 1))] rfl (fun H locs hP hD hS => ?_)
    refine lv_icmp_eq (tgt := 26) hx hb dX4_isWord_21 (by decide) (fun cq => ?_) (fun cq => ?_)
    · have hf := it cq hf
      refine lv_iconst (v := 0) hx hb dX4_isWord_26 (by decide) ?_
      refine lv_istore_n (lv' := [(2, .int 0), (0, .ref aP), (1, .ref (E.2.2.2.2.2.1 2))]) hx hb dX4_isWord_27 rfl hl (by decide) rfl (fun ls hl => ?_)
      exact lp_28 FU _ _ _ _ hf hP hD hS (lv_sub hl [1, 2, 0] rfl)
    · have hf := ie cq hf
      refine lv_iconst (v := 0) hx hb dX4_isWord_24 (by decide) ?_
      obtain rfl := Option.some.inj hf
      exact cm_zret (v := 0) hx hb hr hlocks hP hS rfl dX4_isWord_25
def B_X4_isWord_3_28 (rec : Int32 → Option (Int32)) (vP : Nat → Int32) (vB : Nat → Nat → Int32) (x2 : Int32) : Option (Int32) := (if 3 ≤ x2 then (some 1) else ck ((vP 1) + x2) 600 (ck x2 3 ((if (vB 1 (Int32.toNatClampNeg ((vP 1) + x2))) = (chS 3 x2) then (rec (x2 + 1)) else (some 0)))))
def L_X4_isWord_3_28 (vP : Nat → Int32) (vB : Nat → Nat → Int32) : Nat → Int32 → Option (Int32)
  | 0 => fun _ => none
  | n + 1 => fun x2 => B_X4_isWord_3_28 (L_X4_isWord_3_28 vP vB n) vP vB x2
def F_X4_isWord_3 (vP : Nat → Int32) (vB : Nat → Nat → Int32) : Option (Int32) := (if (vP 0) = 1 then (if ((vP 2) - (vP 1)) = 3 then (L_X4_isWord_3_28 vP vB FU 0) else (some 0)) else (some 0))
abbrev rm_X4_isWord_3 : Room := { frames := 4, cells := 0, slots := 0, locals := 85 }
set_option maxHeartbeats 4000000 in
set_option maxRecDepth 100000 in
theorem c_X4_isWord_3 (E : Ev) (l : Launch) (aP : Nat) (aB : Nat → Nat) (vP : Nat → Int32) (vB : Nat → Nat → Int32) (r : Int32) (hf : F_X4_isWord_3 vP vB = some r) : CM E l yX4_isWord (.code yX4_isWord cX4_isWord 3 (some .boolean) :: GA) rm_X4_isWord_3 [.ref aP, .ref (E.2.2.2.2.2.1 3)] (W_P aP aB vP ++ (W_B E aB vB)) (some (.int r)) (W_P aP aB vP ++ (W_B E aB vB)) := by
  refine CM.of (own := RX4) rfl (by decide) (Nat.le_of_ble_eq_true rfl) ?_
  intro p e s m below meth c A ls hx hb hr hml hown hg hlocks hK hE hA hP hD hS hl
  have hl : lv_has ls 3 [(0, .ref aP), (1, .ref (E.2.2.2.2.2.1 3))] := hl
  have lp_28 : ∀ (n : Nat) (x2 : Int32) (H : Heap) (locs : List Loc) (ls : Array Slot), L_X4_isWord_3_28 vP vB n x2 = some r → va_P E.1 vwCl (W_P aP aB vP ++ (W_B E aB vB)) H → va_D A (W_P aP aB vP ++ (W_B E aB vB)) → va_S A s.heap H locs → lv_has ls 3 [(0, .ref aP), (1, .ref (E.2.2.2.2.2.1 3)), (2, .int x2)] → W p l e rm_X4_isWord_3 s m ([.ref aP, .ref (E.2.2.2.2.2.1 3)] : List Value).toArray below meth c H locs 0 0 (MQ below (QW E (some (.int r)) (W_P aP aB vP ++ (W_B E aB vB)) A) ([.ref aP, .ref (E.2.2.2.2.2.1 3)] : List Value).toArray s 0 0 A) (F0 m 28 ls []) := by
    intro n
    induction n with
    | zero => intro x2 H locs ls hf; cases hf
    | succ n ih =>
      intro x2 H locs ls hf hP hD hS hl
      replace hf : B_X4_isWord_3_28 (L_X4_isWord_3_28 vP vB n) vP vB x2 = some r := hf
      unfold B_X4_isWord_3_28 at hf
      refine lv_iload_n hx hb dX4_isWord_28 rfl (lv_at hl 2 rfl) ?_
      refine lv_aload_n hx hb dX4_isWord_29 rfl (lv_at hl 1 rfl) ?_
      refine cm_Vs (As := []) (rest := [.int x2]) (i := 3) hx hb hml hown hg (c_length E l 3 (by decide)) cy_J0_length_8abf5 ml_X4_96 (by decide) ⟨⟨rfl, rfl⟩, Nat.le_of_ble_eq_true rfl, Nat.le_of_ble_eq_true rfl⟩ hK hE hP hD hS hA rfl hl.1 rfl (Nat.le_of_ble_eq_true rfl) dX4_isWord_30 ⟨Nat.le_of_ble_eq_true rfl, Nat.le_of_ble_eq_true rfl⟩ [.int 3, .int x2] rfl (fun H locs hP hD hS => ?_)
      refine lv_icmp_ge (tgt := 66) hx hb dX4_isWord_33 (by decide) (fun cq => ?_) (fun cq => ?_)
      · have hf := it cq hf
        refine lv_iconst (v := 1) hx hb dX4_isWord_66 (by decide) ?_
        obtain rfl := Option.some.inj hf
        exact cm_zret (v := 1) hx hb hr hlocks hP hS rfl dX4_isWord_67
      · have hf := ie cq hf
        refine lv_aload_n hx hb dX4_isWord_36 rfl (lv_at hl 0 rfl) ?_
        refine gf_X4_24 hx hb hg hown hK hP 0 rfl rfl dX4_isWord_37 ?_
        refine gf_X4_102 hx hb hg hown hK hP 1 rfl rfl dX4_isWord_40 ?_
        refine lv_aload_n hx hb dX4_isWord_43 rfl (lv_at hl 0 rfl) ?_
        refine gf_X4_15 hx hb hg hown hK hP 0 rfl rfl dX4_isWord_44 ?_
        refine lv_iload_n hx hb dX4_isWord_47 rfl (lv_at hl 2 rfl) ?_
        refine lv_iadd hx hb dX4_isWord_48 ?_
        obtain ⟨hi, hf⟩ := ck_o hf
        refine ar_ld hx hb hK hP 2 rfl hi dX4_isWord_49 ?_
        refine lv_aload_n hx hb dX4_isWord_50 rfl (lv_at hl 1 rfl) ?_
        refine lv_iload_n hx hb dX4_isWord_51 rfl (lv_at hl 2 rfl) ?_
        obtain ⟨hi, hf⟩ := ck_o hf
        refine cm_Vs (As := [.int x2]) (rest := [.int (vB 1 (Int32.toNatClampNeg ((vP 1) + x2)))]) (i := 3) hx hb hml hown hg (c_charAt E l 3 (by decide) x2 hi) cy_J0_charAt_5068e ml_X4_108 (by decide) ⟨⟨rfl, rfl⟩, Nat.le_of_ble_eq_true rfl, Nat.le_of_ble_eq_true rfl⟩ hK hE hP hD hS hA rfl hl.1 rfl (Nat.le_of_ble_eq_true rfl) dX4_isWord_52 ⟨Nat.le_of_ble_eq_true rfl, Nat.le_of_ble_eq_true rfl⟩ [.int (chS 3 x2), .int (vB 1 (Int32.toNatClampNeg ((vP 1) + x2)))] rfl (fun H locs hP hD hS => ?_)
        refine lv_icmp_eq (tgt := 60) hx hb dX4_isWord_55 (by decide) (fun cq => ?_) (fun cq => ?_)
        · have hf := it cq hf
          refine lv_iinc (v := (x2 + 1)) (lv' := [(2, .int (x2 + 1)), (0, .ref aP), (1, .ref (E.2.2.2.2.2.1 3))]) hx hb dX4_isWord_60 hl (k := 2) rfl rfl (by decide) rfl (fun ls hl => ?_)
          refine lv_goto (tgt := 28) hx hb dX4_isWord_63 (by decide) ?_
          exact ih _ _ _ _ hf hP hD hS (lv_sub hl [1, 2, 0] rfl)
        · have hf := ie cq hf
          refine lv_iconst (v := 0) hx hb dX4_isWord_58 (by decide) ?_
          obtain rfl := Option.some.inj hf
          exact cm_zret (v := 0) hx hb hr hlocks hP hS rfl dX4_isWord_59
  unfold F_X4_isWord_3 at hf
  refine lv_aload_n hx hb dX4_isWord_0 rfl (lv_at hl 0 rfl) ?_
  refine gf_X4_11 hx hb hg hown hK hP 0 rfl rfl dX4_isWord_1 ?_
  refine lv_iconst (v := 1) hx hb dX4_isWord_4 (by decide) ?_
  refine lv_icmp_ne (tgt := 24) hx hb dX4_isWord_5 (by decide) (fun cq => ?_) (fun cq => ?_)
  · have hf := ie cq hf
    refine lv_iconst (v := 0) hx hb dX4_isWord_24 (by decide) ?_
    obtain rfl := Option.some.inj hf
    exact cm_zret (v := 0) hx hb hr hlocks hP hS rfl dX4_isWord_25
  · have hf := it cq hf
    refine lv_aload_n hx hb dX4_isWord_8 rfl (lv_at hl 0 rfl) ?_
    refine gf_X4_18 hx hb hg hown hK hP 0 rfl rfl dX4_isWord_9 ?_
    refine lv_aload_n hx hb dX4_isWord_12 rfl (lv_at hl 0 rfl) ?_
    refine gf_X4_15 hx hb hg hown hK hP 0 rfl rfl dX4_isWord_13 ?_
    refine lv_isub hx hb dX4_isWord_16 ?_
    refine lv_aload_n hx hb dX4_isWord_17 rfl (lv_at hl 1 rfl) ?_
    refine cm_Vs (As := []) (rest := [.int ((vP 2) - (vP 1))]) (i := 3) hx hb hml hown hg (c_length E l 3 (by decide)) cy_J0_length_8abf5 ml_X4_96 (by decide) ⟨⟨rfl, rfl⟩, Nat.le_of_ble_eq_true rfl, Nat.le_of_ble_eq_true rfl⟩ hK hE hP hD hS hA rfl hl.1 rfl (Nat.le_of_ble_eq_true rfl) dX4_isWord_18 ⟨Nat.le_of_ble_eq_true rfl, Nat.le_of_ble_eq_true rfl⟩ [.int 3, .int ((vP 2) - (vP 1))] rfl (fun H locs hP hD hS => ?_)
    refine lv_icmp_eq (tgt := 26) hx hb dX4_isWord_21 (by decide) (fun cq => ?_) (fun cq => ?_)
    · have hf := it cq hf
      refine lv_iconst (v := 0) hx hb dX4_isWord_26 (by decide) ?_
      refine lv_istore_n (lv' := [(2, .int 0), (0, .ref aP), (1, .ref (E.2.2.2.2.2.1 3))]) hx hb dX4_isWord_27 rfl hl (by decide) rfl (fun ls hl => ?_)
      exact lp_28 FU _ _ _ _ hf hP hD hS (lv_sub hl [1, 2, 0] rfl)
    · have hf := ie cq hf
      refine lv_iconst (v := 0) hx hb dX4_isWord_24 (by decide) ?_
      obtain rfl := Option.some.inj hf
      exact cm_zret (v := 0) hx hb hr hlocks hP hS rfl dX4_isWord_25
def B_X4_isWord_4_28 (rec : Int32 → Option (Int32)) (vP : Nat → Int32) (vB : Nat → Nat → Int32) (x2 : Int32) : Option (Int32) := (if 8 ≤ x2 then (some 1) else ck ((vP 1) + x2) 600 (ck x2 8 ((if (vB 1 (Int32.toNatClampNeg ((vP 1) + x2))) = (chS 4 x2) then (rec (x2 + 1)) else (some 0)))))
def L_X4_isWord_4_28 (vP : Nat → Int32) (vB : Nat → Nat → Int32) : Nat → Int32 → Option (Int32)
  | 0 => fun _ => none
  | n + 1 => fun x2 => B_X4_isWord_4_28 (L_X4_isWord_4_28 vP vB n) vP vB x2
def F_X4_isWord_4 (vP : Nat → Int32) (vB : Nat → Nat → Int32) : Option (Int32) := (if (vP 0) = 1 then (if ((vP 2) - (vP 1)) = 8 then (L_X4_isWord_4_28 vP vB FU 0) else (some 0)) else (some 0))
abbrev rm_X4_isWord_4 : Room := { frames := 4, cells := 0, slots := 0, locals := 85 }
set_option maxHeartbeats 4000000 in
set_option maxRecDepth 100000 in
theorem c_X4_isWord_4 (E : Ev) (l : Launch) (aP : Nat) (aB : Nat → Nat) (vP : Nat → Int32) (vB : Nat → Nat → Int32) (r : Int32) (hf : F_X4_isWord_4 vP vB = some r) : CM E l yX4_isWord (.code yX4_isWord cX4_isWord 3 (some .boolean) :: GA) rm_X4_isWord_4 [.ref aP, .ref (E.2.2.2.2.2.1 4)] (W_P aP aB vP ++ (W_B E aB vB)) (some (.int r)) (W_P aP aB vP ++ (W_B E aB vB)) := by
  refine CM.of (own := RX4) rfl (by decide) (Nat.le_of_ble_eq_true rfl) ?_
  intro p e s m below meth c A ls hx hb hr hml hown hg hlocks hK hE hA hP hD hS hl
  have hl : lv_has ls 3 [(0, .ref aP), (1, .ref (E.2.2.2.2.2.1 4))] := hl
  have lp_28 : ∀ (n : Nat) (x2 : Int32) (H : Heap) (locs : List Loc) (ls : Array Slot), L_X4_isWord_4_28 vP vB n x2 = some r → va_P E.1 vwCl (W_P aP aB vP ++ (W_B E aB vB)) H → va_D A (W_P aP aB vP ++ (W_B E aB vB)) → va_S A s.heap H locs → lv_has ls 3 [(0, .ref aP), (1, .ref (E.2.2.2.2.2.1 4)), (2, .int x2)] → W p l e rm_X4_isWord_4 s m ([.ref aP, .ref (E.2.2.2.2.2.1 4)] : List Value).toArray below meth c H locs 0 0 (MQ below (QW E (some (.int r)) (W_P aP aB vP ++ (W_B E aB vB)) A) ([.ref aP, .ref (E.2.2.2.2.2.1 4)] : List Value).toArray s 0 0 A) (F0 m 28 ls []) := by
    intro n
    induction n with
    | zero => intro x2 H locs ls hf; cases hf
    | succ n ih =>
      intro x2 H locs ls hf hP hD hS hl
      replace hf : B_X4_isWord_4_28 (L_X4_isWord_4_28 vP vB n) vP vB x2 = some r := hf
      unfold B_X4_isWord_4_28 at hf
      refine lv_iload_n hx hb dX4_isWord_28 rfl (lv_at hl 2 rfl) ?_
      refine lv_aload_n hx hb dX4_isWord_29 rfl (lv_at hl 1 rfl) ?_
      refine cm_Vs (As := []) (rest := [.int x2]) (i := 4) hx hb hml hown hg (c_length E l 4 (by decide)) cy_J0_length_8abf5 ml_X4_96 (by decide) ⟨⟨rfl, rfl⟩, Nat.le_of_ble_eq_true rfl, Nat.le_of_ble_eq_true rfl⟩ hK hE hP hD hS hA rfl hl.1 rfl (Nat.le_of_ble_eq_true rfl) dX4_isWord_30 ⟨Nat.le_of_ble_eq_true rfl, Nat.le_of_ble_eq_true rfl⟩ [.int 8, .int x2] rfl (fun H locs hP hD hS => ?_)
      refine lv_icmp_ge (tgt := 66) hx hb dX4_isWord_33 (by decide) (fun cq => ?_) (fun cq => ?_)
      · have hf := it cq hf
        refine lv_iconst (v := 1) hx hb dX4_isWord_66 (by decide) ?_
        obtain rfl := Option.some.inj hf
        exact cm_zret (v := 1) hx hb hr hlocks hP hS rfl dX4_isWord_67
      · have hf := ie cq hf
        refine lv_aload_n hx hb dX4_isWord_36 rfl (lv_at hl 0 rfl) ?_
        refine gf_X4_24 hx hb hg hown hK hP 0 rfl rfl dX4_isWord_37 ?_
        refine gf_X4_102 hx hb hg hown hK hP 1 rfl rfl dX4_isWord_40 ?_
        refine lv_aload_n hx hb dX4_isWord_43 rfl (lv_at hl 0 rfl) ?_
        refine gf_X4_15 hx hb hg hown hK hP 0 rfl rfl dX4_isWord_44 ?_
        refine lv_iload_n hx hb dX4_isWord_47 rfl (lv_at hl 2 rfl) ?_
        refine lv_iadd hx hb dX4_isWord_48 ?_
        obtain ⟨hi, hf⟩ := ck_o hf
        refine ar_ld hx hb hK hP 2 rfl hi dX4_isWord_49 ?_
        refine lv_aload_n hx hb dX4_isWord_50 rfl (lv_at hl 1 rfl) ?_
        refine lv_iload_n hx hb dX4_isWord_51 rfl (lv_at hl 2 rfl) ?_
        obtain ⟨hi, hf⟩ := ck_o hf
        refine cm_Vs (As := [.int x2]) (rest := [.int (vB 1 (Int32.toNatClampNeg ((vP 1) + x2)))]) (i := 4) hx hb hml hown hg (c_charAt E l 4 (by decide) x2 hi) cy_J0_charAt_5068e ml_X4_108 (by decide) ⟨⟨rfl, rfl⟩, Nat.le_of_ble_eq_true rfl, Nat.le_of_ble_eq_true rfl⟩ hK hE hP hD hS hA rfl hl.1 rfl (Nat.le_of_ble_eq_true rfl) dX4_isWord_52 ⟨Nat.le_of_ble_eq_true rfl, Nat.le_of_ble_eq_true rfl⟩ [.int (chS 4 x2), .int (vB 1 (Int32.toNatClampNeg ((vP 1) + x2)))] rfl (fun H locs hP hD hS => ?_)
        refine lv_icmp_eq (tgt := 60) hx hb dX4_isWord_55 (by decide) (fun cq => ?_) (fun cq => ?_)
        · have hf := it cq hf
          refine lv_iinc (v := (x2 + 1)) (lv' := [(2, .int (x2 + 1)), (0, .ref aP), (1, .ref (E.2.2.2.2.2.1 4))]) hx hb dX4_isWord_60 hl (k := 2) rfl rfl (by decide) rfl (fun ls hl => ?_)
          refine lv_goto (tgt := 28) hx hb dX4_isWord_63 (by decide) ?_
          exact ih _ _ _ _ hf hP hD hS (lv_sub hl [1, 2, 0] rfl)
        · have hf := ie cq hf
          refine lv_iconst (v := 0) hx hb dX4_isWord_58 (by decide) ?_
          obtain rfl := Option.some.inj hf
          exact cm_zret (v := 0) hx hb hr hlocks hP hS rfl dX4_isWord_59
  unfold F_X4_isWord_4 at hf
  refine lv_aload_n hx hb dX4_isWord_0 rfl (lv_at hl 0 rfl) ?_
  refine gf_X4_11 hx hb hg hown hK hP 0 rfl rfl dX4_isWord_1 ?_
  refine lv_iconst (v := 1) hx hb dX4_isWord_4 (by decide) ?_
  refine lv_icmp_ne (tgt := 24) hx hb dX4_isWord_5 (by decide) (fun cq => ?_) (fun cq => ?_)
  · have hf := ie cq hf
    refine lv_iconst (v := 0) hx hb dX4_isWord_24 (by decide) ?_
    obtain rfl := Option.some.inj hf
    exact cm_zret (v := 0) hx hb hr hlocks hP hS rfl dX4_isWord_25
  · have hf := it cq hf
    refine lv_aload_n hx hb dX4_isWord_8 rfl (lv_at hl 0 rfl) ?_
    refine gf_X4_18 hx hb hg hown hK hP 0 rfl rfl dX4_isWord_9 ?_
    refine lv_aload_n hx hb dX4_isWord_12 rfl (lv_at hl 0 rfl) ?_
    refine gf_X4_15 hx hb hg hown hK hP 0 rfl rfl dX4_isWord_13 ?_
    refine lv_isub hx hb dX4_isWord_16 ?_
    refine lv_aload_n hx hb dX4_isWord_17 rfl (lv_at hl 1 rfl) ?_
    refine cm_Vs (As := []) (rest := [.int ((vP 2) - (vP 1))]) (i := 4) hx hb hml hown hg (c_length E l 4 (by decide)) cy_J0_length_8abf5 ml_X4_96 (by decide) ⟨⟨rfl, rfl⟩, Nat.le_of_ble_eq_true rfl, Nat.le_of_ble_eq_true rfl⟩ hK hE hP hD hS hA rfl hl.1 rfl (Nat.le_of_ble_eq_true rfl) dX4_isWord_18 ⟨Nat.le_of_ble_eq_true rfl, Nat.le_of_ble_eq_true rfl⟩ [.int 8, .int ((vP 2) - (vP 1))] rfl (fun H locs hP hD hS => ?_)
    refine lv_icmp_eq (tgt := 26) hx hb dX4_isWord_21 (by decide) (fun cq => ?_) (fun cq => ?_)
    · have hf := it cq hf
      refine lv_iconst (v := 0) hx hb dX4_isWord_26 (by decide) ?_
      refine lv_istore_n (lv' := [(2, .int 0), (0, .ref aP), (1, .ref (E.2.2.2.2.2.1 4))]) hx hb dX4_isWord_27 rfl hl (by decide) rfl (fun ls hl => ?_)
      exact lp_28 FU _ _ _ _ hf hP hD hS (lv_sub hl [1, 2, 0] rfl)
    · have hf := ie cq hf
      refine lv_iconst (v := 0) hx hb dX4_isWord_24 (by decide) ?_
      obtain rfl := Option.some.inj hf
      exact cm_zret (v := 0) hx hb hr hlocks hP hS rfl dX4_isWord_25
def F_X4_readHead (vP : Nat → Int32) (vN : Nat → Int32) (vB : Nat → Nat → Int32) : Option (Int32 × (Nat → Int32) × (Nat → Int32)) := (F_X4_isWord_1 vP vB).bind (fun u1 => (if u1 = 0 then (some (0, vP, vN)) else (F_X4_advance vP vB).bind (fun u2 => (F_X4_isNumber u2 0 9).bind (fun u3 => (if u3 = 0 then (some (0, u2, vN)) else lt (va_up vN 1 (u2 3)) (fun vN_5 => (F_X4_advance u2 vB).bind (fun u4 => (F_X4_isNumber u4 0 999).bind (fun u5 => (if u5 = 0 then (some (0, u4, vN_5)) else lt (va_up vN_5 2 (u4 3)) (fun vN_6 => (F_X4_advance u4 vB).bind (fun u6 => (some (1, u6, vN_6)))))))))))))
abbrev rm_X4_readHead : Room := { frames := 5, cells := 0, slots := 0, locals := 107 }
set_option maxHeartbeats 4000000 in
set_option maxRecDepth 100000 in
theorem c_X4_readHead (E : Ev) (l : Launch) (aP : Nat) (aB : Nat → Nat) (aN : Nat) (aG : Nat → Nat) (aU : Nat → Nat) (aR : Nat → Nat) (vP : Nat → Int32) (vN : Nat → Int32) (vB : Nat → Nat → Int32) (r : Int32 × (Nat → Int32) × (Nat → Int32)) (hf : F_X4_readHead vP vN vB = some r) : CM E l yX4_readHead (.code yX4_readHead cX4_readHead 2 (some .boolean) :: GA) rm_X4_readHead [.ref aP, .ref aN] (W_P aP aB vP ++ (W_N aN aG aU aR vN ++ (W_B E aB vB))) (some (.int r.1)) (W_P aP aB r.2.1 ++ (W_N aN aG aU aR r.2.2 ++ (W_B E aB vB))) := by
  refine CM.of (own := RX4) rfl (by decide) (Nat.le_of_ble_eq_true rfl) ?_
  intro p e s m below meth c A ls hx hb hr hml hown hg hlocks hK hE hA hP hD hS hl
  have hl : lv_has ls 2 [(0, .ref aP), (1, .ref aN)] := hl
  unfold F_X4_readHead at hf
  refine lv_aload_n hx hb dX4_readHead_0 rfl (lv_at hl 0 rfl) ?_
  refine va_ldcS hx hb hown (hE.2.2.2.2.2.1 ("NightPorter$Parser", 63, "night", 1) (List.mem_of_getElem? (i := 1) rfl)) dX4_readHead_1 ?_
  obtain ⟨u1, hu1, hf⟩ := bn hf
  refine cm_V (As := [.ref (E.2.2.2.2.2.1 1)]) (rest := []) (w2 := (W_P aP aB vP ++ (W_N aN aG aU aR vN ++ (W_B E aB vB)))) hx hb hml hown hg (c_X4_isWord_1 E l aP aB vP vB u1 hu1) cy_X4_isWord ml_X4_46 ⟨⟨rfl, rfl⟩, Nat.le_of_ble_eq_true rfl, Nat.le_of_ble_eq_true rfl⟩ hK hE hP hD hS hA [true, false, true, true] rfl rfl rfl 0 rfl rfl rfl hl.1 rfl (Nat.le_of_ble_eq_true rfl) dX4_readHead_3 ⟨Nat.le_of_ble_eq_true rfl, Nat.le_of_ble_eq_true rfl⟩ [.int u1] rfl (fun H locs hP hD hS => ?_)
  refine lv_if_ne (tgt := 11) hx hb dX4_readHead_6 (by decide) (fun cq => ?_) (fun cq => ?_)
  · have hf := ie cq hf
    refine lv_aload_n hx hb dX4_readHead_11 rfl (lv_at hl 0 rfl) ?_
    obtain ⟨u2, hu2, hf⟩ := bn hf
    refine cm_V (As := []) (rest := []) (w2 := (W_P aP aB u2 ++ (W_N aN aG aU aR vN ++ (W_B E aB vB)))) hx hb hml hown hg (c_X4_advance E l aP aB vP vB u2 hu2) cy_X4_advance ml_X4_33 ⟨⟨rfl, rfl⟩, Nat.le_of_ble_eq_true rfl, Nat.le_of_ble_eq_true rfl⟩ hK hE hP hD hS hA [true, false, true, true] rfl rfl rfl 0 rfl rfl rfl hl.1 rfl (Nat.le_of_ble_eq_true rfl) dX4_readHead_12 ⟨Nat.le_of_ble_eq_true rfl, Nat.le_of_ble_eq_true rfl⟩ [] rfl (fun H locs hP hD hS => ?_)
    refine lv_aload_n hx hb dX4_readHead_15 rfl (lv_at hl 0 rfl) ?_
    refine lv_iconst (v := 0) hx hb dX4_readHead_16 (by decide) ?_
    refine lv_bipush (v := 9) hx hb dX4_readHead_17 (by decide) ?_
    obtain ⟨u3, hu3, hf⟩ := bn hf
    refine cm_V (As := [.int 0, .int 9]) (rest := []) (w2 := (W_P aP aB u2 ++ (W_N aN aG aU aR vN ++ (W_B E aB vB)))) hx hb hml hown hg (c_X4_isNumber E l aP aB u2 0 9 u3 hu3) cy_X4_isNumber ml_X4_65 ⟨⟨rfl, rfl⟩, Nat.le_of_ble_eq_true rfl, Nat.le_of_ble_eq_true rfl⟩ hK hE hP hD hS hA [true] rfl rfl rfl 0 rfl rfl rfl hl.1 rfl (Nat.le_of_ble_eq_true rfl) dX4_readHead_19 ⟨Nat.le_of_ble_eq_true rfl, Nat.le_of_ble_eq_true rfl⟩ [.int u3] rfl (fun H locs hP hD hS => ?_)
    refine lv_if_ne (tgt := 27) hx hb dX4_readHead_22 (by decide) (fun cq => ?_) (fun cq => ?_)
    · have hf := ie cq hf
      refine lv_aload_n hx hb dX4_readHead_27 rfl (lv_at hl 1 rfl) ?_
      refine lv_aload_n hx hb dX4_readHead_28 rfl (lv_at hl 0 rfl) ?_
      refine gf_X4_21 hx hb hg hown hK hP 0 rfl rfl dX4_readHead_29 ?_
      refine pf_X4_69 (w2 := (W_P aP aB u2 ++ (W_N aN aG aU aR (va_up vN 1 (u2 3)) ++ (W_B E aB vB)))) hx hb hg hown hK hP hD hS 1 rfl (Nat.le_of_ble_eq_true rfl) rfl dX4_readHead_32 (fun H locs hP hD hS => ?_)
      obtain ⟨vN_5, hv, hf⟩ := lt_o hf
      rw [← hv] at hP hD
      clear hv
      refine lv_aload_n hx hb dX4_readHead_35 rfl (lv_at hl 0 rfl) ?_
      obtain ⟨u4, hu4, hf⟩ := bn hf
      refine cm_V (As := []) (rest := []) (w2 := (W_P aP aB u4 ++ (W_N aN aG aU aR vN_5 ++ (W_B E aB vB)))) hx hb hml hown hg (c_X4_advance E l aP aB u2 vB u4 hu4) cy_X4_advance ml_X4_33 ⟨⟨rfl, rfl⟩, Nat.le_of_ble_eq_true rfl, Nat.le_of_ble_eq_true rfl⟩ hK hE hP hD hS hA [true, false, true, true] rfl rfl rfl 0 rfl rfl rfl hl.1 rfl (Nat.le_of_ble_eq_true rfl) dX4_readHead_36 ⟨Nat.le_of_ble_eq_true rfl, Nat.le_of_ble_eq_true rfl⟩ [] rfl (fun H locs hP hD hS => ?_)
      refine lv_aload_n hx hb dX4_readHead_39 rfl (lv_at hl 0 rfl) ?_
      refine lv_iconst (v := 0) hx hb dX4_readHead_40 (by decide) ?_
      refine lv_sipush (v := 999) hx hb dX4_readHead_41 (by decide) ?_
      obtain ⟨u5, hu5, hf⟩ := bn hf
      refine cm_V (As := [.int 0, .int 999]) (rest := []) (w2 := (W_P aP aB u4 ++ (W_N aN aG aU aR vN_5 ++ (W_B E aB vB)))) hx hb hml hown hg (c_X4_isNumber E l aP aB u4 0 999 u5 hu5) cy_X4_isNumber ml_X4_65 ⟨⟨rfl, rfl⟩, Nat.le_of_ble_eq_true rfl, Nat.le_of_ble_eq_true rfl⟩ hK hE hP hD hS hA [true] rfl rfl rfl 0 rfl rfl rfl hl.1 rfl (Nat.le_of_ble_eq_true rfl) dX4_readHead_44 ⟨Nat.le_of_ble_eq_true rfl, Nat.le_of_ble_eq_true rfl⟩ [.int u5] rfl (fun H locs hP hD hS => ?_)
      refine lv_if_ne (tgt := 52) hx hb dX4_readHead_47 (by decide) (fun cq => ?_) (fun cq => ?_)
      · have hf := ie cq hf
        refine lv_aload_n hx hb dX4_readHead_52 rfl (lv_at hl 1 rfl) ?_
        refine lv_aload_n hx hb dX4_readHead_53 rfl (lv_at hl 0 rfl) ?_
        refine gf_X4_21 hx hb hg hown hK hP 0 rfl rfl dX4_readHead_54 ?_
        refine pf_X4_72 (w2 := (W_P aP aB u4 ++ (W_N aN aG aU aR (va_up vN_5 2 (u4 3)) ++ (W_B E aB vB)))) hx hb hg hown hK hP hD hS 1 rfl (Nat.le_of_ble_eq_true rfl) rfl dX4_readHead_57 (fun H locs hP hD hS => ?_)
        obtain ⟨vN_6, hv, hf⟩ := lt_o hf
        rw [← hv] at hP hD
        clear hv
        refine lv_aload_n hx hb dX4_readHead_60 rfl (lv_at hl 0 rfl) ?_
        obtain ⟨u6, hu6, hf⟩ := bn hf
        refine cm_V (As := []) (rest := []) (w2 := (W_P aP aB u6 ++ (W_N aN aG aU aR vN_6 ++ (W_B E aB vB)))) hx hb hml hown hg (c_X4_advance E l aP aB u4 vB u6 hu6) cy_X4_advance ml_X4_33 ⟨⟨rfl, rfl⟩, Nat.le_of_ble_eq_true rfl, Nat.le_of_ble_eq_true rfl⟩ hK hE hP hD hS hA [true, false, true, true] rfl rfl rfl 0 rfl rfl rfl hl.1 rfl (Nat.le_of_ble_eq_true rfl) dX4_readHead_61 ⟨Nat.le_of_ble_eq_true rfl, Nat.le_of_ble_eq_true rfl⟩ [] rfl (fun H locs hP hD hS => ?_)
        refine lv_iconst (v := 1) hx hb dX4_readHead_64 (by decide) ?_
        obtain rfl := Option.some.inj hf
        exact cm_zret (v := 1) hx hb hr hlocks hP hS rfl dX4_readHead_65
      · have hf := it cq hf
        refine lv_iconst (v := 0) hx hb dX4_readHead_50 (by decide) ?_
        obtain rfl := Option.some.inj hf
        exact cm_zret (v := 0) hx hb hr hlocks hP hS rfl dX4_readHead_51
    · have hf := it cq hf
      refine lv_iconst (v := 0) hx hb dX4_readHead_25 (by decide) ?_
      obtain rfl := Option.some.inj hf
      exact cm_zret (v := 0) hx hb hr hlocks hP hS rfl dX4_readHead_26
  · have hf := it cq hf
    refine lv_iconst (v := 0) hx hb dX4_readHead_9 (by decide) ?_
    obtain rfl := Option.some.inj hf
    exact cm_zret (v := 0) hx hb hr hlocks hP hS rfl dX4_readHead_10
def F_X4_readGuest (vP : Nat → Int32) (vG : Nat → Nat → Int32) (vB : Nat → Nat → Int32) : Option (Int32 × (Nat → Int32) × (Nat → Nat → Int32)) := (F_X4_advance vP vB).bind (fun u1 => (if (u1 0) = 1 then (if 5 < ((u1 2) - (u1 1)) then (some (0, u1, vG)) else (F_X1_find vG vB (u1 1) ((u1 2) - (u1 1))).bind (fun u2 => (if u2 = (-1) then (F_X4_advance u1 vB).bind (fun u3 => (F_X4_isNumber u3 0 9).bind (fun u4 => (if u4 = 0 then (some (0, u3, vG)) else (F_X4_advance u3 vB).bind (fun u5 => (F_X4_isWord_3 u5 vB).bind (fun u6 => (if u6 = 0 then (F_X1_add vG vB (u1 1) ((u1 2) - (u1 1)) (u3 3) 0).bind (fun u7 => (some (1, u5, u7.2))) else (F_X4_advance u5 vB).bind (fun u8 => (F_X4_isNumber u8 1 9).bind (fun u9 => (if u9 = 0 then (some (0, u8, vG)) else (F_X4_advance u8 vB).bind (fun u10 => (F_X1_add vG vB (u1 1) ((u1 2) - (u1 1)) (u3 3) (u8 3)).bind (fun u11 => (some (1, u10, u11.2))))))))))))) else (some (0, u1, vG))))) else (some (0, u1, vG))))
abbrev rm_X4_readGuest : Room := { frames := 5, cells := 0, slots := 0, locals := 107 }
set_option maxHeartbeats 4000000 in
set_option maxRecDepth 100000 in
theorem c_X4_readGuest (E : Ev) (l : Launch) (aP : Nat) (aB : Nat → Nat) (aG : Nat → Nat) (vP : Nat → Int32) (vG : Nat → Nat → Int32) (vB : Nat → Nat → Int32) (r : Int32 × (Nat → Int32) × (Nat → Nat → Int32)) (hf : F_X4_readGuest vP vG vB = some r) : CM E l yX4_readGuest (.code yX4_readGuest cX4_readGuest 6 (some .boolean) :: GA) rm_X4_readGuest [.ref aP, .ref (aG 0)] (W_P aP aB vP ++ (W_G E aG vG ++ (W_B E aB vB))) (some (.int r.1)) (W_P aP aB r.2.1 ++ (W_G E aG r.2.2 ++ (W_B E aB vB))) := by
  refine CM.of (own := RX4) rfl (by decide) (Nat.le_of_ble_eq_true rfl) ?_
  intro p e s m below meth c A ls hx hb hr hml hown hg hlocks hK hE hA hP hD hS hl
  have hl : lv_has ls 6 [(0, .ref aP), (1, .ref (aG 0))] := hl
  unfold F_X4_readGuest at hf
  refine lv_aload_n hx hb dX4_readGuest_0 rfl (lv_at hl 0 rfl) ?_
  obtain ⟨u1, hu1, hf⟩ := bn hf
  refine cm_V (As := []) (rest := []) (w2 := (W_P aP aB u1 ++ (W_G E aG vG ++ (W_B E aB vB)))) hx hb hml hown hg (c_X4_advance E l aP aB vP vB u1 hu1) cy_X4_advance ml_X4_33 ⟨⟨rfl, rfl⟩, Nat.le_of_ble_eq_true rfl, Nat.le_of_ble_eq_true rfl⟩ hK hE hP hD hS hA [true, false, false, false, false, false, false, false, false, false, true, true] rfl rfl rfl 0 rfl rfl rfl hl.1 rfl (Nat.le_of_ble_eq_true rfl) dX4_readGuest_1 ⟨Nat.le_of_ble_eq_true rfl, Nat.le_of_ble_eq_true rfl⟩ [] rfl (fun H locs hP hD hS => ?_)
  refine lv_aload_n hx hb dX4_readGuest_4 rfl (lv_at hl 0 rfl) ?_
  refine gf_X4_15 hx hb hg hown hK hP 0 rfl rfl dX4_readGuest_5 ?_
  refine lv_istore_n (lv' := [(2, .int (u1 1)), (0, .ref aP), (1, .ref (aG 0))]) hx hb dX4_readGuest_8 rfl hl (by decide) rfl (fun ls hl => ?_)
  refine lv_aload_n hx hb dX4_readGuest_9 rfl (lv_at hl 1 rfl) ?_
  refine gf_X4_18 hx hb hg hown hK hP 0 rfl rfl dX4_readGuest_10 ?_
  refine lv_aload_n hx hb dX4_readGuest_13 rfl (lv_at hl 1 rfl) ?_
  refine gf_X4_15 hx hb hg hown hK hP 0 rfl rfl dX4_readGuest_14 ?_
  refine lv_isub hx hb dX4_readGuest_17 ?_
  refine lv_istore_n (lv' := [(3, .int ((u1 2) - (u1 1))), (2, .int (u1 1)), (0, .ref aP), (1, .ref (aG 0))]) hx hb dX4_readGuest_18 rfl hl (by decide) rfl (fun ls hl => ?_)
  refine lv_aload_n hx hb dX4_readGuest_19 rfl (lv_at hl 2 rfl) ?_
  refine gf_X4_11 hx hb hg hown hK hP 0 rfl rfl dX4_readGuest_20 ?_
  refine lv_iconst (v := 1) hx hb dX4_readGuest_23 (by decide) ?_
  refine lv_icmp_ne (tgt := 49) hx hb dX4_readGuest_24 (by decide) (fun cq => ?_) (fun cq => ?_)
  · have hf := ie cq hf
    refine lv_iconst (v := 0) hx hb dX4_readGuest_49 (by decide) ?_
    obtain rfl := Option.some.inj hf
    exact cm_zret (v := 0) hx hb hr hlocks hP hS rfl dX4_readGuest_50
  · have hf := it cq hf
    refine lv_iload_n hx hb dX4_readGuest_27 rfl (lv_at hl 0 rfl) ?_
    refine lv_iconst (v := 5) hx hb dX4_readGuest_28 (by decide) ?_
    refine lv_icmp_gt (tgt := 49) hx hb dX4_readGuest_29 (by decide) (fun cq => ?_) (fun cq => ?_)
    · have hf := it cq hf
      refine lv_iconst (v := 0) hx hb dX4_readGuest_49 (by decide) ?_
      obtain rfl := Option.some.inj hf
      exact cm_zret (v := 0) hx hb hr hlocks hP hS rfl dX4_readGuest_50
    · have hf := ie cq hf
      refine lv_aload_n hx hb dX4_readGuest_32 rfl (lv_at hl 3 rfl) ?_
      refine lv_aload_n hx hb dX4_readGuest_33 rfl (lv_at hl 2 rfl) ?_
      refine gf_X4_24 hx hb hg hown hK hP 0 rfl rfl dX4_readGuest_34 ?_
      refine lv_aload_n hx hb dX4_readGuest_37 rfl (lv_at hl 2 rfl) ?_
      refine gf_X4_15 hx hb hg hown hK hP 0 rfl rfl dX4_readGuest_38 ?_
      refine lv_iload_n hx hb dX4_readGuest_41 rfl (lv_at hl 0 rfl) ?_
      obtain ⟨u2, hu2, hf⟩ := bn hf
      refine cm_V (As := [.ref (aB 0), .int (u1 1), .int ((u1 2) - (u1 1))]) (rest := []) (w2 := (W_P aP aB u1 ++ (W_G E aG vG ++ (W_B E aB vB)))) hx hb hml hown hg (c_X1_find E l aG aB vG vB (u1 1) ((u1 2) - (u1 1)) u2 hu2) cy_X1_find ml_X4_75 ⟨⟨rfl, rfl⟩, Nat.le_of_ble_eq_true rfl, Nat.le_of_ble_eq_true rfl⟩ hK hE hP hD hS hA [false, true, true, true, true, true, true, true, true, true, true, true] rfl rfl rfl 1 rfl rfl rfl hl.1 rfl (Nat.le_of_ble_eq_true rfl) dX4_readGuest_42 ⟨Nat.le_of_ble_eq_true rfl, Nat.le_of_ble_eq_true rfl⟩ [.int u2] rfl (fun H locs hP hD hS => ?_)
      refine lv_iconst (v := (-1)) hx hb dX4_readGuest_45 (by decide) ?_
      refine lv_icmp_eq (tgt := 51) hx hb dX4_readGuest_46 (by decide) (fun cq => ?_) (fun cq => ?_)
      · have hf := it cq hf
        refine lv_aload_n hx hb dX4_readGuest_51 rfl (lv_at hl 2 rfl) ?_
        obtain ⟨u3, hu3, hf⟩ := bn hf
        refine cm_V (As := []) (rest := []) (w2 := (W_P aP aB u3 ++ (W_G E aG vG ++ (W_B E aB vB)))) hx hb hml hown hg (c_X4_advance E l aP aB u1 vB u3 hu3) cy_X4_advance ml_X4_33 ⟨⟨rfl, rfl⟩, Nat.le_of_ble_eq_true rfl, Nat.le_of_ble_eq_true rfl⟩ hK hE hP hD hS hA [true, false, false, false, false, false, false, false, false, false, true, true] rfl rfl rfl 0 rfl rfl rfl hl.1 rfl (Nat.le_of_ble_eq_true rfl) dX4_readGuest_52 ⟨Nat.le_of_ble_eq_true rfl, Nat.le_of_ble_eq_true rfl⟩ [] rfl (fun H locs hP hD hS => ?_)
        refine lv_aload_n hx hb dX4_readGuest_55 rfl (lv_at hl 2 rfl) ?_
        refine lv_iconst (v := 0) hx hb dX4_readGuest_56 (by decide) ?_
        refine lv_bipush (v := 9) hx hb dX4_readGuest_57 (by decide) ?_
        obtain ⟨u4, hu4, hf⟩ := bn hf
        refine cm_V (As := [.int 0, .int 9]) (rest := []) (w2 := (W_P aP aB u3 ++ (W_G E aG vG ++ (W_B E aB vB)))) hx hb hml hown hg (c_X4_isNumber E l aP aB u3 0 9 u4 hu4) cy_X4_isNumber ml_X4_65 ⟨⟨rfl, rfl⟩, Nat.le_of_ble_eq_true rfl, Nat.le_of_ble_eq_true rfl⟩ hK hE hP hD hS hA [true] rfl rfl rfl 0 rfl rfl rfl hl.1 rfl (Nat.le_of_ble_eq_true rfl) dX4_readGuest_59 ⟨Nat.le_of_ble_eq_true rfl, Nat.le_of_ble_eq_true rfl⟩ [.int u4] rfl (fun H locs hP hD hS => ?_)
        refine lv_if_ne (tgt := 67) hx hb dX4_readGuest_62 (by decide) (fun cq => ?_) (fun cq => ?_)
        · have hf := ie cq hf
          refine lv_aload_n hx hb dX4_readGuest_67 rfl (lv_at hl 2 rfl) ?_
          refine gf_X4_21 hx hb hg hown hK hP 0 rfl rfl dX4_readGuest_68 ?_
          refine lv_istore (lv' := [(4, .int (u3 3)), (3, .int ((u1 2) - (u1 1))), (2, .int (u1 1)), (0, .ref aP), (1, .ref (aG 0))]) hx hb dX4_readGuest_71 hl (by decide) rfl (fun ls hl => ?_)
          refine lv_iconst (v := 0) hx hb dX4_readGuest_73 (by decide) ?_
          refine lv_istore (lv' := [(5, .int 0), (4, .int (u3 3)), (3, .int ((u1 2) - (u1 1))), (2, .int (u1 1)), (0, .ref aP), (1, .ref (aG 0))]) hx hb dX4_readGuest_74 hl (by decide) rfl (fun ls hl => ?_)
          refine lv_aload_n hx hb dX4_readGuest_76 rfl (lv_at hl 4 rfl) ?_
          obtain ⟨u5, hu5, hf⟩ := bn hf
          refine cm_V (As := []) (rest := []) (w2 := (W_P aP aB u5 ++ (W_G E aG vG ++ (W_B E aB vB)))) hx hb hml hown hg (c_X4_advance E l aP aB u3 vB u5 hu5) cy_X4_advance ml_X4_33 ⟨⟨rfl, rfl⟩, Nat.le_of_ble_eq_true rfl, Nat.le_of_ble_eq_true rfl⟩ hK hE hP hD hS hA [true, false, false, false, false, false, false, false, false, false, true, true] rfl rfl rfl 0 rfl rfl rfl hl.1 rfl (Nat.le_of_ble_eq_true rfl) dX4_readGuest_77 ⟨Nat.le_of_ble_eq_true rfl, Nat.le_of_ble_eq_true rfl⟩ [] rfl (fun H locs hP hD hS => ?_)
          refine lv_aload_n hx hb dX4_readGuest_80 rfl (lv_at hl 4 rfl) ?_
          refine va_ldcS hx hb hown (hE.2.2.2.2.2.1 ("NightPorter$Parser", 81, "dog", 3) (List.mem_of_getElem? (i := 3) rfl)) dX4_readGuest_81 ?_
          obtain ⟨u6, hu6, hf⟩ := bn hf
          refine cm_V (As := [.ref (E.2.2.2.2.2.1 3)]) (rest := []) (w2 := (W_P aP aB u5 ++ (W_G E aG vG ++ (W_B E aB vB)))) hx hb hml hown hg (c_X4_isWord_3 E l aP aB u5 vB u6 hu6) cy_X4_isWord ml_X4_46 ⟨⟨rfl, rfl⟩, Nat.le_of_ble_eq_true rfl, Nat.le_of_ble_eq_true rfl⟩ hK hE hP hD hS hA [true, false, false, false, false, false, false, false, false, false, true, true] rfl rfl rfl 0 rfl rfl rfl hl.1 rfl (Nat.le_of_ble_eq_true rfl) dX4_readGuest_83 ⟨Nat.le_of_ble_eq_true rfl, Nat.le_of_ble_eq_true rfl⟩ [.int u6] rfl (fun H locs hP hD hS => ?_)
          refine lv_if_eq (tgt := 115) hx hb dX4_readGuest_86 (by decide) (fun cq => ?_) (fun cq => ?_)
          · have hf := it cq hf
            refine lv_aload_n hx hb dX4_readGuest_115 rfl (lv_at hl 5 rfl) ?_
            refine lv_aload_n hx hb dX4_readGuest_116 rfl (lv_at hl 4 rfl) ?_
            refine gf_X4_24 hx hb hg hown hK hP 0 rfl rfl dX4_readGuest_117 ?_
            refine lv_iload_n hx hb dX4_readGuest_120 rfl (lv_at hl 3 rfl) ?_
            refine lv_iload_n hx hb dX4_readGuest_121 rfl (lv_at hl 2 rfl) ?_
            refine lv_iload hx hb dX4_readGuest_122 (lv_at hl 1 rfl) ?_
            refine lv_iload hx hb dX4_readGuest_124 (lv_at hl 0 rfl) ?_
            obtain ⟨u7, hu7, hf⟩ := bn hf
            refine cm_V (As := [.ref (aB 0), .int (u1 1), .int ((u1 2) - (u1 1)), .int (u3 3), .int 0]) (rest := []) (w2 := (W_P aP aB u5 ++ (W_G E aG u7.2 ++ (W_B E aB vB)))) hx hb hml hown hg (c_X1_add E l aG aB vG vB (u1 1) ((u1 2) - (u1 1)) (u3 3) 0 u7 hu7) cy_X1_add ml_X4_83 ⟨⟨rfl, rfl⟩, Nat.le_of_ble_eq_true rfl, Nat.le_of_ble_eq_true rfl⟩ hK hE hP hD hS hA [false, true, true, true, true, true, true, true, true, true, true, true] rfl rfl rfl 1 rfl rfl rfl hl.1 rfl (Nat.le_of_ble_eq_true rfl) dX4_readGuest_126 ⟨Nat.le_of_ble_eq_true rfl, Nat.le_of_ble_eq_true rfl⟩ [.int u7.1] rfl (fun H locs hP hD hS => ?_)
            refine lv_pop hx hb dX4_readGuest_129 rfl ?_
            refine lv_iconst (v := 1) hx hb dX4_readGuest_130 (by decide) ?_
            obtain rfl := Option.some.inj hf
            exact cm_zret (v := 1) hx hb hr hlocks hP hS rfl dX4_readGuest_131
          · have hf := ie cq hf
            refine lv_aload_n hx hb dX4_readGuest_89 rfl (lv_at hl 4 rfl) ?_
            obtain ⟨u8, hu8, hf⟩ := bn hf
            refine cm_V (As := []) (rest := []) (w2 := (W_P aP aB u8 ++ (W_G E aG vG ++ (W_B E aB vB)))) hx hb hml hown hg (c_X4_advance E l aP aB u5 vB u8 hu8) cy_X4_advance ml_X4_33 ⟨⟨rfl, rfl⟩, Nat.le_of_ble_eq_true rfl, Nat.le_of_ble_eq_true rfl⟩ hK hE hP hD hS hA [true, false, false, false, false, false, false, false, false, false, true, true] rfl rfl rfl 0 rfl rfl rfl hl.1 rfl (Nat.le_of_ble_eq_true rfl) dX4_readGuest_90 ⟨Nat.le_of_ble_eq_true rfl, Nat.le_of_ble_eq_true rfl⟩ [] rfl (fun H locs hP hD hS => ?_)
            refine lv_aload_n hx hb dX4_readGuest_93 rfl (lv_at hl 4 rfl) ?_
            refine lv_iconst (v := 1) hx hb dX4_readGuest_94 (by decide) ?_
            refine lv_bipush (v := 9) hx hb dX4_readGuest_95 (by decide) ?_
            obtain ⟨u9, hu9, hf⟩ := bn hf
            refine cm_V (As := [.int 1, .int 9]) (rest := []) (w2 := (W_P aP aB u8 ++ (W_G E aG vG ++ (W_B E aB vB)))) hx hb hml hown hg (c_X4_isNumber E l aP aB u8 1 9 u9 hu9) cy_X4_isNumber ml_X4_65 ⟨⟨rfl, rfl⟩, Nat.le_of_ble_eq_true rfl, Nat.le_of_ble_eq_true rfl⟩ hK hE hP hD hS hA [true] rfl rfl rfl 0 rfl rfl rfl hl.1 rfl (Nat.le_of_ble_eq_true rfl) dX4_readGuest_97 ⟨Nat.le_of_ble_eq_true rfl, Nat.le_of_ble_eq_true rfl⟩ [.int u9] rfl (fun H locs hP hD hS => ?_)
            refine lv_if_ne (tgt := 105) hx hb dX4_readGuest_100 (by decide) (fun cq => ?_) (fun cq => ?_)
            · have hf := ie cq hf
              refine lv_aload_n hx hb dX4_readGuest_105 rfl (lv_at hl 4 rfl) ?_
              refine gf_X4_21 hx hb hg hown hK hP 0 rfl rfl dX4_readGuest_106 ?_
              refine lv_istore (lv' := [(5, .int (u8 3)), (4, .int (u3 3)), (3, .int ((u1 2) - (u1 1))), (2, .int (u1 1)), (0, .ref aP), (1, .ref (aG 0))]) hx hb dX4_readGuest_109 hl (by decide) rfl (fun ls hl => ?_)
              refine lv_aload_n hx hb dX4_readGuest_111 rfl (lv_at hl 4 rfl) ?_
              obtain ⟨u10, hu10, hf⟩ := bn hf
              refine cm_V (As := []) (rest := []) (w2 := (W_P aP aB u10 ++ (W_G E aG vG ++ (W_B E aB vB)))) hx hb hml hown hg (c_X4_advance E l aP aB u8 vB u10 hu10) cy_X4_advance ml_X4_33 ⟨⟨rfl, rfl⟩, Nat.le_of_ble_eq_true rfl, Nat.le_of_ble_eq_true rfl⟩ hK hE hP hD hS hA [true, false, false, false, false, false, false, false, false, false, true, true] rfl rfl rfl 0 rfl rfl rfl hl.1 rfl (Nat.le_of_ble_eq_true rfl) dX4_readGuest_112 ⟨Nat.le_of_ble_eq_true rfl, Nat.le_of_ble_eq_true rfl⟩ [] rfl (fun H locs hP hD hS => ?_)
              refine lv_aload_n hx hb dX4_readGuest_115 rfl (lv_at hl 5 rfl) ?_
              refine lv_aload_n hx hb dX4_readGuest_116 rfl (lv_at hl 4 rfl) ?_
              refine gf_X4_24 hx hb hg hown hK hP 0 rfl rfl dX4_readGuest_117 ?_
              refine lv_iload_n hx hb dX4_readGuest_120 rfl (lv_at hl 3 rfl) ?_
              refine lv_iload_n hx hb dX4_readGuest_121 rfl (lv_at hl 2 rfl) ?_
              refine lv_iload hx hb dX4_readGuest_122 (lv_at hl 1 rfl) ?_
              refine lv_iload hx hb dX4_readGuest_124 (lv_at hl 0 rfl) ?_
              obtain ⟨u11, hu11, hf⟩ := bn hf
              refine cm_V (As := [.ref (aB 0), .int (u1 1), .int ((u1 2) - (u1 1)), .int (u3 3), .int (u8 3)]) (rest := []) (w2 := (W_P aP aB u10 ++ (W_G E aG u11.2 ++ (W_B E aB vB)))) hx hb hml hown hg (c_X1_add E l aG aB vG vB (u1 1) ((u1 2) - (u1 1)) (u3 3) (u8 3) u11 hu11) cy_X1_add ml_X4_83 ⟨⟨rfl, rfl⟩, Nat.le_of_ble_eq_true rfl, Nat.le_of_ble_eq_true rfl⟩ hK hE hP hD hS hA [false, true, true, true, true, true, true, true, true, true, true, true] rfl rfl rfl 1 rfl rfl rfl hl.1 rfl (Nat.le_of_ble_eq_true rfl) dX4_readGuest_126 ⟨Nat.le_of_ble_eq_true rfl, Nat.le_of_ble_eq_true rfl⟩ [.int u11.1] rfl (fun H locs hP hD hS => ?_)
              refine lv_pop hx hb dX4_readGuest_129 rfl ?_
              refine lv_iconst (v := 1) hx hb dX4_readGuest_130 (by decide) ?_
              obtain rfl := Option.some.inj hf
              exact cm_zret (v := 1) hx hb hr hlocks hP hS rfl dX4_readGuest_131
            · have hf := it cq hf
              refine lv_iconst (v := 0) hx hb dX4_readGuest_103 (by decide) ?_
              obtain rfl := Option.some.inj hf
              exact cm_zret (v := 0) hx hb hr hlocks hP hS rfl dX4_readGuest_104
        · have hf := it cq hf
          refine lv_iconst (v := 0) hx hb dX4_readGuest_65 (by decide) ?_
          obtain rfl := Option.some.inj hf
          exact cm_zret (v := 0) hx hb hr hlocks hP hS rfl dX4_readGuest_66
      · have hf := ie cq hf
        refine lv_iconst (v := 0) hx hb dX4_readGuest_49 (by decide) ?_
        obtain rfl := Option.some.inj hf
        exact cm_zret (v := 0) hx hb hr hlocks hP hS rfl dX4_readGuest_50
def J_X4_readUmbrella_40 (vN : Nat → Int32) (vG : Nat → Nat → Int32) (vB : Nat → Nat → Int32) (t0 : Int32) (vP : Nat → Int32) (vU : Nat → Nat → Int32) : Option (Int32 × (Nat → Int32) × (Nat → Nat → Int32)) := (if t0 = (-1) then (some (0, vP, vU)) else (F_X4_advance vP vB).bind (fun u1 => (F_X4_isNumber u1 0 99).bind (fun u2 => (if u2 = 0 then (some (0, u1, vU)) else (F_X7_add vU t0 (u1 3)).bind (fun u3 => (F_X4_advance u1 vB).bind (fun u4 => (some (1, u4, u3.2))))))))
def F_X4_readUmbrella (vP : Nat → Int32) (vN : Nat → Int32) (vG : Nat → Nat → Int32) (vU : Nat → Nat → Int32) (vB : Nat → Nat → Int32) : Option (Int32 × (Nat → Int32) × (Nat → Nat → Int32)) := (F_X4_advance vP vB).bind (fun u1 => (if (u1 0) = 1 then (F_X1_find vG vB (u1 1) ((u1 2) - (u1 1))).bind (fun u2 => (J_X4_readUmbrella_40 vN vG vB u2 u1 vU)) else (J_X4_readUmbrella_40 vN vG vB (-1) u1 vU)))
abbrev rm_X4_readUmbrella : Room := { frames := 3, cells := 0, slots := 0, locals := 70 }
set_option maxHeartbeats 4000000 in
set_option maxRecDepth 100000 in
theorem c_X4_readUmbrella (E : Ev) (l : Launch) (aP : Nat) (aB : Nat → Nat) (aN : Nat) (aG : Nat → Nat) (aU : Nat → Nat) (aR : Nat → Nat) (vP : Nat → Int32) (vN : Nat → Int32) (vG : Nat → Nat → Int32) (vU : Nat → Nat → Int32) (vB : Nat → Nat → Int32) (r : Int32 × (Nat → Int32) × (Nat → Nat → Int32)) (hf : F_X4_readUmbrella vP vN vG vU vB = some r) : CM E l yX4_readUmbrella (.code yX4_readUmbrella cX4_readUmbrella 3 (some .boolean) :: GA) rm_X4_readUmbrella [.ref aP, .ref aN] (W_P aP aB vP ++ (W_N aN aG aU aR vN ++ (W_G E aG vG ++ (W_U E aU vU ++ (W_B E aB vB))))) (some (.int r.1)) (W_P aP aB r.2.1 ++ (W_N aN aG aU aR vN ++ (W_G E aG vG ++ (W_U E aU r.2.2 ++ (W_B E aB vB))))) := by
  refine CM.of (own := RX4) rfl (by decide) (Nat.le_of_ble_eq_true rfl) ?_
  intro p e s m below meth c A ls hx hb hr hml hown hg hlocks hK hE hA hP hD hS hl
  have hl : lv_has ls 3 [(0, .ref aP), (1, .ref aN)] := hl
  have jp_40 : ∀ (t0 : Int32) (vP : Nat → Int32) (vU : Nat → Nat → Int32) (H : Heap) (locs : List Loc) (ls : Array Slot), J_X4_readUmbrella_40 vN vG vB t0 vP vU = some r → va_P E.1 vwCl (W_P aP aB vP ++ (W_N aN aG aU aR vN ++ (W_G E aG vG ++ (W_U E aU vU ++ (W_B E aB vB))))) H → va_D A (W_P aP aB vP ++ (W_N aN aG aU aR vN ++ (W_G E aG vG ++ (W_U E aU vU ++ (W_B E aB vB))))) → va_S A s.heap H locs → lv_has ls 3 [(0, .ref aP), (1, .ref aN)] → W p l e rm_X4_readUmbrella s m ([.ref aP, .ref aN] : List Value).toArray below meth c H locs 0 0 (MQ below (QW E (some (.int r.1)) (W_P aP aB r.2.1 ++ (W_N aN aG aU aR vN ++ (W_G E aG vG ++ (W_U E aU r.2.2 ++ (W_B E aB vB))))) A) ([.ref aP, .ref aN] : List Value).toArray s 0 0 A) (F0 m 40 ls [.int t0]) := by
    intro t0 vP vU H locs ls hf hP hD hS hl
    unfold J_X4_readUmbrella_40 at hf
    refine lv_istore_n (lv' := [(2, .int t0), (0, .ref aP), (1, .ref aN)]) hx hb dX4_readUmbrella_40 rfl hl (by decide) rfl (fun ls hl => ?_)
    refine lv_iload_n hx hb dX4_readUmbrella_41 rfl (lv_at hl 0 rfl) ?_
    refine lv_iconst (v := (-1)) hx hb dX4_readUmbrella_42 (by decide) ?_
    refine lv_icmp_ne (tgt := 48) hx hb dX4_readUmbrella_43 (by decide) (fun cq => ?_) (fun cq => ?_)
    · have hf := ie cq hf
      refine lv_aload_n hx hb dX4_readUmbrella_48 rfl (lv_at hl 1 rfl) ?_
      obtain ⟨u1, hu1, hf⟩ := bn hf
      refine cm_V (As := []) (rest := []) (w2 := (W_P aP aB u1 ++ (W_N aN aG aU aR vN ++ (W_G E aG vG ++ (W_U E aU vU ++ (W_B E aB vB)))))) hx hb hml hown hg (c_X4_advance E l aP aB vP vB u1 hu1) cy_X4_advance ml_X4_33 ⟨⟨rfl, rfl⟩, Nat.le_of_ble_eq_true rfl, Nat.le_of_ble_eq_true rfl⟩ hK hE hP hD hS hA [true, false, false, false, false, false, false, false, false, false, false, false, false, false, false, true, true] rfl rfl rfl 0 rfl rfl rfl hl.1 rfl (Nat.le_of_ble_eq_true rfl) dX4_readUmbrella_49 ⟨Nat.le_of_ble_eq_true rfl, Nat.le_of_ble_eq_true rfl⟩ [] rfl (fun H locs hP hD hS => ?_)
      refine lv_aload_n hx hb dX4_readUmbrella_52 rfl (lv_at hl 1 rfl) ?_
      refine lv_iconst (v := 0) hx hb dX4_readUmbrella_53 (by decide) ?_
      refine lv_bipush (v := 99) hx hb dX4_readUmbrella_54 (by decide) ?_
      obtain ⟨u2, hu2, hf⟩ := bn hf
      refine cm_V (As := [.int 0, .int 99]) (rest := []) (w2 := (W_P aP aB u1 ++ (W_N aN aG aU aR vN ++ (W_G E aG vG ++ (W_U E aU vU ++ (W_B E aB vB)))))) hx hb hml hown hg (c_X4_isNumber E l aP aB u1 0 99 u2 hu2) cy_X4_isNumber ml_X4_65 ⟨⟨rfl, rfl⟩, Nat.le_of_ble_eq_true rfl, Nat.le_of_ble_eq_true rfl⟩ hK hE hP hD hS hA [true] rfl rfl rfl 0 rfl rfl rfl hl.1 rfl (Nat.le_of_ble_eq_true rfl) dX4_readUmbrella_56 ⟨Nat.le_of_ble_eq_true rfl, Nat.le_of_ble_eq_true rfl⟩ [.int u2] rfl (fun H locs hP hD hS => ?_)
      refine lv_if_ne (tgt := 64) hx hb dX4_readUmbrella_59 (by decide) (fun cq => ?_) (fun cq => ?_)
      · have hf := ie cq hf
        refine lv_aload_n hx hb dX4_readUmbrella_64 rfl (lv_at hl 2 rfl) ?_
        refine gf_X4_87 hx hb hg hown hK hP 1 rfl rfl dX4_readUmbrella_65 ?_
        refine lv_iload_n hx hb dX4_readUmbrella_68 rfl (lv_at hl 0 rfl) ?_
        refine lv_aload_n hx hb dX4_readUmbrella_69 rfl (lv_at hl 1 rfl) ?_
        refine gf_X4_21 hx hb hg hown hK hP 0 rfl rfl dX4_readUmbrella_70 ?_
        obtain ⟨u3, hu3, hf⟩ := bn hf
        refine cm_V (As := [.int t0, .int (u1 3)]) (rest := []) (w2 := (W_P aP aB u1 ++ (W_N aN aG aU aR vN ++ (W_G E aG vG ++ (W_U E aU u3.2 ++ (W_B E aB vB)))))) hx hb hml hown hg (c_X7_add E l aU vU t0 (u1 3) u3 hu3) cy_X7_add ml_X4_91 ⟨⟨rfl, rfl⟩, Nat.le_of_ble_eq_true rfl, Nat.le_of_ble_eq_true rfl⟩ hK hE hP hD hS hA [false, false, false, false, false, false, false, false, false, false, false, true, true, true, true] rfl rfl rfl 11 rfl rfl rfl hl.1 rfl (Nat.le_of_ble_eq_true rfl) dX4_readUmbrella_73 ⟨Nat.le_of_ble_eq_true rfl, Nat.le_of_ble_eq_true rfl⟩ [.int u3.1] rfl (fun H locs hP hD hS => ?_)
        refine lv_pop hx hb dX4_readUmbrella_76 rfl ?_
        refine lv_aload_n hx hb dX4_readUmbrella_77 rfl (lv_at hl 1 rfl) ?_
        obtain ⟨u4, hu4, hf⟩ := bn hf
        refine cm_V (As := []) (rest := []) (w2 := (W_P aP aB u4 ++ (W_N aN aG aU aR vN ++ (W_G E aG vG ++ (W_U E aU u3.2 ++ (W_B E aB vB)))))) hx hb hml hown hg (c_X4_advance E l aP aB u1 vB u4 hu4) cy_X4_advance ml_X4_33 ⟨⟨rfl, rfl⟩, Nat.le_of_ble_eq_true rfl, Nat.le_of_ble_eq_true rfl⟩ hK hE hP hD hS hA [true, false, false, false, false, false, false, false, false, false, false, false, false, false, false, true, true] rfl rfl rfl 0 rfl rfl rfl hl.1 rfl (Nat.le_of_ble_eq_true rfl) dX4_readUmbrella_78 ⟨Nat.le_of_ble_eq_true rfl, Nat.le_of_ble_eq_true rfl⟩ [] rfl (fun H locs hP hD hS => ?_)
        refine lv_iconst (v := 1) hx hb dX4_readUmbrella_81 (by decide) ?_
        obtain rfl := Option.some.inj hf
        exact cm_zret (v := 1) hx hb hr hlocks hP hS rfl dX4_readUmbrella_82
      · have hf := it cq hf
        refine lv_iconst (v := 0) hx hb dX4_readUmbrella_62 (by decide) ?_
        obtain rfl := Option.some.inj hf
        exact cm_zret (v := 0) hx hb hr hlocks hP hS rfl dX4_readUmbrella_63
    · have hf := it cq hf
      refine lv_iconst (v := 0) hx hb dX4_readUmbrella_46 (by decide) ?_
      obtain rfl := Option.some.inj hf
      exact cm_zret (v := 0) hx hb hr hlocks hP hS rfl dX4_readUmbrella_47
  unfold F_X4_readUmbrella at hf
  refine lv_aload_n hx hb dX4_readUmbrella_0 rfl (lv_at hl 0 rfl) ?_
  obtain ⟨u1, hu1, hf⟩ := bn hf
  refine cm_V (As := []) (rest := []) (w2 := (W_P aP aB u1 ++ (W_N aN aG aU aR vN ++ (W_G E aG vG ++ (W_U E aU vU ++ (W_B E aB vB)))))) hx hb hml hown hg (c_X4_advance E l aP aB vP vB u1 hu1) cy_X4_advance ml_X4_33 ⟨⟨rfl, rfl⟩, Nat.le_of_ble_eq_true rfl, Nat.le_of_ble_eq_true rfl⟩ hK hE hP hD hS hA [true, false, false, false, false, false, false, false, false, false, false, false, false, false, false, true, true] rfl rfl rfl 0 rfl rfl rfl hl.1 rfl (Nat.le_of_ble_eq_true rfl) dX4_readUmbrella_1 ⟨Nat.le_of_ble_eq_true rfl, Nat.le_of_ble_eq_true rfl⟩ [] rfl (fun H locs hP hD hS => ?_)
  refine lv_aload_n hx hb dX4_readUmbrella_4 rfl (lv_at hl 0 rfl) ?_
  refine gf_X4_11 hx hb hg hown hK hP 0 rfl rfl dX4_readUmbrella_5 ?_
  refine lv_iconst (v := 1) hx hb dX4_readUmbrella_8 (by decide) ?_
  refine lv_icmp_ne (tgt := 39) hx hb dX4_readUmbrella_9 (by decide) (fun cq => ?_) (fun cq => ?_)
  · have hf := ie cq hf
    refine lv_iconst (v := (-1)) hx hb dX4_readUmbrella_39 (by decide) ?_
    exact jp_40 _ _ _ _ _ _ hf hP hD hS (lv_sub hl [0, 1] rfl)
  · have hf := it cq hf
    refine lv_aload_n hx hb dX4_readUmbrella_12 rfl (lv_at hl 1 rfl) ?_
    refine gf_X4_50 hx hb hg hown hK hP 1 rfl rfl dX4_readUmbrella_13 ?_
    refine lv_aload_n hx hb dX4_readUmbrella_16 rfl (lv_at hl 0 rfl) ?_
    refine gf_X4_24 hx hb hg hown hK hP 0 rfl rfl dX4_readUmbrella_17 ?_
    refine lv_aload_n hx hb dX4_readUmbrella_20 rfl (lv_at hl 0 rfl) ?_
    refine gf_X4_15 hx hb hg hown hK hP 0 rfl rfl dX4_readUmbrella_21 ?_
    refine lv_aload_n hx hb dX4_readUmbrella_24 rfl (lv_at hl 0 rfl) ?_
    refine gf_X4_18 hx hb hg hown hK hP 0 rfl rfl dX4_readUmbrella_25 ?_
    refine lv_aload_n hx hb dX4_readUmbrella_28 rfl (lv_at hl 0 rfl) ?_
    refine gf_X4_15 hx hb hg hown hK hP 0 rfl rfl dX4_readUmbrella_29 ?_
    refine lv_isub hx hb dX4_readUmbrella_32 ?_
    obtain ⟨u2, hu2, hf⟩ := bn hf
    refine cm_V (As := [.ref (aB 0), .int (u1 1), .int ((u1 2) - (u1 1))]) (rest := []) (w2 := (W_P aP aB u1 ++ (W_N aN aG aU aR vN ++ (W_G E aG vG ++ (W_U E aU vU ++ (W_B E aB vB)))))) hx hb hml hown hg (c_X1_find E l aG aB vG vB (u1 1) ((u1 2) - (u1 1)) u2 hu2) cy_X1_find ml_X4_75 ⟨⟨rfl, rfl⟩, Nat.le_of_ble_eq_true rfl, Nat.le_of_ble_eq_true rfl⟩ hK hE hP hD hS hA [false, false, true, true, true, true, true, true, true, true, true, false, false, false, false, true, true] rfl rfl rfl 2 rfl rfl rfl hl.1 rfl (Nat.le_of_ble_eq_true rfl) dX4_readUmbrella_33 ⟨Nat.le_of_ble_eq_true rfl, Nat.le_of_ble_eq_true rfl⟩ [.int u2] rfl (fun H locs hP hD hS => ?_)
    refine lv_goto (tgt := 40) hx hb dX4_readUmbrella_36 (by decide) ?_
    exact jp_40 _ _ _ _ _ _ hf hP hD hS (lv_sub hl [0, 1] rfl)
def J_X4_readText_133 (vB : Nat → Nat → Int32) (x2 : Int32) (vP : Nat → Int32) (vN : Nat → Int32) (vG : Nat → Nat → Int32) (vU : Nat → Nat → Int32) (vR : Nat → Nat → Int32) : Option (Int32 × (Nat → Int32) × (Nat → Int32) × (Nat → Nat → Int32) × (Nat → Nat → Int32) × (Nat → Nat → Int32)) := (if x2 = 0 then (some ((vP 1), vP, vN, vG, vU, vR)) else (if (vP 0) = 0 then (some ((-1), vP, vN, vG, vU, vR)) else (some ((vP 1), vP, vN, vG, vU, vR))))
def B_X4_readText_87 (rec : Int32 → Int32 → (Nat → Int32) → (Nat → Int32) → (Nat → Nat → Int32) → (Nat → Nat → Int32) → (Nat → Nat → Int32) → Option (Int32 × (Nat → Int32) × (Nat → Int32) × (Nat → Nat → Int32) × (Nat → Nat → Int32) × (Nat → Nat → Int32))) (vB : Nat → Nat → Int32) (x2 : Int32) (x3 : Int32) (vP : Nat → Int32) (vN : Nat → Int32) (vG : Nat → Nat → Int32) (vU : Nat → Nat → Int32) (vR : Nat → Nat → Int32) : Option (Int32 × (Nat → Int32) × (Nat → Int32) × (Nat → Nat → Int32) × (Nat → Nat → Int32) × (Nat → Nat → Int32)) := (if 12 ≤ x3 then (J_X4_readText_133 vB x2 vP vN vG vU vR) else (if x2 = 0 then (J_X4_readText_133 vB x2 vP vN vG vU vR) else (F_X4_isWord_4 vP vB).bind (fun u1 => (if u1 = 0 then (J_X4_readText_133 vB x2 vP vN vG vU vR) else (F_X4_readUmbrella vP vN vG vU vB).bind (fun u2 => (if u2.1 = 0 then (rec 0 (x3 + 1) u2.2.1 vN vG u2.2.2 vR) else (F_X4_passSemicolon u2.2.1 vB).bind (fun u3 => (if u3.1 = 0 then (rec 0 (x3 + 1) u3.2 vN vG u2.2.2 vR) else (rec 1 (x3 + 1) u3.2 vN vG u2.2.2 vR)))))))))
def L_X4_readText_87 (vB : Nat → Nat → Int32) : Nat → Int32 → Int32 → (Nat → Int32) → (Nat → Int32) → (Nat → Nat → Int32) → (Nat → Nat → Int32) → (Nat → Nat → Int32) → Option (Int32 × (Nat → Int32) × (Nat → Int32) × (Nat → Nat → Int32) × (Nat → Nat → Int32) × (Nat → Nat → Int32))
  | 0 => fun _ _ _ _ _ _ _ => none
  | n + 1 => fun x2 x3 vP vN vG vU vR => B_X4_readText_87 (L_X4_readText_87 vB n) vB x2 x3 vP vN vG vU vR
def B_X4_readText_36 (rec : Int32 → Int32 → (Nat → Int32) → (Nat → Int32) → (Nat → Nat → Int32) → (Nat → Nat → Int32) → (Nat → Nat → Int32) → Option (Int32 × (Nat → Int32) × (Nat → Int32) × (Nat → Nat → Int32) × (Nat → Nat → Int32) × (Nat → Nat → Int32))) (vB : Nat → Nat → Int32) (x2 : Int32) (x3 : Int32) (vP : Nat → Int32) (vN : Nat → Int32) (vG : Nat → Nat → Int32) (vU : Nat → Nat → Int32) (vR : Nat → Nat → Int32) : Option (Int32 × (Nat → Int32) × (Nat → Int32) × (Nat → Nat → Int32) × (Nat → Nat → Int32) × (Nat → Nat → Int32)) := (if 10 ≤ x3 then (L_X4_readText_87 vB FU x2 0 vP vN vG vU vR) else (if x2 = 0 then (L_X4_readText_87 vB FU x2 0 vP vN vG vU vR) else (F_X4_isWord_2 vP vB).bind (fun u1 => (if u1 = 0 then (L_X4_readText_87 vB FU x2 0 vP vN vG vU vR) else (F_X4_readGuest vP vG vB).bind (fun u2 => (if u2.1 = 0 then (rec 0 (x3 + 1) u2.2.1 vN u2.2.2 vU vR) else (F_X4_passSemicolon u2.2.1 vB).bind (fun u3 => (if u3.1 = 0 then (rec 0 (x3 + 1) u3.2 vN u2.2.2 vU vR) else (rec 1 (x3 + 1) u3.2 vN u2.2.2 vU vR)))))))))
def L_X4_readText_36 (vB : Nat → Nat → Int32) : Nat → Int32 → Int32 → (Nat → Int32) → (Nat → Int32) → (Nat → Nat → Int32) → (Nat → Nat → Int32) → (Nat → Nat → Int32) → Option (Int32 × (Nat → Int32) × (Nat → Int32) × (Nat → Nat → Int32) × (Nat → Nat → Int32) × (Nat → Nat → Int32))
  | 0 => fun _ _ _ _ _ _ _ => none
  | n + 1 => fun x2 x3 vP vN vG vU vR => B_X4_readText_36 (L_X4_readText_36 vB n) vB x2 x3 vP vN vG vU vR
def F_X4_readText (vP : Nat → Int32) (vN : Nat → Int32) (vG : Nat → Nat → Int32) (vU : Nat → Nat → Int32) (vR : Nat → Nat → Int32) (vB : Nat → Nat → Int32) : Option (Int32 × (Nat → Int32) × (Nat → Int32) × (Nat → Nat → Int32) × (Nat → Nat → Int32) × (Nat → Nat → Int32)) := (F_X3_clear vN vG vU vR).bind (fun u1 => lt (va_up vP 2 0) (fun vP_3 => (F_X4_advance vP_3 vB).bind (fun u2 => (F_X4_readHead u2 u1.1 vB).bind (fun u3 => (if u3.1 = 0 then (L_X4_readText_36 vB FU 0 0 u3.2.1 u3.2.2 u1.2.1 u1.2.2.1 u1.2.2.2) else (F_X4_passSemicolon u3.2.1 vB).bind (fun u4 => (if u4.1 = 0 then (L_X4_readText_36 vB FU 0 0 u4.2 u3.2.2 u1.2.1 u1.2.2.1 u1.2.2.2) else (L_X4_readText_36 vB FU 1 0 u4.2 u3.2.2 u1.2.1 u1.2.2.1 u1.2.2.2))))))))
abbrev rm_X4_readText : Room := { frames := 6, cells := 0, slots := 0, locals := 132 }
set_option maxHeartbeats 4000000 in
set_option maxRecDepth 100000 in
theorem c_X4_readText (E : Ev) (l : Launch) (aP : Nat) (aB : Nat → Nat) (aN : Nat) (aG : Nat → Nat) (aU : Nat → Nat) (aR : Nat → Nat) (vP : Nat → Int32) (vN : Nat → Int32) (vG : Nat → Nat → Int32) (vU : Nat → Nat → Int32) (vR : Nat → Nat → Int32) (vB : Nat → Nat → Int32) (r : Int32 × (Nat → Int32) × (Nat → Int32) × (Nat → Nat → Int32) × (Nat → Nat → Int32) × (Nat → Nat → Int32)) (hf : F_X4_readText vP vN vG vU vR vB = some r) : CM E l yX4_readText (.code yX4_readText cX4_readText 4 (some .int) :: GA) rm_X4_readText [.ref aP, .ref aN] (W_P aP aB vP ++ (W_N aN aG aU aR vN ++ (W_G E aG vG ++ (W_U E aU vU ++ (W_R E aR vR ++ (W_B E aB vB)))))) (some (.int r.1)) (W_P aP aB r.2.1 ++ (W_N aN aG aU aR r.2.2.1 ++ (W_G E aG r.2.2.2.1 ++ (W_U E aU r.2.2.2.2.1 ++ (W_R E aR r.2.2.2.2.2 ++ (W_B E aB vB)))))) := by
  refine CM.of (own := RX4) rfl (by decide) (Nat.le_of_ble_eq_true rfl) ?_
  intro p e s m below meth c A ls hx hb hr hml hown hg hlocks hK hE hA hP hD hS hl
  have hl : lv_has ls 4 [(0, .ref aP), (1, .ref aN)] := hl
  have jp_133 : ∀ (x2 : Int32) (vP : Nat → Int32) (vN : Nat → Int32) (vG : Nat → Nat → Int32) (vU : Nat → Nat → Int32) (vR : Nat → Nat → Int32) (H : Heap) (locs : List Loc) (ls : Array Slot), J_X4_readText_133 vB x2 vP vN vG vU vR = some r → va_P E.1 vwCl (W_P aP aB vP ++ (W_N aN aG aU aR vN ++ (W_G E aG vG ++ (W_U E aU vU ++ (W_R E aR vR ++ (W_B E aB vB)))))) H → va_D A (W_P aP aB vP ++ (W_N aN aG aU aR vN ++ (W_G E aG vG ++ (W_U E aU vU ++ (W_R E aR vR ++ (W_B E aB vB)))))) → va_S A s.heap H locs → lv_has ls 4 [(0, .ref aP), (2, .int x2)] → W p l e rm_X4_readText s m ([.ref aP, .ref aN] : List Value).toArray below meth c H locs 0 0 (MQ below (QW E (some (.int r.1)) (W_P aP aB r.2.1 ++ (W_N aN aG aU aR r.2.2.1 ++ (W_G E aG r.2.2.2.1 ++ (W_U E aU r.2.2.2.2.1 ++ (W_R E aR r.2.2.2.2.2 ++ (W_B E aB vB)))))) A) ([.ref aP, .ref aN] : List Value).toArray s 0 0 A) (F0 m 133 ls []) := by
    intro x2 vP vN vG vU vR H locs ls hf hP hD hS hl
    unfold J_X4_readText_133 at hf
    refine lv_iload_n hx hb dX4_readText_133 rfl (lv_at hl 1 rfl) ?_
    refine lv_if_eq (tgt := 148) hx hb dX4_readText_134 (by decide) (fun cq => ?_) (fun cq => ?_)
    · have hf := it cq hf
      refine lv_aload_n hx hb dX4_readText_148 rfl (lv_at hl 0 rfl) ?_
      refine gf_X4_15 hx hb hg hown hK hP 0 rfl rfl dX4_readText_149 ?_
      obtain rfl := Option.some.inj hf
      exact cm_iret hx hb hr hlocks hP hS dX4_readText_152
    · have hf := ie cq hf
      refine lv_aload_n hx hb dX4_readText_137 rfl (lv_at hl 0 rfl) ?_
      refine gf_X4_11 hx hb hg hown hK hP 0 rfl rfl dX4_readText_138 ?_
      refine lv_if_ne (tgt := 148) hx hb dX4_readText_141 (by decide) (fun cq => ?_) (fun cq => ?_)
      · have hf := ie cq hf
        refine lv_aload_n hx hb dX4_readText_148 rfl (lv_at hl 0 rfl) ?_
        refine gf_X4_15 hx hb hg hown hK hP 0 rfl rfl dX4_readText_149 ?_
        obtain rfl := Option.some.inj hf
        exact cm_iret hx hb hr hlocks hP hS dX4_readText_152
      · have hf := it cq hf
        refine lv_iconst (v := (-1)) hx hb dX4_readText_144 (by decide) ?_
        refine lv_goto (tgt := 152) hx hb dX4_readText_145 (by decide) ?_
        obtain rfl := Option.some.inj hf
        exact cm_iret hx hb hr hlocks hP hS dX4_readText_152
  have lp_87 : ∀ (n : Nat) (x2 : Int32) (x3 : Int32) (vP : Nat → Int32) (vN : Nat → Int32) (vG : Nat → Nat → Int32) (vU : Nat → Nat → Int32) (vR : Nat → Nat → Int32) (H : Heap) (locs : List Loc) (ls : Array Slot), L_X4_readText_87 vB n x2 x3 vP vN vG vU vR = some r → va_P E.1 vwCl (W_P aP aB vP ++ (W_N aN aG aU aR vN ++ (W_G E aG vG ++ (W_U E aU vU ++ (W_R E aR vR ++ (W_B E aB vB)))))) H → va_D A (W_P aP aB vP ++ (W_N aN aG aU aR vN ++ (W_G E aG vG ++ (W_U E aU vU ++ (W_R E aR vR ++ (W_B E aB vB)))))) → va_S A s.heap H locs → lv_has ls 4 [(0, .ref aP), (1, .ref aN), (2, .int x2), (3, .int x3)] → W p l e rm_X4_readText s m ([.ref aP, .ref aN] : List Value).toArray below meth c H locs 0 0 (MQ below (QW E (some (.int r.1)) (W_P aP aB r.2.1 ++ (W_N aN aG aU aR r.2.2.1 ++ (W_G E aG r.2.2.2.1 ++ (W_U E aU r.2.2.2.2.1 ++ (W_R E aR r.2.2.2.2.2 ++ (W_B E aB vB)))))) A) ([.ref aP, .ref aN] : List Value).toArray s 0 0 A) (F0 m 87 ls []) := by
    intro n
    induction n with
    | zero => intro x2 x3 vP vN vG vU vR H locs ls hf; cases hf
    | succ n ih =>
      intro x2 x3 vP vN vG vU vR H locs ls hf hP hD hS hl
      replace hf : B_X4_readText_87 (L_X4_readText_87 vB n) vB x2 x3 vP vN vG vU vR = some r := hf
      unfold B_X4_readText_87 at hf
      refine lv_iload_n hx hb dX4_readText_87 rfl (lv_at hl 3 rfl) ?_
      refine lv_bipush (v := 12) hx hb dX4_readText_88 (by decide) ?_
      refine lv_icmp_ge (tgt := 133) hx hb dX4_readText_90 (by decide) (fun cq => ?_) (fun cq => ?_)
      · have hf := it cq hf
        exact jp_133 _ _ _ _ _ _ _ _ _ hf hP hD hS (lv_sub hl [0, 2] rfl)
      · have hf := ie cq hf
        refine lv_iload_n hx hb dX4_readText_93 rfl (lv_at hl 2 rfl) ?_
        refine lv_if_eq (tgt := 133) hx hb dX4_readText_94 (by decide) (fun cq => ?_) (fun cq => ?_)
        · have hf := it cq hf
          exact jp_133 _ _ _ _ _ _ _ _ _ hf hP hD hS (lv_sub hl [0, 2] rfl)
        · have hf := ie cq hf
          refine lv_aload_n hx hb dX4_readText_97 rfl (lv_at hl 0 rfl) ?_
          refine va_ldcS hx hb hown (hE.2.2.2.2.2.1 ("NightPorter$Parser", 58, "umbrella", 4) (List.mem_of_getElem? (i := 4) rfl)) dX4_readText_98 ?_
          obtain ⟨u1, hu1, hf⟩ := bn hf
          refine cm_V (As := [.ref (E.2.2.2.2.2.1 4)]) (rest := []) (w2 := (W_P aP aB vP ++ (W_N aN aG aU aR vN ++ (W_G E aG vG ++ (W_U E aU vU ++ (W_R E aR vR ++ (W_B E aB vB))))))) hx hb hml hown hg (c_X4_isWord_4 E l aP aB vP vB u1 hu1) cy_X4_isWord ml_X4_46 ⟨⟨rfl, rfl⟩, Nat.le_of_ble_eq_true rfl, Nat.le_of_ble_eq_true rfl⟩ hK hE hP hD hS hA [true, false, false, false, false, false, false, false, false, false, false, false, false, false, false, false, false, false, false, true, true] rfl rfl rfl 0 rfl rfl rfl hl.1 rfl (Nat.le_of_ble_eq_true rfl) dX4_readText_100 ⟨Nat.le_of_ble_eq_true rfl, Nat.le_of_ble_eq_true rfl⟩ [.int u1] rfl (fun H locs hP hD hS => ?_)
          refine lv_if_eq (tgt := 133) hx hb dX4_readText_103 (by decide) (fun cq => ?_) (fun cq => ?_)
          · have hf := it cq hf
            exact jp_133 _ _ _ _ _ _ _ _ _ hf hP hD hS (lv_sub hl [0, 2] rfl)
          · have hf := ie cq hf
            refine lv_aload_n hx hb dX4_readText_106 rfl (lv_at hl 0 rfl) ?_
            refine lv_aload_n hx hb dX4_readText_107 rfl (lv_at hl 1 rfl) ?_
            obtain ⟨u2, hu2, hf⟩ := bn hf
            refine cm_V (As := [.ref aN]) (rest := []) (w2 := (W_P aP aB u2.2.1 ++ (W_N aN aG aU aR vN ++ (W_G E aG vG ++ (W_U E aU u2.2.2 ++ (W_R E aR vR ++ (W_B E aB vB))))))) hx hb hml hown hg (c_X4_readUmbrella E l aP aB aN aG aU aR vP vN vG vU vB u2 hu2) cy_X4_readUmbrella ml_X4_60 ⟨⟨rfl, rfl⟩, Nat.le_of_ble_eq_true rfl, Nat.le_of_ble_eq_true rfl⟩ hK hE hP hD hS hA [true, true, true, true, true, true, true, true, true, true, true, true, true, true, true, false, false, false, false, true, true] rfl rfl rfl 0 rfl rfl rfl hl.1 rfl (Nat.le_of_ble_eq_true rfl) dX4_readText_108 ⟨Nat.le_of_ble_eq_true rfl, Nat.le_of_ble_eq_true rfl⟩ [.int u2.1] rfl (fun H locs hP hD hS => ?_)
            refine lv_if_eq (tgt := 125) hx hb dX4_readText_111 (by decide) (fun cq => ?_) (fun cq => ?_)
            · have hf := it cq hf
              refine lv_iconst (v := 0) hx hb dX4_readText_125 (by decide) ?_
              refine lv_istore_n (lv' := [(2, .int 0), (0, .ref aP), (1, .ref aN), (3, .int x3)]) hx hb dX4_readText_126 rfl hl (by decide) rfl (fun ls hl => ?_)
              refine lv_iinc (v := (x3 + 1)) (lv' := [(3, .int (x3 + 1)), (2, .int 0), (0, .ref aP), (1, .ref aN)]) hx hb dX4_readText_127 hl (k := 3) rfl rfl (by decide) rfl (fun ls hl => ?_)
              refine lv_goto (tgt := 87) hx hb dX4_readText_130 (by decide) ?_
              exact ih _ _ _ _ _ _ _ _ _ _ hf hP hD hS (lv_sub hl [2, 3, 1, 0] rfl)
            · have hf := ie cq hf
              refine lv_aload_n hx hb dX4_readText_114 rfl (lv_at hl 0 rfl) ?_
              obtain ⟨u3, hu3, hf⟩ := bn hf
              refine cm_V (As := []) (rest := []) (w2 := (W_P aP aB u3.2 ++ (W_N aN aG aU aR vN ++ (W_G E aG vG ++ (W_U E aU u2.2.2 ++ (W_R E aR vR ++ (W_B E aB vB))))))) hx hb hml hown hg (c_X4_passSemicolon E l aP aB u2.2.1 vB u3 hu3) cy_X4_passSemicolon ml_X4_40 ⟨⟨rfl, rfl⟩, Nat.le_of_ble_eq_true rfl, Nat.le_of_ble_eq_true rfl⟩ hK hE hP hD hS hA [true, false, false, false, false, false, false, false, false, false, false, false, false, false, false, false, false, false, false, true, true] rfl rfl rfl 0 rfl rfl rfl hl.1 rfl (Nat.le_of_ble_eq_true rfl) dX4_readText_115 ⟨Nat.le_of_ble_eq_true rfl, Nat.le_of_ble_eq_true rfl⟩ [.int u3.1] rfl (fun H locs hP hD hS => ?_)
              refine lv_if_eq (tgt := 125) hx hb dX4_readText_118 (by decide) (fun cq => ?_) (fun cq => ?_)
              · have hf := it cq hf
                refine lv_iconst (v := 0) hx hb dX4_readText_125 (by decide) ?_
                refine lv_istore_n (lv' := [(2, .int 0), (0, .ref aP), (1, .ref aN), (3, .int x3)]) hx hb dX4_readText_126 rfl hl (by decide) rfl (fun ls hl => ?_)
                refine lv_iinc (v := (x3 + 1)) (lv' := [(3, .int (x3 + 1)), (2, .int 0), (0, .ref aP), (1, .ref aN)]) hx hb dX4_readText_127 hl (k := 3) rfl rfl (by decide) rfl (fun ls hl => ?_)
                refine lv_goto (tgt := 87) hx hb dX4_readText_130 (by decide) ?_
                exact ih _ _ _ _ _ _ _ _ _ _ hf hP hD hS (lv_sub hl [2, 3, 1, 0] rfl)
              · have hf := ie cq hf
                refine lv_iconst (v := 1) hx hb dX4_readText_121 (by decide) ?_
                refine lv_goto (tgt := 126) hx hb dX4_readText_122 (by decide) ?_
                refine lv_istore_n (lv' := [(2, .int 1), (0, .ref aP), (1, .ref aN), (3, .int x3)]) hx hb dX4_readText_126 rfl hl (by decide) rfl (fun ls hl => ?_)
                refine lv_iinc (v := (x3 + 1)) (lv' := [(3, .int (x3 + 1)), (2, .int 1), (0, .ref aP), (1, .ref aN)]) hx hb dX4_readText_127 hl (k := 3) rfl rfl (by decide) rfl (fun ls hl => ?_)
                refine lv_goto (tgt := 87) hx hb dX4_readText_130 (by decide) ?_
                exact ih _ _ _ _ _ _ _ _ _ _ hf hP hD hS (lv_sub hl [2, 3, 1, 0] rfl)
  have lp_36 : ∀ (n : Nat) (x2 : Int32) (x3 : Int32) (vP : Nat → Int32) (vN : Nat → Int32) (vG : Nat → Nat → Int32) (vU : Nat → Nat → Int32) (vR : Nat → Nat → Int32) (H : Heap) (locs : List Loc) (ls : Array Slot), L_X4_readText_36 vB n x2 x3 vP vN vG vU vR = some r → va_P E.1 vwCl (W_P aP aB vP ++ (W_N aN aG aU aR vN ++ (W_G E aG vG ++ (W_U E aU vU ++ (W_R E aR vR ++ (W_B E aB vB)))))) H → va_D A (W_P aP aB vP ++ (W_N aN aG aU aR vN ++ (W_G E aG vG ++ (W_U E aU vU ++ (W_R E aR vR ++ (W_B E aB vB)))))) → va_S A s.heap H locs → lv_has ls 4 [(0, .ref aP), (1, .ref aN), (2, .int x2), (3, .int x3)] → W p l e rm_X4_readText s m ([.ref aP, .ref aN] : List Value).toArray below meth c H locs 0 0 (MQ below (QW E (some (.int r.1)) (W_P aP aB r.2.1 ++ (W_N aN aG aU aR r.2.2.1 ++ (W_G E aG r.2.2.2.1 ++ (W_U E aU r.2.2.2.2.1 ++ (W_R E aR r.2.2.2.2.2 ++ (W_B E aB vB)))))) A) ([.ref aP, .ref aN] : List Value).toArray s 0 0 A) (F0 m 36 ls []) := by
    intro n
    induction n with
    | zero => intro x2 x3 vP vN vG vU vR H locs ls hf; cases hf
    | succ n ih =>
      intro x2 x3 vP vN vG vU vR H locs ls hf hP hD hS hl
      replace hf : B_X4_readText_36 (L_X4_readText_36 vB n) vB x2 x3 vP vN vG vU vR = some r := hf
      unfold B_X4_readText_36 at hf
      refine lv_iload_n hx hb dX4_readText_36 rfl (lv_at hl 3 rfl) ?_
      refine lv_bipush (v := 10) hx hb dX4_readText_37 (by decide) ?_
      refine lv_icmp_ge (tgt := 85) hx hb dX4_readText_39 (by decide) (fun cq => ?_) (fun cq => ?_)
      · have hf := it cq hf
        refine lv_iconst (v := 0) hx hb dX4_readText_85 (by decide) ?_
        refine lv_istore_n (lv' := [(3, .int 0), (0, .ref aP), (1, .ref aN), (2, .int x2)]) hx hb dX4_readText_86 rfl hl (by decide) rfl (fun ls hl => ?_)
        exact lp_87 FU _ _ _ _ _ _ _ _ _ _ hf hP hD hS (lv_sub hl [1, 2, 3, 0] rfl)
      · have hf := ie cq hf
        refine lv_iload_n hx hb dX4_readText_42 rfl (lv_at hl 2 rfl) ?_
        refine lv_if_eq (tgt := 85) hx hb dX4_readText_43 (by decide) (fun cq => ?_) (fun cq => ?_)
        · have hf := it cq hf
          refine lv_iconst (v := 0) hx hb dX4_readText_85 (by decide) ?_
          refine lv_istore_n (lv' := [(3, .int 0), (0, .ref aP), (1, .ref aN), (2, .int x2)]) hx hb dX4_readText_86 rfl hl (by decide) rfl (fun ls hl => ?_)
          exact lp_87 FU _ _ _ _ _ _ _ _ _ _ hf hP hD hS (lv_sub hl [1, 2, 3, 0] rfl)
        · have hf := ie cq hf
          refine lv_aload_n hx hb dX4_readText_46 rfl (lv_at hl 0 rfl) ?_
          refine va_ldcS hx hb hown (hE.2.2.2.2.2.1 ("NightPorter$Parser", 44, "guest", 2) (List.mem_of_getElem? (i := 2) rfl)) dX4_readText_47 ?_
          obtain ⟨u1, hu1, hf⟩ := bn hf
          refine cm_V (As := [.ref (E.2.2.2.2.2.1 2)]) (rest := []) (w2 := (W_P aP aB vP ++ (W_N aN aG aU aR vN ++ (W_G E aG vG ++ (W_U E aU vU ++ (W_R E aR vR ++ (W_B E aB vB))))))) hx hb hml hown hg (c_X4_isWord_2 E l aP aB vP vB u1 hu1) cy_X4_isWord ml_X4_46 ⟨⟨rfl, rfl⟩, Nat.le_of_ble_eq_true rfl, Nat.le_of_ble_eq_true rfl⟩ hK hE hP hD hS hA [true, false, false, false, false, false, false, false, false, false, false, false, false, false, false, false, false, false, false, true, true] rfl rfl rfl 0 rfl rfl rfl hl.1 rfl (Nat.le_of_ble_eq_true rfl) dX4_readText_49 ⟨Nat.le_of_ble_eq_true rfl, Nat.le_of_ble_eq_true rfl⟩ [.int u1] rfl (fun H locs hP hD hS => ?_)
          refine lv_if_eq (tgt := 85) hx hb dX4_readText_52 (by decide) (fun cq => ?_) (fun cq => ?_)
          · have hf := it cq hf
            refine lv_iconst (v := 0) hx hb dX4_readText_85 (by decide) ?_
            refine lv_istore_n (lv' := [(3, .int 0), (0, .ref aP), (1, .ref aN), (2, .int x2)]) hx hb dX4_readText_86 rfl hl (by decide) rfl (fun ls hl => ?_)
            exact lp_87 FU _ _ _ _ _ _ _ _ _ _ hf hP hD hS (lv_sub hl [1, 2, 3, 0] rfl)
          · have hf := ie cq hf
            refine lv_aload_n hx hb dX4_readText_55 rfl (lv_at hl 0 rfl) ?_
            refine lv_aload_n hx hb dX4_readText_56 rfl (lv_at hl 1 rfl) ?_
            refine gf_X4_50 hx hb hg hown hK hP 1 rfl rfl dX4_readText_57 ?_
            obtain ⟨u2, hu2, hf⟩ := bn hf
            refine cm_V (As := [.ref (aG 0)]) (rest := []) (w2 := (W_P aP aB u2.2.1 ++ (W_N aN aG aU aR vN ++ (W_G E aG u2.2.2 ++ (W_U E aU vU ++ (W_R E aR vR ++ (W_B E aB vB))))))) hx hb hml hown hg (c_X4_readGuest E l aP aB aG vP vG vB u2 hu2) cy_X4_readGuest ml_X4_54 ⟨⟨rfl, rfl⟩, Nat.le_of_ble_eq_true rfl, Nat.le_of_ble_eq_true rfl⟩ hK hE hP hD hS hA [true, false, true, true, true, true, true, true, true, true, true, false, false, false, false, false, false, false, false, true, true] rfl rfl rfl 0 rfl rfl rfl hl.1 rfl (Nat.le_of_ble_eq_true rfl) dX4_readText_60 ⟨Nat.le_of_ble_eq_true rfl, Nat.le_of_ble_eq_true rfl⟩ [.int u2.1] rfl (fun H locs hP hD hS => ?_)
            refine lv_if_eq (tgt := 77) hx hb dX4_readText_63 (by decide) (fun cq => ?_) (fun cq => ?_)
            · have hf := it cq hf
              refine lv_iconst (v := 0) hx hb dX4_readText_77 (by decide) ?_
              refine lv_istore_n (lv' := [(2, .int 0), (0, .ref aP), (1, .ref aN), (3, .int x3)]) hx hb dX4_readText_78 rfl hl (by decide) rfl (fun ls hl => ?_)
              refine lv_iinc (v := (x3 + 1)) (lv' := [(3, .int (x3 + 1)), (2, .int 0), (0, .ref aP), (1, .ref aN)]) hx hb dX4_readText_79 hl (k := 3) rfl rfl (by decide) rfl (fun ls hl => ?_)
              refine lv_goto (tgt := 36) hx hb dX4_readText_82 (by decide) ?_
              exact ih _ _ _ _ _ _ _ _ _ _ hf hP hD hS (lv_sub hl [2, 3, 1, 0] rfl)
            · have hf := ie cq hf
              refine lv_aload_n hx hb dX4_readText_66 rfl (lv_at hl 0 rfl) ?_
              obtain ⟨u3, hu3, hf⟩ := bn hf
              refine cm_V (As := []) (rest := []) (w2 := (W_P aP aB u3.2 ++ (W_N aN aG aU aR vN ++ (W_G E aG u2.2.2 ++ (W_U E aU vU ++ (W_R E aR vR ++ (W_B E aB vB))))))) hx hb hml hown hg (c_X4_passSemicolon E l aP aB u2.2.1 vB u3 hu3) cy_X4_passSemicolon ml_X4_40 ⟨⟨rfl, rfl⟩, Nat.le_of_ble_eq_true rfl, Nat.le_of_ble_eq_true rfl⟩ hK hE hP hD hS hA [true, false, false, false, false, false, false, false, false, false, false, false, false, false, false, false, false, false, false, true, true] rfl rfl rfl 0 rfl rfl rfl hl.1 rfl (Nat.le_of_ble_eq_true rfl) dX4_readText_67 ⟨Nat.le_of_ble_eq_true rfl, Nat.le_of_ble_eq_true rfl⟩ [.int u3.1] rfl (fun H locs hP hD hS => ?_)
              refine lv_if_eq (tgt := 77) hx hb dX4_readText_70 (by decide) (fun cq => ?_) (fun cq => ?_)
              · have hf := it cq hf
                refine lv_iconst (v := 0) hx hb dX4_readText_77 (by decide) ?_
                refine lv_istore_n (lv' := [(2, .int 0), (0, .ref aP), (1, .ref aN), (3, .int x3)]) hx hb dX4_readText_78 rfl hl (by decide) rfl (fun ls hl => ?_)
                refine lv_iinc (v := (x3 + 1)) (lv' := [(3, .int (x3 + 1)), (2, .int 0), (0, .ref aP), (1, .ref aN)]) hx hb dX4_readText_79 hl (k := 3) rfl rfl (by decide) rfl (fun ls hl => ?_)
                refine lv_goto (tgt := 36) hx hb dX4_readText_82 (by decide) ?_
                exact ih _ _ _ _ _ _ _ _ _ _ hf hP hD hS (lv_sub hl [2, 3, 1, 0] rfl)
              · have hf := ie cq hf
                refine lv_iconst (v := 1) hx hb dX4_readText_73 (by decide) ?_
                refine lv_goto (tgt := 78) hx hb dX4_readText_74 (by decide) ?_
                refine lv_istore_n (lv' := [(2, .int 1), (0, .ref aP), (1, .ref aN), (3, .int x3)]) hx hb dX4_readText_78 rfl hl (by decide) rfl (fun ls hl => ?_)
                refine lv_iinc (v := (x3 + 1)) (lv' := [(3, .int (x3 + 1)), (2, .int 1), (0, .ref aP), (1, .ref aN)]) hx hb dX4_readText_79 hl (k := 3) rfl rfl (by decide) rfl (fun ls hl => ?_)
                refine lv_goto (tgt := 36) hx hb dX4_readText_82 (by decide) ?_
                exact ih _ _ _ _ _ _ _ _ _ _ hf hP hD hS (lv_sub hl [2, 3, 1, 0] rfl)
  unfold F_X4_readText at hf
  refine lv_aload_n hx hb dX4_readText_0 rfl (lv_at hl 1 rfl) ?_
  obtain ⟨u1, hu1, hf⟩ := bn hf
  refine cm_V (As := []) (rest := []) (w2 := (W_P aP aB vP ++ (W_N aN aG aU aR u1.1 ++ (W_G E aG u1.2.1 ++ (W_U E aU u1.2.2.1 ++ (W_R E aR u1.2.2.2 ++ (W_B E aB vB))))))) hx hb hml hown hg (c_X3_clear E l aN aG aU aR vN vG vU vR u1 hu1) cy_X3_clear ml_X4_28 ⟨⟨rfl, rfl⟩, Nat.le_of_ble_eq_true rfl, Nat.le_of_ble_eq_true rfl⟩ hK hE hP hD hS hA [false, true, true, true, true, true, true, true, true, true, true, true, true, true, true, true, true, true, true] rfl rfl rfl 1 rfl rfl rfl hl.1 rfl (Nat.le_of_ble_eq_true rfl) dX4_readText_1 ⟨Nat.le_of_ble_eq_true rfl, Nat.le_of_ble_eq_true rfl⟩ [] rfl (fun H locs hP hD hS => ?_)
  refine lv_aload_n hx hb dX4_readText_4 rfl (lv_at hl 0 rfl) ?_
  refine lv_iconst (v := 0) hx hb dX4_readText_5 (by decide) ?_
  refine pf_X4_18 (w2 := (W_P aP aB (va_up vP 2 0) ++ (W_N aN aG aU aR u1.1 ++ (W_G E aG u1.2.1 ++ (W_U E aU u1.2.2.1 ++ (W_R E aR u1.2.2.2 ++ (W_B E aB vB))))))) hx hb hg hown hK hP hD hS 0 rfl (Nat.le_of_ble_eq_true rfl) rfl dX4_readText_6 (fun H locs hP hD hS => ?_)
  obtain ⟨vP_3, hv, hf⟩ := lt_o hf
  rw [← hv] at hP hD
  clear hv
  refine lv_aload_n hx hb dX4_readText_9 rfl (lv_at hl 0 rfl) ?_
  obtain ⟨u2, hu2, hf⟩ := bn hf
  refine cm_V (As := []) (rest := []) (w2 := (W_P aP aB u2 ++ (W_N aN aG aU aR u1.1 ++ (W_G E aG u1.2.1 ++ (W_U E aU u1.2.2.1 ++ (W_R E aR u1.2.2.2 ++ (W_B E aB vB))))))) hx hb hml hown hg (c_X4_advance E l aP aB vP_3 vB u2 hu2) cy_X4_advance ml_X4_33 ⟨⟨rfl, rfl⟩, Nat.le_of_ble_eq_true rfl, Nat.le_of_ble_eq_true rfl⟩ hK hE hP hD hS hA [true, false, false, false, false, false, false, false, false, false, false, false, false, false, false, false, false, false, false, true, true] rfl rfl rfl 0 rfl rfl rfl hl.1 rfl (Nat.le_of_ble_eq_true rfl) dX4_readText_10 ⟨Nat.le_of_ble_eq_true rfl, Nat.le_of_ble_eq_true rfl⟩ [] rfl (fun H locs hP hD hS => ?_)
  refine lv_aload_n hx hb dX4_readText_13 rfl (lv_at hl 0 rfl) ?_
  refine lv_aload_n hx hb dX4_readText_14 rfl (lv_at hl 1 rfl) ?_
  obtain ⟨u3, hu3, hf⟩ := bn hf
  refine cm_V (As := [.ref aN]) (rest := []) (w2 := (W_P aP aB u3.2.1 ++ (W_N aN aG aU aR u3.2.2 ++ (W_G E aG u1.2.1 ++ (W_U E aU u1.2.2.1 ++ (W_R E aR u1.2.2.2 ++ (W_B E aB vB))))))) hx hb hml hown hg (c_X4_readHead E l aP aB aN aG aU aR u2 u1.1 vB u3 hu3) cy_X4_readHead ml_X4_36 ⟨⟨rfl, rfl⟩, Nat.le_of_ble_eq_true rfl, Nat.le_of_ble_eq_true rfl⟩ hK hE hP hD hS hA [true, true, false, false, false, false, false, false, false, false, false, false, false, false, false, false, false, false, false, true, true] rfl rfl rfl 0 rfl rfl rfl hl.1 rfl (Nat.le_of_ble_eq_true rfl) dX4_readText_15 ⟨Nat.le_of_ble_eq_true rfl, Nat.le_of_ble_eq_true rfl⟩ [.int u3.1] rfl (fun H locs hP hD hS => ?_)
  refine lv_if_eq (tgt := 32) hx hb dX4_readText_18 (by decide) (fun cq => ?_) (fun cq => ?_)
  · have hf := it cq hf
    refine lv_iconst (v := 0) hx hb dX4_readText_32 (by decide) ?_
    refine lv_istore_n (lv' := [(2, .int 0), (0, .ref aP), (1, .ref aN)]) hx hb dX4_readText_33 rfl hl (by decide) rfl (fun ls hl => ?_)
    refine lv_iconst (v := 0) hx hb dX4_readText_34 (by decide) ?_
    refine lv_istore_n (lv' := [(3, .int 0), (2, .int 0), (0, .ref aP), (1, .ref aN)]) hx hb dX4_readText_35 rfl hl (by decide) rfl (fun ls hl => ?_)
    exact lp_36 FU _ _ _ _ _ _ _ _ _ _ hf hP hD hS (lv_sub hl [2, 3, 1, 0] rfl)
  · have hf := ie cq hf
    refine lv_aload_n hx hb dX4_readText_21 rfl (lv_at hl 0 rfl) ?_
    obtain ⟨u4, hu4, hf⟩ := bn hf
    refine cm_V (As := []) (rest := []) (w2 := (W_P aP aB u4.2 ++ (W_N aN aG aU aR u3.2.2 ++ (W_G E aG u1.2.1 ++ (W_U E aU u1.2.2.1 ++ (W_R E aR u1.2.2.2 ++ (W_B E aB vB))))))) hx hb hml hown hg (c_X4_passSemicolon E l aP aB u3.2.1 vB u4 hu4) cy_X4_passSemicolon ml_X4_40 ⟨⟨rfl, rfl⟩, Nat.le_of_ble_eq_true rfl, Nat.le_of_ble_eq_true rfl⟩ hK hE hP hD hS hA [true, false, false, false, false, false, false, false, false, false, false, false, false, false, false, false, false, false, false, true, true] rfl rfl rfl 0 rfl rfl rfl hl.1 rfl (Nat.le_of_ble_eq_true rfl) dX4_readText_22 ⟨Nat.le_of_ble_eq_true rfl, Nat.le_of_ble_eq_true rfl⟩ [.int u4.1] rfl (fun H locs hP hD hS => ?_)
    refine lv_if_eq (tgt := 32) hx hb dX4_readText_25 (by decide) (fun cq => ?_) (fun cq => ?_)
    · have hf := it cq hf
      refine lv_iconst (v := 0) hx hb dX4_readText_32 (by decide) ?_
      refine lv_istore_n (lv' := [(2, .int 0), (0, .ref aP), (1, .ref aN)]) hx hb dX4_readText_33 rfl hl (by decide) rfl (fun ls hl => ?_)
      refine lv_iconst (v := 0) hx hb dX4_readText_34 (by decide) ?_
      refine lv_istore_n (lv' := [(3, .int 0), (2, .int 0), (0, .ref aP), (1, .ref aN)]) hx hb dX4_readText_35 rfl hl (by decide) rfl (fun ls hl => ?_)
      exact lp_36 FU _ _ _ _ _ _ _ _ _ _ hf hP hD hS (lv_sub hl [2, 3, 1, 0] rfl)
    · have hf := ie cq hf
      refine lv_iconst (v := 1) hx hb dX4_readText_28 (by decide) ?_
      refine lv_goto (tgt := 33) hx hb dX4_readText_29 (by decide) ?_
      refine lv_istore_n (lv' := [(2, .int 1), (0, .ref aP), (1, .ref aN)]) hx hb dX4_readText_33 rfl hl (by decide) rfl (fun ls hl => ?_)
      refine lv_iconst (v := 0) hx hb dX4_readText_34 (by decide) ?_
      refine lv_istore_n (lv' := [(3, .int 0), (2, .int 1), (0, .ref aP), (1, .ref aN)]) hx hb dX4_readText_35 rfl hl (by decide) rfl (fun ls hl => ?_)
      exact lp_36 FU _ _ _ _ _ _ _ _ _ _ hf hP hD hS (lv_sub hl [2, 3, 1, 0] rfl)
