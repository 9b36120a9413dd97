def B_X4_takeWord_0 (rec : (Nat → Int32) → Option ((Nat → Int32))) (vB : Nat → Nat → Int32) (vP : Nat → Int32) : Option ((Nat → Int32)) := (if (vB 0 0) ≤ (vP 2) then lt (va_up vP 0 1) (fun vP_16 => (some vP_16)) else ck (vP 2) 600 ((F_X8_isLetter (vB 1 (Int32.toNatClampNeg (vP 2)))).bind (fun u1 => (if u1 = 0 then lt (va_up vP 0 1) (fun vP_17 => (some vP_17)) else lt (va_up vP 2 ((vP 2) + 1)) (fun vP_18 => (rec vP_18))))))
def L_X4_takeWord_0 (vB : Nat → Nat → Int32) : Nat → (Nat → Int32) → Option ((Nat → Int32))
  | 0 => fun _ => none
  | n + 1 => fun vP => B_X4_takeWord_0 (L_X4_takeWord_0 vB n) vB vP
def F_X4_takeWord (vP : Nat → Int32) (vB : Nat → Nat → Int32) : Option ((Nat → Int32)) := (L_X4_takeWord_0 vB FU vP)
abbrev rm_X4_takeWord : Room := { frames := 1, cells := 0, slots := 0, locals := 20 }
set_option maxHeartbeats 4000000 in
set_option maxRecDepth 100000 in
theorem c_X4_takeWord (E : Ev) (l : Launch) (aP : Nat) (aB : Nat → Nat) (vP : Nat → Int32) (vB : Nat → Nat → Int32) (r : (Nat → Int32)) (hf : F_X4_takeWord vP vB = some r) : CM E l yX4_takeWord (.code yX4_takeWord cX4_takeWord 1 none :: GA) rm_X4_takeWord [.ref aP] (W_P aP aB vP ++ (W_B E aB vB)) none (W_P aP aB r ++ (W_B E aB vB)) := by
  refine CM.of (own := RX4) rfl (by decide) (Nat.le_of_ble_eq_true rfl) ?_
  intro p e s m below meth c A ls hx hb hr hml hown hg hlocks hK hA hP hD hS hl
  have hl : lv_has ls 1 [(0, .ref aP)] := hl
  have lp_0 : ∀ (n : Nat) (vP : Nat → Int32) (H : Heap) (locs : List Loc) (ls : Array Slot), L_X4_takeWord_0 vB n vP = some r → va_P E.1 vwCl (W_P aP aB vP ++ (W_B E aB vB)) H → va_D A (W_P aP aB vP ++ (W_B E aB vB)) → va_S A s.heap H locs → lv_has ls 1 [(0, .ref aP)] → W p l e rm_X4_takeWord s m ([.ref aP] : List Value).toArray below meth c H locs 0 0 (MQ below (QW E none (W_P aP aB r ++ (W_B E aB vB)) A) ([.ref aP] : List Value).toArray s 0 0 A) (F0 m 0 ls []) := by
    intro n
    induction n with
    | zero => intro vP H locs ls hf; cases hf
    | succ n ih =>
      intro vP H locs ls hf hP hD hS hl
      replace hf : B_X4_takeWord_0 (L_X4_takeWord_0 vB n) vB vP = some r := hf
      unfold B_X4_takeWord_0 at hf
      refine lv_aload_n hx hb dX4_takeWord_0 rfl (lv_at hl 0 rfl) ?_
      refine gf_X4_18 hx hb hg hown hK hP 0 rfl rfl dX4_takeWord_1 ?_
      refine lv_aload_n hx hb dX4_takeWord_4 rfl (lv_at hl 0 rfl) ?_
      refine gf_X4_24 hx hb hg hown hK hP 0 rfl rfl dX4_takeWord_5 ?_
      refine gf_X4_112 hx hb hg hown hK hP 1 rfl rfl dX4_takeWord_8 ?_
      refine lv_icmp_ge (tgt := 45) hx hb dX4_takeWord_11 (by decide) (fun c => ?_) (fun c => ?_)
      · have hf := it c hf
        refine lv_aload_n hx hb dX4_takeWord_45 rfl (lv_at hl 0 rfl) ?_
        refine lv_iconst (v := 1) hx hb dX4_takeWord_46 (by decide) ?_
        refine pf_X4_11 (w2 := (W_P aP aB (va_up vP 0 1) ++ (W_B E aB vB))) hx hb hg hown hK hP hD hS 0 rfl (Nat.le_of_ble_eq_true rfl) rfl dX4_takeWord_47 (fun H locs hP hD hS => ?_)
        obtain ⟨vP_16, hv, hf⟩ := lt_o hf
        rw [← hv] at hP hD
        clear hv
        obtain rfl := Option.some.inj hf
        exact cm_vret hx hb hr hlocks hP hS dX4_takeWord_50
      · have hf := ie c hf
        refine lv_aload_n hx hb dX4_takeWord_14 rfl (lv_at hl 0 rfl) ?_
        refine gf_X4_24 hx hb hg hown hK hP 0 rfl rfl dX4_takeWord_15 ?_
        refine gf_X4_102 hx hb hg hown hK hP 1 rfl rfl dX4_takeWord_18 ?_
        refine lv_aload_n hx hb dX4_takeWord_21 rfl (lv_at hl 0 rfl) ?_
        refine gf_X4_18 hx hb hg hown hK hP 0 rfl rfl dX4_takeWord_22 ?_
        obtain ⟨hi, hf⟩ := ck_o hf
        refine ar_ld hx hb hK hP 2 rfl hi dX4_takeWord_25 ?_
        obtain ⟨u1, hu1, hf⟩ := bn hf
        refine cm_SN (host := "NightPorter") (As := [.int (vB 1 (Int32.toNatClampNeg (vP 2)))]) (rest := []) (w2 := (W_P aP aB vP ++ (W_B E aB vB))) hx hb hml hown hg (c_X8_isLetter E l (vB 1 (Int32.toNatClampNeg (vP 2))) u1 hu1) cs_X8_isLetter (by decide) ⟨⟨rfl, rfl⟩, Nat.le_of_ble_eq_true rfl, Nat.le_of_ble_eq_true rfl⟩ hK hP hD hS hA [] rfl rfl rfl rfl hl.1 rfl (Nat.le_of_ble_eq_true rfl) dX4_takeWord_26 ⟨Nat.le_refl _, Nat.le_refl _⟩ [.int u1] rfl (fun H locs hP hD hS => ?_)
        refine lv_if_eq (tgt := 45) hx hb dX4_takeWord_29 (by decide) (fun c => ?_) (fun c => ?_)
        · have hf := it c hf
          refine lv_aload_n hx hb dX4_takeWord_45 rfl (lv_at hl 0 rfl) ?_
          refine lv_iconst (v := 1) hx hb dX4_takeWord_46 (by decide) ?_
          refine pf_X4_11 (w2 := (W_P aP aB (va_up vP 0 1) ++ (W_B E aB vB))) hx hb hg hown hK hP hD hS 0 rfl (Nat.le_of_ble_eq_true rfl) rfl dX4_takeWord_47 (fun H locs hP hD hS => ?_)
          obtain ⟨vP_17, hv, hf⟩ := lt_o hf
          rw [← hv] at hP hD
          clear hv
          obtain rfl := Option.some.inj hf
          exact cm_vret hx hb hr hlocks hP hS dX4_takeWord_50
        · have hf := ie c hf
          refine lv_aload_n hx hb dX4_takeWord_32 rfl (lv_at hl 0 rfl) ?_
          refine lv_dup hx hb dX4_takeWord_33 rfl ?_
          refine gf_X4_18 hx hb hg hown hK hP 0 rfl rfl dX4_takeWord_34 ?_
          refine lv_iconst (v := 1) hx hb dX4_takeWord_37 (by decide) ?_
          refine lv_iadd hx hb dX4_takeWord_38 ?_
          refine pf_X4_18 (w2 := (W_P aP aB (va_up vP 2 ((vP 2) + 1)) ++ (W_B E aB vB))) hx hb hg hown hK hP hD hS 0 rfl (Nat.le_of_ble_eq_true rfl) rfl dX4_takeWord_39 (fun H locs hP hD hS => ?_)
          obtain ⟨vP_18, hv, hf⟩ := lt_o hf
          rw [← hv] at hP hD
          clear hv
          refine lv_goto (tgt := 0) hx hb dX4_takeWord_42 (by decide) ?_
          exact ih _ _ _ _ hf hP hD hS (lv_sub hl [0] rfl)
  unfold F_X4_takeWord at hf
  exact lp_0 FU _ _ _ _ hf hP hD hS (lv_sub hl [0] rfl)
def J_X4_takeNumber_77 (vB : Nat → Nat → Int32) (vP : Nat → Int32) : Option ((Nat → Int32)) := lt (va_up vP 0 (if ((vP 2) - (vP 1)) ≤ 3 then 2 else 4)) (fun vP_12 => (some vP_12))
def B_X4_takeNumber_5 (rec : (Nat → Int32) → Option ((Nat → Int32))) (vB : Nat → Nat → Int32) (vP : Nat → Int32) : Option ((Nat → Int32)) := (if (vB 0 0) ≤ (vP 2) then (J_X4_takeNumber_77 vB vP) else ck (vP 2) 600 ((F_X8_isDigit (vB 1 (Int32.toNatClampNeg (vP 2)))).bind (fun u1 => (if u1 = 0 then (J_X4_takeNumber_77 vB vP) else ck (vP 2) 600 (lt (va_up vP 3 ((((vP 3) * 10) + (vB 1 (Int32.toNatClampNeg (vP 2)))) - 48)) (fun vP_13 => lt (va_up vP_13 2 ((vP_13 2) + 1)) (fun vP_14 => (rec vP_14))))))))
def L_X4_takeNumber_5 (vB : Nat → Nat → Int32) : Nat → (Nat → Int32) → Option ((Nat → Int32))
  | 0 => fun _ => none
  | n + 1 => fun vP => B_X4_takeNumber_5 (L_X4_takeNumber_5 vB n) vB vP
def F_X4_takeNumber (vP : Nat → Int32) (vB : Nat → Nat → Int32) : Option ((Nat → Int32)) := lt (va_up vP 3 0) (fun vP_15 => (L_X4_takeNumber_5 vB FU vP_15))
abbrev rm_X4_takeNumber : Room := { frames := 1, cells := 0, slots := 0, locals := 20 }
set_option maxHeartbeats 4000000 in
set_option maxRecDepth 100000 in
theorem c_X4_takeNumber (E : Ev) (l : Launch) (aP : Nat) (aB : Nat → Nat) (vP : Nat → Int32) (vB : Nat → Nat → Int32) (r : (Nat → Int32)) (hf : F_X4_takeNumber vP vB = some r) : CM E l yX4_takeNumber (.code yX4_takeNumber cX4_takeNumber 1 none :: GA) rm_X4_takeNumber [.ref aP] (W_P aP aB vP ++ (W_B E aB vB)) none (W_P aP aB r ++ (W_B E aB vB)) := by
  refine CM.of (own := RX4) rfl (by decide) (Nat.le_of_ble_eq_true rfl) ?_
  intro p e s m below meth c A ls hx hb hr hml hown hg hlocks hK hA hP hD hS hl
  have hl : lv_has ls 1 [(0, .ref aP)] := hl
  have jp_77 : ∀ (vP : Nat → Int32) (H : Heap) (locs : List Loc) (ls : Array Slot), J_X4_takeNumber_77 vB vP = some r → va_P E.1 vwCl (W_P aP aB vP ++ (W_B E aB vB)) H → va_D A (W_P aP aB vP ++ (W_B E aB vB)) → va_S A s.heap H locs → lv_has ls 1 [(0, .ref aP)] → W p l e rm_X4_takeNumber s m ([.ref aP] : List Value).toArray below meth c H locs 0 0 (MQ below (QW E none (W_P aP aB r ++ (W_B E aB vB)) A) ([.ref aP] : List Value).toArray s 0 0 A) (F0 m 77 ls []) := by
    intro vP H locs ls hf hP hD hS hl
    unfold J_X4_takeNumber_77 at hf
    refine lv_aload_n hx hb dX4_takeNumber_77 rfl (lv_at hl 0 rfl) ?_
    refine lv_aload_n hx hb dX4_takeNumber_78 rfl (lv_at hl 0 rfl) ?_
    refine gf_X4_18 hx hb hg hown hK hP 0 rfl rfl dX4_takeNumber_79 ?_
    refine lv_aload_n hx hb dX4_takeNumber_82 rfl (lv_at hl 0 rfl) ?_
    refine gf_X4_15 hx hb hg hown hK hP 0 rfl rfl dX4_takeNumber_83 ?_
    refine lv_isub hx hb dX4_takeNumber_86 ?_
    refine lv_iconst (v := 3) hx hb dX4_takeNumber_87 (by decide) ?_
    refine wj (F0 m 96 ls [.int (if ((vP 2) - (vP 1)) ≤ 3 then 2 else 4), .ref aP]) ?_ (fun jk => ?_)
    rotate_left
    · refine lv_icmp_le (tgt := 95) hx hb dX4_takeNumber_88 (by decide) (fun c => ?_) (fun c => ?_)
      · rw [if_pos c] at jk
        refine lv_iconst (v := 2) hx hb dX4_takeNumber_95 (by decide) ?_
        exact jk
      · rw [if_neg c] at jk
        refine lv_iconst (v := 4) hx hb dX4_takeNumber_91 (by decide) ?_
        refine lv_goto (tgt := 96) hx hb dX4_takeNumber_92 (by decide) ?_
        exact jk
    refine pf_X4_11 (w2 := (W_P aP aB (va_up vP 0 (if ((vP 2) - (vP 1)) ≤ 3 then 2 else 4)) ++ (W_B E aB vB))) hx hb hg hown hK hP hD hS 0 rfl (Nat.le_of_ble_eq_true rfl) rfl dX4_takeNumber_96 (fun H locs hP hD hS => ?_)
    obtain ⟨vP_12, hv, hf⟩ := lt_o hf
    rw [← hv] at hP hD
    clear hv
    obtain rfl := Option.some.inj hf
    exact cm_vret hx hb hr hlocks hP hS dX4_takeNumber_99
  have lp_5 : ∀ (n : Nat) (vP : Nat → Int32) (H : Heap) (locs : List Loc) (ls : Array Slot), L_X4_takeNumber_5 vB n vP = some r → va_P E.1 vwCl (W_P aP aB vP ++ (W_B E aB vB)) H → va_D A (W_P aP aB vP ++ (W_B E aB vB)) → va_S A s.heap H locs → lv_has ls 1 [(0, .ref aP)] → W p l e rm_X4_takeNumber s m ([.ref aP] : List Value).toArray below meth c H locs 0 0 (MQ below (QW E none (W_P aP aB r ++ (W_B E aB vB)) A) ([.ref aP] : List Value).toArray s 0 0 A) (F0 m 5 ls []) := by
    intro n
    induction n with
    | zero => intro vP H locs ls hf; cases hf
    | succ n ih =>
      intro vP H locs ls hf hP hD hS hl
      replace hf : B_X4_takeNumber_5 (L_X4_takeNumber_5 vB n) vB vP = some r := hf
      unfold B_X4_takeNumber_5 at hf
      refine lv_aload_n hx hb dX4_takeNumber_5 rfl (lv_at hl 0 rfl) ?_
      refine gf_X4_18 hx hb hg hown hK hP 0 rfl rfl dX4_takeNumber_6 ?_
      refine lv_aload_n hx hb dX4_takeNumber_9 rfl (lv_at hl 0 rfl) ?_
      refine gf_X4_24 hx hb hg hown hK hP 0 rfl rfl dX4_takeNumber_10 ?_
      refine gf_X4_112 hx hb hg hown hK hP 1 rfl rfl dX4_takeNumber_13 ?_
      refine lv_icmp_ge (tgt := 77) hx hb dX4_takeNumber_16 (by decide) (fun c => ?_) (fun c => ?_)
      · have hf := it c hf
        exact jp_77 _ _ _ _ hf hP hD hS (lv_sub hl [0] rfl)
      · have hf := ie c hf
        refine lv_aload_n hx hb dX4_takeNumber_19 rfl (lv_at hl 0 rfl) ?_
        refine gf_X4_24 hx hb hg hown hK hP 0 rfl rfl dX4_takeNumber_20 ?_
        refine gf_X4_102 hx hb hg hown hK hP 1 rfl rfl dX4_takeNumber_23 ?_
        refine lv_aload_n hx hb dX4_takeNumber_26 rfl (lv_at hl 0 rfl) ?_
        refine gf_X4_18 hx hb hg hown hK hP 0 rfl rfl dX4_takeNumber_27 ?_
        obtain ⟨hi, hf⟩ := ck_o hf
        refine ar_ld hx hb hK hP 2 rfl hi dX4_takeNumber_30 ?_
        obtain ⟨u1, hu1, hf⟩ := bn hf
        refine cm_SN (host := "NightPorter") (As := [.int (vB 1 (Int32.toNatClampNeg (vP 2)))]) (rest := []) (w2 := (W_P aP aB vP ++ (W_B E aB vB))) hx hb hml hown hg (c_X8_isDigit E l (vB 1 (Int32.toNatClampNeg (vP 2))) u1 hu1) cs_X8_isDigit (by decide) ⟨⟨rfl, rfl⟩, Nat.le_of_ble_eq_true rfl, Nat.le_of_ble_eq_true rfl⟩ hK hP hD hS hA [] rfl rfl rfl rfl hl.1 rfl (Nat.le_of_ble_eq_true rfl) dX4_takeNumber_31 ⟨Nat.le_refl _, Nat.le_refl _⟩ [.int u1] rfl (fun H locs hP hD hS => ?_)
        refine lv_if_eq (tgt := 77) hx hb dX4_takeNumber_34 (by decide) (fun c => ?_) (fun c => ?_)
        · have hf := it c hf
          exact jp_77 _ _ _ _ hf hP hD hS (lv_sub hl [0] rfl)
        · have hf := ie c hf
          refine lv_aload_n hx hb dX4_takeNumber_37 rfl (lv_at hl 0 rfl) ?_
          refine lv_aload_n hx hb dX4_takeNumber_38 rfl (lv_at hl 0 rfl) ?_
          refine gf_X4_21 hx hb hg hown hK hP 0 rfl rfl dX4_takeNumber_39 ?_
          refine lv_bipush (v := 10) hx hb dX4_takeNumber_42 (by decide) ?_
          refine lv_imul hx hb dX4_takeNumber_44 ?_
          refine lv_aload_n hx hb dX4_takeNumber_45 rfl (lv_at hl 0 rfl) ?_
          refine gf_X4_24 hx hb hg hown hK hP 0 rfl rfl dX4_takeNumber_46 ?_
          refine gf_X4_102 hx hb hg hown hK hP 1 rfl rfl dX4_takeNumber_49 ?_
          refine lv_aload_n hx hb dX4_takeNumber_52 rfl (lv_at hl 0 rfl) ?_
          refine gf_X4_18 hx hb hg hown hK hP 0 rfl rfl dX4_takeNumber_53 ?_
          obtain ⟨hi, hf⟩ := ck_o hf
          refine ar_ld hx hb hK hP 2 rfl hi dX4_takeNumber_56 ?_
          refine lv_iadd hx hb dX4_takeNumber_57 ?_
          refine lv_bipush (v := 48) hx hb dX4_takeNumber_58 (by decide) ?_
          refine lv_isub hx hb dX4_takeNumber_60 ?_
          refine pf_X4_21 (w2 := (W_P aP aB (va_up vP 3 ((((vP 3) * 10) + (vB 1 (Int32.toNatClampNeg (vP 2)))) - 48)) ++ (W_B E aB vB))) hx hb hg hown hK hP hD hS 0 rfl (Nat.le_of_ble_eq_true rfl) rfl dX4_takeNumber_61 (fun H locs hP hD hS => ?_)
          obtain ⟨vP_13, hv, hf⟩ := lt_o hf
          rw [← hv] at hP hD
          clear hv
          refine lv_aload_n hx hb dX4_takeNumber_64 rfl (lv_at hl 0 rfl) ?_
          refine lv_dup hx hb dX4_takeNumber_65 rfl ?_
          refine gf_X4_18 hx hb hg hown hK hP 0 rfl rfl dX4_takeNumber_66 ?_
          refine lv_iconst (v := 1) hx hb dX4_takeNumber_69 (by decide) ?_
          refine lv_iadd hx hb dX4_takeNumber_70 ?_
          refine pf_X4_18 (w2 := (W_P aP aB (va_up vP_13 2 ((vP_13 2) + 1)) ++ (W_B E aB vB))) hx hb hg hown hK hP hD hS 0 rfl (Nat.le_of_ble_eq_true rfl) rfl dX4_takeNumber_71 (fun H locs hP hD hS => ?_)
          obtain ⟨vP_14, hv, hf⟩ := lt_o hf
          rw [← hv] at hP hD
          clear hv
          refine lv_goto (tgt := 5) hx hb dX4_takeNumber_74 (by decide) ?_
          exact ih _ _ _ _ hf hP hD hS (lv_sub hl [0] rfl)
  unfold F_X4_takeNumber at hf
  refine lv_aload_n hx hb dX4_takeNumber_0 rfl (lv_at hl 0 rfl) ?_
  refine lv_iconst (v := 0) hx hb dX4_takeNumber_1 (by decide) ?_
  refine pf_X4_21 (w2 := (W_P aP aB (va_up vP 3 0) ++ (W_B E aB vB))) hx hb hg hown hK hP hD hS 0 rfl (Nat.le_of_ble_eq_true rfl) rfl dX4_takeNumber_2 (fun H locs hP hD hS => ?_)
  obtain ⟨vP_15, hv, hf⟩ := lt_o hf
  rw [← hv] at hP hD
  clear hv
  exact lp_5 FU _ _ _ _ hf hP hD hS (lv_sub hl [0] rfl)
def J_X4_advance_53 (vB : Nat → Nat → Int32) (vP : Nat → Int32) : Option ((Nat → Int32)) := lt (va_up vP 2 (vP 1)) (fun vP_18 => (if (vP_18 1) < (vB 0 0) then ck (vP_18 1) 600 ((F_X8_isLetter (vB 1 (Int32.toNatClampNeg (vP_18 1)))).bind (fun u1 => (if u1 = 0 then ck (vP_18 1) 600 ((F_X8_isDigit (vB 1 (Int32.toNatClampNeg (vP_18 1)))).bind (fun u2 => (if u2 = 0 then ck (vP_18 1) 600 (lt (va_up vP_18 0 (if (vB 1 (Int32.toNatClampNeg (vP_18 1))) = 59 then 3 else 4)) (fun vP_19 => lt (va_up vP_19 2 ((vP_19 1) + 1)) (fun vP_20 => (some vP_20)))) else (F_X4_takeNumber vP_18 vB).bind (fun u3 => (some u3))))) else (F_X4_takeWord vP_18 vB).bind (fun u4 => (some u4))))) else lt (va_up vP_18 0 0) (fun vP_21 => (some vP_21))))
def B_X4_advance_8 (rec : (Nat → Int32) → Option ((Nat → Int32))) (vB : Nat → Nat → Int32) (vP : Nat → Int32) : Option ((Nat → Int32)) := (if (vB 0 0) ≤ (vP 1) then (J_X4_advance_53 vB vP) else ck (vP 1) 600 ((F_X8_isBlank (vB 1 (Int32.toNatClampNeg (vP 1)))).bind (fun u1 => (if u1 = 0 then (J_X4_advance_53 vB vP) else lt (va_up vP 1 ((vP 1) + 1)) (fun vP_22 => (rec vP_22))))))
def L_X4_advance_8 (vB : Nat → Nat → Int32) : Nat → (Nat → Int32) → Option ((Nat → Int32))
  | 0 => fun _ => none
  | n + 1 => fun vP => B_X4_advance_8 (L_X4_advance_8 vB n) vB vP
def F_X4_advance (vP : Nat → Int32) (vB : Nat → Nat → Int32) : Option ((Nat → Int32)) := lt (va_up vP 1 (vP 2)) (fun vP_23 => (L_X4_advance_8 vB FU vP_23))
abbrev rm_X4_advance : Room := { frames := 2, cells := 0, slots := 0, locals := 40 }
set_option maxHeartbeats 4000000 in
set_option maxRecDepth 100000 in
theorem c_X4_advance (E : Ev) (l : Launch) (aP : Nat) (aB : Nat → Nat) (vP : Nat → Int32) (vB : Nat → Nat → Int32) (r : (Nat → Int32)) (hf : F_X4_advance vP vB = some r) : CM E l yX4_advance (.code yX4_advance cX4_advance 1 none :: GA) rm_X4_advance [.ref aP] (W_P aP aB vP ++ (W_B E aB vB)) none (W_P aP aB r ++ (W_B E aB vB)) := by
  refine CM.of (own := RX4) rfl (by decide) (Nat.le_of_ble_eq_true rfl) ?_
  intro p e s m below meth c A ls hx hb hr hml hown hg hlocks hK hA hP hD hS hl
  have hl : lv_has ls 1 [(0, .ref aP)] := hl
  have jp_53 : ∀ (vP : Nat → Int32) (H : Heap) (locs : List Loc) (ls : Array Slot), J_X4_advance_53 vB vP = some r → va_P E.1 vwCl (W_P aP aB vP ++ (W_B E aB vB)) H → va_D A (W_P aP aB vP ++ (W_B E aB vB)) → va_S A s.heap H locs → lv_has ls 1 [(0, .ref aP)] → W p l e rm_X4_advance s m ([.ref aP] : List Value).toArray below meth c H locs 0 0 (MQ below (QW E none (W_P aP aB r ++ (W_B E aB vB)) A) ([.ref aP] : List Value).toArray s 0 0 A) (F0 m 53 ls []) := by
    intro vP H locs ls hf hP hD hS hl
    unfold J_X4_advance_53 at hf
    refine lv_aload_n hx hb dX4_advance_53 rfl (lv_at hl 0 rfl) ?_
    refine lv_aload_n hx hb dX4_advance_54 rfl (lv_at hl 0 rfl) ?_
    refine gf_X4_15 hx hb hg hown hK hP 0 rfl rfl dX4_advance_55 ?_
    refine pf_X4_18 (w2 := (W_P aP aB (va_up vP 2 (vP 1)) ++ (W_B E aB vB))) hx hb hg hown hK hP hD hS 0 rfl (Nat.le_of_ble_eq_true rfl) rfl dX4_advance_58 (fun H locs hP hD hS => ?_)
    obtain ⟨vP_18, hv, hf⟩ := lt_o hf
    rw [← hv] at hP hD
    clear hv
    refine lv_aload_n hx hb dX4_advance_61 rfl (lv_at hl 0 rfl) ?_
    refine gf_X4_15 hx hb hg hown hK hP 0 rfl rfl dX4_advance_62 ?_
    refine lv_aload_n hx hb dX4_advance_65 rfl (lv_at hl 0 rfl) ?_
    refine gf_X4_24 hx hb hg hown hK hP 0 rfl rfl dX4_advance_66 ?_
    refine gf_X4_112 hx hb hg hown hK hP 1 rfl rfl dX4_advance_69 ?_
    refine lv_icmp_lt (tgt := 83) hx hb dX4_advance_72 (by decide) (fun c => ?_) (fun c => ?_)
    · have hf := it c hf
      refine lv_aload_n hx hb dX4_advance_83 rfl (lv_at hl 0 rfl) ?_
      refine gf_X4_24 hx hb hg hown hK hP 0 rfl rfl dX4_advance_84 ?_
      refine gf_X4_102 hx hb hg hown hK hP 1 rfl rfl dX4_advance_87 ?_
      refine lv_aload_n hx hb dX4_advance_90 rfl (lv_at hl 0 rfl) ?_
      refine gf_X4_15 hx hb hg hown hK hP 0 rfl rfl dX4_advance_91 ?_
      obtain ⟨hi, hf⟩ := ck_o hf
      refine ar_ld hx hb hK hP 2 rfl hi dX4_advance_94 ?_
      obtain ⟨u1, hu1, hf⟩ := bn hf
      refine cm_SN (host := "NightPorter") (As := [.int (vB 1 (Int32.toNatClampNeg (vP_18 1)))]) (rest := []) (w2 := (W_P aP aB vP_18 ++ (W_B E aB vB))) hx hb hml hown hg (c_X8_isLetter E l (vB 1 (Int32.toNatClampNeg (vP_18 1))) u1 hu1) cs_X8_isLetter (by decide) ⟨⟨rfl, rfl⟩, Nat.le_of_ble_eq_true rfl, Nat.le_of_ble_eq_true rfl⟩ hK hP hD hS hA [] rfl rfl rfl rfl hl.1 rfl (Nat.le_of_ble_eq_true rfl) dX4_advance_95 ⟨Nat.le_refl _, Nat.le_refl _⟩ [.int u1] rfl (fun H locs hP hD hS => ?_)
      refine lv_if_eq (tgt := 108) hx hb dX4_advance_98 (by decide) (fun c => ?_) (fun c => ?_)
      · have hf := it c hf
        refine lv_aload_n hx hb dX4_advance_108 rfl (lv_at hl 0 rfl) ?_
        refine gf_X4_24 hx hb hg hown hK hP 0 rfl rfl dX4_advance_109 ?_
        refine gf_X4_102 hx hb hg hown hK hP 1 rfl rfl dX4_advance_112 ?_
        refine lv_aload_n hx hb dX4_advance_115 rfl (lv_at hl 0 rfl) ?_
        refine gf_X4_15 hx hb hg hown hK hP 0 rfl rfl dX4_advance_116 ?_
        obtain ⟨hi, hf⟩ := ck_o hf
        refine ar_ld hx hb hK hP 2 rfl hi dX4_advance_119 ?_
        obtain ⟨u2, hu2, hf⟩ := bn hf
        refine cm_SN (host := "NightPorter") (As := [.int (vB 1 (Int32.toNatClampNeg (vP_18 1)))]) (rest := []) (w2 := (W_P aP aB vP_18 ++ (W_B E aB vB))) hx hb hml hown hg (c_X8_isDigit E l (vB 1 (Int32.toNatClampNeg (vP_18 1))) u2 hu2) cs_X8_isDigit (by decide) ⟨⟨rfl, rfl⟩, Nat.le_of_ble_eq_true rfl, Nat.le_of_ble_eq_true rfl⟩ hK hP hD hS hA [] rfl rfl rfl rfl hl.1 rfl (Nat.le_of_ble_eq_true rfl) dX4_advance_120 ⟨Nat.le_refl _, Nat.le_refl _⟩ [.int u2] rfl (fun H locs hP hD hS => ?_)
        refine lv_if_eq (tgt := 133) hx hb dX4_advance_123 (by decide) (fun c => ?_) (fun c => ?_)
        · have hf := it c hf
          refine lv_aload_n hx hb dX4_advance_133 rfl (lv_at hl 0 rfl) ?_
          refine lv_aload_n hx hb dX4_advance_134 rfl (lv_at hl 0 rfl) ?_
          refine gf_X4_24 hx hb hg hown hK hP 0 rfl rfl dX4_advance_135 ?_
          refine gf_X4_102 hx hb hg hown hK hP 1 rfl rfl dX4_advance_138 ?_
          refine lv_aload_n hx hb dX4_advance_141 rfl (lv_at hl 0 rfl) ?_
          refine gf_X4_15 hx hb hg hown hK hP 0 rfl rfl dX4_advance_142 ?_
          obtain ⟨hi, hf⟩ := ck_o hf
          refine ar_ld hx hb hK hP 2 rfl hi dX4_advance_145 ?_
          refine lv_bipush (v := 59) hx hb dX4_advance_146 (by decide) ?_
          refine wj (F0 m 156 ls [.int (if (vB 1 (Int32.toNatClampNeg (vP_18 1))) = 59 then 3 else 4), .ref aP]) ?_ (fun jk => ?_)
          rotate_left
          · refine lv_icmp_ne (tgt := 155) hx hb dX4_advance_148 (by decide) (fun c => ?_) (fun c => ?_)
            · rw [if_neg c] at jk
              refine lv_iconst (v := 4) hx hb dX4_advance_155 (by decide) ?_
              exact jk
            · rw [if_pos c] at jk
              refine lv_iconst (v := 3) hx hb dX4_advance_151 (by decide) ?_
              refine lv_goto (tgt := 156) hx hb dX4_advance_152 (by decide) ?_
              exact jk
          refine pf_X4_11 (w2 := (W_P aP aB (va_up vP_18 0 (if (vB 1 (Int32.toNatClampNeg (vP_18 1))) = 59 then 3 else 4)) ++ (W_B E aB vB))) hx hb hg hown hK hP hD hS 0 rfl (Nat.le_of_ble_eq_true rfl) rfl dX4_advance_156 (fun H locs hP hD hS => ?_)
          obtain ⟨vP_19, hv, hf⟩ := lt_o hf
          rw [← hv] at hP hD
          clear hv
          refine lv_aload_n hx hb dX4_advance_159 rfl (lv_at hl 0 rfl) ?_
          refine lv_aload_n hx hb dX4_advance_160 rfl (lv_at hl 0 rfl) ?_
          refine gf_X4_15 hx hb hg hown hK hP 0 rfl rfl dX4_advance_161 ?_
          refine lv_iconst (v := 1) hx hb dX4_advance_164 (by decide) ?_
          refine lv_iadd hx hb dX4_advance_165 ?_
          refine pf_X4_18 (w2 := (W_P aP aB (va_up vP_19 2 ((vP_19 1) + 1)) ++ (W_B E aB vB))) hx hb hg hown hK hP hD hS 0 rfl (Nat.le_of_ble_eq_true rfl) rfl dX4_advance_166 (fun H locs hP hD hS => ?_)
          obtain ⟨vP_20, hv, hf⟩ := lt_o hf
          rw [← hv] at hP hD
          clear hv
          obtain rfl := Option.some.inj hf
          exact cm_vret hx hb hr hlocks hP hS dX4_advance_169
        · have hf := ie c hf
          refine lv_aload_n hx hb dX4_advance_126 rfl (lv_at hl 0 rfl) ?_
          obtain ⟨u3, hu3, hf⟩ := bn hf
          refine cm_V (As := []) (rest := []) (w2 := (W_P aP aB u3 ++ (W_B E aB vB))) hx hb hml hown hg (c_X4_takeNumber E l aP aB vP_18 vB u3 hu3) cy_X4_takeNumber ml_X4_127 ⟨⟨rfl, rfl⟩, Nat.le_of_ble_eq_true rfl, Nat.le_of_ble_eq_true rfl⟩ hK hP hD hS hA [true, true, true] rfl rfl rfl 0 rfl rfl rfl hl.1 rfl (Nat.le_of_ble_eq_true rfl) dX4_advance_127 ⟨Nat.le_refl _, Nat.le_refl _⟩ [] rfl (fun H locs hP hD hS => ?_)
          refine lv_goto (tgt := 169) hx hb dX4_advance_130 (by decide) ?_
          obtain rfl := Option.some.inj hf
          exact cm_vret hx hb hr hlocks hP hS dX4_advance_169
      · have hf := ie c hf
        refine lv_aload_n hx hb dX4_advance_101 rfl (lv_at hl 0 rfl) ?_
        obtain ⟨u4, hu4, hf⟩ := bn hf
        refine cm_V (As := []) (rest := []) (w2 := (W_P aP aB u4 ++ (W_B E aB vB))) hx hb hml hown hg (c_X4_takeWord E l aP aB vP_18 vB u4 hu4) cy_X4_takeWord ml_X4_121 ⟨⟨rfl, rfl⟩, Nat.le_of_ble_eq_true rfl, Nat.le_of_ble_eq_true rfl⟩ hK hP hD hS hA [true, true, true] rfl rfl rfl 0 rfl rfl rfl hl.1 rfl (Nat.le_of_ble_eq_true rfl) dX4_advance_102 ⟨Nat.le_refl _, Nat.le_refl _⟩ [] rfl (fun H locs hP hD hS => ?_)
        refine lv_goto (tgt := 169) hx hb dX4_advance_105 (by decide) ?_
        obtain rfl := Option.some.inj hf
        exact cm_vret hx hb hr hlocks hP hS dX4_advance_169
    · have hf := ie c hf
      refine lv_aload_n hx hb dX4_advance_75 rfl (lv_at hl 0 rfl) ?_
      refine lv_iconst (v := 0) hx hb dX4_advance_76 (by decide) ?_
      refine pf_X4_11 (w2 := (W_P aP aB (va_up vP_18 0 0) ++ (W_B E aB vB))) hx hb hg hown hK hP hD hS 0 rfl (Nat.le_of_ble_eq_true rfl) rfl dX4_advance_77 (fun H locs hP hD hS => ?_)
      obtain ⟨vP_21, hv, hf⟩ := lt_o hf
      rw [← hv] at hP hD
      clear hv
      refine lv_goto (tgt := 169) hx hb dX4_advance_80 (by decide) ?_
      obtain rfl := Option.some.inj hf
      exact cm_vret hx hb hr hlocks hP hS dX4_advance_169
  have lp_8 : ∀ (n : Nat) (vP : Nat → Int32) (H : Heap) (locs : List Loc) (ls : Array Slot), L_X4_advance_8 vB n vP = some r → va_P E.1 vwCl (W_P aP aB vP ++ (W_B E aB vB)) H → va_D A (W_P aP aB vP ++ (W_B E aB vB)) → va_S A s.heap H locs → lv_has ls 1 [(0, .ref aP)] → W p l e rm_X4_advance s m ([.ref aP] : List Value).toArray below meth c H locs 0 0 (MQ below (QW E none (W_P aP aB r ++ (W_B E aB vB)) A) ([.ref aP] : List Value).toArray s 0 0 A) (F0 m 8 ls []) := by
    intro n
    induction n with
    | zero => intro vP H locs ls hf; cases hf
    | succ n ih =>
      intro vP H locs ls hf hP hD hS hl
      replace hf : B_X4_advance_8 (L_X4_advance_8 vB n) vB vP = some r := hf
      unfold B_X4_advance_8 at hf
      refine lv_aload_n hx hb dX4_advance_8 rfl (lv_at hl 0 rfl) ?_
      refine gf_X4_15 hx hb hg hown hK hP 0 rfl rfl dX4_advance_9 ?_
      refine lv_aload_n hx hb dX4_advance_12 rfl (lv_at hl 0 rfl) ?_
      refine gf_X4_24 hx hb hg hown hK hP 0 rfl rfl dX4_advance_13 ?_
      refine gf_X4_112 hx hb hg hown hK hP 1 rfl rfl dX4_advance_16 ?_
      refine lv_icmp_ge (tgt := 53) hx hb dX4_advance_19 (by decide) (fun c => ?_) (fun c => ?_)
      · have hf := it c hf
        exact jp_53 _ _ _ _ hf hP hD hS (lv_sub hl [0] rfl)
      · have hf := ie c hf
        refine lv_aload_n hx hb dX4_advance_22 rfl (lv_at hl 0 rfl) ?_
        refine gf_X4_24 hx hb hg hown hK hP 0 rfl rfl dX4_advance_23 ?_
        refine gf_X4_102 hx hb hg hown hK hP 1 rfl rfl dX4_advance_26 ?_
        refine lv_aload_n hx hb dX4_advance_29 rfl (lv_at hl 0 rfl) ?_
        refine gf_X4_15 hx hb hg hown hK hP 0 rfl rfl dX4_advance_30 ?_
        obtain ⟨hi, hf⟩ := ck_o hf
        refine ar_ld hx hb hK hP 2 rfl hi dX4_advance_33 ?_
        obtain ⟨u1, hu1, hf⟩ := bn hf
        refine cm_SN (host := "NightPorter") (As := [.int (vB 1 (Int32.toNatClampNeg (vP 1)))]) (rest := []) (w2 := (W_P aP aB vP ++ (W_B E aB vB))) hx hb hml hown hg (c_X8_isBlank E l (vB 1 (Int32.toNatClampNeg (vP 1))) u1 hu1) cs_X8_isBlank (by decide) ⟨⟨rfl, rfl⟩, Nat.le_of_ble_eq_true rfl, Nat.le_of_ble_eq_true rfl⟩ hK hP hD hS hA [] rfl rfl rfl rfl hl.1 rfl (Nat.le_of_ble_eq_true rfl) dX4_advance_34 ⟨Nat.le_refl _, Nat.le_refl _⟩ [.int u1] rfl (fun H locs hP hD hS => ?_)
        refine lv_if_eq (tgt := 53) hx hb dX4_advance_37 (by decide) (fun c => ?_) (fun c => ?_)
        · have hf := it c hf
          exact jp_53 _ _ _ _ hf hP hD hS (lv_sub hl [0] rfl)
        · have hf := ie c hf
          refine lv_aload_n hx hb dX4_advance_40 rfl (lv_at hl 0 rfl) ?_
          refine lv_dup hx hb dX4_advance_41 rfl ?_
          refine gf_X4_15 hx hb hg hown hK hP 0 rfl rfl dX4_advance_42 ?_
          refine lv_iconst (v := 1) hx hb dX4_advance_45 (by decide) ?_
          refine lv_iadd hx hb dX4_advance_46 ?_
          refine pf_X4_15 (w2 := (W_P aP aB (va_up vP 1 ((vP 1) + 1)) ++ (W_B E aB vB))) hx hb hg hown hK hP hD hS 0 rfl (Nat.le_of_ble_eq_true rfl) rfl dX4_advance_47 (fun H locs hP hD hS => ?_)
          obtain ⟨vP_22, hv, hf⟩ := lt_o hf
          rw [← hv] at hP hD
          clear hv
          refine lv_goto (tgt := 8) hx hb dX4_advance_50 (by decide) ?_
          exact ih _ _ _ _ hf hP hD hS (lv_sub hl [0] rfl)
  unfold F_X4_advance at hf
  refine lv_aload_n hx hb dX4_advance_0 rfl (lv_at hl 0 rfl) ?_
  refine lv_aload_n hx hb dX4_advance_1 rfl (lv_at hl 0 rfl) ?_
  refine gf_X4_18 hx hb hg hown hK hP 0 rfl rfl dX4_advance_2 ?_
  refine pf_X4_15 (w2 := (W_P aP aB (va_up vP 1 (vP 2)) ++ (W_B E aB vB))) hx hb hg hown hK hP hD hS 0 rfl (Nat.le_of_ble_eq_true rfl) rfl dX4_advance_5 (fun H locs hP hD hS => ?_)
  obtain ⟨vP_23, hv, hf⟩ := lt_o hf
  rw [← hv] at hP hD
  clear hv
  exact lp_8 FU _ _ _ _ hf hP hD hS (lv_sub hl [0] rfl)
def F_X4_isNumber (vP : Nat → Int32) (x1 : Int32) (x2 : Int32) : Option (Int32) := (if (vP 0) = 2 then (if (vP 3) < x1 then (some 0) else (if x2 < (vP 3) then (some 0) else (some 1))) else (some 0))
abbrev rm_X4_isNumber : Room := { frames := 0, cells := 0, slots := 0, locals := 0 }
set_option maxHeartbeats 4000000 in
set_option maxRecDepth 100000 in
theorem c_X4_isNumber (E : Ev) (l : Launch) (aP : Nat) (aB : Nat → Nat) (vP : Nat → Int32) (x1 : Int32) (x2 : Int32) (r : Int32) (hf : F_X4_isNumber vP x1 x2 = some r) : CM E l yX4_isNumber (.code yX4_isNumber cX4_isNumber 3 (some .boolean) :: GA) rm_X4_isNumber [.ref aP, .int x1, .int x2] (W_P aP aB vP) (some (.int r)) (W_P aP aB vP) := by
  refine CM.of (own := RX4) rfl (by decide) (Nat.le_of_ble_eq_true rfl) ?_
  intro p e s m below meth c A ls hx hb hr hml hown hg hlocks hK hA hP hD hS hl
  have hl : lv_has ls 3 [(0, .ref aP), (1, .int x1), (2, .int x2)] := hl
  unfold F_X4_isNumber at hf
  refine lv_aload_n hx hb dX4_isNumber_0 rfl (lv_at hl 0 rfl) ?_
  refine gf_X4_11 hx hb hg hown hK hP 0 rfl rfl dX4_isNumber_1 ?_
  refine lv_iconst (v := 2) hx hb dX4_isNumber_4 (by decide) ?_
  refine lv_icmp_ne (tgt := 28) hx hb dX4_isNumber_5 (by decide) (fun c => ?_) (fun c => ?_)
  · have hf := ie c hf
    refine lv_iconst (v := 0) hx hb dX4_isNumber_28 (by decide) ?_
    obtain rfl := Option.some.inj hf
    exact cm_zret (v := 0) hx hb hr hlocks hP hS rfl dX4_isNumber_29
  · have hf := it c hf
    refine lv_aload_n hx hb dX4_isNumber_8 rfl (lv_at hl 0 rfl) ?_
    refine gf_X4_21 hx hb hg hown hK hP 0 rfl rfl dX4_isNumber_9 ?_
    refine lv_iload_n hx hb dX4_isNumber_12 rfl (lv_at hl 1 rfl) ?_
    refine lv_icmp_lt (tgt := 28) hx hb dX4_isNumber_13 (by decide) (fun c => ?_) (fun c => ?_)
    · have hf := it c hf
      refine lv_iconst (v := 0) hx hb dX4_isNumber_28 (by decide) ?_
      obtain rfl := Option.some.inj hf
      exact cm_zret (v := 0) hx hb hr hlocks hP hS rfl dX4_isNumber_29
    · have hf := ie c hf
      refine lv_aload_n hx hb dX4_isNumber_16 rfl (lv_at hl 0 rfl) ?_
      refine gf_X4_21 hx hb hg hown hK hP 0 rfl rfl dX4_isNumber_17 ?_
      refine lv_iload_n hx hb dX4_isNumber_20 rfl (lv_at hl 2 rfl) ?_
      refine lv_icmp_gt (tgt := 28) hx hb dX4_isNumber_21 (by decide) (fun c => ?_) (fun c => ?_)
      · have hf := it c hf
        refine lv_iconst (v := 0) hx hb dX4_isNumber_28 (by decide) ?_
        obtain rfl := Option.some.inj hf
        exact cm_zret (v := 0) hx hb hr hlocks hP hS rfl dX4_isNumber_29
      · have hf := ie c hf
        refine lv_iconst (v := 1) hx hb dX4_isNumber_24 (by decide) ?_
        refine lv_goto (tgt := 29) hx hb dX4_isNumber_25 (by decide) ?_
        obtain rfl := Option.some.inj hf
        exact cm_zret (v := 1) hx hb hr hlocks hP hS rfl dX4_isNumber_29
def F_X4_passSemicolon (vP : Nat → Int32) (vB : Nat → Nat → Int32) : Option (Int32 × (Nat → Int32)) := (if (vP 0) = 3 then (F_X4_advance vP vB).bind (fun u1 => (some (1, u1))) else (some (0, vP)))
abbrev rm_X4_passSemicolon : Room := { frames := 3, cells := 0, slots := 0, locals := 60 }
set_option maxHeartbeats 4000000 in
set_option maxRecDepth 100000 in
theorem c_X4_passSemicolon (E : Ev) (l : Launch) (aP : Nat) (aB : Nat → Nat) (vP : Nat → Int32) (vB : Nat → Nat → Int32) (r : Int32 × (Nat → Int32)) (hf : F_X4_passSemicolon vP vB = some r) : CM E l yX4_passSemicolon (.code yX4_passSemicolon cX4_passSemicolon 1 (some .boolean) :: GA) rm_X4_passSemicolon [.ref aP] (W_P aP aB vP ++ (W_B E aB vB)) (some (.int r.1)) (W_P aP aB r.2 ++ (W_B E aB vB)) := by
  refine CM.of (own := RX4) rfl (by decide) (Nat.le_of_ble_eq_true rfl) ?_
  intro p e s m below meth c A ls hx hb hr hml hown hg hlocks hK hA hP hD hS hl
  have hl : lv_has ls 1 [(0, .ref aP)] := hl
  unfold F_X4_passSemicolon at hf
  refine lv_aload_n hx hb dX4_passSemicolon_0 rfl (lv_at hl 0 rfl) ?_
  refine gf_X4_11 hx hb hg hown hK hP 0 rfl rfl dX4_passSemicolon_1 ?_
  refine lv_iconst (v := 3) hx hb dX4_passSemicolon_4 (by decide) ?_
  refine lv_icmp_eq (tgt := 10) hx hb dX4_passSemicolon_5 (by decide) (fun c => ?_) (fun c => ?_)
  · have hf := it c hf
    refine lv_aload_n hx hb dX4_passSemicolon_10 rfl (lv_at hl 0 rfl) ?_
    obtain ⟨u1, hu1, hf⟩ := bn hf
    refine cm_V (As := []) (rest := []) (w2 := (W_P aP aB u1 ++ (W_B E aB vB))) hx hb hml hown hg (c_X4_advance E l aP aB vP vB u1 hu1) cy_X4_advance ml_X4_33 ⟨⟨rfl, rfl⟩, Nat.le_of_ble_eq_true rfl, Nat.le_of_ble_eq_true rfl⟩ hK hP hD hS hA [true, true, true] rfl rfl rfl 0 rfl rfl rfl hl.1 rfl (Nat.le_of_ble_eq_true rfl) dX4_passSemicolon_11 ⟨Nat.le_refl _, Nat.le_refl _⟩ [] rfl (fun H locs hP hD hS => ?_)
    refine lv_iconst (v := 1) hx hb dX4_passSemicolon_14 (by decide) ?_
    obtain rfl := Option.some.inj hf
    exact cm_zret (v := 1) hx hb hr hlocks hP hS rfl dX4_passSemicolon_15
  · have hf := ie c hf
    refine lv_iconst (v := 0) hx hb dX4_passSemicolon_8 (by decide) ?_
    obtain rfl := Option.some.inj hf
    exact cm_zret (v := 0) hx hb hr hlocks hP hS rfl dX4_passSemicolon_9
