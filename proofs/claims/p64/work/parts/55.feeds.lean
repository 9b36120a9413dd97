/-! feeds -/
theorem j_chI (E : Ev) (l : Launch) (a b n : Nat) (f : Nat → Int32) (t : Nat → Nat) (j : Int32) (hL : sb_Lat t n f) (hn : n ≤ 65536) (hi : vp_in j n) : PM E l yJ0_charAt_5068e (.code yJ0_charAt_5068e cJ0_charAt_5068e 2 (some .char) :: GA) { frames := 3, cells := 0, slots := 0, locals := 64 } [.ref a, .int j] [(a, .inr (9, [.ref b, .int 0, .int 0, .int 0])), (b, .inl (E.2.2.2.1, n, .inl f))] 0 0 (fun v bs => v = some (.int (nI (t j.toNatClampNeg))) ∧ bs = [(a, .inr (9, [.ref b, .int 0, .int 0, .int 0])), (b, .inl (E.2.2.2.1, n, .inl f))]) := by
  obtain ⟨i, hi2, rfl⟩ := vp_in_of hi (by omega)
  rw [nI_clamp (by omega)]
  exact j_chD E l a b n i f t hL hi2 hn
def J_K_feeds_55 (rec_2 : Int32 → KV → Option (Int32 × KV)) (rec_17 : Int32 → Int32 → (Nat → Int32) → KV → Option (Int32 × KV)) (tS : Nat → Nat) (nS : Nat) (x2 : Int32) (x4 : Int32) (t1 : Int32) (t2 : Int32) (t3 : Int32) (a11 : Nat → Int32) (vK : KV) : Option (Int32 × KV) := ck t1 5 (lt (upd a11 (Int32.toNatClampNeg t1) (t2 ||| (t3 <<< ((24 - (8 * (x4 - x4 / 4 * 4))) &&& 31)))) (fun b1 => (rec_17 x2 (x4 + 1) b1 vK)))
def B_K_feeds_17 (rec_2 : Int32 → KV → Option (Int32 × KV)) (rec_17 : Int32 → Int32 → (Nat → Int32) → KV → Option (Int32 × KV)) (tS : Nat → Nat) (nS : Nat) (x2 : Int32) (x4 : Int32) (a11 : Nat → Int32) (vK : KV) : Option (Int32 × KV) := (if 20 ≤ x4 then ck 0 5 (ck 1 5 (ck 2 5 (ck 3 5 (ck 4 5 ((F_K_call vK 12 (a11 (Int32.toNatClampNeg 0)) (a11 (Int32.toNatClampNeg 1)) (a11 (Int32.toNatClampNeg 2)) (a11 (Int32.toNatClampNeg 3)) (a11 (Int32.toNatClampNeg 4))).bind (fun u1 => (if u1.1 = (x2 + 20) then (rec_2 (x2 + 20) u1.2) else (some (0, u1.2))))))))) else ck (x4 / 4) 5 ((if (nI nS) ≤ (x2 + x4) then (J_K_feeds_55 rec_2 rec_17 tS nS x2 x4 (x4 / 4) (a11 (Int32.toNatClampNeg (x4 / 4))) 32 a11 vK) else ck (x2 + x4) nS ((J_K_feeds_55 rec_2 rec_17 tS nS x2 x4 (x4 / 4) (a11 (Int32.toNatClampNeg (x4 / 4))) (nI (tS (Int32.toNatClampNeg (x2 + x4)))) a11 vK)))))
def L_K_feeds_17 (rec_2 : Int32 → KV → Option (Int32 × KV)) (tS : Nat → Nat) (nS : Nat) : Nat → Int32 → Int32 → (Nat → Int32) → KV → Option (Int32 × KV)
  | 0 => fun _ _ _ _ => none
  | n + 1 => fun x2 x4 a11 vK => B_K_feeds_17 rec_2 (L_K_feeds_17 rec_2 tS nS n) tS nS x2 x4 a11 vK
def B_K_feeds_2 (rec_2 : Int32 → KV → Option (Int32 × KV)) (tS : Nat → Nat) (nS : Nat) (x2 : Int32) (vK : KV) : Option (Int32 × KV) := (if (nI nS) ≤ x2 then (F_K_call__ vK 13 (nI nS)).bind (fun u1 => (if u1.1 = (nI nS) then (some (1, u1.2)) else (some (0, u1.2)))) else (L_K_feeds_17 rec_2 tS nS 21 x2 0 (fun _ => 0) vK))
def L_K_feeds_2 (tS : Nat → Nat) (nS : Nat) : Nat → Int32 → KV → Option (Int32 × KV)
  | 0 => fun _ _ => none
  | n + 1 => fun x2 vK => B_K_feeds_2 (L_K_feeds_2 tS nS n) tS nS x2 vK
def F_K_feeds (v0 : KV) (tS : Nat → Nat) (nS : Nat) : Option (Int32 × KV) := (L_K_feeds_2 tS nS 16 0 v0)
abbrev rm_L_feeds : Room := { frames := 11, cells := 67, slots := 6 * 67, locals := 244 }
set_option maxHeartbeats 16000000 in
set_option maxRecDepth 100000 in
theorem q_K_feeds_2 {p : Program} {l : Launch} (e : Env) {s : State} {m : MethodId} (below : List Frame) {meth : Method} {c : Code} {A : Nat → Prop} {E : Ev} (hst : l.stackTraces = false) (k : KA) (v0 : KV) (aS bS : Nat) (fS : Nat → Int32) (tS : Nat → Nat) (nS : Nat) (hL : sb_Lat tS nS fS) (hnS : nS ≤ 65536) (r : Int32 × KV) (hx : p.tables.exec = Jvm.exec) (hb : c.code = cL_feeds) (hr : meth.sig.returnType = some .boolean) (hml : c.maxLocals = 5) (hown : s.vm.findClass RL = some m.cls) (hg : ∀ w ∈ GA, w.before ([.ref k.1, .ref aS] : List Value).toArray s = true) (hlocks : meth.locks = false) (hK : KX E s) (hE : EX E A s s.heap) (hN : NX s) (hA : ∀ q : Nat, s.heap.size ≤ q → A q) : ∀ (n : Nat) (x2 : Int32) (vK : KV) (cs : Nat) (H : Heap) (locs : List Loc) (ls : Array Slot), L_K_feeds_2 tS nS n x2 vK = some r → cs + n * 4 + 3 ≤ 67 → va_P E.1 vwCl (W_K E k vK ++ [(aS, .inr (9, [.ref bS, .int 0, .int 0, .int 0])), (bS, .inl (E.2.2.2.1, nS, .inl fS))]) H → va_D A (W_K E k vK ++ [(aS, .inr (9, [.ref bS, .int 0, .int 0, .int 0])), (bS, .inl (E.2.2.2.1, nS, .inl fS))]) → va_S A s.heap H locs → lv_has ls 5 [(0, .ref k.1), (1, .ref aS), (2, .int x2)] → W p l e rm_L_feeds s m ([.ref k.1, .ref aS] : List Value).toArray below meth c H locs cs (6 * cs) (vx_MQ below (QW E (some (.int r.1)) (W_K E k r.2 ++ [(aS, .inr (9, [.ref bS, .int 0, .int 0, .int 0])), (bS, .inl (E.2.2.2.1, nS, .inl fS))]) A) (fun _ _ _ => False) ([.ref k.1, .ref aS] : List Value).toArray s 67 (6 * 67) A) (F0 m 2 ls []) := by
  intro n_2
  induction n_2 with
  | zero => intro x2 vK cs H locs ls hf; cases hf
  | succ n_2 ih_2 =>
    have lp_17 : ∀ (n : Nat) (x2 : Int32) (x4 : Int32) (a11 : Nat → Int32) (vK : KV) (q11 : Nat) (cs : Nat) (H : Heap) (locs : List Loc) (ls : Array Slot), L_K_feeds_17 (L_K_feeds_2 tS nS n_2) tS nS n x2 x4 a11 vK = some r → cs + n * 0 + 3 + (n_2 * 4 + 3) ≤ 67 → va_P E.1 vwCl (W_K E k vK ++ [(aS, .inr (9, [.ref bS, .int 0, .int 0, .int 0])), (bS, .inl (E.2.2.2.1, nS, .inl fS)), (q11, .inl (E.2.1, 5, .inl a11))]) H → va_D A (W_K E k vK ++ [(aS, .inr (9, [.ref bS, .int 0, .int 0, .int 0])), (bS, .inl (E.2.2.2.1, nS, .inl fS)), (q11, .inl (E.2.1, 5, .inl a11))]) → va_S A s.heap H locs → lv_has ls 5 [(0, .ref k.1), (1, .ref aS), (2, .int x2), (3, .ref q11), (4, .int x4)] → W p l e rm_L_feeds s m ([.ref k.1, .ref aS] : List Value).toArray below meth c H locs cs (6 * cs) (vx_MQ below (QW E (some (.int r.1)) (W_K E k r.2 ++ [(aS, .inr (9, [.ref bS, .int 0, .int 0, .int 0])), (bS, .inl (E.2.2.2.1, nS, .inl fS))]) A) (fun _ _ _ => False) ([.ref k.1, .ref aS] : List Value).toArray s 67 (6 * 67) A) (F0 m 17 ls []) := by
      intro n_17
      induction n_17 with
      | zero => intro x2 x4 a11 vK q11 cs H locs ls hf; cases hf
      | succ n_17 ih_17 =>
        have jp_55 : ∀ (x2 : Int32) (x4 : Int32) (t1 : Int32) (t2 : Int32) (t3 : Int32) (a11 : Nat → Int32) (vK : KV) (q11 : Nat) (cs : Nat) (H : Heap) (locs : List Loc) (ls : Array Slot), J_K_feeds_55 (L_K_feeds_2 tS nS n_2) (L_K_feeds_17 (L_K_feeds_2 tS nS n_2) tS nS n_17) tS nS x2 x4 t1 t2 t3 a11 vK = some r → cs + 0 + (n_17 * 0 + 3) + (n_2 * 4 + 3) ≤ 67 → va_P E.1 vwCl (W_K E k vK ++ [(aS, .inr (9, [.ref bS, .int 0, .int 0, .int 0])), (bS, .inl (E.2.2.2.1, nS, .inl fS)), (q11, .inl (E.2.1, 5, .inl a11))]) H → va_D A (W_K E k vK ++ [(aS, .inr (9, [.ref bS, .int 0, .int 0, .int 0])), (bS, .inl (E.2.2.2.1, nS, .inl fS)), (q11, .inl (E.2.1, 5, .inl a11))]) → va_S A s.heap H locs → lv_has ls 5 [(0, .ref k.1), (1, .ref aS), (2, .int x2), (3, .ref q11), (4, .int x4)] → W p l e rm_L_feeds s m ([.ref k.1, .ref aS] : List Value).toArray below meth c H locs cs (6 * cs) (vx_MQ below (QW E (some (.int r.1)) (W_K E k r.2 ++ [(aS, .inr (9, [.ref bS, .int 0, .int 0, .int 0])), (bS, .inl (E.2.2.2.1, nS, .inl fS))]) A) (fun _ _ _ => False) ([.ref k.1, .ref aS] : List Value).toArray s 67 (6 * 67) A) (F0 m 55 ls [.int t3, .int t2, .int t1, .ref q11]) := by
          intro x2 x4 t1 t2 t3 a11 vK q11 cs H locs ls hf hc hP hD hS hl
          unfold J_K_feeds_55 at hf
          refine lv_bipush (v := 24) hx hb dL_feeds_55 (by decide) ?_
          refine lv_bipush (v := 8) hx hb dL_feeds_57 (by decide) ?_
          refine lv_iload hx hb dL_feeds_59 (lv_at hl 4 rfl) ?_
          refine lv_iconst (v := 4) hx hb dL_feeds_61 (by decide) ?_
          refine lv_irem hx hb dL_feeds_62 (by decide) ?_
          refine lv_imul hx hb dL_feeds_63 ?_
          refine lv_isub hx hb dL_feeds_64 ?_
          refine lv_ishl hx hb dL_feeds_65 ?_
          refine lv_ior hx hb dL_feeds_66 ?_
          obtain ⟨hi, hf⟩ := ck_o hf
          obtain ⟨b1, hv, hf⟩ := lt_o hf
          refine la_st (y2 := [(aS, .inr (9, [.ref bS, .int 0, .int 0, .int 0])), (bS, .inl (E.2.2.2.1, nS, .inl fS)), (q11, .inl (E.2.1, 5, .inl b1))]) hx hb hK hP hD hS 2 rfl hi (by rw [hv]; rfl) dL_feeds_67 (fun H locs hP hD hS => ?_)
          clear hv
          refine lv_iinc (v := (x4 + 1)) (lv' := [(4, .int (x4 + 1)), (0, .ref k.1), (1, .ref aS), (2, .int x2), (3, .ref q11)]) hx hb dL_feeds_68 hl (k := 4) rfl rfl (by decide) rfl (fun ls hl => ?_)
          refine lv_goto (tgt := 17) hx hb dL_feeds_71 (by decide) ?_
          exact ih_17 _ _ _ _ _ _ _ _ _ hf (by omega) hP hD hS (lv_sub hl [1, 2, 3, 4, 0] rfl)
        intro x2 x4 a11 vK q11 cs H locs ls hf hc hP hD hS hl
        replace hf : B_K_feeds_17 (L_K_feeds_2 tS nS n_2) (L_K_feeds_17 (L_K_feeds_2 tS nS n_2) tS nS n_17) tS nS x2 x4 a11 vK = some r := hf
        unfold B_K_feeds_17 at hf
        refine lv_iload hx hb dL_feeds_17 (lv_at hl 4 rfl) ?_
        refine lv_bipush (v := 20) hx hb dL_feeds_19 (by decide) ?_
        refine lv_icmp_ge (tgt := 74) hx hb dL_feeds_21 (by decide) (fun cq => ?_) (fun cq => ?_)
        · have hf := it cq hf
          refine lv_aload_n hx hb dL_feeds_74 rfl (lv_at hl 0 rfl) ?_
          refine lv_bipush (v := 12) hx hb dL_feeds_75 (by decide) ?_
          refine lv_aload_n hx hb dL_feeds_77 rfl (lv_at hl 3 rfl) ?_
          refine lv_iconst (v := 0) hx hb dL_feeds_78 (by decide) ?_
          obtain ⟨hi, hf⟩ := ck_o hf
          refine la_ld hx hb hK hP 2 rfl hi dL_feeds_79 ?_
          refine lv_aload_n hx hb dL_feeds_80 rfl (lv_at hl 3 rfl) ?_
          refine lv_iconst (v := 1) hx hb dL_feeds_81 (by decide) ?_
          obtain ⟨hi, hf⟩ := ck_o hf
          refine la_ld hx hb hK hP 2 rfl hi dL_feeds_82 ?_
          refine lv_aload_n hx hb dL_feeds_83 rfl (lv_at hl 3 rfl) ?_
          refine lv_iconst (v := 2) hx hb dL_feeds_84 (by decide) ?_
          obtain ⟨hi, hf⟩ := ck_o hf
          refine la_ld hx hb hK hP 2 rfl hi dL_feeds_85 ?_
          refine lv_aload_n hx hb dL_feeds_86 rfl (lv_at hl 3 rfl) ?_
          refine lv_iconst (v := 3) hx hb dL_feeds_87 (by decide) ?_
          obtain ⟨hi, hf⟩ := ck_o hf
          refine la_ld hx hb hK hP 2 rfl hi dL_feeds_88 ?_
          refine lv_aload_n hx hb dL_feeds_89 rfl (lv_at hl 3 rfl) ?_
          refine lv_iconst (v := 4) hx hb dL_feeds_90 (by decide) ?_
          obtain ⟨hi, hf⟩ := ck_o hf
          refine la_ld hx hb hK hP 2 rfl hi dL_feeds_91 ?_
          obtain ⟨u1, hu1, hf⟩ := bn hf
          refine lk_SW (As := [.ref k.1, .int 12, .int (a11 (Int32.toNatClampNeg 0)), .int (a11 (Int32.toNatClampNeg 1)), .int (a11 (Int32.toNatClampNeg 2)), .int (a11 (Int32.toNatClampNeg 3)), .int (a11 (Int32.toNatClampNeg 4))]) (rest := []) (wr := [(aS, .inr (9, [.ref bS, .int 0, .int 0, .int 0])), (bS, .inl (E.2.2.2.1, nS, .inl fS)), (q11, .inl (E.2.1, 5, .inl a11))]) hx hb hml hown hg (c_K_call E l hst k vK 12 (a11 (Int32.toNatClampNeg 0)) (a11 (Int32.toNatClampNeg 1)) (a11 (Int32.toNatClampNeg 2)) (a11 (Int32.toNatClampNeg 3)) (a11 (Int32.toNatClampNeg 4)) u1 hu1) cw_L_call ml_L_158 ⟨⟨rfl, rfl⟩, Nat.le_of_ble_eq_true rfl, Nat.le_of_ble_eq_true rfl⟩ hK hE hN hP hD hS hA (W_Ka E k _ _) rfl hl.1 rfl (Nat.le_of_ble_eq_true rfl) dL_feeds_92 ⟨by show _ ≤ 67; omega, by show _ ≤ 6 * 67; omega⟩ [.int u1.1] rfl (fun H locs hP hD hS => ?_)
          refine lv_iload_n hx hb dL_feeds_95 rfl (lv_at hl 2 rfl) ?_
          refine lv_bipush (v := 20) hx hb dL_feeds_96 (by decide) ?_
          refine lv_iadd hx hb dL_feeds_98 ?_
          refine lv_icmp_eq (tgt := 104) hx hb dL_feeds_99 (by decide) (fun cq => ?_) (fun cq => ?_)
          · have hf := it cq hf
            refine lv_iinc (v := (x2 + 20)) (lv' := [(2, .int (x2 + 20)), (0, .ref k.1), (1, .ref aS), (3, .ref q11), (4, .int x4)]) hx hb dL_feeds_104 hl (k := 2) rfl rfl (by decide) rfl (fun ls hl => ?_)
            refine lv_goto (tgt := 2) hx hb dL_feeds_107 (by decide) ?_
            have hP : va_P E.1 vwCl (W_K E k u1.2 ++ [(aS, .inr (9, [.ref bS, .int 0, .int 0, .int 0])), (bS, .inl (E.2.2.2.1, nS, .inl fS))]) _ := lk_P [0, 1] rfl hP
            have hD : va_D A (W_K E k u1.2 ++ [(aS, .inr (9, [.ref bS, .int 0, .int 0, .int 0])), (bS, .inl (E.2.2.2.1, nS, .inl fS))]) := lk_D [0, 1] rfl rfl hD
            exact ih_2 _ _ _ _ _ _ hf (by omega) hP hD hS (lv_sub hl [1, 2, 0] rfl)
          · have hf := ie cq hf
            refine lv_iconst (v := 0) hx hb dL_feeds_102 (by decide) ?_
            obtain rfl := Option.some.inj hf
            exact lm_yret (v := 0) hx hb hr rfl hlocks (lk_P [0, 1] rfl hP) hS dL_feeds_103 (by omega) (by omega)
        · have hf := ie cq hf
          refine lv_aload_n hx hb dL_feeds_24 rfl (lv_at hl 3 rfl) ?_
          refine lv_iload hx hb dL_feeds_25 (lv_at hl 4 rfl) ?_
          refine lv_iconst (v := 4) hx hb dL_feeds_27 (by decide) ?_
          refine lv_idiv hx hb dL_feeds_28 (by decide) ?_
          refine lv_dup2_11 hx hb dL_feeds_29 rfl rfl ?_
          obtain ⟨hi, hf⟩ := ck_o hf
          refine la_ld hx hb hK hP 2 rfl hi dL_feeds_30 ?_
          refine lv_iload_n hx hb dL_feeds_31 rfl (lv_at hl 2 rfl) ?_
          refine lv_iload hx hb dL_feeds_32 (lv_at hl 4 rfl) ?_
          refine lv_iadd hx hb dL_feeds_34 ?_
          refine lv_aload_n hx hb dL_feeds_35 rfl (lv_at hl 1 rfl) ?_
          have hP := lk_P (y' := [(q11, .inl (E.2.1, 5, .inl a11))] ++ [(aS, .inr (9, [.ref bS, .int 0, .int 0, .int 0])), (bS, .inl (E.2.2.2.1, nS, .inl fS))]) [2, 0, 1] rfl hP
          have hD := lk_D (y' := [(q11, .inl (E.2.1, 5, .inl a11))] ++ [(aS, .inr (9, [.ref bS, .int 0, .int 0, .int 0])), (bS, .inl (E.2.2.2.1, nS, .inl fS))]) [2, 0, 1] rfl rfl hD
          rw [← List.append_assoc] at hP hD
          refine pm_V (As := []) (rest := [.int (x2 + x4), .int (a11 (Int32.toNatClampNeg (x4 / 4))), .int (x4 / 4), .ref q11]) (wr := W_K E k vK ++ [(q11, .inl (E.2.1, 5, .inl a11))]) (bs := [(aS, .inr (9, [.ref bS, .int 0, .int 0, .int 0])), (bS, .inl (E.2.2.2.1, nS, .inl fS))]) hx hb hml hown hg (j_lenD E l aS bS nS fS) cv_J0_length_8abf5 ml_L_162 ⟨⟨rfl, rfl⟩, Nat.le_of_ble_eq_true rfl, Nat.le_of_ble_eq_true rfl⟩ hK hE hN.2 hP hD hS hA ((W_K E k vK).length + 1) (by rw [List.append_assoc]; exact lk_at (x := W_K E k vK) (i := 1) rfl) rfl rfl hl.1 rfl (Nat.le_of_ble_eq_true rfl) dL_feeds_36 ⟨by show _ ≤ 67; omega, by show _ ≤ 6 * 67; omega⟩ (fun v9 bs9 H locs hp hP hD hS => ?_)
          obtain ⟨rfl, rfl⟩ := hp
          rw [List.append_assoc] at hP hD
          have hP : va_P E.1 vwCl (W_K E k vK ++ [(aS, .inr (9, [.ref bS, .int 0, .int 0, .int 0])), (bS, .inl (E.2.2.2.1, nS, .inl fS)), (q11, .inl (E.2.1, 5, .inl a11))]) _ := lk_P [1, 2, 0] rfl hP
          have hD : va_D A (W_K E k vK ++ [(aS, .inr (9, [.ref bS, .int 0, .int 0, .int 0])), (bS, .inl (E.2.2.2.1, nS, .inl fS)), (q11, .inl (E.2.1, 5, .inl a11))]) := lk_D [1, 2, 0] rfl rfl hD
          refine lv_icmp_ge (tgt := 53) hx hb dL_feeds_39 (by decide) (fun cq => ?_) (fun cq => ?_)
          · have hf := it cq hf
            refine lv_bipush (v := 32) hx hb dL_feeds_53 (by decide) ?_
            exact jp_55 _ _ _ _ _ _ _ _ _ _ _ _ hf (by omega) hP hD hS (lv_sub hl [0, 1, 2, 3, 4] rfl)
          · have hf := ie cq hf
            refine lv_aload_n hx hb dL_feeds_42 rfl (lv_at hl 1 rfl) ?_
            refine lv_iload_n hx hb dL_feeds_43 rfl (lv_at hl 2 rfl) ?_
            refine lv_iload hx hb dL_feeds_44 (lv_at hl 4 rfl) ?_
            refine lv_iadd hx hb dL_feeds_46 ?_
            obtain ⟨hi, hf⟩ := ck_o hf
            have hP := lk_P (y' := [(q11, .inl (E.2.1, 5, .inl a11))] ++ [(aS, .inr (9, [.ref bS, .int 0, .int 0, .int 0])), (bS, .inl (E.2.2.2.1, nS, .inl fS))]) [2, 0, 1] rfl hP
            have hD := lk_D (y' := [(q11, .inl (E.2.1, 5, .inl a11))] ++ [(aS, .inr (9, [.ref bS, .int 0, .int 0, .int 0])), (bS, .inl (E.2.2.2.1, nS, .inl fS))]) [2, 0, 1] rfl rfl hD
            rw [← List.append_assoc] at hP hD
            refine pm_V (As := [.int (x2 + x4)]) (rest := [.int (a11 (Int32.toNatClampNeg (x4 / 4))), .int (x4 / 4), .ref q11]) (wr := W_K E k vK ++ [(q11, .inl (E.2.1, 5, .inl a11))]) (bs := [(aS, .inr (9, [.ref bS, .int 0, .int 0, .int 0])), (bS, .inl (E.2.2.2.1, nS, .inl fS))]) hx hb hml hown hg (j_chI E l aS bS nS fS tS (x2 + x4) hL hnS hi) cv_J0_charAt_5068e ml_L_167 ⟨⟨rfl, rfl⟩, Nat.le_of_ble_eq_true rfl, Nat.le_of_ble_eq_true rfl⟩ hK hE hN.2 hP hD hS hA ((W_K E k vK).length + 1) (by rw [List.append_assoc]; exact lk_at (x := W_K E k vK) (i := 1) rfl) rfl rfl hl.1 rfl (Nat.le_of_ble_eq_true rfl) dL_feeds_47 ⟨by show _ ≤ 67; omega, by show _ ≤ 6 * 67; omega⟩ (fun v9 bs9 H locs hp hP hD hS => ?_)
            obtain ⟨rfl, rfl⟩ := hp
            rw [List.append_assoc] at hP hD
            have hP : va_P E.1 vwCl (W_K E k vK ++ [(aS, .inr (9, [.ref bS, .int 0, .int 0, .int 0])), (bS, .inl (E.2.2.2.1, nS, .inl fS)), (q11, .inl (E.2.1, 5, .inl a11))]) _ := lk_P [1, 2, 0] rfl hP
            have hD : va_D A (W_K E k vK ++ [(aS, .inr (9, [.ref bS, .int 0, .int 0, .int 0])), (bS, .inl (E.2.2.2.1, nS, .inl fS)), (q11, .inl (E.2.1, 5, .inl a11))]) := lk_D [1, 2, 0] rfl rfl hD
            refine lv_goto (tgt := 55) hx hb dL_feeds_50 (by decide) ?_
            exact jp_55 _ _ _ _ _ _ _ _ _ _ _ _ hf (by omega) hP hD hS (lv_sub hl [0, 1, 2, 3, 4] rfl)
    intro x2 vK cs H locs ls hf hc hP hD hS hl
    replace hf : B_K_feeds_2 (L_K_feeds_2 tS nS n_2) tS nS x2 vK = some r := hf
    unfold B_K_feeds_2 at hf
    refine lv_iload_n hx hb dL_feeds_2 rfl (lv_at hl 2 rfl) ?_
    refine lv_aload_n hx hb dL_feeds_3 rfl (lv_at hl 1 rfl) ?_
    refine pm_V (As := []) (rest := [.int x2]) (wr := W_K E k vK) (bs := [(aS, .inr (9, [.ref bS, .int 0, .int 0, .int 0])), (bS, .inl (E.2.2.2.1, nS, .inl fS))]) hx hb hml hown hg (j_lenD E l aS bS nS fS) cv_J0_length_8abf5 ml_L_162 ⟨⟨rfl, rfl⟩, Nat.le_of_ble_eq_true rfl, Nat.le_of_ble_eq_true rfl⟩ hK hE hN.2 hP hD hS hA ((W_K E k vK).length + 0) (lk_at (x := W_K E k vK) (i := 0) rfl) rfl rfl hl.1 rfl (Nat.le_of_ble_eq_true rfl) dL_feeds_4 ⟨by show _ ≤ 67; omega, by show _ ≤ 6 * 67; omega⟩ (fun v9 bs9 H locs hp hP hD hS => ?_)
    obtain ⟨rfl, rfl⟩ := hp
    refine lv_icmp_ge (tgt := 110) hx hb dL_feeds_7 (by decide) (fun cq => ?_) (fun cq => ?_)
    · have hf := it cq hf
      refine lv_aload_n hx hb dL_feeds_110 rfl (lv_at hl 0 rfl) ?_
      refine lv_bipush (v := 13) hx hb dL_feeds_111 (by decide) ?_
      refine lv_aload_n hx hb dL_feeds_113 rfl (lv_at hl 1 rfl) ?_
      refine pm_V (As := []) (rest := [.int 13, .ref k.1]) (wr := W_K E k vK) (bs := [(aS, .inr (9, [.ref bS, .int 0, .int 0, .int 0])), (bS, .inl (E.2.2.2.1, nS, .inl fS))]) hx hb hml hown hg (j_lenD E l aS bS nS fS) cv_J0_length_8abf5 ml_L_162 ⟨⟨rfl, rfl⟩, Nat.le_of_ble_eq_true rfl, Nat.le_of_ble_eq_true rfl⟩ hK hE hN.2 hP hD hS hA ((W_K E k vK).length + 0) (lk_at (x := W_K E k vK) (i := 0) rfl) rfl rfl hl.1 rfl (Nat.le_of_ble_eq_true rfl) dL_feeds_114 ⟨by show _ ≤ 67; omega, by show _ ≤ 6 * 67; omega⟩ (fun v9 bs9 H locs hp hP hD hS => ?_)
      obtain ⟨rfl, rfl⟩ := hp
      obtain ⟨u1, hu1, hf⟩ := bn hf
      refine lk_S (As := [.ref k.1, .int 13, .int (nI nS)]) (rest := []) (wr := [(aS, .inr (9, [.ref bS, .int 0, .int 0, .int 0])), (bS, .inl (E.2.2.2.1, nS, .inl fS))]) hx hb hml hown hg (c_K_call__ E l hst k vK 13 (nI nS) u1 hu1) cs_L_call__ ml_L_171 ⟨⟨rfl, rfl⟩, Nat.le_of_ble_eq_true rfl, Nat.le_of_ble_eq_true rfl⟩ hK hE hN hP hD hS hA (W_Ka E k _ _) rfl hl.1 rfl (Nat.le_of_ble_eq_true rfl) dL_feeds_117 ⟨by show _ ≤ 67; omega, by show _ ≤ 6 * 67; omega⟩ [.int u1.1] rfl (fun H locs hP hD hS => ?_)
      refine lv_aload_n hx hb dL_feeds_120 rfl (lv_at hl 1 rfl) ?_
      refine pm_V (As := []) (rest := [.int u1.1]) (wr := W_K E k u1.2) (bs := [(aS, .inr (9, [.ref bS, .int 0, .int 0, .int 0])), (bS, .inl (E.2.2.2.1, nS, .inl fS))]) hx hb hml hown hg (j_lenD E l aS bS nS fS) cv_J0_length_8abf5 ml_L_162 ⟨⟨rfl, rfl⟩, Nat.le_of_ble_eq_true rfl, Nat.le_of_ble_eq_true rfl⟩ hK hE hN.2 hP hD hS hA ((W_K E k u1.2).length + 0) (lk_at (x := W_K E k u1.2) (i := 0) rfl) rfl rfl hl.1 rfl (Nat.le_of_ble_eq_true rfl) dL_feeds_121 ⟨by show _ ≤ 67; omega, by show _ ≤ 6 * 67; omega⟩ (fun v9 bs9 H locs hp hP hD hS => ?_)
      obtain ⟨rfl, rfl⟩ := hp
      refine lv_icmp_ne (tgt := 131) hx hb dL_feeds_124 (by decide) (fun cq => ?_) (fun cq => ?_)
      · have hf := ie cq hf
        refine lv_iconst (v := 0) hx hb dL_feeds_131 (by decide) ?_
        obtain rfl := Option.some.inj hf
        exact lm_yret (v := 0) hx hb hr rfl hlocks (lk_P [0, 1] rfl hP) hS dL_feeds_132 (by omega) (by omega)
      · have hf := it cq hf
        refine lv_iconst (v := 1) hx hb dL_feeds_127 (by decide) ?_
        refine lv_goto (tgt := 132) hx hb dL_feeds_128 (by decide) ?_
        obtain rfl := Option.some.inj hf
        exact lm_yret (v := 1) hx hb hr rfl hlocks (lk_P [0, 1] rfl hP) hS dL_feeds_132 (by omega) (by omega)
    · have hf := ie cq hf
      refine lv_iconst (v := 5) hx hb dL_feeds_10 (by decide) ?_
      refine la_new (N := 5) (u := 1) hx hb hg hK hP hD hS hA (by decide) (by decide) (Nat.le_of_ble_eq_true rfl) (by decide) ⟨by show _ ≤ 67; omega, by show _ ≤ 6 * 67; omega⟩ dL_feeds_11 (fun q11 H hP hD hS => ?_)
      have hP : va_P E.1 vwCl (W_K E k vK ++ [(aS, .inr (9, [.ref bS, .int 0, .int 0, .int 0])), (bS, .inl (E.2.2.2.1, nS, .inl fS)), (q11, .inl (E.2.1, 5, .inl (fun _ => 0)))]) _ := hP
      have hD : va_D A (W_K E k vK ++ [(aS, .inr (9, [.ref bS, .int 0, .int 0, .int 0])), (bS, .inl (E.2.2.2.1, nS, .inl fS)), (q11, .inl (E.2.1, 5, .inl (fun _ => 0)))]) := hD
      refine lv_astore_n (lv' := [(3, .ref q11), (0, .ref k.1), (1, .ref aS), (2, .int x2)]) hx hb dL_feeds_13 rfl hl (by decide) rfl (fun ls hl => ?_)
      refine lv_iconst (v := 0) hx hb dL_feeds_14 (by decide) ?_
      refine lv_istore (lv' := [(4, .int 0), (3, .ref q11), (0, .ref k.1), (1, .ref aS), (2, .int x2)]) hx hb dL_feeds_15 hl (by decide) rfl (fun ls hl => ?_)
      exact lp_17 21 _ _ _ _ _ _ _ _ _ hf (by omega) hP hD hS (lv_sub hl [2, 3, 4, 1, 0] rfl)
set_option maxHeartbeats 16000000 in
set_option maxRecDepth 100000 in
theorem c_K_feeds (E : Ev) (l : Launch) (hst : l.stackTraces = false) (k : KA) (v0 : KV) (aS bS : Nat) (fS : Nat → Int32) (tS : Nat → Nat) (nS : Nat) (hL : sb_Lat tS nS fS) (hnS : nS ≤ 65536) (r : Int32 × KV) (hf : F_K_feeds v0 tS nS = some r) : LM E l yL_feeds (.code yL_feeds cL_feeds 5 (some .boolean) :: GA) rm_L_feeds [.ref k.1, .ref aS] (W_K E k v0 ++ [(aS, .inr (9, [.ref bS, .int 0, .int 0, .int 0])), (bS, .inl (E.2.2.2.1, nS, .inl fS))]) (some (.int r.1)) (W_K E k r.2 ++ [(aS, .inr (9, [.ref bS, .int 0, .int 0, .int 0])), (bS, .inl (E.2.2.2.1, nS, .inl fS))]) 67 := by
  refine LM.of0 (own := RL) rfl (by decide) (Nat.le_of_ble_eq_true rfl) ?_
  intro p e s m below meth c A ls hx hb hr hml hown hg hlocks hK hE hN hA hP hD hS hl
  have hl : lv_has ls 5 [(0, .ref k.1), (1, .ref aS)] := hl
  have lp_2 := q_K_feeds_2 e below hst k v0 aS bS fS tS nS hL hnS r hx hb hr hml hown hg hlocks hK hE hN hA
  unfold F_K_feeds at hf
  have hc : 0 ≤ 67 := Nat.zero_le _
  refine W.eqS (n := 6 * 0) rfl ?_
  refine lv_iconst (v := 0) hx hb dL_feeds_0 (by decide) ?_
  refine lv_istore_n (lv' := [(2, .int 0), (0, .ref k.1), (1, .ref aS)]) hx hb dL_feeds_1 rfl hl (by decide) rfl (fun ls hl => ?_)
  exact lp_2 16 _ _ _ _ _ _ hf (by omega) hP hD hS (lv_sub hl [1, 2, 0] rfl)
