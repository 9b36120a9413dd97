/-! the law from its entry -/
theorem inv_0 : ∃ (r : (Nat → Int32) × (Nat → Int32) × (Nat → Int32) × (Nat → Nat → Int32) × (Nat → Nat → Int32) × (Nat → Nat → Int32) × (Nat → Int32) × (Nat → Nat → Int32) × (Nat → Nat → Int32) × (Nat → Nat → Int32) × (Nat → Int32) × (Nat → Int32) × (Nat → Nat → Int32)) (w : Nat → Int32), F_X8_init = some r ∧ F_X9_init = some w ∧ InvP 0 r.1 r.2.1 r.2.2.1 r.2.2.2.1 r.2.2.2.2.1 r.2.2.2.2.2.1 r.2.2.2.2.2.2.1 r.2.2.2.2.2.2.2.1 r.2.2.2.2.2.2.2.2.1 r.2.2.2.2.2.2.2.2.2.1 r.2.2.2.2.2.2.2.2.2.2.1 (fun _ => ((fun _ => 0), (fun _ _ => 0), (fun _ _ => 0), (fun _ _ => 0))) r.2.2.2.2.2.2.2.2.2.2.2.1 (fun _ => ((fun _ => 0), (fun _ _ => 0), (fun _ _ => 0), (fun _ _ => 0))) r.2.2.2.2.2.2.2.2.2.2.2.2 (fun _ _ => 0) vM0 w (fun _ => 0) (fun _ => 0) (fun _ => 0) (fun _ => 0) (fun _ => 0) (fun _ => 0) (fun _ => 0) (fun _ => 0) := by
  obtain ⟨r, e, m8, hx, h0, h1, hq, hb⟩ := i8_m
  obtain ⟨w, e9, m9⟩ := i9_m
  exact ⟨r, w, e, e9, DI, fun _ => 0, 0, okn_i, m8, m9, ⟨0, 0, fun _ => DI, Nat.zero_le _, by omega, rfl, h0, h1, fun j hj => absurd hj (Nat.not_lt_zero j)⟩, fun s hs => Or.inl ⟨hq s hs, rfl⟩, ⟨Nat.zero_le _, hb, rfl, fun i hi => absurd hi (Nat.not_lt_zero i)⟩, ⟨0, Nat.zero_le _, rfl, rfl, fun i hi => absurd hi (Nat.not_lt_zero i)⟩, ⟨hx.symm, Or.inl hx⟩⟩
set_option maxHeartbeats 40000000 in
set_option maxRecDepth 100000 in
/-- from the entry, for every script -/
theorem whole_start {p : Program} {e : Env} {s : State} {m : MethodId} {below : List Frame} {meth : Method} {c : Code} (l : Launch) (hflags : l.flags = flags0) {b L : Nat} {xs : Nat → Int32} (hL : L ≤ 3072) (C0 : lw_At p s m meth c b L xs) : W p l e room_1 s m #[Value.ref b] below meth c s.heap [] 0 0 (lw_Z below #[Value.ref b] s) (entryFrame m ([Value.ref b] : List Value).toArray 9) := by
  obtain ⟨hx, hb, hr, hml, hown0, hts, hX, hbl, hlocks, hgv⟩ := id C0
  have hst : l.stackTraces = false := by
    unfold Launch.stackTraces
    rw [hflags]
    decide
  have hown : s.vm.findClass RL = some m.cls := hown0
  have hg : ∀ w ∈ GA, w.before #[Value.ref b] s = true := fun w h => hts w (GA_tbl h)
  have hA : ∀ q : Nat, s.heap.size ≤ q → LA s q := fun _ h => h
  obtain ⟨E, hK, hE, hN, hO⟩ := known_all hts hgv
  obtain ⟨r, w, e8, e9, hI⟩ := inv_0
  have hS : va_S (LA s) s.heap s.heap [] := va_S.rf
  have hP : va_P E.1 vwCl [] s.heap := fun k q h => by simp at h
  have hD : va_D (LA s) [] := ⟨fun i j p q h => by simp at h, fun k q h => by simp at h⟩
  have hl := lv_entry ([.ref b]) (n := 9) (Nat.le_of_ble_eq_true rfl)
  rw [lg_entry_eq]
  generalize (lg_sl ([.ref b]) ++ List.replicate (9 - (lg_sl ([.ref b])).length) Slot.unset).toArray = ls at hl ⊢
  have hl : lv_has ls 9 [(0, .ref b)] := hl
  refine va_new (D := E.1) (ci := 8) (fs := [.null, .null, .null, .null, .null, .null, .null, .int 0]) (C := RX8) (T := TX8) (N := 8) hx hb hg inG_X8 tyX8 tyX8_ok hown (hg _ cl_L_8) (hg _ is_X8) (hg _ ini_X8) hK.1 hP hD hS hA rfl (fun j hj => by rcases (show j = 0 ∨ j = 1 ∨ j = 2 ∨ j = 3 ∨ j = 4 ∨ j = 5 ∨ j = 6 ∨ j = 7 by omega) with rfl | rfl | rfl | rfl | rfl | rfl | rfl | rfl <;> rfl) (Nat.le_of_ble_eq_true rfl) (Nat.le_of_ble_eq_true rfl) dL_law_0 (fun q1 H hP hD hS => ?_)
  have hP : va_P E.1 vwCl ([] ++ [(q1, .inr (8, [.null, .null, .null, .null, .null, .null, .null, .int 0]))]) H := hP
  have hD : va_D (LA s) ([] ++ [(q1, .inr (8, [.null, .null, .null, .null, .null, .null, .null, .int 0]))]) := hD
  refine lv_dup hx hb dL_law_3 rfl ?_
  refine nm_I (As := []) (rest := [.ref q1]) (wr := []) (bs := [(q1, .inr (8, [.null, .null, .null, .null, .null, .null, .null, .int 0]))]) hx hb hml hown hg (c_X8_init E l q1 r e8) ci_X8_init ml_L_156 ⟨⟨rfl, rfl⟩, Nat.le_of_ble_eq_true rfl, Nat.le_of_ble_eq_true rfl⟩ hK hE hO hP hD hS hA rfl hl.1 rfl (Nat.le_of_ble_eq_true rfl) dL_law_4 ⟨Nat.le_of_ble_eq_true rfl, Nat.le_of_ble_eq_true rfl⟩ (fun bs9 H locs hp hP hD hS => ?_)
  obtain ⟨aB, aBw, aP, aN, aNd, aH, aQ, aG, aU, aR, aGd, aUd, aRd, aHA, kn, kg, ku, kr, aQA, aQF, qn, qg, qu, qr, rfl⟩ := hp
  rw [List.nil_append] at hP hD
  refine lv_astore_n (lv' := [(1, .ref q1), (0, .ref b)]) hx hb dL_law_7 rfl hl (by decide) rfl (fun ls hl => ?_)
  refine va_new (D := E.1) (ci := 9) (fs := [.null, .null, .null, .null, .null, .null, .int 0, .null, .int 0, .int 0, .int 0, .int 0, .int 0, .int 0, .int 0, .long 0, .int 0, .null, .int 0]) (C := RX9) (T := TX9) (N := 19) hx hb hg inG_X9 tyX9 tyX9_ok hown (hg _ cl_L_157) (hg _ is_X9) (hg _ ini_X9) hK.1 hP hD hS hA rfl (fun j hj => by rcases (show j = 0 ∨ j = 1 ∨ j = 2 ∨ j = 3 ∨ j = 4 ∨ j = 5 ∨ j = 6 ∨ j = 7 ∨ j = 8 ∨ j = 9 ∨ j = 10 ∨ j = 11 ∨ j = 12 ∨ j = 13 ∨ j = 14 ∨ j = 15 ∨ j = 16 ∨ j = 17 ∨ j = 18 by omega) with rfl | rfl | rfl | rfl | rfl | rfl | rfl | rfl | rfl | rfl | rfl | rfl | rfl | rfl | rfl | rfl | rfl | rfl | rfl <;> rfl) (Nat.le_of_ble_eq_true rfl) (Nat.le_of_ble_eq_true rfl) dL_law_8 (fun q2 H hP hD hS => ?_)
  refine lv_dup hx hb dL_law_11 rfl ?_
  refine nm_I (As := []) (rest := [.ref q2]) (bs := [(q2, .inr (9, [.null, .null, .null, .null, .null, .null, .int 0, .null, .int 0, .int 0, .int 0, .int 0, .int 0, .int 0, .int 0, .long 0, .int 0, .null, .int 0]))]) hx hb hml hown hg (c_X9_init E l q2 w e9) ci_X9_init ml_L_159 ⟨⟨rfl, rfl⟩, Nat.le_of_ble_eq_true rfl, Nat.le_of_ble_eq_true rfl⟩ hK hE hO hP hD hS hA rfl hl.1 rfl (Nat.le_of_ble_eq_true rfl) dL_law_12 ⟨Nat.le_of_ble_eq_true rfl, Nat.le_of_ble_eq_true rfl⟩ (fun bs9 H locs hp hP hD hS => ?_)
  obtain ⟨aM, hz, rfl⟩ := hp
  rw [← hz]
  refine lv_astore_n (lv' := [(2, .ref (aM 0)), (1, .ref q1), (0, .ref b)]) hx hb dL_law_15 rfl hl (by decide) rfl (fun ls hl => ?_)
  refine lv_iconst (v := 1) hx hb dL_law_16 (by decide) ?_
  refine nw_l (N := 1) hx hb hg hK hP hD hS hA (by decide) (by decide) (Nat.le_of_ble_eq_true rfl) (Nat.le_of_ble_eq_true rfl) (Nat.le_of_ble_eq_true rfl) dL_law_17 (fun q3 H hP hD hS => ?_)
  refine lv_astore_n (lv' := [(3, .ref q3), (2, .ref (aM 0)), (1, .ref q1), (0, .ref b)]) hx hb dL_law_19 rfl hl (by decide) rfl (fun ls hl => ?_)
  refine lv_iconst (v := 0) hx hb dL_law_20 (by decide) ?_
  refine lv_istore (lv' := [(4, .int 0), (3, .ref q3), (2, .ref (aM 0)), (1, .ref q1), (0, .ref b)]) hx hb dL_law_21 hl (by decide) rfl (fun ls hl => ?_)
  simp only [List.append_assoc] at hP hD
  refine W.widen (k := 237 + 4 * 0) (n := 10590 + 24 * 0) (Nat.le_of_ble_eq_true rfl) (Nat.le_of_ble_eq_true rfl) ?_
  exact law_loop hst C0 hL hK hE hN q1 aB aBw aP aN aNd aH aQ aG aU aR aGd aUd aRd aHA kn kg ku kr aQA aQF qn qg qu qr aM q3 step_all 513 0 r.1 r.2.1 r.2.2.1 r.2.2.2.1 r.2.2.2.2.1 r.2.2.2.2.2.1 r.2.2.2.2.2.2.1 r.2.2.2.2.2.2.2.1 r.2.2.2.2.2.2.2.2.1 r.2.2.2.2.2.2.2.2.2.1 r.2.2.2.2.2.2.2.2.2.2.1 (fun _ => ((fun _ => 0), (fun _ _ => 0), (fun _ _ => 0), (fun _ _ => 0))) r.2.2.2.2.2.2.2.2.2.2.2.1 (fun _ => ((fun _ => 0), (fun _ _ => 0), (fun _ _ => 0), (fun _ _ => 0))) r.2.2.2.2.2.2.2.2.2.2.2.2 (fun _ _ => 0) vM0 w (fun _ => 0) (fun _ => 0) (fun _ => 0) (fun _ => 0) (fun _ => 0) (fun _ => 0) (fun _ => 0) (fun _ => 0) hI (Nat.zero_le _) (by omega) H _ hP hD hS ls (lv_sub hl [4, 3, 2, 1, 0] rfl)
