/-! the law from its entry: what the start knows -/
theorem fl_sub {b : Nat} {s : State} (hgv : (Jvm.Cond.and given_1 narrow_1).before #[Value.ref b] s = true) : ∀ w ∈ flatC (Jvm.Cond.and given_1 narrow_1), w.before #[Value.ref b] s = true := flat_of_before _ hgv
def tmS (i : Nat) : Term := match SRl[i]? with
  | some q => Term.string q.1 q.2.1
  | none => Term.string "" 0
theorem pr_ex : ∀ q ∈ SRl, Cond.exactly (Term.string q.1 q.2.1) "java/lang/String" ∈ flatC (Jvm.Cond.and given_1 narrow_1) := by decide +kernel
theorem pr_co : ∀ i, i < 16 → Cond.eq (.field (tmS i) "java/lang/String" "coder" "B") (.int 0) ∈ flatC (Jvm.Cond.and given_1 narrow_1) := by decide +kernel
theorem pr_ar : ∀ i, i < 16 → Cond.arrayOf (.field (tmS i) "java/lang/String" "value" "[B") .byte ∈ flatC (Jvm.Cond.and given_1 narrow_1) := by decide +kernel
theorem pr_le : ∀ i, i < 16 → Cond.eq (.length (.field (tmS i) "java/lang/String" "value" "[B")) (.int (Int32.ofNat (lenS.getD i 0))) ∈ flatC (Jvm.Cond.and given_1 narrow_1) := by decide +kernel
theorem pr_el : ∀ i, i < 16 → ∀ j, j < lenS.getD i 0 → Cond.eq (.elem (.field (tmS i) "java/lang/String" "value" "[B") (.int (Int32.ofNat j))) (.int ((bytS.getD i []).getD j 0)) ∈ flatC (Jvm.Cond.and given_1 narrow_1) := by decide +kernel
theorem pr_nc : ∀ q ∈ NCl, Cond.not (.castable q.1 q.2) ∈ flatC (Jvm.Cond.and given_1 narrow_1) := by decide +kernel
theorem tx1 {A0 : Array Value} {s : State} {T : Term} {L : Nat} {bs : List Int32} (hL : L < 2 ^ 31) (h1 : (Cond.exactly T "java/lang/String").before A0 s = true) (h2 : (Cond.eq (.field T "java/lang/String" "coder" "B") (.int 0)).before A0 s = true) (h3 : (Cond.arrayOf (.field T "java/lang/String" "value" "[B") .byte).before A0 s = true) (h4 : (Cond.eq (.length (.field T "java/lang/String" "value" "[B")) (.int (Int32.ofNat L))).before A0 s = true) (h5 : ∀ j, j < L → (Cond.eq (.elem (.field T "java/lang/String" "value" "[B") (.int (Int32.ofNat j))) (.int (bs.getD j 0))).before A0 s = true) : ∃ q : Nat × Nat, T.eval A0 s none [] s = some (.ref q.1) ∧ va_O "java/lang/String" q.1 (LA s) s s.heap ∧ va_OF "java/lang/String" "coder" "B" (.int 0) q.1 (LA s) s s.heap ∧ va_OF "java/lang/String" "value" "[B" (.ref q.2) q.1 (LA s) s s.heap ∧ va_T .byte q.2 L (fun j => .int (bs.getD j 0)) (LA s) s s.heap := by
  have hi : ∀ i : Nat, i < 1 → i = 0 := fun i h => by omega
  obtain ⟨k, v, h, he⟩ := vk_Sof (N := 1) (tm := fun _ => T) (len := [L]) (byt := [bs]) (A := LA s) (args := A0) (s := s) (fun i h => by rw [hi i h]; exact hL) (fun i _ => h1) (fun i _ => h2) (fun i _ => h3) (fun i h => by rw [hi i h]; exact h4) (fun i h j hj => by rw [hi i h] at hj ⊢; exact h5 j hj) (fun i j h1 h2 h3 => absurd ((hi i h1).trans (hi j h2).symm) h3) (fun a h => Nat.not_le.mpr h)
  exact ⟨(k 0, v 0), he 0 (by omega), h.1 0 (by omega)⟩
theorem of_fun {o n d : String} {v v' : Value} {a : Nat} {B : Nat → Prop} {U : State} {H : Heap} (h : va_OF o n d v a B U H) (h' : va_OF o n d v' a B U H) : v = v' := by
  obtain ⟨c1, k1, i1, f1, e1, x1, -, x3, -, x5, -⟩ := h
  obtain ⟨c2, k2, i2, f2, e2, y1, -, y3, -, y5, -⟩ := h'
  rw [x1] at y1
  cases y1
  rw [x3] at y3
  cases y3
  rw [x5] at y5
  exact Option.some.inj y5
theorem t_fun {ty : FieldType} {t N N' : Nat} {f f' : Nat → Value} {B : Nat → Prop} {U : State} {H : Heap} (h : va_T ty t N f B U H) (h' : va_T ty t N' f' B U H) : Int32.ofNat N = Int32.ofNat N' ∧ ∀ k, k < N → k < N' → f k = f' k := by
  obtain ⟨c1, x1, -, -, -, x5, x6, -⟩ := h
  obtain ⟨c2, y1, -, -, -, y5, y6, -⟩ := h'
  rw [x1] at y1
  cases y1
  refine ⟨x5.symm.trans y5, fun k hN hN' => ?_⟩
  have := (x6 k hN).symm.trans (y6 k hN')
  exact Option.some.inj this
theorem tx_ne : ∀ i, i < 16 → ∀ j, j < 16 → i ≠ j → Int32.ofNat (lenS.getD i 0) ≠ Int32.ofNat (lenS.getD j 0) ∨ (bytS.getD i []).getD 0 0 ≠ (bytS.getD j []).getD 0 0 ∨ (1 < lenS.getD i 0 ∧ 1 < lenS.getD j 0 ∧ (bytS.getD i []).getD 1 0 ≠ (bytS.getD j []).getD 1 0) := by decide +kernel
theorem tx_pos : ∀ i, i < 16 → 0 < lenS.getD i 0 ∧ lenS.getD i 0 < 2 ^ 31 := by decide +kernel
theorem tm_mem : ∀ i, i < 16 → Cond.exactly (tmS i) "java/lang/String" ∈ flatC (Jvm.Cond.and given_1 narrow_1) := by decide +kernel
/-- the texts' addresses -/
def adrS (b : Nat) (s : State) (i : Nat) : Nat := match (tmS i).eval #[Value.ref b] s none [] s with
  | some (.ref a) => a
  | _ => 0
theorem adr_of {b : Nat} {s : State} {i a : Nat} (h : (tmS i).eval #[Value.ref b] s none [] s = some (.ref a)) : adrS b s i = a := by
  unfold adrS
  rw [h]
theorem known_S {b : Nat} {s : State} (hgv : (Jvm.Cond.and given_1 narrow_1).before #[Value.ref b] s = true) : ∃ adV : Nat → Nat, vk_S 16 lenS bytS (adrS b s) adV (LA s) s s.heap := by
  have hq := fl_sub hgv
  have h0 : ∀ i : Nat, ∃ q : Nat × Nat, i < 16 → (tmS i).eval #[Value.ref b] s none [] s = some (.ref q.1) ∧ va_O "java/lang/String" q.1 (LA s) s s.heap ∧ va_OF "java/lang/String" "coder" "B" (.int 0) q.1 (LA s) s s.heap ∧ va_OF "java/lang/String" "value" "[B" (.ref q.2) q.1 (LA s) s s.heap ∧ va_T .byte q.2 (lenS.getD i 0) (fun j => .int ((bytS.getD i []).getD j 0)) (LA s) s s.heap := by
    intro i
    by_cases hi : i < 16
    · obtain ⟨q, h⟩ := tx1 (s := s) (T := tmS i) (tx_pos i hi).2 (hq _ (tm_mem i hi)) (hq _ (pr_co i hi)) (hq _ (pr_ar i hi)) (hq _ (pr_le i hi)) (fun j hj => hq _ (pr_el i hi j hj))
      exact ⟨q, fun _ => h⟩
    · exact ⟨(0, 0), fun h => absurd h hi⟩
  obtain ⟨ad, had⟩ := Classical.axiomOfChoice h0
  have e : ∀ i, i < 16 → adrS b s i = (ad i).1 := fun i hi => adr_of (had i hi).1
  refine ⟨fun i => (ad i).2, fun i hi => by rw [e i hi]; exact (had i hi).2, fun i j hi hj he => ?_⟩
  rw [e i hi, e j hj] at he
  refine Decidable.byContradiction fun hij => ?_
  have a1 := (had i hi).2.2.2.1
  have a2 := (had j hj).2.2.2.1
  rw [he] at a1
  have a3 := of_fun a1 a2
  have a4 : (ad i).2 = (ad j).2 := by injection a3
  have t1 := (had i hi).2.2.2.2
  have t2 := (had j hj).2.2.2.2
  rw [a4] at t1
  obtain ⟨g1, g2⟩ := t_fun t1 t2
  rcases tx_ne i hi j hj hij with h | h | ⟨l1, l2, h⟩
  · exact h g1
  · have g3 := g2 0 (tx_pos i hi).1 (tx_pos j hj).1
    apply h
    injection g3
  · have g3 := g2 1 l1 l2
    apply h
    injection g3
theorem known_R {b : Nat} {s : State} (hgv : (Jvm.Cond.and given_1 narrow_1).before #[Value.ref b] s = true) {q : String × Nat × String × Nat} (hm : q ∈ SRl) (ht : tmS q.2.2.2 = Term.string q.1 q.2.1) (hw : (Cond.stringRef q.1 q.2.1 q.2.2.1).before #[Value.ref b] s = true) : vk_R q.1 q.2.1 q.2.2.1 (adrS b s q.2.2.2) s := by
  obtain ⟨a, c, cA, kA, q1, -⟩ := Cond.exactly_spec (args := #[Value.ref b]) (first := s) (o := none) (s := s) (idx := []) (fl_sub hgv _ (pr_ex q hm))
  have : adrS b s q.2.2.2 = a := adr_of (by rw [ht]; exact q1)
  rw [this]
  exact vk_R.of hw q1
def Eof (cs : Nat → ClassId) (is : Nat → Nat → Nat) (cI cZ cB cN cS : ClassId) (b : Nat) (s : State) (adV : Nat → Nat) : Ev := ((cs, is), cI, cZ, cB, cN, adrS b s, adV, cS)
set_option maxHeartbeats 4000000 in
set_option maxRecDepth 100000 in
theorem known_all {b : Nat} {s : State} (hts : ∀ w ∈ lw_tbl, w.before #[Value.ref b] s = true) (hgv : (Jvm.Cond.and given_1 narrow_1).before #[Value.ref b] s = true) : ∃ E : Ev, KX E s ∧ EX E (LA s) s s.heap ∧ NX s ∧ va_AO "NightPorter$Night" s := by
  have hg : ∀ w ∈ GA, w.before #[Value.ref b] s = true := fun w h => hts w (GA_tbl h)
  have hq := fl_sub hgv
  have hA : ∀ a : Nat, a < s.heap.size → ¬ LA s a := fun a h => Nat.not_le.mpr h
  obtain ⟨c0, i0, k0⟩ := u_known (C := RX0) (T := TX0) (N := 2) (n := 2) hg inG_X0 (hg _ is_X0)
  obtain ⟨c1, i1, k1⟩ := u_known (C := RX1) (T := TX1) (N := 9) (n := 9) hg inG_X1 (hg _ is_X1)
  obtain ⟨c2, i2, k2⟩ := u_known (C := RX2) (T := TX2) (N := 3) (n := 3) hg inG_X2 (hg _ is_X2)
  obtain ⟨c3, i3, k3⟩ := u_known (C := RX3) (T := TX3) (N := 10) (n := 10) hg inG_X3 (hg _ is_X3)
  obtain ⟨c4, i4, k4⟩ := u_known (C := RX4) (T := TX4) (N := 5) (n := 5) hg inG_X4 (hg _ is_X4)
  obtain ⟨c5, i5, k5⟩ := u_known (C := RX5) (T := TX5) (N := 4) (n := 4) hg inG_X5 (hg _ is_X5)
  obtain ⟨c6, i6, k6⟩ := u_known (C := RX6) (T := TX6) (N := 2) (n := 2) hg inG_X6 (hg _ is_X6)
  obtain ⟨c7, i7, k7⟩ := u_known (C := RX7) (T := TX7) (N := 4) (n := 4) hg inG_X7 (hg _ is_X7)
  obtain ⟨c8, i8, k8⟩ := u_known (C := RX8) (T := TX8) (N := 8) (n := 8) hg inG_X8 (hg _ is_X8)
  obtain ⟨c9, i9, k9⟩ := u_known (C := RJ0) (T := TJ0) (N := 4) (n := 4) hg inG_J0 (hg _ is_J0)
  obtain ⟨c10, i10, k10⟩ := u_known (C := RJ4) (T := TJ4) (N := 4) (n := 4) hg inG_J4 (hg _ is_J4)
  obtain ⟨cI, kI, mI, fI, gI, hI⟩ := Cond.arrayClass_spec (args := #[Value.ref b]) (first := s) (o := none) (s := s) (idx := []) (hg _ ac_int)
  obtain ⟨cZ, kZ, mZ, fZ, gZ, hZ⟩ := Cond.arrayClass_spec (args := #[Value.ref b]) (first := s) (o := none) (s := s) (idx := []) (hg _ ac_boolean)
  obtain ⟨cB, kB, mB, fB, gB, hB⟩ := Cond.arrayClass_spec (args := #[Value.ref b]) (first := s) (o := none) (s := s) (idx := []) (hg _ ac_byte)
  have hO : (Cond.arrayOver (.object "NightPorter$Night")).before #[Value.ref b] s = true := hts _ (tb1 (List.mem_of_getElem? (i := 229) (by decide +kernel)))
  obtain ⟨compN, cN, kN, fN, xN, gN, hN, zN⟩ := Cond.arrayOver_spec (args := #[Value.ref b]) (first := s) (o := none) (s := s) (idx := []) hO
  have hO2 : (Cond.arrayOver (.object "java/lang/String")).before #[Value.ref b] s = true := hts _ (tb5 (List.mem_of_getElem? (i := 205) (by decide +kernel)))
  obtain ⟨compS, cS, kS9, fS, xS, gS, hS9, zS⟩ := Cond.arrayOver_spec (args := #[Value.ref b]) (first := s) (o := none) (s := s) (idx := []) hO2
  obtain ⟨adV, hSt⟩ := known_S hgv
  refine ⟨Eof (fun k => if k = 0 then c0 else if k = 1 then c1 else if k = 2 then c2 else if k = 3 then c3 else if k = 4 then c4 else if k = 5 then c5 else if k = 6 then c6 else if k = 7 then c7 else if k = 8 then c8 else if k = 9 then c9 else c10) (fun k => if k = 0 then i0 else if k = 1 then i1 else if k = 2 then i2 else if k = 3 then i3 else if k = 4 then i4 else if k = 5 then i5 else if k = 6 then i6 else if k = 7 then i7 else if k = 8 then i8 else if k = 9 then i9 else i10) cI cZ cB cN cS b s adV, ⟨⟨?_, ?_⟩, ?_⟩, ⟨hSt, ?_, ?_, ?_, ?_, ?_, ?_, ?_, ?_, ?_⟩, ⟨fun q h => va_Nc.of (hq _ (pr_nc q h)), va_AO.of hO2, ?_, ?_⟩, va_AO.of hO⟩
  · intro k q h
    match k, h with
    | 0, h => cases h; exact k0
    | 1, h => cases h; exact k1
    | 2, h => cases h; exact k2
    | 3, h => cases h; exact k3
    | 4, h => cases h; exact k4
    | 5, h => cases h; exact k5
    | 6, h => cases h; exact k6
    | 7, h => cases h; exact k7
    | 8, h => cases h; exact k8
    | 9, h => cases h; exact k9
    | 10, h => cases h; exact k10
    | k + 11, h => simp [vwCl] at h
  · intro k q h
    match k, h with
    | 0, h => cases h; exact ⟨fun n z => ⟨(fun k h => (by cases h)), kI, gI, mI, hI⟩, fI⟩
    | 1, h => cases h; exact ⟨fun n z => ⟨(fun k h => (by cases h)), kZ, gZ, mZ, hZ⟩, fZ⟩
    | 2, h => cases h; exact ⟨fun n z => ⟨(fun k h => (by cases h)), kB, gB, mB, hB⟩, fB⟩
    | 3, h => cases h; exact ⟨fun n z => ⟨(fun k h => (by cases h)), kN, gN, compN, hN⟩, kN, compN, gN, hN, fN, zN⟩
    | 4, h => cases h; exact ⟨fun n z => ⟨(fun k h => (by cases h)), kS9, gS, compS, hS9⟩, kS9, compS, gS, hS9, fS, zS⟩
    | k + 5, h => simp [tysE] at h
  · exact List.forall_mem_cons.mpr ⟨va_Nw.of (A := #[Value.ref b]) rfl (hts _ (tb1 (List.mem_of_getElem? (i := 39) (by decide +kernel)))), List.forall_mem_cons.mpr ⟨va_Nw.of (A := #[Value.ref b]) rfl (hts _ (tb1 (List.mem_of_getElem? (i := 80) (by decide +kernel)))), List.forall_mem_cons.mpr ⟨va_Nw.of (A := #[Value.ref b]) rfl (hts _ (tb1 (List.mem_of_getElem? (i := 86) (by decide +kernel)))), List.forall_mem_cons.mpr ⟨va_Nw.of (A := #[Value.ref b]) rfl (hts _ (tb1 (List.mem_of_getElem? (i := 130) (by decide +kernel)))), List.forall_mem_cons.mpr ⟨va_Nw.of (A := #[Value.ref b]) rfl (hts _ (tb1 (List.mem_of_getElem? (i := 155) (by decide +kernel)))), List.forall_mem_cons.mpr ⟨va_Nw.of (A := #[Value.ref b]) rfl (hts _ (tb1 (List.mem_of_getElem? (i := 230) (by decide +kernel)))), List.forall_mem_cons.mpr ⟨va_Nw.of (A := #[Value.ref b]) rfl (hts _ (tb2 (List.mem_of_getElem? (i := 9) (by decide +kernel)))), List.forall_mem_cons.mpr ⟨va_Nw.of (A := #[Value.ref b]) rfl (hts _ (tb2 (List.mem_of_getElem? (i := 93) (by decide +kernel)))), List.forall_mem_cons.mpr ⟨va_Nw.of (A := #[Value.ref b]) rfl (hts _ (tb2 (List.mem_of_getElem? (i := 96) (by decide +kernel)))), List.forall_mem_cons.mpr ⟨va_Nw.of (A := #[Value.ref b]) rfl (hts _ (tb2 (List.mem_of_getElem? (i := 103) (by decide +kernel)))), List.forall_mem_cons.mpr ⟨va_Nw.of (A := #[Value.ref b]) rfl (hts _ (tb3 (List.mem_of_getElem? (i := 77) (by decide +kernel)))), List.forall_mem_nil _⟩⟩⟩⟩⟩⟩⟩⟩⟩⟩⟩
  · exact va_Zof (args := #[Value.ref b]) (hts _ (tb2 (List.mem_of_getElem? (i := 34) (by decide +kernel)))) (hts _ (tb1 (List.mem_of_getElem? (i := 10) (by decide +kernel)))) (va_eqt (hq (Cond.eq (.static "java/lang/String" "COMPACT_STRINGS" "Z") (.int 1)) (by decide +kernel))) hA
  · exact va_Zqof (args := #[Value.ref b]) (hts _ (tb2 (List.mem_of_getElem? (i := 50) (by decide +kernel)))) (hts _ (tb1 (List.mem_of_getElem? (i := 12) (by decide +kernel)))) (hq (Cond.isRef (.static "jdk/internal/util/Preconditions" "SIOOBE_FORMATTER" "Ljava/util/function/BiFunction;")) (by decide +kernel)) hA
  · exact vx_Zqof (args := #[Value.ref b]) (hts _ (tb3 (List.mem_of_getElem? (i := 32) (by decide +kernel)))) (hts _ (tb1 (List.mem_of_getElem? (i := 15) (by decide +kernel)))) (hq (Cond.isRef (.static "java/lang/Throwable" "UNASSIGNED_STACK" "[Ljava/lang/StackTraceElement;")) (by decide +kernel)) hA
  · exact vx_Zqof (args := #[Value.ref b]) (hts _ (tb3 (List.mem_of_getElem? (i := 34) (by decide +kernel)))) (hts _ (tb1 (List.mem_of_getElem? (i := 15) (by decide +kernel)))) (hq (Cond.isRef (.static "java/lang/Throwable" "SUPPRESSED_SENTINEL" "Ljava/util/List;")) (by decide +kernel)) hA
  · have hR : ∀ q ∈ SRl, (Cond.stringRef q.1 q.2.1 q.2.2.1).before #[Value.ref b] s = true := List.forall_mem_cons.mpr ⟨hts _ (tb2 (List.mem_of_getElem? (i := 20) (by decide +kernel))), List.forall_mem_cons.mpr ⟨hts _ (tb2 (List.mem_of_getElem? (i := 114) (by decide +kernel))), List.forall_mem_cons.mpr ⟨hts _ (tb2 (List.mem_of_getElem? (i := 129) (by decide +kernel))), List.forall_mem_cons.mpr ⟨hts _ (tb2 (List.mem_of_getElem? (i := 146) (by decide +kernel))), List.forall_mem_cons.mpr ⟨hts _ (tb2 (List.mem_of_getElem? (i := 151) (by decide +kernel))), List.forall_mem_cons.mpr ⟨hts _ (tb5 (List.mem_of_getElem? (i := 36) (by decide +kernel))), List.forall_mem_cons.mpr ⟨hts _ (tb5 (List.mem_of_getElem? (i := 206) (by decide +kernel))), List.forall_mem_cons.mpr ⟨hts _ (tb5 (List.mem_of_getElem? (i := 207) (by decide +kernel))), List.forall_mem_cons.mpr ⟨hts _ (tb5 (List.mem_of_getElem? (i := 208) (by decide +kernel))), List.forall_mem_cons.mpr ⟨hts _ (tb5 (List.mem_of_getElem? (i := 209) (by decide +kernel))), List.forall_mem_cons.mpr ⟨hts _ (tb5 (List.mem_of_getElem? (i := 210) (by decide +kernel))), List.forall_mem_cons.mpr ⟨hts _ (tb5 (List.mem_of_getElem? (i := 211) (by decide +kernel))), List.forall_mem_cons.mpr ⟨hts _ (tb5 (List.mem_of_getElem? (i := 213) (by decide +kernel))), List.forall_mem_cons.mpr ⟨hts _ (tb5 (List.mem_of_getElem? (i := 215) (by decide +kernel))), List.forall_mem_cons.mpr ⟨hts _ (tb5 (List.mem_of_getElem? (i := 222) (by decide +kernel))), List.forall_mem_cons.mpr ⟨hts _ (tb6 (List.mem_of_getElem? (i := 48) (by decide +kernel))), List.forall_mem_cons.mpr ⟨hts _ (tb3 (List.mem_of_getElem? (i := 47) (by decide +kernel))), List.forall_mem_cons.mpr ⟨hts _ (tb3 (List.mem_of_getElem? (i := 78) (by decide +kernel))), List.forall_mem_cons.mpr ⟨hts _ (tb3 (List.mem_of_getElem? (i := 88) (by decide +kernel))), List.forall_mem_cons.mpr ⟨hts _ (tb3 (List.mem_of_getElem? (i := 96) (by decide +kernel))), List.forall_mem_cons.mpr ⟨hts _ (tb3 (List.mem_of_getElem? (i := 123) (by decide +kernel))), List.forall_mem_cons.mpr ⟨hts _ (tb3 (List.mem_of_getElem? (i := 130) (by decide +kernel))), List.forall_mem_cons.mpr ⟨hts _ (tb3 (List.mem_of_getElem? (i := 140) (by decide +kernel))), List.forall_mem_cons.mpr ⟨hts _ (tb3 (List.mem_of_getElem? (i := 145) (by decide +kernel))), List.forall_mem_cons.mpr ⟨hts _ (tb3 (List.mem_of_getElem? (i := 183) (by decide +kernel))), List.forall_mem_cons.mpr ⟨hts _ (tb3 (List.mem_of_getElem? (i := 212) (by decide +kernel))), List.forall_mem_cons.mpr ⟨hts _ (tb4 (List.mem_of_getElem? (i := 4) (by decide +kernel))), List.forall_mem_cons.mpr ⟨hts _ (tb4 (List.mem_of_getElem? (i := 21) (by decide +kernel))), List.forall_mem_cons.mpr ⟨hts _ (tb4 (List.mem_of_getElem? (i := 34) (by decide +kernel))), List.forall_mem_cons.mpr ⟨hts _ (tb4 (List.mem_of_getElem? (i := 53) (by decide +kernel))), List.forall_mem_cons.mpr ⟨hts _ (tb4 (List.mem_of_getElem? (i := 64) (by decide +kernel))), List.forall_mem_cons.mpr ⟨hts _ (tb4 (List.mem_of_getElem? (i := 69) (by decide +kernel))), List.forall_mem_cons.mpr ⟨hts _ (tb4 (List.mem_of_getElem? (i := 78) (by decide +kernel))), List.forall_mem_cons.mpr ⟨hts _ (tb4 (List.mem_of_getElem? (i := 83) (by decide +kernel))), List.forall_mem_cons.mpr ⟨hts _ (tb4 (List.mem_of_getElem? (i := 92) (by decide +kernel))), List.forall_mem_cons.mpr ⟨hts _ (tb4 (List.mem_of_getElem? (i := 98) (by decide +kernel))), List.forall_mem_cons.mpr ⟨hts _ (tb4 (List.mem_of_getElem? (i := 132) (by decide +kernel))), List.forall_mem_cons.mpr ⟨hts _ (tb4 (List.mem_of_getElem? (i := 151) (by decide +kernel))), List.forall_mem_cons.mpr ⟨hts _ (tb4 (List.mem_of_getElem? (i := 157) (by decide +kernel))), List.forall_mem_cons.mpr ⟨hts _ (tb4 (List.mem_of_getElem? (i := 166) (by decide +kernel))), List.forall_mem_cons.mpr ⟨hts _ (tb4 (List.mem_of_getElem? (i := 183) (by decide +kernel))), List.forall_mem_cons.mpr ⟨hts _ (tb4 (List.mem_of_getElem? (i := 211) (by decide +kernel))), List.forall_mem_cons.mpr ⟨hts _ (tb4 (List.mem_of_getElem? (i := 234) (by decide +kernel))), List.forall_mem_cons.mpr ⟨hts _ (tb5 (List.mem_of_getElem? (i := 25) (by decide +kernel))), List.forall_mem_nil _⟩⟩⟩⟩⟩⟩⟩⟩⟩⟩⟩⟩⟩⟩⟩⟩⟩⟩⟩⟩⟩⟩⟩⟩⟩⟩⟩⟩⟩⟩⟩⟩⟩⟩⟩⟩⟩⟩⟩⟩⟩⟩⟩⟩
    have hT : ∀ q ∈ SRl, tmS q.2.2.2 = Term.string q.1 q.2.1 := List.forall_mem_cons.mpr ⟨rfl, List.forall_mem_cons.mpr ⟨rfl, List.forall_mem_cons.mpr ⟨rfl, List.forall_mem_cons.mpr ⟨rfl, List.forall_mem_cons.mpr ⟨rfl, List.forall_mem_cons.mpr ⟨rfl, List.forall_mem_cons.mpr ⟨rfl, List.forall_mem_cons.mpr ⟨rfl, List.forall_mem_cons.mpr ⟨rfl, List.forall_mem_cons.mpr ⟨rfl, List.forall_mem_cons.mpr ⟨rfl, List.forall_mem_cons.mpr ⟨rfl, List.forall_mem_cons.mpr ⟨rfl, List.forall_mem_cons.mpr ⟨rfl, List.forall_mem_cons.mpr ⟨rfl, List.forall_mem_cons.mpr ⟨rfl, List.forall_mem_cons.mpr ⟨rfl, List.forall_mem_cons.mpr ⟨rfl, List.forall_mem_cons.mpr ⟨rfl, List.forall_mem_cons.mpr ⟨rfl, List.forall_mem_cons.mpr ⟨rfl, List.forall_mem_cons.mpr ⟨rfl, List.forall_mem_cons.mpr ⟨rfl, List.forall_mem_cons.mpr ⟨rfl, List.forall_mem_cons.mpr ⟨rfl, List.forall_mem_cons.mpr ⟨rfl, List.forall_mem_cons.mpr ⟨rfl, List.forall_mem_cons.mpr ⟨rfl, List.forall_mem_cons.mpr ⟨rfl, List.forall_mem_cons.mpr ⟨rfl, List.forall_mem_cons.mpr ⟨rfl, List.forall_mem_cons.mpr ⟨rfl, List.forall_mem_cons.mpr ⟨rfl, List.forall_mem_cons.mpr ⟨rfl, List.forall_mem_cons.mpr ⟨rfl, List.forall_mem_cons.mpr ⟨rfl, List.forall_mem_cons.mpr ⟨rfl, List.forall_mem_cons.mpr ⟨rfl, List.forall_mem_cons.mpr ⟨rfl, List.forall_mem_cons.mpr ⟨rfl, List.forall_mem_cons.mpr ⟨rfl, List.forall_mem_cons.mpr ⟨rfl, List.forall_mem_cons.mpr ⟨rfl, List.forall_mem_cons.mpr ⟨rfl, List.forall_mem_nil _⟩⟩⟩⟩⟩⟩⟩⟩⟩⟩⟩⟩⟩⟩⟩⟩⟩⟩⟩⟩⟩⟩⟩⟩⟩⟩⟩⟩⟩⟩⟩⟩⟩⟩⟩⟩⟩⟩⟩⟩⟩⟩⟩⟩
    exact fun q h => known_R hgv h (hT q h) (hR q h)
  · exact List.forall_mem_cons.mpr ⟨va_Nw.of (A := #[Value.ref b]) rfl (hts _ (tb3 (List.mem_of_getElem? (i := 81) (by decide +kernel)))), List.forall_mem_cons.mpr ⟨va_Nw.of (A := #[Value.ref b]) rfl (hts _ (tb3 (List.mem_of_getElem? (i := 7) (by decide +kernel)))), List.forall_mem_cons.mpr ⟨va_Nw.of (A := #[Value.ref b]) rfl (hts _ (tb4 (List.mem_of_getElem? (i := 46) (by decide +kernel)))), List.forall_mem_cons.mpr ⟨va_Nw.of (A := #[Value.ref b]) rfl (hts _ (tb3 (List.mem_of_getElem? (i := 116) (by decide +kernel)))), List.forall_mem_nil _⟩⟩⟩⟩
  · exact List.forall_mem_cons.mpr ⟨va_Nw.of (A := #[Value.ref b]) rfl (hts _ (tb3 (List.mem_of_getElem? (i := 9) (by decide +kernel)))), List.forall_mem_cons.mpr ⟨va_Nw.of (A := #[Value.ref b]) rfl (hts _ (tb3 (List.mem_of_getElem? (i := 11) (by decide +kernel)))), List.forall_mem_cons.mpr ⟨va_Nw.of (A := #[Value.ref b]) rfl (hts _ (tb3 (List.mem_of_getElem? (i := 13) (by decide +kernel)))), List.forall_mem_nil _⟩⟩⟩
  · have he : ∀ j : Nat, j < 100 → Cond.eq (.elem (Term.static "java/lang/Integer" "DigitOnes" "[B") (.int (Int32.ofNat j))) (.int (nI (48 + j % 10))) ∈ flatC (Jvm.Cond.and given_1 narrow_1) := by decide +kernel
    obtain ⟨t, ht, hT⟩ := va_Tof (args := #[Value.ref b]) (s := s) (tm := (Term.static "java/lang/Integer" "DigitOnes" "[B")) (ty := .byte) (N := 100) (f := fun j => .int (nI (48 + j % 10))) (A := LA s) (by decide) (hq _ (by decide +kernel)) (va_eqt (hq (Cond.eq (.length (Term.static "java/lang/Integer" "DigitOnes" "[B")) (.int (Int32.ofNat 100))) (by decide +kernel))) (fun j hj => va_eqt (hq _ (he j hj))) hA
    exact ⟨t, va_Zof (args := #[Value.ref b]) (hts _ (tb5 (List.mem_of_getElem? (i := 180) (by decide +kernel)))) (hts _ (tb1 (List.mem_of_getElem? (i := 28) (by decide +kernel)))) ht hA, hT⟩
  · have he : ∀ j : Nat, j < 100 → Cond.eq (.elem (Term.static "java/lang/Integer" "DigitTens" "[B") (.int (Int32.ofNat j))) (.int (nI (48 + j / 10))) ∈ flatC (Jvm.Cond.and given_1 narrow_1) := by decide +kernel
    obtain ⟨t, ht, hT⟩ := va_Tof (args := #[Value.ref b]) (s := s) (tm := (Term.static "java/lang/Integer" "DigitTens" "[B")) (ty := .byte) (N := 100) (f := fun j => .int (nI (48 + j / 10))) (A := LA s) (by decide) (hq _ (by decide +kernel)) (va_eqt (hq (Cond.eq (.length (Term.static "java/lang/Integer" "DigitTens" "[B")) (.int (Int32.ofNat 100))) (by decide +kernel))) (fun j hj => va_eqt (hq _ (he j hj))) hA
    exact ⟨t, va_Zof (args := #[Value.ref b]) (hts _ (tb5 (List.mem_of_getElem? (i := 182) (by decide +kernel)))) (hts _ (tb1 (List.mem_of_getElem? (i := 28) (by decide +kernel)))) ht hA, hT⟩
  · exact va_Nw.of (A := #[Value.ref b]) rfl (hts _ (tb5 (List.mem_of_getElem? (i := 96) (by decide +kernel))))
  · intro y hy
    refine List.forall_mem_cons.mpr ⟨?_, List.forall_mem_cons.mpr ⟨?_, List.forall_mem_cons.mpr ⟨?_, List.forall_mem_cons.mpr ⟨?_, fun _ h => absurd h List.not_mem_nil⟩⟩⟩⟩ y hy <;> exact va_Nw.of (A := #[Value.ref b]) rfl (hts _ (List.mem_append_left _ (by decide +kernel)))
