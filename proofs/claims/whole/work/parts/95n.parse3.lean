/-! the text read: umbrellas, loops, the whole text -/
theorem uJw {M : (Nat → Int32) × Int64} {b d : Nat → Int32} (h8 : M.1 8 = nI 0) : J_X9_readUmbrella_45 b m1 M d = some (Mw M, d) := by
  unfold J_X9_readUmbrella_45
  have hw : (Mw M).1 8 = nI 1 := rfl
  rw [if_pos (show m1 < (0 : Int32) from f_m10), show F_X9_takes M b 0 = some (nI 0, Mw M) from tk0 h8, q_sb, tnw hw, q_sb, tkw hw, q_sb, if_pos (show nI 0 = (0 : Int32) from rfl)]
theorem um_step {vB : Nat → Nat → Int32} {vbuffer : Nat → Int32} {l : Nat → Nat} {n k s e v : Nat} {vP : Nat → Int32} {M : (Nat → Int32) × Int64} {vN d : Nat → Int32} {vG vU vR : Nat → Nat → Int32} {D : Dn} {T : Nat} (hB : Byt vB vbuffer l n) (t : Tk l n vP M k s e v) (h8 : M.1 8 = nI 0) (o : OkN T D) (m8 : M8 vN vG vU vR D) (m9 : M9 d D) (hU : D.U < 12) :
    (∃ P1 U1 P2 M2 d2 D2 k2 s2 e2 v2, F_X4_readUmbrella vP vN vG vU vB = some (nI 1, P1, U1) ∧ F_X4_passSemicolon P1 vB = some (nI 1, P2) ∧ F_X9_readUmbrella M d vbuffer = some (M2, d2) ∧ Tk l n P2 M2 k2 s2 e2 v2 ∧ M2.1 8 = nI 0 ∧ OkN T D2 ∧ M8 vN vG U1 vR D2 ∧ M9 d2 D2 ∧ D2.G = D.G ∧ D2.U = D.U + 1 ∧ Fr M M2) ∨
    (∃ P1 U1 M2 d2 er, (F_X4_readUmbrella vP vN vG vU vB = some (nI 0, P1, U1) ∨ ∃ P0, F_X4_readUmbrella vP vN vG vU vB = some (nI 1, P0, U1) ∧ F_X4_passSemicolon P0 vB = some (nI 0, P1)) ∧ P1 1 = nI er ∧ er ≤ n ∧ F_X9_readUmbrella M d vbuffer = some (M2, d2) ∧ M2.1 8 = nI 1 ∧ M2.1 2 = nI er ∧ Fr2 M M2) := by
  have hn := hB.1
  have hG := o.1.G
  obtain ⟨P1, M1, k1, s1, e1, w1, a1, a2, a3, a4⟩ := adv hB t.2.1 t.2.2.2.2.2.1 t.2.2.2.2.2.2.2.1 t.2.2.2.2.2.2.1
  have h81 : M1.1 8 = nI 0 := a4.2.2.2.2.1.trans h8
  have a3' := a3
  obtain ⟨y1, y2, y3, p0, p1, p2, x1, x4, x5, x6, hnum, hwd⟩ := a3'
  have d8 : d (Int32.toNatClampNeg 8) = nI D.U := m9.U
  have e9 : F_X9_readUmbrella M d vbuffer = (F_X9_wordName M1).bind (fun u2 => (if u2 ≤ 0 then (J_X9_readUmbrella_45 vbuffer (-1) M1 d) else (F_X9_guestBy d u2).bind (fun u3 => (J_X9_readUmbrella_45 vbuffer u3 M1 d)))) := by
    unfold F_X9_readUmbrella
    rw [show ∀ z : Option (((Nat → Int32) × Int64) × (Nat → Int32)), ck 8 306 z = z from fun z => q_ck (n := 8) (by omega) (by omega), d8, if_neg (show ¬ (12 : Int32) ≤ nI D.U from fun h => by rw [show (12 : Int32) = nI 12 from rfl, q_le (by omega) (by omega)] at h; omega), show F_X9_takes M vbuffer 1 = some (nI 1, M1) from tk1 h8 a2, q_sb, if_neg (show ¬ nI 1 = (0 : Int32) by decide)]
  have e8 : F_X4_readUmbrella vP vN vG vU vB = (if (P1 0) = 1 then (F_X1_find vG vB (P1 1) ((P1 2) - (P1 1))).bind (fun u2 => (J_X4_readUmbrella_40 vN vG vB u2 P1 vU)) else (J_X4_readUmbrella_40 vN vG vB (-1) P1 vU)) := by
    unfold F_X4_readUmbrella
    rw [a1, q_sb]
  have bad : F_X4_readUmbrella vP vN vG vU vB = J_X4_readUmbrella_40 vN vG vB (-1) P1 vU → F_X9_readUmbrella M d vbuffer = some (Mw M1, d) → (∃ P1 U1 M2 d2 er, (F_X4_readUmbrella vP vN vG vU vB = some (nI 0, P1, U1) ∨ ∃ P0, F_X4_readUmbrella vP vN vG vU vB = some (nI 1, P0, U1) ∧ F_X4_passSemicolon P0 vB = some (nI 0, P1)) ∧ P1 1 = nI er ∧ er ≤ n ∧ F_X9_readUmbrella M d vbuffer = some (M2, d2) ∧ M2.1 8 = nI 1 ∧ M2.1 2 = nI er ∧ Fr2 M M2) := fun h g => ⟨P1, vU, Mw M1, d, s1, Or.inl (h.trans (if_pos rfl)), p1, by omega, g, rfl, x5, a4.w⟩
  by_cases hk : k1 = 1
  · obtain ⟨hse, hlt, hw⟩ := hwd hk
    have hlet : ∀ i, i < e1 - s1 → 97 ≤ l (s1 + i) ∧ l (s1 + i) ≤ 122 := fun i hi => hlt (s1 + i) (by omega) (by omega)
    have hf8 := u_find (l := fun i => l (s1 + i)) (s := s1) (n := e1 - s1) m8 o.1 (by omega) (fun i hi => ⟨(hB.2.2 (s1 + i) (by omega)).1, (hB.2.2 (s1 + i) (by omega)).2.2⟩)
    rw [p0, hk, if_pos (show nI 1 = (1 : Int32) from rfl), p1, p2, q_sub y1, hf8, q_sb] at e8
    by_cases h5 : e1 - s1 ≤ 5
    · have hw5 : M1.2 = lN (codeF (fun i => l (s1 + i)) (e1 - s1)) := by
        rw [hw]; unfold wcap; rw [if_pos (by omega)]
      have hcp := code_pos (l := fun i => l (s1 + i)) hlet (by omega)
      have hcb := code_bd (l := fun i => l (s1 + i)) hlet h5
      have hwn : F_X9_wordName M1 = some (nI (codeF (fun i => l (s1 + i)) (e1 - s1))) := by
        unfold F_X9_wordName
        rw [x6, hk, if_pos (show nI 1 = (1 : Int32) from rfl), x4, x5, q_sub y1, if_neg (show ¬ (5 : Int32) < nI (e1 - s1) from fun h => by rw [show (5 : Int32) = nI 5 from rfl, q_lt (by omega) (by omega)] at h; omega), hw5, q_lti]
      have hf9 := t_by (l := fun i => l (s1 + i)) (n := e1 - s1) m9 o.1 h5 hlet
      rw [hwn, q_sb, if_neg (show ¬ nI (codeF (fun i => l (s1 + i)) (e1 - s1)) ≤ (0 : Int32) from fun h => by rw [show (0 : Int32) = nI 0 from rfl, q_le (by omega) (by omega)] at h; omega), hf9, q_sb] at e9
      cases hf : findD D (fun i => l (s1 + i)) (e1 - s1) with
      | zero =>
        right
        rw [hf, nz_0] at e8 e9
        rw [uJw h81] at e9
        exact bad e8 e9
      | succ j =>
        have hfl := find_le D (fun i => l (s1 + i)) (e1 - s1)
        rw [hf] at hfl
        rw [hf, nz_s] at e8 e9
        obtain ⟨P3, M3, k3, s3, e3, w3, b1, b2, b3, b4⟩ := adv hB y2 p2 x4 x1
        have h83 : M3.1 8 = nI 0 := b4.2.2.2.2.1.trans h81
        have e8' : F_X4_readUmbrella vP vN vG vU vB = (F_X4_isNumber P3 0 99).bind (fun u2 => (if u2 = 0 then (some (0, P3, vU)) else (F_X7_add vU (nI j) (P3 3)).bind (fun u3 => (F_X4_advance P3 vB).bind (fun u4 => (some (1, u4, u3.2)))))) := by
          rw [e8]
          unfold J_X4_readUmbrella_40
          rw [if_neg (show ¬ nI j = (-1 : Int32) from fun h => by have := q_m1e (a := j) (by omega); rw [show m1 = (-1 : Int32) from rfl] at this; rw [this] at h; exact h), b1, q_sb]
        have e9' : ∀ r, F_X9_takesNumber M3 vbuffer 0 99 = some r → F_X9_readUmbrella M d vbuffer = (F_X9_takes r.2 vbuffer (if (r.2.1 6) = 3 then 1 else 0)).bind (fun u3 => (if u3.1 = 0 then (some (u3.2, d)) else (F_X9_addsUmbrella d (nI j) r.1).bind (fun u4 => (some (u3.2, u4.2))))) := by
          intro r hr
          rw [e9]
          unfold J_X9_readUmbrella_45
          rw [if_neg (show ¬ nI j < (0 : Int32) from fun h => by rw [show (0 : Int32) = nI 0 from rfl, q_lt (by omega) (by omega)] at h; omega), show F_X9_takes M1 vbuffer 1 = some (nI 1, M3) from tk1 h81 b2, q_sb, hr, q_sb]
        rcases numc (vbuffer := vbuffer) b3 h83 0 99 (by omega) (by omega) with ⟨hk3, _, hv3, c8, c9⟩ | ⟨c8, c9⟩
        · obtain ⟨v1, v2, v3⟩ := b3.2.2.2.2.2.2.2.2.2.2.1 hk3
          obtain ⟨P5, M5, k5, s5, e5, w5, j1, j2, j3, j4⟩ := adv hB b3.2.1 b3.2.2.2.2.2.1 b3.2.2.2.2.2.2.2.1 b3.2.2.2.2.2.2.1
          have h85 : M5.1 8 = nI 0 := j4.2.2.2.2.1.trans h83
          have er9 := e9' _ (c9 M5 j2)
          obtain ⟨r8, f8, g8, n8⟩ := u_addU (a := j) (b := w3) m8 o.1 hU
          obtain ⟨r9, f9, g9, n9⟩ := t_addU (a := j) (b := w3) m9 o.1 hU
          have on := okn_addU (a := j) (b := w3) o hU (by omega) hv3
          have er8 : F_X4_readUmbrella vP vN vG vU vB = some (nI 1, P5, r8.2) := by
            rw [e8', show F_X4_isNumber P3 0 99 = some (nI 1) from c8, q_sb, if_neg (show ¬ nI 1 = (0 : Int32) by decide), v2, f8, q_sb, j1, q_sb]
            rfl
          rcases semi hB j3 h85 with ⟨P2, M2, k2, s2, e2, v2', z1, z2, z3, z4, z5⟩ | ⟨z1, z2⟩
          · left
            refine ⟨P5, r8.2, P2, M2, r9.2, _, k2, s2, e2, v2', er8, z1, ?_, z3, z4, on, n8, n9, rfl, rfl, Fr.t a4 (Fr.t b4 (Fr.t j4 z5))⟩
            rw [er9, z2, q_sb, if_neg (show ¬ nI 1 = (0 : Int32) by decide), f9, q_sb]
          · right
            refine ⟨P5, r8.2, Mw M5, d, s5, Or.inr ⟨P5, er8, z1⟩, j3.2.2.2.2.1, by have := j3.1; have := j3.2.1; omega, ?_, (Mw_er j3).1, (Mw_er j3).2, (Fr.t a4 (Fr.t b4 j4)).w⟩
            rw [er9, z2, q_sb, if_pos (show nI 0 = (0 : Int32) from rfl)]
        · right
          have er9 := e9' _ c9
          have hw3 : (Mw M3).1 8 = nI 1 := rfl
          refine ⟨P3, vU, Mw M3, d, s3, Or.inl ?_, b3.2.2.2.2.1, by have := b3.1; have := b3.2.1; omega, ?_, (Mw_er b3).1, (Mw_er b3).2, (Fr.t a4 b4).w⟩
          · rw [e8', show F_X4_isNumber P3 0 99 = some (nI 0) from c8, q_sb, if_pos (show nI 0 = (0 : Int32) from rfl)]
            rfl
          · rw [er9, tkw hw3, q_sb, if_pos (show nI 0 = (0 : Int32) from rfl)]
    · right
      have hnm : isNm (fun i => l (s1 + i)) (e1 - s1) = false := Bool.eq_false_iff.mpr fun h => h5 ((isNm_iff _ _).mp h).1.2
      rw [find_nm o.1 hnm, nz_0] at e8
      have hwn : F_X9_wordName M1 = some (nI 0) := by
        unfold F_X9_wordName
        rw [x6, hk, if_pos (show nI 1 = (1 : Int32) from rfl), x4, x5, q_sub y1, if_pos (show (5 : Int32) < nI (e1 - s1) by rw [show (5 : Int32) = nI 5 from rfl, q_lt (by omega) (by omega)]; omega)]
        rfl
      rw [hwn, q_sb, if_pos (show nI 0 ≤ (0 : Int32) by decide), show J_X9_readUmbrella_45 vbuffer (-1) M1 d = some (Mw M1, d) from uJw h81] at e9
      exact bad e8 e9
  · right
    have hk' : ¬ nI k1 = (1 : Int32) := fun h => hk ((nI_eq (by omega) (by omega)).mp h)
    rw [p0, if_neg hk'] at e8
    have hwn : F_X9_wordName M1 = some (nI 0) := by
      unfold F_X9_wordName
      rw [x6, if_neg hk']
      rfl
    rw [hwn, q_sb, if_pos (show nI 0 ≤ (0 : Int32) by decide), show J_X9_readUmbrella_45 vbuffer (-1) M1 d = some (Mw M1, d) from uJw h81] at e9
    exact bad e8 e9
theorem eq87 {vB : Nat → Nat → Int32} (f : Nat) (x i : Int32) (P N : Nat → Int32) (G U R : Nat → Nat → Int32) : L_X4_readText_87 vB (f + 1) x i P N G U R = B_X4_readText_87 (L_X4_readText_87 vB f) vB x i P N G U R := rfl
theorem eq36 {vB : Nat → Nat → Int32} (f : Nat) (x i : Int32) (P N : Nat → Int32) (G U R : Nat → Nat → Int32) : L_X4_readText_36 vB (f + 1) x i P N G U R = B_X4_readText_36 (L_X4_readText_36 vB f) vB x i P N G U R := rfl
theorem eq81 {b : Nat → Int32} (f : Nat) (M : (Nat → Int32) × Int64) (d : Nat → Int32) : L_X9_readText_81 b (f + 1) M d = B_X9_readText_81 (L_X9_readText_81 b f) b M d := rfl
theorem eq57 {b : Nat → Int32} (f : Nat) (M : (Nat → Int32) × Int64) (d : Nat → Int32) : L_X9_readText_57 b (f + 1) M d = B_X9_readText_57 (L_X9_readText_57 b f) b M d := rfl
theorem L87_0 {vB : Nat → Nat → Int32} (f : Nat) (i : Int32) (P N : Nat → Int32) (G U R : Nat → Nat → Int32) : L_X4_readText_87 vB (f + 1) 0 i P N G U R = some (P 1, P, N, G, U, R) := by
  rw [eq87]
  unfold B_X4_readText_87 J_X4_readText_133
  rw [if_pos rfl, if_pos rfl, ite_self]
theorem L36_0 {vB : Nat → Nat → Int32} (f : Nat) (i : Int32) (P N : Nat → Int32) (G U R : Nat → Nat → Int32) : L_X4_readText_36 vB (f + 1) 0 i P N G U R = some (P 1, P, N, G, U, R) := by
  rw [eq36]
  unfold B_X4_readText_36
  have hF : FU = 4999 + 1 := rfl
  rw [if_pos rfl, ite_self, hF, L87_0]
theorem L81_w {b : Nat → Int32} (f : Nat) {M : (Nat → Int32) × Int64} (d : Nat → Int32) (h8 : M.1 8 = nI 1) : L_X9_readText_81 b (f + 1) M d = some (M, d) := by
  rw [eq81]
  unfold B_X9_readText_81
  have h : ¬ M.1 8 = (0 : Int32) := by rw [h8]; decide
  rw [if_neg h, if_neg h]
theorem L57_w {b : Nat → Int32} (f : Nat) {M : (Nat → Int32) × Int64} (d : Nat → Int32) (h8 : M.1 8 = nI 1) : L_X9_readText_57 b (f + 1) M d = some (M, d) := by
  rw [eq57]
  unfold B_X9_readText_57
  have h : ¬ M.1 8 = (0 : Int32) := by rw [h8]; decide
  have hF : FU = 4999 + 1 := rfl
  rw [if_neg h, hF, L81_w _ _ h8]
/-- no more umbrellas -/
theorem endT {vB : Nat → Nat → Int32} {vbuffer : Nat → Int32} {l : Nat → Nat} {n k s e v : Nat} {vP : Nat → Int32} {M : (Nat → Int32) × Int64} {vN d : Nat → Int32} {vG vU vR : Nat → Nat → Int32} (t : Tk l n vP M k s e v) (h8 : M.1 8 = nI 0) : (J_X4_readText_133 vB 1 vP vN vG vU vR = some (m1, vP, vN, vG, vU, vR) ∧ (if (M.1 8) = 0 then (if (M.1 6) = 0 then (some (M, d)) else (F_X9_takes M vbuffer 0).bind (fun u3 => (some (u3.2, d)))) else (some (M, d))) = some (M, d)) ∨ (J_X4_readText_133 vB 1 vP vN vG vU vR = some (nI s, vP, vN, vG, vU, vR) ∧ (if (M.1 8) = 0 then (if (M.1 6) = 0 then (some (M, d)) else (F_X9_takes M vbuffer 0).bind (fun u3 => (some (u3.2, d)))) else (some (M, d))) = some (Mw M, d)) := by
  obtain ⟨t1, t2, t3, p0, p1, p2, x1, x4, x5, x6, hnum, hwd⟩ := t
  rw [if_pos (show M.1 8 = (0 : Int32) from h8)]
  unfold J_X4_readText_133
  rw [if_neg (show ¬ (1 : Int32) = 0 by decide), p0, x6]
  by_cases hk : k = 0
  · left
    rw [hk, if_pos (show nI 0 = (0 : Int32) from rfl), if_pos (show nI 0 = (0 : Int32) from rfl)]
    exact ⟨rfl, rfl⟩
  · right
    have hk' : ¬ nI k = (0 : Int32) := fun h => hk ((nI_eq (by omega) (by omega)).mp h)
    rw [if_neg hk', if_neg hk', p1, show F_X9_takes M vbuffer 0 = some (nI 0, Mw M) from tk0 h8, q_sb]
    exact ⟨rfl, rfl⟩
theorem uL {vB : Nat → Nat → Int32} {vbuffer : Nat → Int32} {l : Nat → Nat} {n T : Nat} {vN : Nat → Int32} {vG vR : Nat → Nat → Int32} (hB : Byt vB vbuffer l n) : ∀ f i (vP : Nat → Int32) (M : (Nat → Int32) × Int64) (vU : Nat → Nat → Int32) (d : Nat → Int32) (D : Dn) (k s e v : Nat), Tk l n vP M k s e v → M.1 8 = nI 0 → OkN T D → M8 vN vG vU vR D → M9 d D → D.U = i → i ≤ 12 → 14 - i ≤ f →
    (∃ P' U' M' d' D', L_X4_readText_87 vB f 1 (nI i) vP vN vG vU vR = some (m1, P', vN, vG, U', vR) ∧ L_X9_readText_81 vbuffer f M d = some (M', d') ∧ M'.1 8 = nI 0 ∧ OkN T D' ∧ M8 vN vG U' vR D' ∧ M9 d' D' ∧ Fr M M') ∨
    (∃ er P' U' M' d', L_X4_readText_87 vB f 1 (nI i) vP vN vG vU vR = some (nI er, P', vN, vG, U', vR) ∧ er ≤ n ∧ L_X9_readText_81 vbuffer f M d = some (M', d') ∧ M'.1 8 = nI 1 ∧ M'.1 2 = nI er ∧ Fr2 M M') := by
  intro f
  induction f with
  | zero => intro i vP M vU d D k s e v _ _ _ _ _ _ _ h; omega
  | succ f ih =>
    intro i vP M vU d D k s e v t h8 o m8 m9 hDU hi hf
    have h80 : M.1 8 = (0 : Int32) := h8
    obtain ⟨w8, w9⟩ := isW_4 hB t
    have hen : s ≤ n := by have := t.1; have := t.2.1; omega
    have stop : (L_X4_readText_87 vB (f + 1) 1 (nI i) vP vN vG vU vR = J_X4_readText_133 vB 1 vP vN vG vU vR) → (L_X9_readText_81 vbuffer (f + 1) M d = (if (M.1 8) = 0 then (if (M.1 6) = 0 then (some (M, d)) else (F_X9_takes M vbuffer 0).bind (fun u3 => (some (u3.2, d)))) else (some (M, d)))) → ((∃ P' U' M' d' D', L_X4_readText_87 vB (f + 1) 1 (nI i) vP vN vG vU vR = some (m1, P', vN, vG, U', vR) ∧ L_X9_readText_81 vbuffer (f + 1) M d = some (M', d') ∧ M'.1 8 = nI 0 ∧ OkN T D' ∧ M8 vN vG U' vR D' ∧ M9 d' D' ∧ Fr M M') ∨
    (∃ er P' U' M' d', L_X4_readText_87 vB (f + 1) 1 (nI i) vP vN vG vU vR = some (nI er, P', vN, vG, U', vR) ∧ er ≤ n ∧ L_X9_readText_81 vbuffer (f + 1) M d = some (M', d') ∧ M'.1 8 = nI 1 ∧ M'.1 2 = nI er ∧ Fr2 M M')) := by
      intro q8 q9
      rcases endT (vB := vB) (vbuffer := vbuffer) (vN := vN) (vG := vG) (vU := vU) (vR := vR) (d := d) t h8 with ⟨a, b⟩ | ⟨a, b⟩
      · exact Or.inl ⟨vP, vU, M, d, D, q8.trans a, q9.trans b, h8, o, m8, m9, Fr.r M⟩
      · exact Or.inr ⟨s, vP, vU, Mw M, d, q8.trans a, hen, q9.trans b, (Mw_er t).1, (Mw_er t).2, (Fr.r M).w⟩
    by_cases hi12 : i = 12
    · have c12 : (12 : Int32) ≤ nI i := by rw [show (12 : Int32) = nI 12 from rfl, q_le (by omega) (by omega)]; omega
      have q8 : L_X4_readText_87 vB (f + 1) 1 (nI i) vP vN vG vU vR = J_X4_readText_133 vB 1 vP vN vG vU vR := by
        rw [eq87]
        unfold B_X4_readText_87
        exact if_pos c12
      cases hw : isWd l 4 8 k s e
      · refine stop q8 ?_
        rw [hw, if_neg (by decide)] at w9
        rw [eq81]
        unfold B_X9_readText_81
        rw [if_pos h80, w9, q_sb, if_pos (show nI 0 = (0 : Int32) from rfl)]
      · right
        rw [hw, if_pos rfl] at w9
        have hk1 : k = 1 := ((isWd_iff _ _ _ _ _ _).mp hw).1.1
        obtain ⟨f', rfl⟩ : ∃ f', f = f' + 1 := ⟨f - 1, by omega⟩
        have d8 : d (Int32.toNatClampNeg 8) = nI D.U := m9.U
        have r9 : F_X9_readUmbrella M d vbuffer = some (Mw M, d) := by
          unfold F_X9_readUmbrella
          rw [show ∀ z : Option (((Nat → Int32) × Int64) × (Nat → Int32)), ck 8 306 z = z from fun z => q_ck (n := 8) (by omega) (by omega), d8, hDU, if_pos c12, show F_X9_takes M vbuffer 0 = some (nI 0, Mw M) from tk0 h8, q_sb, if_pos (show nI 0 = (0 : Int32) from rfl)]
        refine ⟨s, vP, vU, Mw M, d, ?_, hen, ?_, (Mw_er t).1, (Mw_er t).2, (Fr.r M).w⟩
        · rw [q8]
          unfold J_X4_readText_133
          rw [if_neg (show ¬ (1 : Int32) = 0 by decide), t.2.2.2.1, hk1, if_neg (show ¬ nI 1 = (0 : Int32) by decide), t.2.2.2.2.1]
        · rw [eq81]
          unfold B_X9_readText_81
          rw [if_pos h80, w9, q_sb, if_neg (show ¬ nI 1 = (0 : Int32) by decide), r9, q_sb]
          exact L81_w _ _ (Mw_er t).1
    · have c12 : ¬ (12 : Int32) ≤ nI i := fun h => by rw [show (12 : Int32) = nI 12 from rfl, q_le (by omega) (by omega)] at h; omega
      cases hw : isWd l 4 8 k s e
      · rw [hw, if_neg (by decide)] at w8 w9
        refine stop ?_ ?_
        · rw [eq87]
          unfold B_X4_readText_87
          rw [if_neg c12, if_neg (show ¬ (1 : Int32) = 0 by decide), w8, q_sb, if_pos (show nI 0 = (0 : Int32) from rfl)]
        · rw [eq81]
          unfold B_X9_readText_81
          rw [if_pos h80, w9, q_sb, if_pos (show nI 0 = (0 : Int32) from rfl)]
      · rw [hw, if_pos rfl] at w8 w9
        have E8 : L_X4_readText_87 vB (f + 1) 1 (nI i) vP vN vG vU vR = (F_X4_readUmbrella vP vN vG vU vB).bind (fun u2 => (if u2.1 = 0 then (L_X4_readText_87 vB f 0 (nI i + 1) u2.2.1 vN vG u2.2.2 vR) else (F_X4_passSemicolon u2.2.1 vB).bind (fun u3 => (if u3.1 = 0 then (L_X4_readText_87 vB f 0 (nI i + 1) u3.2 vN vG u2.2.2 vR) else (L_X4_readText_87 vB f 1 (nI i + 1) u3.2 vN vG u2.2.2 vR))))) := by
          rw [eq87]
          unfold B_X4_readText_87
          rw [if_neg c12, if_neg (show ¬ (1 : Int32) = 0 by decide), w8, q_sb, if_neg (show ¬ nI 1 = (0 : Int32) by decide)]
        have E9 : L_X9_readText_81 vbuffer (f + 1) M d = (F_X9_readUmbrella M d vbuffer).bind (fun u4 => (L_X9_readText_81 vbuffer f u4.1 u4.2)) := by
          rw [eq81]
          unfold B_X9_readText_81
          rw [if_pos h80, w9, q_sb, if_neg (show ¬ nI 1 = (0 : Int32) by decide)]
        rcases um_step hB t h8 o m8 m9 (by omega) with ⟨P1, U1, P2, M2, d2, D2, k2, s2, e2, v2, z1, z2, z3, z4, z5, z6, z7, z8, z9, z10, z11⟩ | ⟨P1, U1, M2, d2, er, z1, z2, z3, z4, z5, z6, z7⟩
        · rw [z1, q_sb, if_neg (show ¬ nI 1 = (0 : Int32) by decide), z2, q_sb, if_neg (show ¬ nI 1 = (0 : Int32) by decide), show nI i + 1 = nI (i + 1) from nI_add i 1] at E8
          rw [z3, q_sb] at E9
          rcases ih (i + 1) P2 M2 U1 d2 D2 k2 s2 e2 v2 z4 z5 z6 z7 z8 (by omega) (by omega) (by omega) with ⟨P', U', M', d', D', b1, b2, b3, b4, b5, b6, b7⟩ | ⟨er, P', U', M', d', b1, b2, b3, b4, b5, b6⟩
          · exact Or.inl ⟨P', U', M', d', D', E8.trans b1, E9.trans b2, b3, b4, b5, b6, Fr.t z11 b7⟩
          · exact Or.inr ⟨er, P', U', M', d', E8.trans b1, b2, E9.trans b3, b4, b5, Fr2.t z11.to2 b6⟩
        · right
          obtain ⟨f', rfl⟩ : ∃ f', f = f' + 1 := ⟨f - 1, by omega⟩
          rw [z4, q_sb, L81_w _ _ z5] at E9
          rcases z1 with z1 | ⟨P0, z1, z1'⟩
          · rw [z1, q_sb, if_pos (show nI 0 = (0 : Int32) from rfl), L87_0] at E8
            dsimp only at E8
            rw [z2] at E8
            exact ⟨er, _, _, M2, d2, E8, z3, E9, z5, z6, z7⟩
          · rw [z1, q_sb, if_neg (show ¬ nI 1 = (0 : Int32) by decide), z1', q_sb, if_pos (show nI 0 = (0 : Int32) from rfl), L87_0] at E8
            dsimp only at E8
            rw [z2] at E8
            exact ⟨er, _, _, M2, d2, E8, z3, E9, z5, z6, z7⟩
theorem gL {vB : Nat → Nat → Int32} {vbuffer : Nat → Int32} {l : Nat → Nat} {n T : Nat} {vN : Nat → Int32} {vU vR : Nat → Nat → Int32} (hB : Byt vB vbuffer l n) : ∀ f i (vP : Nat → Int32) (M : (Nat → Int32) × Int64) (vG : Nat → Nat → Int32) (d : Nat → Int32) (D : Dn) (k s e v : Nat), Tk l n vP M k s e v → M.1 8 = nI 0 → OkN T D → M8 vN vG vU vR D → M9 d D → D.G = i → D.U = 0 → i ≤ 10 → 12 - i ≤ f →
    (∃ P' G' U' M' d' D', L_X4_readText_36 vB f 1 (nI i) vP vN vG vU vR = some (m1, P', vN, G', U', vR) ∧ L_X9_readText_57 vbuffer f M d = some (M', d') ∧ M'.1 8 = nI 0 ∧ OkN T D' ∧ M8 vN G' U' vR D' ∧ M9 d' D' ∧ Fr M M') ∨
    (∃ er P' G' U' M' d', L_X4_readText_36 vB f 1 (nI i) vP vN vG vU vR = some (nI er, P', vN, G', U', vR) ∧ er ≤ n ∧ L_X9_readText_57 vbuffer f M d = some (M', d') ∧ M'.1 8 = nI 1 ∧ M'.1 2 = nI er ∧ Fr2 M M') := by
  intro f
  induction f with
  | zero => intro i vP M vG d D k s e v _ _ _ _ _ _ _ _ h; omega
  | succ f ih =>
    intro i vP M vG d D k s e v t h8 o m8 m9 hDG hDU hi hf
    have h80 : M.1 8 = (0 : Int32) := h8
    obtain ⟨w8, w9⟩ := isW_2 hB t
    have hen : s ≤ n := by have := t.1; have := t.2.1; omega
    have stop : (L_X4_readText_36 vB (f + 1) 1 (nI i) vP vN vG vU vR = L_X4_readText_87 vB FU 1 (nI 0) vP vN vG vU vR) → (L_X9_readText_57 vbuffer (f + 1) M d = L_X9_readText_81 vbuffer FU M d) → ((∃ P' G' U' M' d' D', L_X4_readText_36 vB (f + 1) 1 (nI i) vP vN vG vU vR = some (m1, P', vN, G', U', vR) ∧ L_X9_readText_57 vbuffer (f + 1) M d = some (M', d') ∧ M'.1 8 = nI 0 ∧ OkN T D' ∧ M8 vN G' U' vR D' ∧ M9 d' D' ∧ Fr M M') ∨
    (∃ er P' G' U' M' d', L_X4_readText_36 vB (f + 1) 1 (nI i) vP vN vG vU vR = some (nI er, P', vN, G', U', vR) ∧ er ≤ n ∧ L_X9_readText_57 vbuffer (f + 1) M d = some (M', d') ∧ M'.1 8 = nI 1 ∧ M'.1 2 = nI er ∧ Fr2 M M')) := by
      intro q8 q9
      rcases uL hB FU 0 vP M vU d D k s e v t h8 o m8 m9 hDU (by omega) (by unfold FU; omega) with ⟨P', U', M', d', D', b1, b2, b3, b4, b5, b6, b7⟩ | ⟨er, P', U', M', d', b1, b2, b3, b4, b5, b6⟩
      · exact Or.inl ⟨P', vG, U', M', d', D', q8.trans b1, q9.trans b2, b3, b4, b5, b6, b7⟩
      · exact Or.inr ⟨er, P', vG, U', M', d', q8.trans b1, b2, q9.trans b3, b4, b5, b6⟩
    by_cases hi10 : i = 10
    · have c10 : (10 : Int32) ≤ nI i := by rw [show (10 : Int32) = nI 10 from rfl, q_le (by omega) (by omega)]; omega
      have q8 : L_X4_readText_36 vB (f + 1) 1 (nI i) vP vN vG vU vR = L_X4_readText_87 vB FU 1 (nI 0) vP vN vG vU vR := by
        rw [eq36]
        unfold B_X4_readText_36
        exact if_pos c10
      cases hw : isWd l 2 5 k s e
      · refine stop q8 ?_
        rw [hw, if_neg (by decide)] at w9
        rw [eq57]
        unfold B_X9_readText_57
        rw [if_pos h80, w9, q_sb, if_pos (show nI 0 = (0 : Int32) from rfl)]
      · right
        rw [hw, if_pos rfl] at w9
        obtain ⟨⟨hk1, hlen⟩, _⟩ := (isWd_iff _ _ _ _ _ _).mp hw
        obtain ⟨f', rfl⟩ : ∃ f', f = f' + 1 := ⟨f - 1, by omega⟩
        have d7 : d (Int32.toNatClampNeg 7) = nI D.G := m9.G
        have r9 : F_X9_readGuest M d vbuffer = some (Mw M, d) := by
          unfold F_X9_readGuest
          rw [show ∀ z : Option (((Nat → Int32) × Int64) × (Nat → Int32)), ck 7 306 z = z from fun z => q_ck (n := 7) (by omega) (by omega), d7, hDG, if_pos c10, show F_X9_takes M vbuffer 0 = some (nI 0, Mw M) from tk0 h8, q_sb, if_pos (show nI 0 = (0 : Int32) from rfl)]
        refine ⟨s, vP, vG, vU, Mw M, d, ?_, hen, ?_, (Mw_er t).1, (Mw_er t).2, (Fr.r M).w⟩
        · have w4 := (isW_4 hB t).1
          have hn4 : isWd l 4 8 k s e = false := Bool.eq_false_iff.mpr fun h => by
            have := ((isWd_iff _ _ _ _ _ _).mp h).1.2
            omega
          rw [hn4, if_neg (by decide)] at w4
          have hF : FU = 4999 + 1 := rfl
          rw [q8, hF, eq87]
          unfold B_X4_readText_87 J_X4_readText_133
          rw [if_neg (show ¬ (12 : Int32) ≤ nI 0 by decide), if_neg (show ¬ (1 : Int32) = 0 by decide), w4, q_sb, if_pos (show nI 0 = (0 : Int32) from rfl), t.2.2.2.1, hk1, if_neg (show ¬ (1 : Int32) = 0 by decide), if_neg (show ¬ nI 1 = (0 : Int32) by decide), t.2.2.2.2.1]
        · rw [eq57]
          unfold B_X9_readText_57
          rw [if_pos h80, w9, q_sb, if_neg (show ¬ nI 1 = (0 : Int32) by decide), r9, q_sb]
          exact L57_w _ _ (Mw_er t).1
    · have c10 : ¬ (10 : Int32) ≤ nI i := fun h => by rw [show (10 : Int32) = nI 10 from rfl, q_le (by omega) (by omega)] at h; omega
      cases hw : isWd l 2 5 k s e
      · rw [hw, if_neg (by decide)] at w8 w9
        refine stop ?_ ?_
        · rw [eq36]
          unfold B_X4_readText_36
          rw [if_neg c10, if_neg (show ¬ (1 : Int32) = 0 by decide), w8, q_sb, if_pos (show nI 0 = (0 : Int32) from rfl)]
          rfl
        · rw [eq57]
          unfold B_X9_readText_57
          rw [if_pos h80, w9, q_sb, if_pos (show nI 0 = (0 : Int32) from rfl)]
      · rw [hw, if_pos rfl] at w8 w9
        have E8 : L_X4_readText_36 vB (f + 1) 1 (nI i) vP vN vG vU vR = (F_X4_readGuest vP vG vB).bind (fun u2 => (if u2.1 = 0 then (L_X4_readText_36 vB f 0 (nI i + 1) u2.2.1 vN u2.2.2 vU vR) else (F_X4_passSemicolon u2.2.1 vB).bind (fun u3 => (if u3.1 = 0 then (L_X4_readText_36 vB f 0 (nI i + 1) u3.2 vN u2.2.2 vU vR) else (L_X4_readText_36 vB f 1 (nI i + 1) u3.2 vN u2.2.2 vU vR))))) := by
          rw [eq36]
          unfold B_X4_readText_36
          rw [if_neg c10, if_neg (show ¬ (1 : Int32) = 0 by decide), w8, q_sb, if_neg (show ¬ nI 1 = (0 : Int32) by decide)]
        have E9 : L_X9_readText_57 vbuffer (f + 1) M d = (F_X9_readGuest M d vbuffer).bind (fun u2 => (L_X9_readText_57 vbuffer f u2.1 u2.2)) := by
          rw [eq57]
          unfold B_X9_readText_57
          rw [if_pos h80, w9, q_sb, if_neg (show ¬ nI 1 = (0 : Int32) by decide)]
        rcases g_step hB t h8 o m8 m9 (by omega) with ⟨P1, G1, P2, M2, d2, D2, k2, s2, e2, v2, z1, z2, z3, z4, z5, z6, z7, z8, z9, z10, z11⟩ | ⟨P1, G1, M2, d2, er, z1, z2, z3, z4, z5, z6, z7⟩
        · rw [z1, q_sb, if_neg (show ¬ nI 1 = (0 : Int32) by decide), z2, q_sb, if_neg (show ¬ nI 1 = (0 : Int32) by decide), show nI i + 1 = nI (i + 1) from nI_add i 1] at E8
          rw [z3, q_sb] at E9
          rcases ih (i + 1) P2 M2 G1 d2 D2 k2 s2 e2 v2 z4 z5 z6 z7 z8 (by omega) (by omega) (by omega) (by omega) with ⟨P', G', U', M', d', D', b1, b2, b3, b4, b5, b6, b7⟩ | ⟨er, P', G', U', M', d', b1, b2, b3, b4, b5, b6⟩
          · exact Or.inl ⟨P', G', U', M', d', D', E8.trans b1, E9.trans b2, b3, b4, b5, b6, Fr.t z11 b7⟩
          · exact Or.inr ⟨er, P', G', U', M', d', E8.trans b1, b2, E9.trans b3, b4, b5, Fr2.t z11.to2 b6⟩
        · right
          obtain ⟨f', rfl⟩ : ∃ f', f = f' + 1 := ⟨f - 1, by omega⟩
          rw [z4, q_sb, L57_w _ _ z5] at E9
          rcases z1 with z1 | ⟨P0, z1, z1'⟩
          · rw [z1, q_sb, if_pos (show nI 0 = (0 : Int32) from rfl), L36_0] at E8
            dsimp only at E8
            rw [z2] at E8
            exact ⟨er, _, _, _, M2, d2, E8, z3, E9, z5, z6, z7⟩
          · rw [z1, q_sb, if_neg (show ¬ nI 1 = (0 : Int32) by decide), z1', q_sb, if_pos (show nI 0 = (0 : Int32) from rfl), L36_0] at E8
            dsimp only at E8
            rw [z2] at E8
            exact ⟨er, _, _, _, M2, d2, E8, z3, E9, z5, z6, z7⟩
