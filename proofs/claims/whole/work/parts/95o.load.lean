/-! the text read: the head, load -/
def D00 : Dn := fun _ _ => 0
theorem ok_00 {T : Nat} (hT : T ≤ 600) : OkD T D00 :=
  ⟨hT, Nat.zero_le _, Nat.zero_le _, Nat.zero_le _, Nat.zero_le _, Nat.zero_le _, Nat.zero_le _, Nat.zero_le _, Nat.zero_le _, Nat.zero_le _, Nat.zero_le _, fun k hk => absurd hk (Nat.not_lt_zero k), fun k i hk => absurd hk (Nat.not_lt_zero k), fun k hk => absurd hk (Nat.not_lt_zero k), fun k hk => absurd hk (Nat.not_lt_zero k), fun k hk => absurd hk (Nat.not_lt_zero k), fun k hk => absurd hk (Nat.not_lt_zero k), fun k hk => absurd hk (Nat.not_lt_zero k), fun k hk => absurd hk (Nat.not_lt_zero k), fun k hk => absurd hk (Nat.not_lt_zero k), fun k hk => absurd hk (Nat.not_lt_zero k), fun k hk => absurd hk (Nat.not_lt_zero k), fun k hk => absurd hk (Nat.not_lt_zero k), fun k hk => absurd hk (Nat.not_lt_zero k), fun k hk => absurd hk (Nat.not_lt_zero k), fun k hk => absurd hk (Nat.not_lt_zero k), fun j k _ hk => absurd hk (Nat.not_lt_zero k)⟩
theorem m9_00 {w : Nat → Int32} (h : ∀ i, i < 306 → w i = nI 0) : M9 w D00 :=
  ⟨h 0 (by omega), h 1 (by omega), h 2 (by omega), h 3 (by omega), h 4 (by omega), h 5 (by omega), h 6 (by omega), h 7 (by omega), h 8 (by omega), h 9 (by omega), fun k hk => absurd hk (Nat.not_lt_zero k), fun k hk => absurd hk (Nat.not_lt_zero k), fun k hk => absurd hk (Nat.not_lt_zero k), fun k hk => absurd hk (Nat.not_lt_zero k), fun k hk => absurd hk (Nat.not_lt_zero k), fun k hk => absurd hk (Nat.not_lt_zero k), fun k hk => absurd hk (Nat.not_lt_zero k), fun k hk => absurd hk (Nat.not_lt_zero k), fun k hk => absurd hk (Nat.not_lt_zero k), fun k hk => absurd hk (Nat.not_lt_zero k), fun k hk => absurd hk (Nat.not_lt_zero k), fun k hk => absurd hk (Nat.not_lt_zero k), fun k hk => absurd hk (Nat.not_lt_zero k), fun k hk => absurd hk (Nat.not_lt_zero k)⟩
theorem m8_00 (vN : Nat → Int32) (vG vU vR : Nat → Nat → Int32) : ∃ r, F_X3_clear vN vG vU vR = some r ∧ M8 r.1 r.2.1 r.2.2.1 r.2.2.2 D00 :=
  ⟨_, rfl, rfl, rfl, rfl, rfl, rfl, rfl, rfl, rfl, rfl, rfl, fun k i hk => absurd hk (Nat.not_lt_zero k), fun k hk => absurd hk (Nat.not_lt_zero k), fun k hk => absurd hk (Nat.not_lt_zero k), fun k hk => absurd hk (Nat.not_lt_zero k), fun k hk => absurd hk (Nat.not_lt_zero k), fun k hk => absurd hk (Nat.not_lt_zero k), fun k hk => absurd hk (Nat.not_lt_zero k), fun k hk => absurd hk (Nat.not_lt_zero k), fun k hk => absurd hk (Nat.not_lt_zero k), fun k hk => absurd hk (Nat.not_lt_zero k), fun k hk => absurd hk (Nat.not_lt_zero k), fun k hk => absurd hk (Nat.not_lt_zero k), fun k hk => absurd hk (Nat.not_lt_zero k), fun k hk => absurd hk (Nat.not_lt_zero k)⟩
theorem okn_00 {T : Nat} (hT : T ≤ 600) : OkN T D00 := ⟨ok_00 hT, ⟨fun n hn => absurd hn (Nat.not_lt_zero n), fun g hg => absurd hg (Nat.not_lt_zero g)⟩, Nat.zero_le _⟩
theorem rt9 {M M2 M3 M4 M5 : (Nat → Int32) × Int64} {d b : Nat → Int32} {w x a c y : Int32} (h1 : F_X9_isWord M 7622660 = some w) (h2 : F_X9_takes M b w = some (x, M2)) (h3 : F_X9_takesNumber M2 b 0 9 = some (a, M3)) (h4 : F_X9_takesNumber M3 b 0 999 = some (c, M4)) (h5 : F_X9_takes M4 b (if M4.1 6 = 3 then 1 else 0) = some (y, M5)) : F_X9_readText M d b = L_X9_readText_57 b FU M5 (upd (upd d 1 a) 2 c) := by
  unfold F_X9_readText
  rw [h1, q_sb, h2, q_sb, h3, q_sb, show ∀ z : Option (((Nat → Int32) × Int64) × (Nat → Int32)), ck 1 306 z = z from fun z => q_ck (n := 1) (by omega) (by omega), q_lt0, h4, q_sb, show ∀ z : Option (((Nat → Int32) × Int64) × (Nat → Int32)), ck 2 306 z = z from fun z => q_ck (n := 2) (by omega) (by omega), q_lt0, h5, q_sb]
  rfl
theorem readAll {vB : Nat → Nat → Int32} {vbuffer : Nat → Int32} {l : Nat → Nat} {n T : Nat} {vP vN d : Nat → Int32} {vG vU vR : Nat → Nat → Int32} {M : (Nat → Int32) × Int64} (hB : Byt vB vbuffer l n) (h1 : M.1 1 = nI n) (h4 : M.1 4 = nI 0) (h8 : M.1 8 = nI 0) (md : M9 d D00) (hT : T ≤ 600) : ∃ M1, F_X9_next M vbuffer = some M1 ∧
    ((∃ P' N' G' U' R' M' d' D', F_X4_readText vP vN vG vU vR vB = some (m1, P', N', G', U', R') ∧ F_X9_readText M1 d vbuffer = some (M', d') ∧ M'.1 8 = nI 0 ∧ OkN T D' ∧ M8 N' G' U' R' D' ∧ M9 d' D' ∧ Fr M M') ∨
    (∃ er P' N' G' U' R' M' d', F_X4_readText vP vN vG vU vR vB = some (nI er, P', N', G', U', R') ∧ er ≤ n ∧ F_X9_readText M1 d vbuffer = some (M', d') ∧ M'.1 8 = nI 1 ∧ M'.1 2 = nI er ∧ Fr2 M M')) := by
  have hF : FU = 4999 + 1 := rfl
  obtain ⟨r0, f0, m0⟩ := m8_00 vN vG vU vR
  obtain ⟨N0, G0, U0, R0⟩ := r0
  dsimp only at m0
  obtain ⟨P1, M1, k1, s1, e1, v1, a1, a2, a3, a4⟩ := adv (vP := va_up vP 2 0) hB (Nat.zero_le n) rfl h4 h1
  have h81 : M1.1 8 = nI 0 := a4.2.2.2.2.1.trans h8
  refine ⟨M1, a2, ?_⟩
  have hs1 : s1 ≤ n := by have := a3.1; have := a3.2.1; omega
  have E8 : F_X4_readText vP vN vG vU vR vB = (F_X4_readHead P1 N0 vB).bind (fun u3 => (if u3.1 = 0 then (L_X4_readText_36 vB FU 0 0 u3.2.1 u3.2.2 G0 U0 R0) else (F_X4_passSemicolon u3.2.1 vB).bind (fun u4 => (if u4.1 = 0 then (L_X4_readText_36 vB FU 0 0 u4.2 u3.2.2 G0 U0 R0) else (L_X4_readText_36 vB FU 1 0 u4.2 u3.2.2 G0 U0 R0))))) := by
    unfold F_X4_readText
    rw [f0, q_sb, q_lt0, a1, q_sb]
  obtain ⟨w8, w9⟩ := isW_1 hB a3
  cases hw : isWd l 1 5 k1 s1 e1
  · right
    rw [hw, if_neg (by decide)] at w8 w9
    have hh : F_X4_readHead P1 N0 vB = some (nI 0, P1, N0) := by
      unfold F_X4_readHead
      rw [w8, q_sb, if_pos (show nI 0 = (0 : Int32) from rfl)]
      rfl
    have hww := (Mw_er a3).1
    have E9 := rt9 (d := d) (b := vbuffer) w9 (tk0 h81) (tnw hww 0 9) (tnw hww 0 999) (tkw hww _)
    rw [hF, L57_w _ _ hww] at E9
    rw [hh, q_sb, if_pos (show nI 0 = (0 : Int32) from rfl), hF, L36_0] at E8
    dsimp only at E8
    rw [a3.2.2.2.2.1] at E8
    exact ⟨s1, _, _, _, _, _, _, _, E8, hs1, E9, hww, (Mw_er a3).2, a4.w⟩
  · rw [hw, if_pos rfl] at w8 w9
    obtain ⟨P2, M2, k2, s2, e2, v2, b1, b2, b3, b4⟩ := adv hB a3.2.1 a3.2.2.2.2.2.1 a3.2.2.2.2.2.2.2.1 a3.2.2.2.2.2.2.1
    have h82 : M2.1 8 = nI 0 := b4.2.2.2.2.1.trans h81
    have hs2 : s2 ≤ n := by have := b3.1; have := b3.2.1; omega
    have t9 : F_X9_takes M1 vbuffer (nI 1) = some (nI 1, M2) := tk1 h81 b2
    rcases numc (vbuffer := vbuffer) b3 h82 0 9 (by omega) (by omega) with ⟨hk, _, hv, c8, c9⟩ | ⟨c8, c9⟩
    · obtain ⟨q1, q2, q3⟩ := b3.2.2.2.2.2.2.2.2.2.2.1 hk
      obtain ⟨P3, M3, k3, s3, e3, v3, d1, d2, d3, d4⟩ := adv hB b3.2.1 b3.2.2.2.2.2.1 b3.2.2.2.2.2.2.2.1 b3.2.2.2.2.2.2.1
      have h83 : M3.1 8 = nI 0 := d4.2.2.2.2.1.trans h82
      have hs3 : s3 ≤ n := by have := d3.1; have := d3.2.1; omega
      have hn9 := c9 M3 d2
      rcases numc (vbuffer := vbuffer) d3 h83 0 999 (by omega) (by omega) with ⟨hk', _, hv', c8', c9'⟩ | ⟨c8', c9'⟩
      · obtain ⟨q1', q2', q3'⟩ := d3.2.2.2.2.2.2.2.2.2.2.1 hk'
        obtain ⟨P4, M4, k4, s4, e4, v4, j1, j2, j3, j4⟩ := adv hB d3.2.1 d3.2.2.2.2.2.1 d3.2.2.2.2.2.2.2.1 d3.2.2.2.2.2.2.1
        have h84 : M4.1 8 = nI 0 := j4.2.2.2.2.1.trans h83
        have hs4 : s4 ≤ n := by have := j3.1; have := j3.2.1; omega
        have hn9' := c9' M4 j2
        have hh : F_X4_readHead P1 N0 vB = some (nI 1, P4, va_up (va_up N0 1 (nI v2)) 2 (nI v3)) := by
          unfold F_X4_readHead
          rw [w8, q_sb, if_neg (show ¬ nI 1 = (0 : Int32) by decide), b1, q_sb, show F_X4_isNumber P2 0 9 = some (nI 1) from c8, q_sb, if_neg (show ¬ nI 1 = (0 : Int32) by decide), q_lt0, q2, d1, q_sb, show F_X4_isNumber P3 0 999 = some (nI 1) from c8', q_sb, if_neg (show ¬ nI 1 = (0 : Int32) by decide), q_lt0, q2', j1, q_sb]
          rfl
        rw [hh, q_sb, if_neg (show ¬ nI 1 = (0 : Int32) by decide)] at E8
        have on : OkN T (upD (upD D00 0 1 v2) 0 2 v3) := ⟨((ok_00 hT).s_ra hv).s_li hv', alt_same (okn_00 hT).2.1 rfl rfl (fun _ => ⟨rfl, rfl, rfl⟩) (fun _ _ => ⟨rfl, rfl⟩), Nat.zero_le _⟩
        have mm8 := (m0.s_ra (v := v2)).s_li (v := v3)
        have mm9 := (md.s_ra (v := v2) (Nat.zero_le _) (Nat.zero_le _) (Nat.zero_le _)).s_li (v := v3) (Nat.zero_le _) (Nat.zero_le _) (Nat.zero_le _)
        rcases semi hB j3 h84 with ⟨P5, M5, k5, s5, e5, v5, z1, z2, z3, z4, z5⟩ | ⟨z1, z2⟩
        · have E9 := rt9 (d := d) (b := vbuffer) w9 t9 hn9 hn9' z2
          rw [z1, q_sb, if_neg (show ¬ nI 1 = (0 : Int32) by decide)] at E8
          rcases gL hB FU 0 P5 M5 G0 (upd (upd d 1 (nI v2)) 2 (nI v3)) (upD (upD D00 0 1 v2) 0 2 v3) k5 s5 e5 v5 z3 z4 on mm8 mm9 rfl rfl (by omega) (by unfold FU; omega) with ⟨P', G', U', M', d', D', g1, g2, g3, g4, g5, g6, g7⟩ | ⟨er, P', G', U', M', d', g1, g2, g3, g4, g5, g6⟩
          · exact Or.inl ⟨P', _, G', U', R0, M', d', D', E8.trans g1, E9.trans g2, g3, g4, g5, g6, Fr.t a4 (Fr.t b4 (Fr.t d4 (Fr.t j4 (Fr.t z5 g7))))⟩
          · exact Or.inr ⟨er, P', _, G', U', R0, M', d', E8.trans g1, g2, E9.trans g3, g4, g5, Fr2.t (Fr.t a4 (Fr.t b4 (Fr.t d4 (Fr.t j4 z5)))).to2 g6⟩
        · right
          have E9 := rt9 (d := d) (b := vbuffer) w9 t9 hn9 hn9' z2
          rw [hF, L57_w _ _ (Mw_er j3).1] at E9
          rw [z1, q_sb, if_pos (show nI 0 = (0 : Int32) from rfl), hF, L36_0] at E8
          dsimp only at E8
          rw [j3.2.2.2.2.1] at E8
          exact ⟨s4, _, _, _, _, _, _, _, E8, hs4, E9, (Mw_er j3).1, (Mw_er j3).2, (Fr.t a4 (Fr.t b4 (Fr.t d4 j4))).w⟩
      · right
        have hww := (Mw_er d3).1
        have hh : F_X4_readHead P1 N0 vB = some (nI 0, P3, va_up N0 1 (nI v2)) := by
          unfold F_X4_readHead
          rw [w8, q_sb, if_neg (show ¬ nI 1 = (0 : Int32) by decide), b1, q_sb, show F_X4_isNumber P2 0 9 = some (nI 1) from c8, q_sb, if_neg (show ¬ nI 1 = (0 : Int32) by decide), q_lt0, q2, d1, q_sb, show F_X4_isNumber P3 0 999 = some (nI 0) from c8', q_sb, if_pos (show nI 0 = (0 : Int32) from rfl)]
          rfl
        have E9 := rt9 (d := d) (b := vbuffer) w9 t9 hn9 c9' (tkw hww _)
        rw [hF, L57_w _ _ hww] at E9
        rw [hh, q_sb, if_pos (show nI 0 = (0 : Int32) from rfl), hF, L36_0] at E8
        dsimp only at E8
        rw [d3.2.2.2.2.1] at E8
        exact ⟨s3, _, _, _, _, _, _, _, E8, hs3, E9, hww, (Mw_er d3).2, (Fr.t a4 (Fr.t b4 d4)).w⟩
    · right
      have hww := (Mw_er b3).1
      have hh : F_X4_readHead P1 N0 vB = some (nI 0, P2, N0) := by
        unfold F_X4_readHead
        rw [w8, q_sb, if_neg (show ¬ nI 1 = (0 : Int32) by decide), b1, q_sb, show F_X4_isNumber P2 0 9 = some (nI 0) from c8, q_sb, if_pos (show nI 0 = (0 : Int32) from rfl)]
        rfl
      have E9 := rt9 (d := d) (b := vbuffer) w9 t9 c9 (tnw hww 0 999) (tkw hww _)
      rw [hF, L57_w _ _ hww] at E9
      rw [hh, q_sb, if_pos (show nI 0 = (0 : Int32) from rfl), hF, L36_0] at E8
      dsimp only at E8
      rw [b3.2.2.2.2.1] at E8
      exact ⟨s2, _, _, _, _, _, _, _, E8, hs2, E9, hww, (Mw_er b3).2, (Fr.t a4 b4).w⟩
theorem zero_fill {vbuffer vnow ik : Nat → Int32} {M : (Nat → Int32) × Int64} : ∀ f k (d : Nat → Int32), k ≤ 306 → 306 - k < f → (∀ i, i < k → d i = nI 0) → ∃ z f', (∀ i, i < 306 → z i = nI 0) ∧ L_X9_load_7 vbuffer f (nI k) M vnow d ik = L_X9_load_7 vbuffer (f' + 1) (nI 306) M vnow z ik := by
  intro f
  induction f with
  | zero => intro k d _ h; omega
  | succ f ih =>
    intro k d hk hf hd
    by_cases c : k = 306
    · subst c
      exact ⟨d, f, hd, rfl⟩
    · have c1 : ¬ (306 : Int32) ≤ nI k := fun h => by rw [show (306 : Int32) = nI 306 from rfl, q_le (by omega) (by omega)] at h; omega
      obtain ⟨z, f', h1, h2⟩ := ih (k + 1) (upd d k (nI 0)) (by omega) (by omega) (fun i hi => by
        by_cases q : i = k
        · rw [q, up_eq]
        · rw [up_ne q]; exact hd i (by omega))
      refine ⟨z, f', h1, ?_⟩
      rw [← h2]
      rw [show L_X9_load_7 vbuffer (f + 1) (nI k) M vnow d ik = B_X9_load_7 (L_X9_load_7 vbuffer f) vbuffer (nI k) M vnow d ik from rfl]
      unfold B_X9_load_7
      rw [if_neg c1, q_ck (by omega) (by omega), q_cl (by omega), q_lt0, show nI k + 1 = nI (k + 1) from nI_add k 1]
      rfl
theorem eqE (f : Nat) (x : Int32) (q : Nat → Int32) : L_X6_empty_2 (f + 1) x q = B_X6_empty_2 (L_X6_empty_2 f) x q := rfl
theorem eq88 {b : Nat → Int32} (f : Nat) (x : Int32) (M : (Nat → Int32) × Int64) (n d i : Nat → Int32) : L_X9_load_88 b (f + 1) x M n d i = B_X9_load_88 (L_X9_load_88 b f) b x M n d i := rfl
theorem eq7 {b : Nat → Int32} (f : Nat) (x : Int32) (M : (Nat → Int32) × Int64) (n d i : Nat → Int32) : L_X9_load_7 b (f + 1) x M n d i = B_X9_load_7 (L_X9_load_7 b f) b x M n d i := rfl
theorem empt {vQF : Nat → Int32} : F_X6_empty vQF = some (upd (upd vQF 0 (nI 0)) 1 (nI 0)) := by
  have hF : FU = 4997 + 3 := rfl
  unfold F_X6_empty
  rw [hF, eqE]
  unfold B_X6_empty_2
  rw [if_neg (show ¬ (2 : Int32) ≤ 0 by decide), show ∀ z : Option (Nat → Int32), ck 0 2 z = z from fun z => q_ck (n := 0) (by omega) (by omega), q_lt0, eqE]
  unfold B_X6_empty_2
  rw [if_neg (show ¬ (2 : Int32) ≤ 0 + 1 by decide), show ∀ z : Option (Nat → Int32), ck (0 + 1) 2 z = z from fun z => q_ck (n := 1) (by omega) (by omega), q_lt0, eqE]
  unfold B_X6_empty_2
  rw [if_pos (show (2 : Int32) ≤ 0 + 1 + 1 by decide)]
  rfl
theorem l88 {vbuffer vnow d ik : Nat → Int32} {M : (Nat → Int32) × Int64} : L_X9_load_88 vbuffer FU 0 M vnow d ik = some (vnow 7, M, vnow, d, upd (upd ik 0 (nI 0)) 1 (nI 0)) := by
  have hF : FU = 4997 + 3 := rfl
  rw [hF, eq88]
  unfold B_X9_load_88
  rw [if_neg (show ¬ (2 : Int32) ≤ 0 by decide), show ∀ z : Option (Int32 × ((Nat → Int32) × Int64) × (Nat → Int32) × (Nat → Int32) × (Nat → Int32)), ck 0 2 z = z from fun z => q_ck (n := 0) (by omega) (by omega), q_lt0, eq88]
  unfold B_X9_load_88
  rw [if_neg (show ¬ (2 : Int32) ≤ 0 + 1 by decide), show ∀ z : Option (Int32 × ((Nat → Int32) × Int64) × (Nat → Int32) × (Nat → Int32) × (Nat → Int32)), ck (0 + 1) 2 z = z from fun z => q_ck (n := 1) (by omega) (by omega), q_lt0, eq88]
  unfold B_X9_load_88
  rw [if_pos (show (2 : Int32) ≤ 0 + 1 + 1 by decide), show ∀ z : Option (Int32 × ((Nat → Int32) × Int64) × (Nat → Int32) × (Nat → Int32) × (Nat → Int32)), ck 7 306 z = z from fun z => q_ck (n := 7) (by omega) (by omega)]
  rfl
theorem a_2 {vX vP vN vNd vH vQF : Nat → Int32} {vG vU vR vGd vUd vRd vB : Nat → Nat → Int32} {vHV vQV : Nat → NV} {vO : Nat → Int64} {vM : (Nat → Int32) × Int64} {vnow vdraft visKept vbuffer vearlier vslots : Nat → Int32} {D : Dn} {T n : Nat} {l : Nat → Nat} (m8 : M8 vN vG vU vR D) (m9 : M9 vnow D) (o : OkN T D) (hh : HistOk T vM vearlier vH vHV) (hs : SnapOk T vQF vQV visKept vslots) (bo : BufOk vB vM vbuffer l n) (hT : T + 1 ≤ 600) : ∃ (c : Int32) (X' P' N' : Nat → Int32) (G' U' R' : Nat → Nat → Int32) (Nd' : Nat → Int32) (Gd' Ud' Rd' : Nat → Nat → Int32) (H' QF' : Nat → Int32) (B' : Nat → Nat → Int32) (O' : Nat → Int64) (b : Int32) (M' : (Nat → Int32) × Int64) (now' d' ik' : Nat → Int32), F_L_load vX vP vN vG vU vR vNd vGd vUd vRd vH vQF vB vO = some (c, X', P', N', G', U', R', Nd', Gd', Ud', Rd', H', QF', B', O') ∧ F_X9_load vM vnow vdraft visKept vbuffer = some (b, M', now', d', ik') ∧ M'.1 3 = c ∧ (c = 0 → O' 0 = Int32.toInt64 b) ∧ StOk (T + 1) N' G' U' R' H' vHV M' now' vearlier ∧ SnapOk (T + 1) QF' vQV ik' vslots ∧ (∃ l n, BufOk B' M' vbuffer l n) ∧ ErrOk X' M' ∧ M'.1 9 = vM.1 9 := by
  have hT0 : T ≤ T + 1 := Nat.le_succ T
  have hn := bo.1
  have hB : Byt vB vbuffer l n := ⟨bo.1, bo.2.1, bo.2.2.2⟩
  obtain ⟨z, f', hz, ez⟩ := zero_fill (vbuffer := vbuffer) (vnow := vnow) (ik := visKept) (M := (va_up vM.1 3 0, vM.2)) FU 0 vdraft (by omega) (by unfold FU; omega) (fun i h => absurd h (Nat.not_lt_zero i))
  have E9 : F_X9_load vM vnow vdraft visKept vbuffer = L_X9_load_7 vbuffer (f' + 1) (nI 306) (va_up vM.1 3 0, vM.2) vnow z visKept := by
    unfold F_X9_load
    rw [q_lt0]
    exact ez
  rw [eq7] at E9
  unfold B_X9_load_7 at E9
  rw [if_pos (show (306 : Int32) ≤ nI 306 by decide), q_lt0, q_lt0, q_lt0] at E9
  obtain ⟨M1, e1, alt⟩ := readAll (vP := vP) (vN := vNd) (vG := vGd) (vU := vUd) (vR := vRd) (d := z) (T := T + 1) (M := (va_up (va_up (va_up (va_up vM.1 3 0) 4 0) 8 0) 2 (-1), vM.2)) hB bo.2.2.1 rfl rfl (m9_00 hz) hT
  rw [e1, q_sb] at E9
  rcases alt with ⟨P', N', G', U', R', M', d', D', g1, g2, g3, g4, g5, g6, g7⟩ | ⟨er, P', N', G', U', R', M', d', g1, g2, g3, g4, g5, g6⟩
  · obtain ⟨u, f8, n8⟩ := u_copy (vN := vN) (vG := vG) (vU := vU) (vR := vR) g5 g4.1
    obtain ⟨r9, f9, g9⟩ := lay_r (nS := 306) (nT := 306) (b := 0) (p := 0) (vS := d') (vT := vnow) (by omega) (by omega) (by omega) (by omega)
    have n9 : M9 r9 D' := g6.cong g4.1.G g4.1.U g4.1.R fun i hi => by
      rw [g9, if_pos (by omega)]
      exact congrArg d' (by omega)
    have u7 : u.2.1 0 0 = nI D'.G := n8.G
    have r7 : r9 7 = nI D'.G := n9.G
    have e8 : F_L_load vX vP vN vG vU vR vNd vGd vUd vRd vH vQF vB vO = some (nI 0, va_up vX 0 m1, P', u.1, u.2.1, u.2.2.1, u.2.2.2, N', G', U', R', va_up vH 1 (nI 0), upd (upd vQF 0 (nI 0)) 1 (nI 0), va_up vB 0 (fun _ => nI 0), vp_updL vO 0 (Int32.toInt64 (nI D'.G))) := by
      have hX : F_X8_readInput vX vP vN vG vU vR vNd vGd vUd vRd vH vQF vB = some (va_up vX 0 m1, P', u.1, u.2.1, u.2.2.1, u.2.2.2, N', G', U', R', va_up vH 1 (nI 0), upd (upd vQF 0 (nI 0)) 1 (nI 0), va_up vB 0 (fun _ => nI 0)) := by
        unfold F_X8_readInput
        rw [g1, q_sb, q_lt0, q_lt0, if_pos (show va_up vX 0 m1 0 = (-1 : Int32) from rfl), f8, q_sb, q_lt0, empt, q_sb]
        rfl
      have hX0 : va_up vX 0 m1 0 = m1 := rfl
      simp (disch := omega) only [F_L_load, F_X8_load, hX, hX0, u7, q_lit, q_neg, nI_add, pk_mul, q_sb, q_lt0, q_ck, q_cl, q_le, q_lt, q_eq, q_m1e, q_e1m, q_m1l, e10, e20, e30, e40, e21, e31, e41, e32, e42, e43, eq_self, if_true, if_false, q_cn0, q_cn1, F_X9_fails, F_X9_isFailed, e14, e12, e13, e24, e23, e34]
    have e9 : F_X9_load vM vnow vdraft visKept vbuffer = some (nI D'.G, (va_up (va_up M'.1 1 0) 0 0, M'.2), r9, d', upd (upd visKept 0 (nI 0)) 1 (nI 0)) := by
      rw [E9, g2, q_sb, q_lt0, if_pos (show va_up M'.1 1 0 8 = (0 : Int32) from g3), show F_X9_layRow_r 306 306 vnow d' 0 0 = some r9 from f9, q_sb, q_lt0, l88, r7]
    obtain ⟨hn0, q, Hs, w1, w2, w3, w4, w5, w6⟩ := hh
    refine ⟨nI 0, _, _, _, _, _, _, _, _, _, _, _, _, _, _, _, _, _, _, _, e8, e9, g7.2.2.2.1, fun _ => rfl, ⟨D', g4, n8, n9, 0, q, Hs, Nat.zero_le _, w2, rfl, w4, rfl, fun j hj => absurd hj (Nat.not_lt_zero j)⟩, ?_, ⟨fun _ => 0, 0, Nat.zero_le _, rfl, rfl, fun i hi => absurd hi (Nat.not_lt_zero i)⟩, ⟨g7.2.2.1, Or.inl rfl⟩, g7.2.2.2.2.2⟩
    intro s hs2
    left
    rcases (by omega : s = 0 ∨ s = 1) with rfl | rfl
    · exact ⟨rfl, rfl⟩
    · exact ⟨rfl, rfl⟩
  · have hern : ¬ nI er = (-1 : Int32) := fun h => by have := q_m1e (a := er) (by omega); rw [show m1 = (-1 : Int32) from rfl] at this; rw [this] at h; exact h
    have e8 : F_L_load vX vP vN vG vU vR vNd vGd vUd vRd vH vQF vB vO = some (nI 1, va_up vX 0 (nI er), P', vN, vG, vU, vR, N', G', U', R', vH, vQF, va_up vB 0 (fun _ => nI 0), vO) := by
      have hX : F_X8_readInput vX vP vN vG vU vR vNd vGd vUd vRd vH vQF vB = some (va_up vX 0 (nI er), P', vN, vG, vU, vR, N', G', U', R', vH, vQF, va_up vB 0 (fun _ => nI 0)) := by
        unfold F_X8_readInput
        rw [g1, q_sb, q_lt0, q_lt0, if_neg (show ¬ va_up vX 0 (nI er) 0 = (-1 : Int32) from hern)]
        rfl
      have hX0 : va_up vX 0 (nI er) 0 = nI er := rfl
      simp (disch := omega) only [F_L_load, F_X8_load, hX, hX0, q_lit, q_neg, nI_add, pk_mul, q_sb, q_lt0, q_ck, q_cl, q_le, q_lt, q_eq, q_m1e, q_e1m, q_m1l, e10, e20, e30, e40, e21, e31, e41, e32, e42, e43, eq_self, if_true, if_false, q_cn0, q_cn1, F_X9_fails, F_X9_isFailed, e14, e12, e13, e24, e23, e34]
    have e9 : F_X9_load vM vnow vdraft visKept vbuffer = some (nI 0, (va_up (va_up M'.1 1 0) 3 1, M'.2), vnow, d', visKept) := by
      rw [E9, g3, q_sb, q_lt0, if_neg (show ¬ va_up M'.1 1 0 8 = (0 : Int32) from fun h => by have : M'.1 8 = (0 : Int32) := h; rw [g4] at this; exact absurd this (by decide))]
      rfl
    refine ⟨nI 1, _, _, _, _, _, _, _, _, _, _, _, _, _, _, _, _, _, _, _, e8, e9, rfl, fun h => absurd h (by decide), ⟨D, o.mono hT0 hT, m8, m9, HistOk.mono (HistOk.m (vM := vM) hh g6.1) hT0 hT⟩, hs.mono hT0 hT, ⟨fun _ => 0, 0, Nat.zero_le _, rfl, rfl, fun i hi => absurd hi (Nat.not_lt_zero i)⟩, ⟨g5, Or.inr ⟨er, by omega, rfl⟩⟩, g6.2.2.2⟩
