/-! answers about names, errors, written bytes -/
theorem t_sizeD {D : Dn} {T : Nat} (o : OkD T D) {g : Nat} (hg : g < D.G) : F_X9_sizeOf (nI (D.nm g)) = some (nI (D.ln g)) := t_size (fun i hi => o.lt g i hg hi) (o.ln g hg).2
theorem t_size0 : F_X9_sizeOf (nI 0) = some (nI 0) := t_size (l := fun _ => 0) (N := 0) (fun i hi => absurd hi (Nat.not_lt_zero i)) (by omega)
theorem t_letterD {D : Dn} {T : Nat} (o : OkD T D) {g i : Nat} (hg : g < D.G) (hi : i < D.ln g) : F_X9_letterOf (nI (D.nm g)) (nI i) = some (nI (D.lt (5 * g + i))) := t_letter (fun i hi => o.lt g i hg hi) (o.ln g hg).2 hi
theorem bad2 {α : Type} {x : Int32} {G : Nat} (h : badI x G) (hG : G ≤ 1000) {a b : α} {i1 : Decidable (x < nI 0)} {i2 : Decidable (x < nI G)} : @ite _ (x < nI 0) i1 a (@ite _ (x < nI G) i2 b a) = a := by
  rcases h with h | ⟨n, h1, h2, rfl⟩
  · rw [if_pos h]
  · rw [if_neg (fun h => by rw [q_lt (by omega) (by omega)] at h; omega), if_neg (fun h => by rw [q_lt (by omega) (by omega)] at h; omega)]
theorem BufOk.m3 {vB : Nat → Nat → Int32} {vM : (Nat → Int32) × Int64} {vbuffer : Nat → Int32} {l : Nat → Nat} {n : Nat} (b : BufOk vB vM vbuffer l n) (x : Int32) : BufOk vB (va_up vM.1 3 x, vM.2) vbuffer l n :=
  ⟨b.1, b.2.1, (show va_up vM.1 3 x 1 = nI n from b.2.2.1), b.2.2.2⟩
theorem find_nm {D : Dn} {T : Nat} (o : OkD T D) {l : Nat → Nat} {n : Nat} (h : isNm l n = false) : findD D l n = 0 := by
  rcases fstF_ok (eqN D l n) D.G _ 0 rfl with e | ⟨h1, h2, h3⟩
  · exact e
  · exfalso
    have hk : fstF (eqN D l n) D.G 0 - 1 < D.G := by omega
    obtain ⟨e1, e2⟩ := (eqN_iff D l n _).mp h3
    have h4 := o.ln _ hk
    have : isNm l n = true := (isNm_iff l n).mpr ⟨by omega, fun i hi => by
      have := o.lt _ i hk (by omega)
      rw [e2 i hi] at this
      exact this⟩
    rw [h] at this
    exact absurd this (by decide)
theorem find_le (D : Dn) (l : Nat → Nat) (n : Nat) : findD D l n ≤ D.G := by
  rcases fstF_ok (eqN D l n) D.G _ 0 rfl with e | ⟨_, h2, _⟩
  · unfold findD; omega
  · exact h2
def ErrOk (vX : Nat → Int32) (vM : (Nat → Int32) × Int64) : Prop := vM.1 2 = vX 0 ∧ (vX 0 = m1 ∨ ∃ e, e ≤ 600 ∧ vX 0 = nI e)
def WrOk (vBw : Nat → Nat → Int32) (vM : (Nat → Int32) × Int64) (vout : Nat → Int32) : Prop := ∃ n, n ≤ 300 ∧ vBw 0 0 = nI n ∧ vM.1 9 = nI n ∧ ∀ k, k < n → vout k = vBw 1 k
theorem va3 {f : Nat → Int32} {x : Int32} {k : Nat} (h : k ≠ 3) : va_up f 3 x k = f k := va_up_ne _ _ h
theorem va3_1 {f : Nat → Int32} {x : Int32} : va_up f 3 x 1 = f 1 := rfl
theorem va3_2 {f : Nat → Int32} {x : Int32} : va_up f 3 x 2 = f 2 := rfl
theorem va3_9 {f : Nat → Int32} {x : Int32} : va_up f 3 x 9 = f 9 := rfl
theorem va3_0 {f : Nat → Int32} {x : Int32} : va_up f 3 x 0 = f 0 := rfl
theorem f_m10 : m1 < nI 0 := by decide
theorem f_m1c : m1 ≤ nI 0 := by decide
theorem f_0m1 : ¬ nI 0 ≤ m1 := by decide
theorem q_m10 {i : Decidable (m1 < nI 0)} {α : Type} {a b : α} : @ite _ (m1 < nI 0) i a b = a := if_pos f_m10
theorem q_m1c {i : Decidable (m1 ≤ nI 0)} {α : Type} {a b : α} : @ite _ (m1 ≤ nI 0) i a b = a := if_pos f_m1c
theorem q_0m1 {i : Decidable (nI 0 ≤ m1)} {α : Type} {a b : α} : @ite _ (nI 0 ≤ m1) i a b = b := if_neg f_0m1
theorem a_3 {vX : Nat → Int32} {vM : (Nat → Int32) × Int64} (e : ErrOk vX vM) : AnsP (F_X8_hasError vX) (F_X9_hasError vM) vM := by
  obtain ⟨e1, e2⟩ := e
  rcases e2 with e2 | ⟨n, hn, e2⟩
  · have e3 := e1.trans e2
    simp (disch := omega) only [F_X8_hasError, F_X9_hasError, q_lit, q_neg, q_lt0, va3_2, e3, e2, q_m10, eq_self, if_true]
    exact an_p
  · have e3 := e1.trans e2
    simp (disch := omega) only [F_X8_hasError, F_X9_hasError, q_lit, q_neg, q_lt0, va3_2, e3, e2, q_lt, Nat.not_lt_zero, if_false, q_m1e]
    exact an_p
theorem a_4 {vX : Nat → Int32} {vM : (Nat → Int32) × Int64} {vO : Nat → Int64} (e : ErrOk vX vM) : Ans (F_L_errorOffset vX vO) (F_X9_errorOffset vM) vM := by
  obtain ⟨e1, e2⟩ := e
  rcases e2 with e2 | ⟨n, hn, e2⟩
  · have e3 := e1.trans e2
    simp (disch := omega) only [F_L_errorOffset, F_X8_errorOffset, F_X9_errorOffset, q_lit, q_neg, nI_add, pk_mul, q_sb, q_lt0, q_ck, q_cl, q_le, q_lt, q_eq, q_m1e, q_e1m, q_m1l, e10, e20, e30, e40, e21, e31, e41, e32, e42, e43, eq_self, if_true, if_false, q_cn0, q_cn1, F_X9_fails, F_X9_isFailed, va3_2, e3, e2, q_0m1]
    exact an_f (by decide)
  · have e3 := e1.trans e2
    simp (disch := omega) only [F_L_errorOffset, F_X8_errorOffset, F_X9_errorOffset, q_lit, q_neg, nI_add, pk_mul, q_sb, q_lt0, q_ck, q_cl, q_le, q_lt, q_eq, q_m1e, q_e1m, q_m1l, e10, e20, e30, e40, e21, e31, e41, e32, e42, e43, eq_self, if_true, if_false, q_cn0, q_cn1, F_X9_fails, F_X9_isFailed, va3_2, e3, e2, Nat.zero_le]
    exact an_ok
theorem a_60 {vX vout : Nat → Int32} {vBw : Nat → Nat → Int32} {vM : (Nat → Int32) × Int64} {vO : Nat → Int64} (e : WrOk vBw vM vout) (x1 : Int32) : Ans (F_L_writtenByte vX vBw vO x1) (F_X9_writtenByte vM vout x1) vM := by
  obtain ⟨n, hn, e1, e2, e3⟩ := e
  rcases gcase x1 n with ⟨k, hk, rfl⟩ | hb
  · have h1 := in_ok hk (by omega)
    have h2 := e3 k hk
    simp (disch := omega) only [F_L_writtenByte, F_X8_writtenByte, F_X9_writtenByte, q_lit, q_neg, nI_add, pk_mul, q_sb, q_lt0, q_ck, q_cl, q_le, q_lt, q_eq, q_m1e, q_e1m, q_m1l, e10, e20, e30, e40, e21, e31, e41, e32, e42, e43, eq_self, if_true, if_false, q_cn0, q_cn1, F_X9_fails, F_X9_isFailed, va3_9, e1, e2, h1, h2, hk, Nat.not_lt_zero]
    exact an_ok
  · have h1 := in_bad hb (by omega)
    simp (disch := omega) only [F_L_writtenByte, F_X8_writtenByte, F_X9_writtenByte, q_lit, q_neg, nI_add, pk_mul, q_sb, q_lt0, q_ck, q_cl, q_le, q_lt, q_eq, q_m1e, q_e1m, q_m1l, e10, e20, e30, e40, e21, e31, e41, e32, e42, e43, eq_self, if_true, if_false, q_cn0, q_cn1, F_X9_fails, F_X9_isFailed, va3_9, e1, e2, h1, bad2 hb]
    exact an_f (by decide)
theorem a_14 {vN : Nat → Int32} {vG : Nat → Nat → Int32} {vU : Nat → Nat → Int32} {vR : Nat → Nat → Int32} {vM : (Nat → Int32) × Int64} {vnow : Nat → Int32} {vX : Nat → Int32} {vO : Nat → Int64} {D : Dn} {T : Nat} (m8 : M8 vN vG vU vR D) (m9 : M9 vnow D) (o : OkD T D) (x1 : Int32) : Ans (F_L_nameLength vX vN vG vO x1) (F_X9_nameLength vM vnow x1) vM := by
  have hG := o.G
  have hU := o.U
  have hR := o.R
  have hm := o.mi
  rcases gcase x1 D.G with ⟨g, hg, rfl⟩ | hb
  · simp (disch := omega) only [F_L_nameLength, F_X8_nameLength, F_X9_nameLength, u_rG_ok m8 o hg, t_gN_ok m9 o hg, q_lit, q_neg, nI_add, pk_mul, q_sb, q_lt0, q_ck, q_cl, q_le, q_lt, q_eq, q_m1e, q_e1m, q_m1l, e10, e20, e30, e40, e21, e31, e41, e32, e42, e43, eq_self, if_true, if_false, q_cn0, q_cn1, F_X9_fails, F_X9_isFailed, m8.ln, m9.nm, t_sizeD o hg]
    exact an_ok
  · simp (disch := omega) only [F_L_nameLength, F_X8_nameLength, F_X9_nameLength, u_rG_bad m8 o hb, t_gN_bad m9 o hb, t_size0, q_lit, q_neg, nI_add, pk_mul, q_sb, q_lt0, q_ck, q_cl, q_le, q_lt, q_eq, q_m1e, q_e1m, q_m1l, e10, e20, e30, e40, e21, e31, e41, e32, e42, e43, eq_self, if_true, if_false, q_cn0, q_cn1, F_X9_fails, F_X9_isFailed]
    exact an_f (by decide)
theorem a_15 {vN : Nat → Int32} {vG : Nat → Nat → Int32} {vU : Nat → Nat → Int32} {vR : Nat → Nat → Int32} {vM : (Nat → Int32) × Int64} {vnow : Nat → Int32} {vX : Nat → Int32} {vO : Nat → Int64} {D : Dn} {T : Nat} (m8 : M8 vN vG vU vR D) (m9 : M9 vnow D) (o : OkD T D) (x1 : Int32) (x2 : Int32) : Ans (F_L_nameByte vX vN vG vO x1 x2) (F_X9_nameByte vM vnow x1 x2) vM := by
  have hG := o.G
  have hU := o.U
  have hR := o.R
  have hm := o.mi
  rcases gcase x1 D.G with ⟨g, hg, rfl⟩ | hb
  · have h1 := o.ln g hg
    have h2 := nm_bd o hg
    have h3 := m9.nm g hg
    rw [Nat.add_zero] at h3
    rcases gcase x2 (D.ln g) with ⟨i, hi, rfl⟩ | hb
    · have h4 := in_ok hi (by omega)
      have h5 := m8.lt g i hg hi
      simp (disch := omega) only [F_L_nameByte, F_X8_nameByte, F_X9_nameByte, F_X1_letterOf, F_X9_guestAt, u_rG_ok m8 o hg, t_isG_ok m9 o hg, Nat.add_zero, h3, m8.ln, h5, t_sizeD o hg, t_letterD o hg hi, h4, hi, Nat.not_lt_zero, q_lit, q_neg, nI_add, pk_mul, q_sb, q_lt0, q_ck, q_cl, q_le, q_lt, q_eq, q_m1e, q_e1m, q_m1l, e10, e20, e30, e40, e21, e31, e41, e32, e42, e43, eq_self, if_true, if_false, q_cn0, q_cn1, F_X9_fails, F_X9_isFailed]
      exact an_ok
    · have h4 := in_bad hb (by omega)
      simp (disch := omega) only [F_L_nameByte, F_X8_nameByte, F_X9_nameByte, F_X9_guestAt, u_rG_ok m8 o hg, t_isG_ok m9 o hg, Nat.add_zero, h3, m8.ln, t_sizeD o hg, h4, bad2 hb, q_lit, q_neg, nI_add, pk_mul, q_sb, q_lt0, q_ck, q_cl, q_le, q_lt, q_eq, q_m1e, q_e1m, q_m1l, e10, e20, e30, e40, e21, e31, e41, e32, e42, e43, eq_self, if_true, if_false, q_cn0, q_cn1, F_X9_fails, F_X9_isFailed]
      exact an_f (by decide)
  · simp (disch := omega) only [F_L_nameByte, F_X8_nameByte, F_X9_nameByte, u_rG_bad m8 o hb, t_isG_bad m9 o hb, q_lit, q_neg, nI_add, pk_mul, q_sb, q_lt0, q_ck, q_cl, q_le, q_lt, q_eq, q_m1e, q_e1m, q_m1l, e10, e20, e30, e40, e21, e31, e41, e32, e42, e43, eq_self, if_true, if_false, q_cn0, q_cn1, F_X9_fails, F_X9_isFailed]
    exact an_f (by decide)
theorem a_16 {vN : Nat → Int32} {vG : Nat → Nat → Int32} {vU : Nat → Nat → Int32} {vR : Nat → Nat → Int32} {vM : (Nat → Int32) × Int64} {vnow : Nat → Int32} {vX : Nat → Int32} {vB : Nat → Nat → Int32} {vO : Nat → Int64} {vbuffer : Nat → Int32} {D : Dn} {T : Nat} (m8 : M8 vN vG vU vR D) (m9 : M9 vnow D) (o : OkD T D) {l : Nat → Nat} {n : Nat} (bo : BufOk vB vM vbuffer l n)  : Ans (F_L_guestOfInput vX vN vG vB vO) (F_X9_guestOfInput vM vnow vbuffer) vM := by
  have hG := o.G
  have hU := o.U
  have hR := o.R
  have hm := o.mi
  have h1 := t_bufN (bo.m3 (nI 0))
  have h2 := u_find (s := 0) (n := n) m8 o (by have := bo.1; omega) (fun i hi => by rw [Nat.zero_add]; exact ⟨(bo.2.2.2 i hi).1, (bo.2.2.2 i hi).2.2⟩)
  have h3 := find_le D l n
  cases hn : isNm l n
  · rw [hn, if_neg (by decide)] at h1
    have h4 := find_nm o hn
    rw [h4, nz_0] at h2
    simp (disch := omega) only [F_L_guestOfInput, F_X8_guestOfInput, F_X9_guestOfInput, bo.2.1, h1, h2, q_m1c, q_0m1, q_lit, q_neg, nI_add, pk_mul, q_sb, q_lt0, q_ck, q_cl, q_le, q_lt, q_eq, q_m1e, q_e1m, q_m1l, e10, e20, e30, e40, e21, e31, e41, e32, e42, e43, eq_self, if_true, if_false, q_cn0, q_cn1, F_X9_fails, F_X9_isFailed]
    exact an_f (by decide)
  · rw [hn, if_pos rfl] at h1
    obtain ⟨h5, h6⟩ := (isNm_iff l n).mp hn
    have h7 := code_bd h6 h5.2
    have h8 := code_pos h6 h5.1
    have h9 : ¬ codeF l n ≤ 0 := by omega
    have h10 := t_by m9 o h5.2 h6
    cases hf : findD D l n with
    | zero =>
      rw [hf, nz_0] at h2 h10
      simp (disch := omega) only [F_L_guestOfInput, F_X8_guestOfInput, F_X9_guestOfInput, bo.2.1, h1, h2, h9, h10, q_0m1, q_lit, q_neg, nI_add, pk_mul, q_sb, q_lt0, q_ck, q_cl, q_le, q_lt, q_eq, q_m1e, q_e1m, q_m1l, e10, e20, e30, e40, e21, e31, e41, e32, e42, e43, eq_self, if_true, if_false, q_cn0, q_cn1, F_X9_fails, F_X9_isFailed]
      exact an_f (by decide)
    | succ j =>
      rw [hf, nz_s] at h2 h10
      simp (disch := omega) only [F_L_guestOfInput, F_X8_guestOfInput, F_X9_guestOfInput, bo.2.1, h1, h2, h9, h10, Nat.zero_le, q_lit, q_neg, nI_add, pk_mul, q_sb, q_lt0, q_ck, q_cl, q_le, q_lt, q_eq, q_m1e, q_e1m, q_m1l, e10, e20, e30, e40, e21, e31, e41, e32, e42, e43, eq_self, if_true, if_false, q_cn0, q_cn1, F_X9_fails, F_X9_isFailed]
      exact an_ok
