/-! the invariant of the loop, a step for each case -/
def InvP (it : Nat) (vX : Nat → Int32) (vP : Nat → Int32) (vN : Nat → Int32) (vG : Nat → Nat → Int32) (vU : Nat → Nat → Int32) (vR : Nat → Nat → Int32) (vNd : Nat → Int32) (vGd : Nat → Nat → Int32) (vUd : Nat → Nat → Int32) (vRd : Nat → Nat → Int32) (vH : Nat → Int32) (vHV : Nat → NV) (vQF : Nat → Int32) (vQV : Nat → NV) (vB : Nat → Nat → Int32) (vBw : Nat → Nat → Int32) (vM : (Nat → Int32) × Int64) (vnow : Nat → Int32) (vdraft : Nat → Int32) (vspare : Nat → Int32) (vearlier : Nat → Int32) (vslots : Nat → Int32) (visKept : Nat → Int32) (vbuffer : Nat → Int32) (vout : Nat → Int32) (vO : Nat → Int64) : Prop := ∃ (D : Dn) (l : Nat → Nat) (n : Nat), OkN it D ∧ M8 vN vG vU vR D ∧ M9 vnow D ∧ HistOk it vM vearlier vH vHV ∧ SnapOk it vQF vQV visKept vslots ∧ BufOk vB vM vbuffer l n ∧ WrOk vBw vM vout ∧ ErrOk vX vM
theorem BufOk.fr {B : Nat → Nat → Int32} {M M' : (Nat → Int32) × Int64} {vb : Nat → Int32} {l : Nat → Nat} {n : Nat} (h : BufOk B M vb l n) (e : M'.1 1 = M.1 1) : BufOk B M' vb l n := ⟨h.1, h.2.1, e.trans h.2.2.1, h.2.2.2⟩
theorem WrOk.fr {B : Nat → Nat → Int32} {M M' : (Nat → Int32) × Int64} {ou : Nat → Int32} (h : WrOk B M ou) (e : M'.1 9 = M.1 9) : WrOk B M' ou := by
  obtain ⟨n, a, b, c, d⟩ := h
  exact ⟨n, a, b, e.trans c, d⟩
theorem ErrOk.fr {X : Nat → Int32} {M M' : (Nat → Int32) × Int64} (h : ErrOk X M) (e : M'.1 2 = M.1 2) : ErrOk X M' := ⟨e.trans h.1, h.2⟩
theorem inv_M {it : Nat} {vX : Nat → Int32} {vP : Nat → Int32} {vN : Nat → Int32} {vG : Nat → Nat → Int32} {vU : Nat → Nat → Int32} {vR : Nat → Nat → Int32} {vNd : Nat → Int32} {vGd : Nat → Nat → Int32} {vUd : Nat → Nat → Int32} {vRd : Nat → Nat → Int32} {vH : Nat → Int32} {vHV : Nat → NV} {vQF : Nat → Int32} {vQV : Nat → NV} {vB : Nat → Nat → Int32} {vBw : Nat → Nat → Int32} {vM : (Nat → Int32) × Int64} {vnow : Nat → Int32} {vdraft : Nat → Int32} {vspare : Nat → Int32} {vearlier : Nat → Int32} {vslots : Nat → Int32} {visKept : Nat → Int32} {vbuffer : Nat → Int32} {vout : Nat → Int32} {vO : Nat → Int64} {M2 : (Nat → Int32) × Int64} {O2 : Nat → Int64} (hI : InvP it vX vP vN vG vU vR vNd vGd vUd vRd vH vHV vQF vQV vB vBw vM vnow vdraft vspare vearlier vslots visKept vbuffer vout vO) (hT : it + 1 ≤ 600) (hM : ∀ k, k ≠ 3 → M2.1 k = vM.1 k) : InvP (it + 1) vX vP vN vG vU vR vNd vGd vUd vRd vH vHV vQF vQV vB vBw M2 vnow vdraft vspare vearlier vslots visKept vbuffer vout O2 := by
  obtain ⟨D, l, n, o, m8, m9, hh, hs, bo, wo, eo⟩ := hI
  exact ⟨D, l, n, o.mono (Nat.le_succ it) hT, m8, m9, HistOk.mono (HistOk.m (vM := vM) hh (hM 0 (by decide))) (Nat.le_succ it) hT, hs.mono (Nat.le_succ it) hT, bo.fr (hM 1 (by decide)), wo.fr (hM 9 (by decide)), eo.fr (hM 2 (by decide))⟩
theorem inv_mk {it : Nat} {vX : Nat → Int32} {vP : Nat → Int32} {vN : Nat → Int32} {vG : Nat → Nat → Int32} {vU : Nat → Nat → Int32} {vR : Nat → Nat → Int32} {vNd : Nat → Int32} {vGd : Nat → Nat → Int32} {vUd : Nat → Nat → Int32} {vRd : Nat → Nat → Int32} {vH : Nat → Int32} {vHV : Nat → NV} {vQF : Nat → Int32} {vQV : Nat → NV} {vB : Nat → Nat → Int32} {vBw : Nat → Nat → Int32} {vM : (Nat → Int32) × Int64} {vnow : Nat → Int32} {vdraft : Nat → Int32} {vspare : Nat → Int32} {vearlier : Nat → Int32} {vslots : Nat → Int32} {visKept : Nat → Int32} {vbuffer : Nat → Int32} {vout : Nat → Int32} {vO : Nat → Int64} (st : StOk it vN vG vU vR vH vHV vM vnow vearlier) (hs : SnapOk it vQF vQV visKept vslots) (bo : ∃ l n, BufOk vB vM vbuffer l n) (wo : WrOk vBw vM vout) (eo : ErrOk vX vM) : InvP it vX vP vN vG vU vR vNd vGd vUd vRd vH vHV vQF vQV vB vBw vM vnow vdraft vspare vearlier vslots visKept vbuffer vout vO := by
  obtain ⟨D, o, m8, m9, hh⟩ := st
  obtain ⟨l, n, bo⟩ := bo
  exact ⟨D, l, n, o, m8, m9, hh, hs, bo, wo, eo⟩
theorem ckx1 {it L : Nat} (h6 : 6 * it + 6 ≤ L) (hL : L ≤ 3072) {α : Type} (k : Option α) : ck (nI (6 * it) + 1) L k = k := by
  rw [show nI (6 * it) + 1 = nI (6 * it + 1) from nI_add (6 * it) 1]
  exact q_ck (by omega) (by omega)
theorem ckx2 {it L : Nat} (h6 : 6 * it + 6 ≤ L) (hL : L ≤ 3072) {α : Type} (k : Option α) : ck (nI (6 * it) + 2) L k = k := by
  rw [show nI (6 * it) + 2 = nI (6 * it + 2) from nI_add (6 * it) 2]
  exact q_ck (by omega) (by omega)
theorem ckx3 {it L : Nat} (h6 : 6 * it + 6 ≤ L) (hL : L ≤ 3072) {α : Type} (k : Option α) : ck (nI (6 * it) + 3) L k = k := by
  rw [show nI (6 * it) + 3 = nI (6 * it + 3) from nI_add (6 * it) 3]
  exact q_ck (by omega) (by omega)
theorem ckx4 {it L : Nat} (h6 : 6 * it + 6 ≤ L) (hL : L ≤ 3072) {α : Type} (k : Option α) : ck (nI (6 * it) + 4) L k = k := by
  rw [show nI (6 * it) + 4 = nI (6 * it + 4) from nI_add (6 * it) 4]
  exact q_ck (by omega) (by omega)
theorem ckx5 {it L : Nat} (h6 : 6 * it + 6 ≤ L) (hL : L ≤ 3072) {α : Type} (k : Option α) : ck (nI (6 * it) + 5) L k = k := by
  rw [show nI (6 * it) + 5 = nI (6 * it + 5) from nI_add (6 * it) 5]
  exact q_ck (by omega) (by omega)
theorem tl3 {α : Type} {X Y : Option α} {c b : Int32} {O : Nat → Int64} {M : (Nat → Int32) × Int64} (h3 : M.1 3 = c) (h0 : c = 0 → O 0 = Int32.toInt64 b) : (F_X9_thrown M).bind (fun u3 => (if u3 = c then (if c = 0 then ck 0 1 ((if (lg_cmp (O (Int32.toNatClampNeg 0)) (Int32.toInt64 b)) = 0 then X else Y)) else X) else Y)) = X := by
  show (if M.1 3 = c then (if c = 0 then ck 0 1 ((if (lg_cmp (O 0) (Int32.toInt64 b)) = 0 then X else Y)) else X) else Y) = X
  rw [if_pos h3]
  by_cases hc : c = 0
  · rw [if_pos hc, ck01, if_pos ((lg_cmp_eq _ _).mpr (h0 hc))]
  · rw [if_neg hc]
theorem s_5 {xs : Nat → Int32} {L it : Nat} {vX : Nat → Int32} {vP : Nat → Int32} {vN : Nat → Int32} {vG : Nat → Nat → Int32} {vU : Nat → Nat → Int32} {vR : Nat → Nat → Int32} {vNd : Nat → Int32} {vGd : Nat → Nat → Int32} {vUd : Nat → Nat → Int32} {vRd : Nat → Nat → Int32} {vH : Nat → Int32} {vHV : Nat → NV} {vQF : Nat → Int32} {vQV : Nat → NV} {vB : Nat → Nat → Int32} {vBw : Nat → Nat → Int32} {vM : (Nat → Int32) × Int64} {vnow : Nat → Int32} {vdraft : Nat → Int32} {vspare : Nat → Int32} {vearlier : Nat → Int32} {vslots : Nat → Int32} {visKept : Nat → Int32} {vbuffer : Nat → Int32} {vout : Nat → Int32} {vO : Nat → Int64} (hI : InvP it vX vP vN vG vU vR vNd vGd vUd vRd vH vHV vQF vQV vB vBw vM vnow vdraft vspare vearlier vslots visKept vbuffer vout vO) (h6 : 6 * it + 6 ≤ L) (hL : L ≤ 3072) : ∃ r, C_5 xs L (nI (6 * it)) vX vN vM vnow = some r ∧ r.1 = 1 ∧ InvP (it + 1) vX vP vN vG vU vR vNd vGd vUd vRd vH vHV vQF vQV vB vBw r.2 vnow vdraft vspare vearlier vslots visKept vbuffer vout vO := by
  have hT : it + 1 ≤ 600 := by omega
  have hI0 := hI
  obtain ⟨D, l, n, o, m8, m9, hh, hs, bo, wo, eo⟩ := hI0
  obtain ⟨r, e, r1, hM⟩ := an_pla (a_5 (vX := vX) (vM := vM) m8 m9 o.1)
  refine ⟨r, ?_, r1, inv_M hI hT hM⟩
  unfold C_5
  exact e
theorem s_6 {xs : Nat → Int32} {L it : Nat} {vX : Nat → Int32} {vP : Nat → Int32} {vN : Nat → Int32} {vG : Nat → Nat → Int32} {vU : Nat → Nat → Int32} {vR : Nat → Nat → Int32} {vNd : Nat → Int32} {vGd : Nat → Nat → Int32} {vUd : Nat → Nat → Int32} {vRd : Nat → Nat → Int32} {vH : Nat → Int32} {vHV : Nat → NV} {vQF : Nat → Int32} {vQV : Nat → NV} {vB : Nat → Nat → Int32} {vBw : Nat → Nat → Int32} {vM : (Nat → Int32) × Int64} {vnow : Nat → Int32} {vdraft : Nat → Int32} {vspare : Nat → Int32} {vearlier : Nat → Int32} {vslots : Nat → Int32} {visKept : Nat → Int32} {vbuffer : Nat → Int32} {vout : Nat → Int32} {vO : Nat → Int64} (hI : InvP it vX vP vN vG vU vR vNd vGd vUd vRd vH vHV vQF vQV vB vBw vM vnow vdraft vspare vearlier vslots visKept vbuffer vout vO) (h6 : 6 * it + 6 ≤ L) (hL : L ≤ 3072) : ∃ r, C_6 xs L (nI (6 * it)) vX vN vM vnow = some r ∧ r.1 = 1 ∧ InvP (it + 1) vX vP vN vG vU vR vNd vGd vUd vRd vH vHV vQF vQV vB vBw r.2 vnow vdraft vspare vearlier vslots visKept vbuffer vout vO := by
  have hT : it + 1 ≤ 600 := by omega
  have hI0 := hI
  obtain ⟨D, l, n, o, m8, m9, hh, hs, bo, wo, eo⟩ := hI0
  obtain ⟨r, e, r1, hM⟩ := an_pla (a_6 (vX := vX) (vM := vM) m8 m9 o.1)
  refine ⟨r, ?_, r1, inv_M hI hT hM⟩
  unfold C_6
  exact e
theorem s_7 {xs : Nat → Int32} {L it : Nat} {vX : Nat → Int32} {vP : Nat → Int32} {vN : Nat → Int32} {vG : Nat → Nat → Int32} {vU : Nat → Nat → Int32} {vR : Nat → Nat → Int32} {vNd : Nat → Int32} {vGd : Nat → Nat → Int32} {vUd : Nat → Nat → Int32} {vRd : Nat → Nat → Int32} {vH : Nat → Int32} {vHV : Nat → NV} {vQF : Nat → Int32} {vQV : Nat → NV} {vB : Nat → Nat → Int32} {vBw : Nat → Nat → Int32} {vM : (Nat → Int32) × Int64} {vnow : Nat → Int32} {vdraft : Nat → Int32} {vspare : Nat → Int32} {vearlier : Nat → Int32} {vslots : Nat → Int32} {visKept : Nat → Int32} {vbuffer : Nat → Int32} {vout : Nat → Int32} {vO : Nat → Int64} (hI : InvP it vX vP vN vG vU vR vNd vGd vUd vRd vH vHV vQF vQV vB vBw vM vnow vdraft vspare vearlier vslots visKept vbuffer vout vO) (h6 : 6 * it + 6 ≤ L) (hL : L ≤ 3072) : ∃ r, C_7 xs L (nI (6 * it)) vX vN vM vnow = some r ∧ r.1 = 1 ∧ InvP (it + 1) vX vP vN vG vU vR vNd vGd vUd vRd vH vHV vQF vQV vB vBw r.2 vnow vdraft vspare vearlier vslots visKept vbuffer vout vO := by
  have hT : it + 1 ≤ 600 := by omega
  have hI0 := hI
  obtain ⟨D, l, n, o, m8, m9, hh, hs, bo, wo, eo⟩ := hI0
  obtain ⟨r, e, r1, hM⟩ := an_pla (a_7 (vX := vX) (vM := vM) m8 m9 o.1)
  refine ⟨r, ?_, r1, inv_M hI hT hM⟩
  unfold C_7
  exact e
theorem s_8 {xs : Nat → Int32} {L it : Nat} {vX : Nat → Int32} {vP : Nat → Int32} {vN : Nat → Int32} {vG : Nat → Nat → Int32} {vU : Nat → Nat → Int32} {vR : Nat → Nat → Int32} {vNd : Nat → Int32} {vGd : Nat → Nat → Int32} {vUd : Nat → Nat → Int32} {vRd : Nat → Nat → Int32} {vH : Nat → Int32} {vHV : Nat → NV} {vQF : Nat → Int32} {vQV : Nat → NV} {vB : Nat → Nat → Int32} {vBw : Nat → Nat → Int32} {vM : (Nat → Int32) × Int64} {vnow : Nat → Int32} {vdraft : Nat → Int32} {vspare : Nat → Int32} {vearlier : Nat → Int32} {vslots : Nat → Int32} {visKept : Nat → Int32} {vbuffer : Nat → Int32} {vout : Nat → Int32} {vO : Nat → Int64} (hI : InvP it vX vP vN vG vU vR vNd vGd vUd vRd vH vHV vQF vQV vB vBw vM vnow vdraft vspare vearlier vslots visKept vbuffer vout vO) (h6 : 6 * it + 6 ≤ L) (hL : L ≤ 3072) : ∃ r, C_8 xs L (nI (6 * it)) vX vN vM vnow = some r ∧ r.1 = 1 ∧ InvP (it + 1) vX vP vN vG vU vR vNd vGd vUd vRd vH vHV vQF vQV vB vBw r.2 vnow vdraft vspare vearlier vslots visKept vbuffer vout vO := by
  have hT : it + 1 ≤ 600 := by omega
  have hI0 := hI
  obtain ⟨D, l, n, o, m8, m9, hh, hs, bo, wo, eo⟩ := hI0
  obtain ⟨r, e, r1, hM⟩ := an_pla (a_8 (vX := vX) (vM := vM) m8 m9 o.1)
  refine ⟨r, ?_, r1, inv_M hI hT hM⟩
  unfold C_8
  exact e
theorem s_9 {xs : Nat → Int32} {L it : Nat} {vX : Nat → Int32} {vP : Nat → Int32} {vN : Nat → Int32} {vG : Nat → Nat → Int32} {vU : Nat → Nat → Int32} {vR : Nat → Nat → Int32} {vNd : Nat → Int32} {vGd : Nat → Nat → Int32} {vUd : Nat → Nat → Int32} {vRd : Nat → Nat → Int32} {vH : Nat → Int32} {vHV : Nat → NV} {vQF : Nat → Int32} {vQV : Nat → NV} {vB : Nat → Nat → Int32} {vBw : Nat → Nat → Int32} {vM : (Nat → Int32) × Int64} {vnow : Nat → Int32} {vdraft : Nat → Int32} {vspare : Nat → Int32} {vearlier : Nat → Int32} {vslots : Nat → Int32} {visKept : Nat → Int32} {vbuffer : Nat → Int32} {vout : Nat → Int32} {vO : Nat → Int64} (hI : InvP it vX vP vN vG vU vR vNd vGd vUd vRd vH vHV vQF vQV vB vBw vM vnow vdraft vspare vearlier vslots visKept vbuffer vout vO) (h6 : 6 * it + 6 ≤ L) (hL : L ≤ 3072) : ∃ r, C_9 xs L (nI (6 * it)) vX vN vM vnow = some r ∧ r.1 = 1 ∧ InvP (it + 1) vX vP vN vG vU vR vNd vGd vUd vRd vH vHV vQF vQV vB vBw r.2 vnow vdraft vspare vearlier vslots visKept vbuffer vout vO := by
  have hT : it + 1 ≤ 600 := by omega
  have hI0 := hI
  obtain ⟨D, l, n, o, m8, m9, hh, hs, bo, wo, eo⟩ := hI0
  obtain ⟨r, e, r1, hM⟩ := an_pla (a_9 (vX := vX) (vM := vM) m8 m9 o.1)
  refine ⟨r, ?_, r1, inv_M hI hT hM⟩
  unfold C_9
  exact e
theorem s_10 {xs : Nat → Int32} {L it : Nat} {vX : Nat → Int32} {vP : Nat → Int32} {vN : Nat → Int32} {vG : Nat → Nat → Int32} {vU : Nat → Nat → Int32} {vR : Nat → Nat → Int32} {vNd : Nat → Int32} {vGd : Nat → Nat → Int32} {vUd : Nat → Nat → Int32} {vRd : Nat → Nat → Int32} {vH : Nat → Int32} {vHV : Nat → NV} {vQF : Nat → Int32} {vQV : Nat → NV} {vB : Nat → Nat → Int32} {vBw : Nat → Nat → Int32} {vM : (Nat → Int32) × Int64} {vnow : Nat → Int32} {vdraft : Nat → Int32} {vspare : Nat → Int32} {vearlier : Nat → Int32} {vslots : Nat → Int32} {visKept : Nat → Int32} {vbuffer : Nat → Int32} {vout : Nat → Int32} {vO : Nat → Int64} (hI : InvP it vX vP vN vG vU vR vNd vGd vUd vRd vH vHV vQF vQV vB vBw vM vnow vdraft vspare vearlier vslots visKept vbuffer vout vO) (h6 : 6 * it + 6 ≤ L) (hL : L ≤ 3072) : ∃ r, C_10 xs L (nI (6 * it)) vX vN vM vnow = some r ∧ r.1 = 1 ∧ InvP (it + 1) vX vP vN vG vU vR vNd vGd vUd vRd vH vHV vQF vQV vB vBw r.2 vnow vdraft vspare vearlier vslots visKept vbuffer vout vO := by
  have hT : it + 1 ≤ 600 := by omega
  have hI0 := hI
  obtain ⟨D, l, n, o, m8, m9, hh, hs, bo, wo, eo⟩ := hI0
  obtain ⟨r, e, r1, hM⟩ := an_pla (a_10 (vX := vX) (vM := vM) m8 m9 o.1)
  refine ⟨r, ?_, r1, inv_M hI hT hM⟩
  unfold C_10
  exact e
theorem s_11 {xs : Nat → Int32} {L it : Nat} {vX : Nat → Int32} {vP : Nat → Int32} {vN : Nat → Int32} {vG : Nat → Nat → Int32} {vU : Nat → Nat → Int32} {vR : Nat → Nat → Int32} {vNd : Nat → Int32} {vGd : Nat → Nat → Int32} {vUd : Nat → Nat → Int32} {vRd : Nat → Nat → Int32} {vH : Nat → Int32} {vHV : Nat → NV} {vQF : Nat → Int32} {vQV : Nat → NV} {vB : Nat → Nat → Int32} {vBw : Nat → Nat → Int32} {vM : (Nat → Int32) × Int64} {vnow : Nat → Int32} {vdraft : Nat → Int32} {vspare : Nat → Int32} {vearlier : Nat → Int32} {vslots : Nat → Int32} {visKept : Nat → Int32} {vbuffer : Nat → Int32} {vout : Nat → Int32} {vO : Nat → Int64} (hI : InvP it vX vP vN vG vU vR vNd vGd vUd vRd vH vHV vQF vQV vB vBw vM vnow vdraft vspare vearlier vslots visKept vbuffer vout vO) (h6 : 6 * it + 6 ≤ L) (hL : L ≤ 3072) : ∃ r, C_11 xs L (nI (6 * it)) vX vN vR vM vnow = some r ∧ r.1 = 1 ∧ InvP (it + 1) vX vP vN vG vU vR vNd vGd vUd vRd vH vHV vQF vQV vB vBw r.2 vnow vdraft vspare vearlier vslots visKept vbuffer vout vO := by
  have hT : it + 1 ≤ 600 := by omega
  have hI0 := hI
  obtain ⟨D, l, n, o, m8, m9, hh, hs, bo, wo, eo⟩ := hI0
  obtain ⟨r, e, r1, hM⟩ := an_pla (a_11 (vX := vX) (vM := vM) m8 m9 o.1)
  refine ⟨r, ?_, r1, inv_M hI hT hM⟩
  unfold C_11
  exact e
theorem s_12 {xs : Nat → Int32} {L it : Nat} {vX : Nat → Int32} {vP : Nat → Int32} {vN : Nat → Int32} {vG : Nat → Nat → Int32} {vU : Nat → Nat → Int32} {vR : Nat → Nat → Int32} {vNd : Nat → Int32} {vGd : Nat → Nat → Int32} {vUd : Nat → Nat → Int32} {vRd : Nat → Nat → Int32} {vH : Nat → Int32} {vHV : Nat → NV} {vQF : Nat → Int32} {vQV : Nat → NV} {vB : Nat → Nat → Int32} {vBw : Nat → Nat → Int32} {vM : (Nat → Int32) × Int64} {vnow : Nat → Int32} {vdraft : Nat → Int32} {vspare : Nat → Int32} {vearlier : Nat → Int32} {vslots : Nat → Int32} {visKept : Nat → Int32} {vbuffer : Nat → Int32} {vout : Nat → Int32} {vO : Nat → Int64} (hI : InvP it vX vP vN vG vU vR vNd vGd vUd vRd vH vHV vQF vQV vB vBw vM vnow vdraft vspare vearlier vslots visKept vbuffer vout vO) (h6 : 6 * it + 6 ≤ L) (hL : L ≤ 3072) : ∃ r, C_12 xs L (nI (6 * it)) vX vN vM vnow = some r ∧ r.1 = 1 ∧ InvP (it + 1) vX vP vN vG vU vR vNd vGd vUd vRd vH vHV vQF vQV vB vBw r.2 vnow vdraft vspare vearlier vslots visKept vbuffer vout vO := by
  have hT : it + 1 ≤ 600 := by omega
  have hI0 := hI
  obtain ⟨D, l, n, o, m8, m9, hh, hs, bo, wo, eo⟩ := hI0
  obtain ⟨r, e, r1, hM⟩ := an_pla (a_12 (vX := vX) (vM := vM) m8 m9 o.1)
  refine ⟨r, ?_, r1, inv_M hI hT hM⟩
  unfold C_12
  exact e
theorem s_13 {xs : Nat → Int32} {L it : Nat} {vX : Nat → Int32} {vP : Nat → Int32} {vN : Nat → Int32} {vG : Nat → Nat → Int32} {vU : Nat → Nat → Int32} {vR : Nat → Nat → Int32} {vNd : Nat → Int32} {vGd : Nat → Nat → Int32} {vUd : Nat → Nat → Int32} {vRd : Nat → Nat → Int32} {vH : Nat → Int32} {vHV : Nat → NV} {vQF : Nat → Int32} {vQV : Nat → NV} {vB : Nat → Nat → Int32} {vBw : Nat → Nat → Int32} {vM : (Nat → Int32) × Int64} {vnow : Nat → Int32} {vdraft : Nat → Int32} {vspare : Nat → Int32} {vearlier : Nat → Int32} {vslots : Nat → Int32} {visKept : Nat → Int32} {vbuffer : Nat → Int32} {vout : Nat → Int32} {vO : Nat → Int64} (hI : InvP it vX vP vN vG vU vR vNd vGd vUd vRd vH vHV vQF vQV vB vBw vM vnow vdraft vspare vearlier vslots visKept vbuffer vout vO) (h6 : 6 * it + 6 ≤ L) (hL : L ≤ 3072) : ∃ r, C_13 xs L (nI (6 * it)) vX vN vG vM vnow = some r ∧ r.1 = 1 ∧ InvP (it + 1) vX vP vN vG vU vR vNd vGd vUd vRd vH vHV vQF vQV vB vBw r.2 vnow vdraft vspare vearlier vslots visKept vbuffer vout vO := by
  have hT : it + 1 ≤ 600 := by omega
  have hI0 := hI
  obtain ⟨D, l, n, o, m8, m9, hh, hs, bo, wo, eo⟩ := hI0
  obtain ⟨r, e, r1, hM⟩ := an_pla (a_13 (vX := vX) (vM := vM) m8 m9 o.1)
  refine ⟨r, ?_, r1, inv_M hI hT hM⟩
  unfold C_13
  exact e
theorem s_22 {xs : Nat → Int32} {L it : Nat} {vX : Nat → Int32} {vP : Nat → Int32} {vN : Nat → Int32} {vG : Nat → Nat → Int32} {vU : Nat → Nat → Int32} {vR : Nat → Nat → Int32} {vNd : Nat → Int32} {vGd : Nat → Nat → Int32} {vUd : Nat → Nat → Int32} {vRd : Nat → Nat → Int32} {vH : Nat → Int32} {vHV : Nat → NV} {vQF : Nat → Int32} {vQV : Nat → NV} {vB : Nat → Nat → Int32} {vBw : Nat → Nat → Int32} {vM : (Nat → Int32) × Int64} {vnow : Nat → Int32} {vdraft : Nat → Int32} {vspare : Nat → Int32} {vearlier : Nat → Int32} {vslots : Nat → Int32} {visKept : Nat → Int32} {vbuffer : Nat → Int32} {vout : Nat → Int32} {vO : Nat → Int64} (hI : InvP it vX vP vN vG vU vR vNd vGd vUd vRd vH vHV vQF vQV vB vBw vM vnow vdraft vspare vearlier vslots visKept vbuffer vout vO) (h6 : 6 * it + 6 ≤ L) (hL : L ≤ 3072) : ∃ r, C_22 xs L (nI (6 * it)) vX vN vG vM vnow = some r ∧ r.1 = 1 ∧ InvP (it + 1) vX vP vN vG vU vR vNd vGd vUd vRd vH vHV vQF vQV vB vBw r.2 vnow vdraft vspare vearlier vslots visKept vbuffer vout vO := by
  have hT : it + 1 ≤ 600 := by omega
  have hI0 := hI
  obtain ⟨D, l, n, o, m8, m9, hh, hs, bo, wo, eo⟩ := hI0
  obtain ⟨r, e, r1, hM⟩ := an_pla (a_22 (vX := vX) (vM := vM) m8 m9 o.1)
  refine ⟨r, ?_, r1, inv_M hI hT hM⟩
  unfold C_22
  exact e
theorem s_24 {xs : Nat → Int32} {L it : Nat} {vX : Nat → Int32} {vP : Nat → Int32} {vN : Nat → Int32} {vG : Nat → Nat → Int32} {vU : Nat → Nat → Int32} {vR : Nat → Nat → Int32} {vNd : Nat → Int32} {vGd : Nat → Nat → Int32} {vUd : Nat → Nat → Int32} {vRd : Nat → Nat → Int32} {vH : Nat → Int32} {vHV : Nat → NV} {vQF : Nat → Int32} {vQV : Nat → NV} {vB : Nat → Nat → Int32} {vBw : Nat → Nat → Int32} {vM : (Nat → Int32) × Int64} {vnow : Nat → Int32} {vdraft : Nat → Int32} {vspare : Nat → Int32} {vearlier : Nat → Int32} {vslots : Nat → Int32} {visKept : Nat → Int32} {vbuffer : Nat → Int32} {vout : Nat → Int32} {vO : Nat → Int64} (hI : InvP it vX vP vN vG vU vR vNd vGd vUd vRd vH vHV vQF vQV vB vBw vM vnow vdraft vspare vearlier vslots visKept vbuffer vout vO) (h6 : 6 * it + 6 ≤ L) (hL : L ≤ 3072) : ∃ r, C_24 xs L (nI (6 * it)) vX vN vU vM vnow = some r ∧ r.1 = 1 ∧ InvP (it + 1) vX vP vN vG vU vR vNd vGd vUd vRd vH vHV vQF vQV vB vBw r.2 vnow vdraft vspare vearlier vslots visKept vbuffer vout vO := by
  have hT : it + 1 ≤ 600 := by omega
  have hI0 := hI
  obtain ⟨D, l, n, o, m8, m9, hh, hs, bo, wo, eo⟩ := hI0
  obtain ⟨r, e, r1, hM⟩ := an_pla (a_24 (vX := vX) (vM := vM) m8 m9 o.1)
  refine ⟨r, ?_, r1, inv_M hI hT hM⟩
  unfold C_24
  exact e
theorem s_31 {xs : Nat → Int32} {L it : Nat} {vX : Nat → Int32} {vP : Nat → Int32} {vN : Nat → Int32} {vG : Nat → Nat → Int32} {vU : Nat → Nat → Int32} {vR : Nat → Nat → Int32} {vNd : Nat → Int32} {vGd : Nat → Nat → Int32} {vUd : Nat → Nat → Int32} {vRd : Nat → Nat → Int32} {vH : Nat → Int32} {vHV : Nat → NV} {vQF : Nat → Int32} {vQV : Nat → NV} {vB : Nat → Nat → Int32} {vBw : Nat → Nat → Int32} {vM : (Nat → Int32) × Int64} {vnow : Nat → Int32} {vdraft : Nat → Int32} {vspare : Nat → Int32} {vearlier : Nat → Int32} {vslots : Nat → Int32} {visKept : Nat → Int32} {vbuffer : Nat → Int32} {vout : Nat → Int32} {vO : Nat → Int64} (hI : InvP it vX vP vN vG vU vR vNd vGd vUd vRd vH vHV vQF vQV vB vBw vM vnow vdraft vspare vearlier vslots visKept vbuffer vout vO) (h6 : 6 * it + 6 ≤ L) (hL : L ≤ 3072) : ∃ r, C_31 xs L (nI (6 * it)) vX vN vU vM vnow = some r ∧ r.1 = 1 ∧ InvP (it + 1) vX vP vN vG vU vR vNd vGd vUd vRd vH vHV vQF vQV vB vBw r.2 vnow vdraft vspare vearlier vslots visKept vbuffer vout vO := by
  have hT : it + 1 ≤ 600 := by omega
  have hI0 := hI
  obtain ⟨D, l, n, o, m8, m9, hh, hs, bo, wo, eo⟩ := hI0
  obtain ⟨r, e, r1, hM⟩ := an_pla (a_31 (vX := vX) (vM := vM) m8 m9 o.1)
  refine ⟨r, ?_, r1, inv_M hI hT hM⟩
  unfold C_31
  exact e
theorem s_32 {xs : Nat → Int32} {L it : Nat} {vX : Nat → Int32} {vP : Nat → Int32} {vN : Nat → Int32} {vG : Nat → Nat → Int32} {vU : Nat → Nat → Int32} {vR : Nat → Nat → Int32} {vNd : Nat → Int32} {vGd : Nat → Nat → Int32} {vUd : Nat → Nat → Int32} {vRd : Nat → Nat → Int32} {vH : Nat → Int32} {vHV : Nat → NV} {vQF : Nat → Int32} {vQV : Nat → NV} {vB : Nat → Nat → Int32} {vBw : Nat → Nat → Int32} {vM : (Nat → Int32) × Int64} {vnow : Nat → Int32} {vdraft : Nat → Int32} {vspare : Nat → Int32} {vearlier : Nat → Int32} {vslots : Nat → Int32} {visKept : Nat → Int32} {vbuffer : Nat → Int32} {vout : Nat → Int32} {vO : Nat → Int64} (hI : InvP it vX vP vN vG vU vR vNd vGd vUd vRd vH vHV vQF vQV vB vBw vM vnow vdraft vspare vearlier vslots visKept vbuffer vout vO) (h6 : 6 * it + 6 ≤ L) (hL : L ≤ 3072) : ∃ r, C_32 xs L (nI (6 * it)) vX vN vU vM vnow = some r ∧ r.1 = 1 ∧ InvP (it + 1) vX vP vN vG vU vR vNd vGd vUd vRd vH vHV vQF vQV vB vBw r.2 vnow vdraft vspare vearlier vslots visKept vbuffer vout vO := by
  have hT : it + 1 ≤ 600 := by omega
  have hI0 := hI
  obtain ⟨D, l, n, o, m8, m9, hh, hs, bo, wo, eo⟩ := hI0
  obtain ⟨r, e, r1, hM⟩ := an_pla (a_32 (vX := vX) (vM := vM) m8 m9 o.1)
  refine ⟨r, ?_, r1, inv_M hI hT hM⟩
  unfold C_32
  exact e
theorem s_33 {xs : Nat → Int32} {L it : Nat} {vX : Nat → Int32} {vP : Nat → Int32} {vN : Nat → Int32} {vG : Nat → Nat → Int32} {vU : Nat → Nat → Int32} {vR : Nat → Nat → Int32} {vNd : Nat → Int32} {vGd : Nat → Nat → Int32} {vUd : Nat → Nat → Int32} {vRd : Nat → Nat → Int32} {vH : Nat → Int32} {vHV : Nat → NV} {vQF : Nat → Int32} {vQV : Nat → NV} {vB : Nat → Nat → Int32} {vBw : Nat → Nat → Int32} {vM : (Nat → Int32) × Int64} {vnow : Nat → Int32} {vdraft : Nat → Int32} {vspare : Nat → Int32} {vearlier : Nat → Int32} {vslots : Nat → Int32} {visKept : Nat → Int32} {vbuffer : Nat → Int32} {vout : Nat → Int32} {vO : Nat → Int64} (hI : InvP it vX vP vN vG vU vR vNd vGd vUd vRd vH vHV vQF vQV vB vBw vM vnow vdraft vspare vearlier vslots visKept vbuffer vout vO) (h6 : 6 * it + 6 ≤ L) (hL : L ≤ 3072) : ∃ r, C_33 xs L (nI (6 * it)) vX vN vR vM vnow = some r ∧ r.1 = 1 ∧ InvP (it + 1) vX vP vN vG vU vR vNd vGd vUd vRd vH vHV vQF vQV vB vBw r.2 vnow vdraft vspare vearlier vslots visKept vbuffer vout vO := by
  have hT : it + 1 ≤ 600 := by omega
  have hI0 := hI
  obtain ⟨D, l, n, o, m8, m9, hh, hs, bo, wo, eo⟩ := hI0
  obtain ⟨r, e, r1, hM⟩ := an_pla (a_33 (vX := vX) (vM := vM) m8 m9 o.1)
  refine ⟨r, ?_, r1, inv_M hI hT hM⟩
  unfold C_33
  exact e
theorem s_3 {xs : Nat → Int32} {L it : Nat} {vX : Nat → Int32} {vP : Nat → Int32} {vN : Nat → Int32} {vG : Nat → Nat → Int32} {vU : Nat → Nat → Int32} {vR : Nat → Nat → Int32} {vNd : Nat → Int32} {vGd : Nat → Nat → Int32} {vUd : Nat → Nat → Int32} {vRd : Nat → Nat → Int32} {vH : Nat → Int32} {vHV : Nat → NV} {vQF : Nat → Int32} {vQV : Nat → NV} {vB : Nat → Nat → Int32} {vBw : Nat → Nat → Int32} {vM : (Nat → Int32) × Int64} {vnow : Nat → Int32} {vdraft : Nat → Int32} {vspare : Nat → Int32} {vearlier : Nat → Int32} {vslots : Nat → Int32} {visKept : Nat → Int32} {vbuffer : Nat → Int32} {vout : Nat → Int32} {vO : Nat → Int64} (hI : InvP it vX vP vN vG vU vR vNd vGd vUd vRd vH vHV vQF vQV vB vBw vM vnow vdraft vspare vearlier vslots visKept vbuffer vout vO) (h6 : 6 * it + 6 ≤ L) (hL : L ≤ 3072) : ∃ r, C_3 xs L (nI (6 * it)) vX vM = some r ∧ r.1 = 1 ∧ InvP (it + 1) vX vP vN vG vU vR vNd vGd vUd vRd vH vHV vQF vQV vB vBw r.2 vnow vdraft vspare vearlier vslots visKept vbuffer vout vO := by
  have hT : it + 1 ≤ 600 := by omega
  have hI0 := hI
  obtain ⟨D, l, n, o, m8, m9, hh, hs, bo, wo, eo⟩ := hI0
  obtain ⟨r, e, r1, hM⟩ := an_pla (a_3 eo)
  refine ⟨r, ?_, r1, inv_M hI hT hM⟩
  unfold C_3
  exact e
theorem s_14 {xs : Nat → Int32} {L it : Nat} {vX : Nat → Int32} {vP : Nat → Int32} {vN : Nat → Int32} {vG : Nat → Nat → Int32} {vU : Nat → Nat → Int32} {vR : Nat → Nat → Int32} {vNd : Nat → Int32} {vGd : Nat → Nat → Int32} {vUd : Nat → Nat → Int32} {vRd : Nat → Nat → Int32} {vH : Nat → Int32} {vHV : Nat → NV} {vQF : Nat → Int32} {vQV : Nat → NV} {vB : Nat → Nat → Int32} {vBw : Nat → Nat → Int32} {vM : (Nat → Int32) × Int64} {vnow : Nat → Int32} {vdraft : Nat → Int32} {vspare : Nat → Int32} {vearlier : Nat → Int32} {vslots : Nat → Int32} {visKept : Nat → Int32} {vbuffer : Nat → Int32} {vout : Nat → Int32} {vO : Nat → Int64} (hI : InvP it vX vP vN vG vU vR vNd vGd vUd vRd vH vHV vQF vQV vB vBw vM vnow vdraft vspare vearlier vslots visKept vbuffer vout vO) (h6 : 6 * it + 6 ≤ L) (hL : L ≤ 3072) : ∃ r, C_14 xs L (nI (6 * it)) vX vN vG vM vnow vO = some r ∧ r.1 = 1 ∧ InvP (it + 1) vX vP vN vG vU vR vNd vGd vUd vRd vH vHV vQF vQV vB vBw r.2.1 vnow vdraft vspare vearlier vslots visKept vbuffer vout r.2.2 := by
  have hT : it + 1 ≤ 600 := by omega
  have hI0 := hI
  obtain ⟨D, l, n, o, m8, m9, hh, hs, bo, wo, eo⟩ := hI0
  obtain ⟨r, e, r1, hM⟩ := an_int (a_14 (vX := vX) (vM := vM) (vO := vO) m8 m9 o.1 (xs (Int32.toNatClampNeg (nI (6 * it) + 1))))
  refine ⟨r, ?_, r1, inv_M hI hT hM⟩
  simp only [C_14, ckx1 h6 hL, ckx2 h6 hL, ckx3 h6 hL, ckx4 h6 hL, ckx5 h6 hL]
  exact e
theorem s_17 {xs : Nat → Int32} {L it : Nat} {vX : Nat → Int32} {vP : Nat → Int32} {vN : Nat → Int32} {vG : Nat → Nat → Int32} {vU : Nat → Nat → Int32} {vR : Nat → Nat → Int32} {vNd : Nat → Int32} {vGd : Nat → Nat → Int32} {vUd : Nat → Nat → Int32} {vRd : Nat → Nat → Int32} {vH : Nat → Int32} {vHV : Nat → NV} {vQF : Nat → Int32} {vQV : Nat → NV} {vB : Nat → Nat → Int32} {vBw : Nat → Nat → Int32} {vM : (Nat → Int32) × Int64} {vnow : Nat → Int32} {vdraft : Nat → Int32} {vspare : Nat → Int32} {vearlier : Nat → Int32} {vslots : Nat → Int32} {visKept : Nat → Int32} {vbuffer : Nat → Int32} {vout : Nat → Int32} {vO : Nat → Int64} (hI : InvP it vX vP vN vG vU vR vNd vGd vUd vRd vH vHV vQF vQV vB vBw vM vnow vdraft vspare vearlier vslots visKept vbuffer vout vO) (h6 : 6 * it + 6 ≤ L) (hL : L ≤ 3072) : ∃ r, C_17 xs L (nI (6 * it)) vX vN vG vM vnow vO = some r ∧ r.1 = 1 ∧ InvP (it + 1) vX vP vN vG vU vR vNd vGd vUd vRd vH vHV vQF vQV vB vBw r.2.1 vnow vdraft vspare vearlier vslots visKept vbuffer vout r.2.2 := by
  have hT : it + 1 ≤ 600 := by omega
  have hI0 := hI
  obtain ⟨D, l, n, o, m8, m9, hh, hs, bo, wo, eo⟩ := hI0
  obtain ⟨r, e, r1, hM⟩ := an_int (a_17 (vX := vX) (vM := vM) (vO := vO) m8 m9 o.1 (xs (Int32.toNatClampNeg (nI (6 * it) + 1))))
  refine ⟨r, ?_, r1, inv_M hI hT hM⟩
  simp only [C_17, ckx1 h6 hL, ckx2 h6 hL, ckx3 h6 hL, ckx4 h6 hL, ckx5 h6 hL]
  exact e
theorem s_18 {xs : Nat → Int32} {L it : Nat} {vX : Nat → Int32} {vP : Nat → Int32} {vN : Nat → Int32} {vG : Nat → Nat → Int32} {vU : Nat → Nat → Int32} {vR : Nat → Nat → Int32} {vNd : Nat → Int32} {vGd : Nat → Nat → Int32} {vUd : Nat → Nat → Int32} {vRd : Nat → Nat → Int32} {vH : Nat → Int32} {vHV : Nat → NV} {vQF : Nat → Int32} {vQV : Nat → NV} {vB : Nat → Nat → Int32} {vBw : Nat → Nat → Int32} {vM : (Nat → Int32) × Int64} {vnow : Nat → Int32} {vdraft : Nat → Int32} {vspare : Nat → Int32} {vearlier : Nat → Int32} {vslots : Nat → Int32} {visKept : Nat → Int32} {vbuffer : Nat → Int32} {vout : Nat → Int32} {vO : Nat → Int64} (hI : InvP it vX vP vN vG vU vR vNd vGd vUd vRd vH vHV vQF vQV vB vBw vM vnow vdraft vspare vearlier vslots visKept vbuffer vout vO) (h6 : 6 * it + 6 ≤ L) (hL : L ≤ 3072) : ∃ r, C_18 xs L (nI (6 * it)) vX vN vG vM vnow vO = some r ∧ r.1 = 1 ∧ InvP (it + 1) vX vP vN vG vU vR vNd vGd vUd vRd vH vHV vQF vQV vB vBw r.2.1 vnow vdraft vspare vearlier vslots visKept vbuffer vout r.2.2 := by
  have hT : it + 1 ≤ 600 := by omega
  have hI0 := hI
  obtain ⟨D, l, n, o, m8, m9, hh, hs, bo, wo, eo⟩ := hI0
  obtain ⟨r, e, r1, hM⟩ := an_int (a_18 (vX := vX) (vM := vM) (vO := vO) m8 m9 o.1 (xs (Int32.toNatClampNeg (nI (6 * it) + 1))))
  refine ⟨r, ?_, r1, inv_M hI hT hM⟩
  simp only [C_18, ckx1 h6 hL, ckx2 h6 hL, ckx3 h6 hL, ckx4 h6 hL, ckx5 h6 hL]
  exact e
theorem s_20 {xs : Nat → Int32} {L it : Nat} {vX : Nat → Int32} {vP : Nat → Int32} {vN : Nat → Int32} {vG : Nat → Nat → Int32} {vU : Nat → Nat → Int32} {vR : Nat → Nat → Int32} {vNd : Nat → Int32} {vGd : Nat → Nat → Int32} {vUd : Nat → Nat → Int32} {vRd : Nat → Nat → Int32} {vH : Nat → Int32} {vHV : Nat → NV} {vQF : Nat → Int32} {vQV : Nat → NV} {vB : Nat → Nat → Int32} {vBw : Nat → Nat → Int32} {vM : (Nat → Int32) × Int64} {vnow : Nat → Int32} {vdraft : Nat → Int32} {vspare : Nat → Int32} {vearlier : Nat → Int32} {vslots : Nat → Int32} {visKept : Nat → Int32} {vbuffer : Nat → Int32} {vout : Nat → Int32} {vO : Nat → Int64} (hI : InvP it vX vP vN vG vU vR vNd vGd vUd vRd vH vHV vQF vQV vB vBw vM vnow vdraft vspare vearlier vslots visKept vbuffer vout vO) (h6 : 6 * it + 6 ≤ L) (hL : L ≤ 3072) : ∃ r, C_20 xs L (nI (6 * it)) vX vN vG vM vnow vO = some r ∧ r.1 = 1 ∧ InvP (it + 1) vX vP vN vG vU vR vNd vGd vUd vRd vH vHV vQF vQV vB vBw r.2.1 vnow vdraft vspare vearlier vslots visKept vbuffer vout r.2.2 := by
  have hT : it + 1 ≤ 600 := by omega
  have hI0 := hI
  obtain ⟨D, l, n, o, m8, m9, hh, hs, bo, wo, eo⟩ := hI0
  obtain ⟨r, e, r1, hM⟩ := an_int (a_20 (vX := vX) (vM := vM) (vO := vO) m8 m9 o.1 (xs (Int32.toNatClampNeg (nI (6 * it) + 1))))
  refine ⟨r, ?_, r1, inv_M hI hT hM⟩
  simp only [C_20, ckx1 h6 hL, ckx2 h6 hL, ckx3 h6 hL, ckx4 h6 hL, ckx5 h6 hL]
  exact e
theorem s_21 {xs : Nat → Int32} {L it : Nat} {vX : Nat → Int32} {vP : Nat → Int32} {vN : Nat → Int32} {vG : Nat → Nat → Int32} {vU : Nat → Nat → Int32} {vR : Nat → Nat → Int32} {vNd : Nat → Int32} {vGd : Nat → Nat → Int32} {vUd : Nat → Nat → Int32} {vRd : Nat → Nat → Int32} {vH : Nat → Int32} {vHV : Nat → NV} {vQF : Nat → Int32} {vQV : Nat → NV} {vB : Nat → Nat → Int32} {vBw : Nat → Nat → Int32} {vM : (Nat → Int32) × Int64} {vnow : Nat → Int32} {vdraft : Nat → Int32} {vspare : Nat → Int32} {vearlier : Nat → Int32} {vslots : Nat → Int32} {visKept : Nat → Int32} {vbuffer : Nat → Int32} {vout : Nat → Int32} {vO : Nat → Int64} (hI : InvP it vX vP vN vG vU vR vNd vGd vUd vRd vH vHV vQF vQV vB vBw vM vnow vdraft vspare vearlier vslots visKept vbuffer vout vO) (h6 : 6 * it + 6 ≤ L) (hL : L ≤ 3072) : ∃ r, C_21 xs L (nI (6 * it)) vX vN vG vM vnow vO = some r ∧ r.1 = 1 ∧ InvP (it + 1) vX vP vN vG vU vR vNd vGd vUd vRd vH vHV vQF vQV vB vBw r.2.1 vnow vdraft vspare vearlier vslots visKept vbuffer vout r.2.2 := by
  have hT : it + 1 ≤ 600 := by omega
  have hI0 := hI
  obtain ⟨D, l, n, o, m8, m9, hh, hs, bo, wo, eo⟩ := hI0
  obtain ⟨r, e, r1, hM⟩ := an_int (a_21 (vX := vX) (vM := vM) (vO := vO) m8 m9 o.1 (xs (Int32.toNatClampNeg (nI (6 * it) + 1))))
  refine ⟨r, ?_, r1, inv_M hI hT hM⟩
  simp only [C_21, ckx1 h6 hL, ckx2 h6 hL, ckx3 h6 hL, ckx4 h6 hL, ckx5 h6 hL]
  exact e
theorem s_25 {xs : Nat → Int32} {L it : Nat} {vX : Nat → Int32} {vP : Nat → Int32} {vN : Nat → Int32} {vG : Nat → Nat → Int32} {vU : Nat → Nat → Int32} {vR : Nat → Nat → Int32} {vNd : Nat → Int32} {vGd : Nat → Nat → Int32} {vUd : Nat → Nat → Int32} {vRd : Nat → Nat → Int32} {vH : Nat → Int32} {vHV : Nat → NV} {vQF : Nat → Int32} {vQV : Nat → NV} {vB : Nat → Nat → Int32} {vBw : Nat → Nat → Int32} {vM : (Nat → Int32) × Int64} {vnow : Nat → Int32} {vdraft : Nat → Int32} {vspare : Nat → Int32} {vearlier : Nat → Int32} {vslots : Nat → Int32} {visKept : Nat → Int32} {vbuffer : Nat → Int32} {vout : Nat → Int32} {vO : Nat → Int64} (hI : InvP it vX vP vN vG vU vR vNd vGd vUd vRd vH vHV vQF vQV vB vBw vM vnow vdraft vspare vearlier vslots visKept vbuffer vout vO) (h6 : 6 * it + 6 ≤ L) (hL : L ≤ 3072) : ∃ r, C_25 xs L (nI (6 * it)) vX vN vU vM vnow vO = some r ∧ r.1 = 1 ∧ InvP (it + 1) vX vP vN vG vU vR vNd vGd vUd vRd vH vHV vQF vQV vB vBw r.2.1 vnow vdraft vspare vearlier vslots visKept vbuffer vout r.2.2 := by
  have hT : it + 1 ≤ 600 := by omega
  have hI0 := hI
  obtain ⟨D, l, n, o, m8, m9, hh, hs, bo, wo, eo⟩ := hI0
  obtain ⟨r, e, r1, hM⟩ := an_int (a_25 (vX := vX) (vM := vM) (vO := vO) m8 m9 o.1 (xs (Int32.toNatClampNeg (nI (6 * it) + 1))))
  refine ⟨r, ?_, r1, inv_M hI hT hM⟩
  simp only [C_25, ckx1 h6 hL, ckx2 h6 hL, ckx3 h6 hL, ckx4 h6 hL, ckx5 h6 hL]
  exact e
theorem s_26 {xs : Nat → Int32} {L it : Nat} {vX : Nat → Int32} {vP : Nat → Int32} {vN : Nat → Int32} {vG : Nat → Nat → Int32} {vU : Nat → Nat → Int32} {vR : Nat → Nat → Int32} {vNd : Nat → Int32} {vGd : Nat → Nat → Int32} {vUd : Nat → Nat → Int32} {vRd : Nat → Nat → Int32} {vH : Nat → Int32} {vHV : Nat → NV} {vQF : Nat → Int32} {vQV : Nat → NV} {vB : Nat → Nat → Int32} {vBw : Nat → Nat → Int32} {vM : (Nat → Int32) × Int64} {vnow : Nat → Int32} {vdraft : Nat → Int32} {vspare : Nat → Int32} {vearlier : Nat → Int32} {vslots : Nat → Int32} {visKept : Nat → Int32} {vbuffer : Nat → Int32} {vout : Nat → Int32} {vO : Nat → Int64} (hI : InvP it vX vP vN vG vU vR vNd vGd vUd vRd vH vHV vQF vQV vB vBw vM vnow vdraft vspare vearlier vslots visKept vbuffer vout vO) (h6 : 6 * it + 6 ≤ L) (hL : L ≤ 3072) : ∃ r, C_26 xs L (nI (6 * it)) vX vN vU vM vnow vO = some r ∧ r.1 = 1 ∧ InvP (it + 1) vX vP vN vG vU vR vNd vGd vUd vRd vH vHV vQF vQV vB vBw r.2.1 vnow vdraft vspare vearlier vslots visKept vbuffer vout r.2.2 := by
  have hT : it + 1 ≤ 600 := by omega
  have hI0 := hI
  obtain ⟨D, l, n, o, m8, m9, hh, hs, bo, wo, eo⟩ := hI0
  obtain ⟨r, e, r1, hM⟩ := an_int (a_26 (vX := vX) (vM := vM) (vO := vO) m8 m9 o.1 (xs (Int32.toNatClampNeg (nI (6 * it) + 1))))
  refine ⟨r, ?_, r1, inv_M hI hT hM⟩
  simp only [C_26, ckx1 h6 hL, ckx2 h6 hL, ckx3 h6 hL, ckx4 h6 hL, ckx5 h6 hL]
  exact e
theorem s_29 {xs : Nat → Int32} {L it : Nat} {vX : Nat → Int32} {vP : Nat → Int32} {vN : Nat → Int32} {vG : Nat → Nat → Int32} {vU : Nat → Nat → Int32} {vR : Nat → Nat → Int32} {vNd : Nat → Int32} {vGd : Nat → Nat → Int32} {vUd : Nat → Nat → Int32} {vRd : Nat → Nat → Int32} {vH : Nat → Int32} {vHV : Nat → NV} {vQF : Nat → Int32} {vQV : Nat → NV} {vB : Nat → Nat → Int32} {vBw : Nat → Nat → Int32} {vM : (Nat → Int32) × Int64} {vnow : Nat → Int32} {vdraft : Nat → Int32} {vspare : Nat → Int32} {vearlier : Nat → Int32} {vslots : Nat → Int32} {visKept : Nat → Int32} {vbuffer : Nat → Int32} {vout : Nat → Int32} {vO : Nat → Int64} (hI : InvP it vX vP vN vG vU vR vNd vGd vUd vRd vH vHV vQF vQV vB vBw vM vnow vdraft vspare vearlier vslots visKept vbuffer vout vO) (h6 : 6 * it + 6 ≤ L) (hL : L ≤ 3072) : ∃ r, C_29 xs L (nI (6 * it)) vX vN vU vM vnow vO = some r ∧ r.1 = 1 ∧ InvP (it + 1) vX vP vN vG vU vR vNd vGd vUd vRd vH vHV vQF vQV vB vBw r.2.1 vnow vdraft vspare vearlier vslots visKept vbuffer vout r.2.2 := by
  have hT : it + 1 ≤ 600 := by omega
  have hI0 := hI
  obtain ⟨D, l, n, o, m8, m9, hh, hs, bo, wo, eo⟩ := hI0
  obtain ⟨r, e, r1, hM⟩ := an_int (a_29 (vX := vX) (vM := vM) (vO := vO) m8 m9 o.1 (xs (Int32.toNatClampNeg (nI (6 * it) + 1))))
  refine ⟨r, ?_, r1, inv_M hI hT hM⟩
  simp only [C_29, ckx1 h6 hL, ckx2 h6 hL, ckx3 h6 hL, ckx4 h6 hL, ckx5 h6 hL]
  exact e
theorem s_30 {xs : Nat → Int32} {L it : Nat} {vX : Nat → Int32} {vP : Nat → Int32} {vN : Nat → Int32} {vG : Nat → Nat → Int32} {vU : Nat → Nat → Int32} {vR : Nat → Nat → Int32} {vNd : Nat → Int32} {vGd : Nat → Nat → Int32} {vUd : Nat → Nat → Int32} {vRd : Nat → Nat → Int32} {vH : Nat → Int32} {vHV : Nat → NV} {vQF : Nat → Int32} {vQV : Nat → NV} {vB : Nat → Nat → Int32} {vBw : Nat → Nat → Int32} {vM : (Nat → Int32) × Int64} {vnow : Nat → Int32} {vdraft : Nat → Int32} {vspare : Nat → Int32} {vearlier : Nat → Int32} {vslots : Nat → Int32} {visKept : Nat → Int32} {vbuffer : Nat → Int32} {vout : Nat → Int32} {vO : Nat → Int64} (hI : InvP it vX vP vN vG vU vR vNd vGd vUd vRd vH vHV vQF vQV vB vBw vM vnow vdraft vspare vearlier vslots visKept vbuffer vout vO) (h6 : 6 * it + 6 ≤ L) (hL : L ≤ 3072) : ∃ r, C_30 xs L (nI (6 * it)) vX vN vG vU vM vnow vO = some r ∧ r.1 = 1 ∧ InvP (it + 1) vX vP vN vG vU vR vNd vGd vUd vRd vH vHV vQF vQV vB vBw r.2.1 vnow vdraft vspare vearlier vslots visKept vbuffer vout r.2.2 := by
  have hT : it + 1 ≤ 600 := by omega
  have hI0 := hI
  obtain ⟨D, l, n, o, m8, m9, hh, hs, bo, wo, eo⟩ := hI0
  obtain ⟨r, e, r1, hM⟩ := an_int (a_30 (vX := vX) (vM := vM) (vO := vO) m8 m9 o.1 (xs (Int32.toNatClampNeg (nI (6 * it) + 1))))
  refine ⟨r, ?_, r1, inv_M hI hT hM⟩
  simp only [C_30, ckx1 h6 hL, ckx2 h6 hL, ckx3 h6 hL, ckx4 h6 hL, ckx5 h6 hL]
  exact e
theorem s_34 {xs : Nat → Int32} {L it : Nat} {vX : Nat → Int32} {vP : Nat → Int32} {vN : Nat → Int32} {vG : Nat → Nat → Int32} {vU : Nat → Nat → Int32} {vR : Nat → Nat → Int32} {vNd : Nat → Int32} {vGd : Nat → Nat → Int32} {vUd : Nat → Nat → Int32} {vRd : Nat → Nat → Int32} {vH : Nat → Int32} {vHV : Nat → NV} {vQF : Nat → Int32} {vQV : Nat → NV} {vB : Nat → Nat → Int32} {vBw : Nat → Nat → Int32} {vM : (Nat → Int32) × Int64} {vnow : Nat → Int32} {vdraft : Nat → Int32} {vspare : Nat → Int32} {vearlier : Nat → Int32} {vslots : Nat → Int32} {visKept : Nat → Int32} {vbuffer : Nat → Int32} {vout : Nat → Int32} {vO : Nat → Int64} (hI : InvP it vX vP vN vG vU vR vNd vGd vUd vRd vH vHV vQF vQV vB vBw vM vnow vdraft vspare vearlier vslots visKept vbuffer vout vO) (h6 : 6 * it + 6 ≤ L) (hL : L ≤ 3072) : ∃ r, C_34 xs L (nI (6 * it)) vX vN vR vM vnow vO = some r ∧ r.1 = 1 ∧ InvP (it + 1) vX vP vN vG vU vR vNd vGd vUd vRd vH vHV vQF vQV vB vBw r.2.1 vnow vdraft vspare vearlier vslots visKept vbuffer vout r.2.2 := by
  have hT : it + 1 ≤ 600 := by omega
  have hI0 := hI
  obtain ⟨D, l, n, o, m8, m9, hh, hs, bo, wo, eo⟩ := hI0
  obtain ⟨r, e, r1, hM⟩ := an_int (a_34 (vX := vX) (vM := vM) (vO := vO) m8 m9 o.1 (xs (Int32.toNatClampNeg (nI (6 * it) + 1))))
  refine ⟨r, ?_, r1, inv_M hI hT hM⟩
  simp only [C_34, ckx1 h6 hL, ckx2 h6 hL, ckx3 h6 hL, ckx4 h6 hL, ckx5 h6 hL]
  exact e
theorem s_35 {xs : Nat → Int32} {L it : Nat} {vX : Nat → Int32} {vP : Nat → Int32} {vN : Nat → Int32} {vG : Nat → Nat → Int32} {vU : Nat → Nat → Int32} {vR : Nat → Nat → Int32} {vNd : Nat → Int32} {vGd : Nat → Nat → Int32} {vUd : Nat → Nat → Int32} {vRd : Nat → Nat → Int32} {vH : Nat → Int32} {vHV : Nat → NV} {vQF : Nat → Int32} {vQV : Nat → NV} {vB : Nat → Nat → Int32} {vBw : Nat → Nat → Int32} {vM : (Nat → Int32) × Int64} {vnow : Nat → Int32} {vdraft : Nat → Int32} {vspare : Nat → Int32} {vearlier : Nat → Int32} {vslots : Nat → Int32} {visKept : Nat → Int32} {vbuffer : Nat → Int32} {vout : Nat → Int32} {vO : Nat → Int64} (hI : InvP it vX vP vN vG vU vR vNd vGd vUd vRd vH vHV vQF vQV vB vBw vM vnow vdraft vspare vearlier vslots visKept vbuffer vout vO) (h6 : 6 * it + 6 ≤ L) (hL : L ≤ 3072) : ∃ r, C_35 xs L (nI (6 * it)) vX vN vR vM vnow vO = some r ∧ r.1 = 1 ∧ InvP (it + 1) vX vP vN vG vU vR vNd vGd vUd vRd vH vHV vQF vQV vB vBw r.2.1 vnow vdraft vspare vearlier vslots visKept vbuffer vout r.2.2 := by
  have hT : it + 1 ≤ 600 := by omega
  have hI0 := hI
  obtain ⟨D, l, n, o, m8, m9, hh, hs, bo, wo, eo⟩ := hI0
  obtain ⟨r, e, r1, hM⟩ := an_int (a_35 (vX := vX) (vM := vM) (vO := vO) m8 m9 o.1 (xs (Int32.toNatClampNeg (nI (6 * it) + 1))))
  refine ⟨r, ?_, r1, inv_M hI hT hM⟩
  simp only [C_35, ckx1 h6 hL, ckx2 h6 hL, ckx3 h6 hL, ckx4 h6 hL, ckx5 h6 hL]
  exact e
theorem s_45 {xs : Nat → Int32} {L it : Nat} {vX : Nat → Int32} {vP : Nat → Int32} {vN : Nat → Int32} {vG : Nat → Nat → Int32} {vU : Nat → Nat → Int32} {vR : Nat → Nat → Int32} {vNd : Nat → Int32} {vGd : Nat → Nat → Int32} {vUd : Nat → Nat → Int32} {vRd : Nat → Nat → Int32} {vH : Nat → Int32} {vHV : Nat → NV} {vQF : Nat → Int32} {vQV : Nat → NV} {vB : Nat → Nat → Int32} {vBw : Nat → Nat → Int32} {vM : (Nat → Int32) × Int64} {vnow : Nat → Int32} {vdraft : Nat → Int32} {vspare : Nat → Int32} {vearlier : Nat → Int32} {vslots : Nat → Int32} {visKept : Nat → Int32} {vbuffer : Nat → Int32} {vout : Nat → Int32} {vO : Nat → Int64} (hI : InvP it vX vP vN vG vU vR vNd vGd vUd vRd vH vHV vQF vQV vB vBw vM vnow vdraft vspare vearlier vslots visKept vbuffer vout vO) (h6 : 6 * it + 6 ≤ L) (hL : L ≤ 3072) : ∃ r, C_45 xs L (nI (6 * it)) vX vN vG vU vM vnow vO = some r ∧ r.1 = 1 ∧ InvP (it + 1) vX vP vN vG vU vR vNd vGd vUd vRd vH vHV vQF vQV vB vBw r.2.1 vnow vdraft vspare vearlier vslots visKept vbuffer vout r.2.2 := by
  have hT : it + 1 ≤ 600 := by omega
  have hI0 := hI
  obtain ⟨D, l, n, o, m8, m9, hh, hs, bo, wo, eo⟩ := hI0
  obtain ⟨r, e, r1, hM⟩ := an_int (a_45 (vX := vX) (vM := vM) (vO := vO) m8 m9 o.1 (xs (Int32.toNatClampNeg (nI (6 * it) + 1))))
  refine ⟨r, ?_, r1, inv_M hI hT hM⟩
  simp only [C_45, ckx1 h6 hL, ckx2 h6 hL, ckx3 h6 hL, ckx4 h6 hL, ckx5 h6 hL]
  exact e
theorem s_46 {xs : Nat → Int32} {L it : Nat} {vX : Nat → Int32} {vP : Nat → Int32} {vN : Nat → Int32} {vG : Nat → Nat → Int32} {vU : Nat → Nat → Int32} {vR : Nat → Nat → Int32} {vNd : Nat → Int32} {vGd : Nat → Nat → Int32} {vUd : Nat → Nat → Int32} {vRd : Nat → Nat → Int32} {vH : Nat → Int32} {vHV : Nat → NV} {vQF : Nat → Int32} {vQV : Nat → NV} {vB : Nat → Nat → Int32} {vBw : Nat → Nat → Int32} {vM : (Nat → Int32) × Int64} {vnow : Nat → Int32} {vdraft : Nat → Int32} {vspare : Nat → Int32} {vearlier : Nat → Int32} {vslots : Nat → Int32} {visKept : Nat → Int32} {vbuffer : Nat → Int32} {vout : Nat → Int32} {vO : Nat → Int64} (hI : InvP it vX vP vN vG vU vR vNd vGd vUd vRd vH vHV vQF vQV vB vBw vM vnow vdraft vspare vearlier vslots visKept vbuffer vout vO) (h6 : 6 * it + 6 ≤ L) (hL : L ≤ 3072) : ∃ r, C_46 xs L (nI (6 * it)) vX vN vG vR vM vnow vO = some r ∧ r.1 = 1 ∧ InvP (it + 1) vX vP vN vG vU vR vNd vGd vUd vRd vH vHV vQF vQV vB vBw r.2.1 vnow vdraft vspare vearlier vslots visKept vbuffer vout r.2.2 := by
  have hT : it + 1 ≤ 600 := by omega
  have hI0 := hI
  obtain ⟨D, l, n, o, m8, m9, hh, hs, bo, wo, eo⟩ := hI0
  obtain ⟨r, e, r1, hM⟩ := an_int (a_46 (vX := vX) (vM := vM) (vO := vO) m8 m9 o.1 (xs (Int32.toNatClampNeg (nI (6 * it) + 1))))
  refine ⟨r, ?_, r1, inv_M hI hT hM⟩
  simp only [C_46, ckx1 h6 hL, ckx2 h6 hL, ckx3 h6 hL, ckx4 h6 hL, ckx5 h6 hL]
  exact e
theorem s_15 {xs : Nat → Int32} {L it : Nat} {vX : Nat → Int32} {vP : Nat → Int32} {vN : Nat → Int32} {vG : Nat → Nat → Int32} {vU : Nat → Nat → Int32} {vR : Nat → Nat → Int32} {vNd : Nat → Int32} {vGd : Nat → Nat → Int32} {vUd : Nat → Nat → Int32} {vRd : Nat → Nat → Int32} {vH : Nat → Int32} {vHV : Nat → NV} {vQF : Nat → Int32} {vQV : Nat → NV} {vB : Nat → Nat → Int32} {vBw : Nat → Nat → Int32} {vM : (Nat → Int32) × Int64} {vnow : Nat → Int32} {vdraft : Nat → Int32} {vspare : Nat → Int32} {vearlier : Nat → Int32} {vslots : Nat → Int32} {visKept : Nat → Int32} {vbuffer : Nat → Int32} {vout : Nat → Int32} {vO : Nat → Int64} (hI : InvP it vX vP vN vG vU vR vNd vGd vUd vRd vH vHV vQF vQV vB vBw vM vnow vdraft vspare vearlier vslots visKept vbuffer vout vO) (h6 : 6 * it + 6 ≤ L) (hL : L ≤ 3072) : ∃ r, C_15 xs L (nI (6 * it)) vX vN vG vM vnow vO = some r ∧ r.1 = 1 ∧ InvP (it + 1) vX vP vN vG vU vR vNd vGd vUd vRd vH vHV vQF vQV vB vBw r.2.1 vnow vdraft vspare vearlier vslots visKept vbuffer vout r.2.2 := by
  have hT : it + 1 ≤ 600 := by omega
  have hI0 := hI
  obtain ⟨D, l, n, o, m8, m9, hh, hs, bo, wo, eo⟩ := hI0
  obtain ⟨r, e, r1, hM⟩ := an_int (a_15 (vX := vX) (vM := vM) (vO := vO) m8 m9 o.1 (xs (Int32.toNatClampNeg (nI (6 * it) + 1))) (xs (Int32.toNatClampNeg (nI (6 * it) + 2))))
  refine ⟨r, ?_, r1, inv_M hI hT hM⟩
  simp only [C_15, ckx1 h6 hL, ckx2 h6 hL, ckx3 h6 hL, ckx4 h6 hL, ckx5 h6 hL]
  exact e
theorem s_16 {xs : Nat → Int32} {L it : Nat} {vX : Nat → Int32} {vP : Nat → Int32} {vN : Nat → Int32} {vG : Nat → Nat → Int32} {vU : Nat → Nat → Int32} {vR : Nat → Nat → Int32} {vNd : Nat → Int32} {vGd : Nat → Nat → Int32} {vUd : Nat → Nat → Int32} {vRd : Nat → Nat → Int32} {vH : Nat → Int32} {vHV : Nat → NV} {vQF : Nat → Int32} {vQV : Nat → NV} {vB : Nat → Nat → Int32} {vBw : Nat → Nat → Int32} {vM : (Nat → Int32) × Int64} {vnow : Nat → Int32} {vdraft : Nat → Int32} {vspare : Nat → Int32} {vearlier : Nat → Int32} {vslots : Nat → Int32} {visKept : Nat → Int32} {vbuffer : Nat → Int32} {vout : Nat → Int32} {vO : Nat → Int64} (hI : InvP it vX vP vN vG vU vR vNd vGd vUd vRd vH vHV vQF vQV vB vBw vM vnow vdraft vspare vearlier vslots visKept vbuffer vout vO) (h6 : 6 * it + 6 ≤ L) (hL : L ≤ 3072) : ∃ r, C_16 xs L (nI (6 * it)) vX vN vG vB vM vnow vbuffer vO = some r ∧ r.1 = 1 ∧ InvP (it + 1) vX vP vN vG vU vR vNd vGd vUd vRd vH vHV vQF vQV vB vBw r.2.1 vnow vdraft vspare vearlier vslots visKept vbuffer vout r.2.2 := by
  have hT : it + 1 ≤ 600 := by omega
  have hI0 := hI
  obtain ⟨D, l, n, o, m8, m9, hh, hs, bo, wo, eo⟩ := hI0
  obtain ⟨r, e, r1, hM⟩ := an_int (a_16 (vX := vX) (vM := vM) (vO := vO) m8 m9 o.1 bo)
  refine ⟨r, ?_, r1, inv_M hI hT hM⟩
  simp only [C_16, ckx1 h6 hL, ckx2 h6 hL, ckx3 h6 hL, ckx4 h6 hL, ckx5 h6 hL]
  exact e
theorem s_19 {xs : Nat → Int32} {L it : Nat} {vX : Nat → Int32} {vP : Nat → Int32} {vN : Nat → Int32} {vG : Nat → Nat → Int32} {vU : Nat → Nat → Int32} {vR : Nat → Nat → Int32} {vNd : Nat → Int32} {vGd : Nat → Nat → Int32} {vUd : Nat → Nat → Int32} {vRd : Nat → Nat → Int32} {vH : Nat → Int32} {vHV : Nat → NV} {vQF : Nat → Int32} {vQV : Nat → NV} {vB : Nat → Nat → Int32} {vBw : Nat → Nat → Int32} {vM : (Nat → Int32) × Int64} {vnow : Nat → Int32} {vdraft : Nat → Int32} {vspare : Nat → Int32} {vearlier : Nat → Int32} {vslots : Nat → Int32} {visKept : Nat → Int32} {vbuffer : Nat → Int32} {vout : Nat → Int32} {vO : Nat → Int64} (hI : InvP it vX vP vN vG vU vR vNd vGd vUd vRd vH vHV vQF vQV vB vBw vM vnow vdraft vspare vearlier vslots visKept vbuffer vout vO) (h6 : 6 * it + 6 ≤ L) (hL : L ≤ 3072) : ∃ r, C_19 xs L (nI (6 * it)) vX vN vG vM vnow vO = some r ∧ r.1 = 1 ∧ InvP (it + 1) vX vP vN vG vU vR vNd vGd vUd vRd vH vHV vQF vQV vB vBw r.2.1 vnow vdraft vspare vearlier vslots visKept vbuffer vout r.2.2 := by
  have hT : it + 1 ≤ 600 := by omega
  have hI0 := hI
  obtain ⟨D, l, n, o, m8, m9, hh, hs, bo, wo, eo⟩ := hI0
  obtain ⟨r, e, r1, hM⟩ := an_boo (a_19 (vX := vX) (vM := vM) (vO := vO) m8 m9 o.1 (xs (Int32.toNatClampNeg (nI (6 * it) + 1))))
  refine ⟨r, ?_, r1, inv_M hI hT hM⟩
  simp only [C_19, ckx1 h6 hL, ckx2 h6 hL, ckx3 h6 hL, ckx4 h6 hL, ckx5 h6 hL]
  exact e
theorem s_23 {xs : Nat → Int32} {L it : Nat} {vX : Nat → Int32} {vP : Nat → Int32} {vN : Nat → Int32} {vG : Nat → Nat → Int32} {vU : Nat → Nat → Int32} {vR : Nat → Nat → Int32} {vNd : Nat → Int32} {vGd : Nat → Nat → Int32} {vUd : Nat → Nat → Int32} {vRd : Nat → Nat → Int32} {vH : Nat → Int32} {vHV : Nat → NV} {vQF : Nat → Int32} {vQV : Nat → NV} {vB : Nat → Nat → Int32} {vBw : Nat → Nat → Int32} {vM : (Nat → Int32) × Int64} {vnow : Nat → Int32} {vdraft : Nat → Int32} {vspare : Nat → Int32} {vearlier : Nat → Int32} {vslots : Nat → Int32} {visKept : Nat → Int32} {vbuffer : Nat → Int32} {vout : Nat → Int32} {vO : Nat → Int64} (hI : InvP it vX vP vN vG vU vR vNd vGd vUd vRd vH vHV vQF vQV vB vBw vM vnow vdraft vspare vearlier vslots visKept vbuffer vout vO) (h6 : 6 * it + 6 ≤ L) (hL : L ≤ 3072) : ∃ r, C_23 xs L (nI (6 * it)) vX vN vG vM vnow vO = some r ∧ r.1 = 1 ∧ InvP (it + 1) vX vP vN vG vU vR vNd vGd vUd vRd vH vHV vQF vQV vB vBw r.2.1 vnow vdraft vspare vearlier vslots visKept vbuffer vout r.2.2 := by
  have hT : it + 1 ≤ 600 := by omega
  have hI0 := hI
  obtain ⟨D, l, n, o, m8, m9, hh, hs, bo, wo, eo⟩ := hI0
  obtain ⟨r, e, r1, hM⟩ := an_boo (a_23 (vX := vX) (vM := vM) (vO := vO) m8 m9 o.1 (xs (Int32.toNatClampNeg (nI (6 * it) + 1))))
  refine ⟨r, ?_, r1, inv_M hI hT hM⟩
  simp only [C_23, ckx1 h6 hL, ckx2 h6 hL, ckx3 h6 hL, ckx4 h6 hL, ckx5 h6 hL]
  exact e
theorem s_27 {xs : Nat → Int32} {L it : Nat} {vX : Nat → Int32} {vP : Nat → Int32} {vN : Nat → Int32} {vG : Nat → Nat → Int32} {vU : Nat → Nat → Int32} {vR : Nat → Nat → Int32} {vNd : Nat → Int32} {vGd : Nat → Nat → Int32} {vUd : Nat → Nat → Int32} {vRd : Nat → Nat → Int32} {vH : Nat → Int32} {vHV : Nat → NV} {vQF : Nat → Int32} {vQV : Nat → NV} {vB : Nat → Nat → Int32} {vBw : Nat → Nat → Int32} {vM : (Nat → Int32) × Int64} {vnow : Nat → Int32} {vdraft : Nat → Int32} {vspare : Nat → Int32} {vearlier : Nat → Int32} {vslots : Nat → Int32} {visKept : Nat → Int32} {vbuffer : Nat → Int32} {vout : Nat → Int32} {vO : Nat → Int64} (hI : InvP it vX vP vN vG vU vR vNd vGd vUd vRd vH vHV vQF vQV vB vBw vM vnow vdraft vspare vearlier vslots visKept vbuffer vout vO) (h6 : 6 * it + 6 ≤ L) (hL : L ≤ 3072) : ∃ r, C_27 xs L (nI (6 * it)) vX vN vU vM vnow vO = some r ∧ r.1 = 1 ∧ InvP (it + 1) vX vP vN vG vU vR vNd vGd vUd vRd vH vHV vQF vQV vB vBw r.2.1 vnow vdraft vspare vearlier vslots visKept vbuffer vout r.2.2 := by
  have hT : it + 1 ≤ 600 := by omega
  have hI0 := hI
  obtain ⟨D, l, n, o, m8, m9, hh, hs, bo, wo, eo⟩ := hI0
  obtain ⟨r, e, r1, hM⟩ := an_boo (a_27 (vX := vX) (vM := vM) (vO := vO) m8 m9 o.1 (xs (Int32.toNatClampNeg (nI (6 * it) + 1))))
  refine ⟨r, ?_, r1, inv_M hI hT hM⟩
  simp only [C_27, ckx1 h6 hL, ckx2 h6 hL, ckx3 h6 hL, ckx4 h6 hL, ckx5 h6 hL]
  exact e
theorem s_28 {xs : Nat → Int32} {L it : Nat} {vX : Nat → Int32} {vP : Nat → Int32} {vN : Nat → Int32} {vG : Nat → Nat → Int32} {vU : Nat → Nat → Int32} {vR : Nat → Nat → Int32} {vNd : Nat → Int32} {vGd : Nat → Nat → Int32} {vUd : Nat → Nat → Int32} {vRd : Nat → Nat → Int32} {vH : Nat → Int32} {vHV : Nat → NV} {vQF : Nat → Int32} {vQV : Nat → NV} {vB : Nat → Nat → Int32} {vBw : Nat → Nat → Int32} {vM : (Nat → Int32) × Int64} {vnow : Nat → Int32} {vdraft : Nat → Int32} {vspare : Nat → Int32} {vearlier : Nat → Int32} {vslots : Nat → Int32} {visKept : Nat → Int32} {vbuffer : Nat → Int32} {vout : Nat → Int32} {vO : Nat → Int64} (hI : InvP it vX vP vN vG vU vR vNd vGd vUd vRd vH vHV vQF vQV vB vBw vM vnow vdraft vspare vearlier vslots visKept vbuffer vout vO) (h6 : 6 * it + 6 ≤ L) (hL : L ≤ 3072) : ∃ r, C_28 xs L (nI (6 * it)) vX vN vU vM vnow vO = some r ∧ r.1 = 1 ∧ InvP (it + 1) vX vP vN vG vU vR vNd vGd vUd vRd vH vHV vQF vQV vB vBw r.2.1 vnow vdraft vspare vearlier vslots visKept vbuffer vout r.2.2 := by
  have hT : it + 1 ≤ 600 := by omega
  have hI0 := hI
  obtain ⟨D, l, n, o, m8, m9, hh, hs, bo, wo, eo⟩ := hI0
  obtain ⟨r, e, r1, hM⟩ := an_boo (a_28 (vX := vX) (vM := vM) (vO := vO) m8 m9 o.1 (xs (Int32.toNatClampNeg (nI (6 * it) + 1))))
  refine ⟨r, ?_, r1, inv_M hI hT hM⟩
  simp only [C_28, ckx1 h6 hL, ckx2 h6 hL, ckx3 h6 hL, ckx4 h6 hL, ckx5 h6 hL]
  exact e
theorem s_36 {xs : Nat → Int32} {L it : Nat} {vX : Nat → Int32} {vP : Nat → Int32} {vN : Nat → Int32} {vG : Nat → Nat → Int32} {vU : Nat → Nat → Int32} {vR : Nat → Nat → Int32} {vNd : Nat → Int32} {vGd : Nat → Nat → Int32} {vUd : Nat → Nat → Int32} {vRd : Nat → Nat → Int32} {vH : Nat → Int32} {vHV : Nat → NV} {vQF : Nat → Int32} {vQV : Nat → NV} {vB : Nat → Nat → Int32} {vBw : Nat → Nat → Int32} {vM : (Nat → Int32) × Int64} {vnow : Nat → Int32} {vdraft : Nat → Int32} {vspare : Nat → Int32} {vearlier : Nat → Int32} {vslots : Nat → Int32} {visKept : Nat → Int32} {vbuffer : Nat → Int32} {vout : Nat → Int32} {vO : Nat → Int64} (hI : InvP it vX vP vN vG vU vR vNd vGd vUd vRd vH vHV vQF vQV vB vBw vM vnow vdraft vspare vearlier vslots visKept vbuffer vout vO) (h6 : 6 * it + 6 ≤ L) (hL : L ≤ 3072) : ∃ r, C_36 xs L (nI (6 * it)) vX vN vR vM vnow vO = some r ∧ r.1 = 1 ∧ InvP (it + 1) vX vP vN vG vU vR vNd vGd vUd vRd vH vHV vQF vQV vB vBw r.2.1 vnow vdraft vspare vearlier vslots visKept vbuffer vout r.2.2 := by
  have hT : it + 1 ≤ 600 := by omega
  have hI0 := hI
  obtain ⟨D, l, n, o, m8, m9, hh, hs, bo, wo, eo⟩ := hI0
  obtain ⟨r, e, r1, hM⟩ := an_boo (a_36 (vX := vX) (vM := vM) (vO := vO) m8 m9 o.1 (xs (Int32.toNatClampNeg (nI (6 * it) + 1))))
  refine ⟨r, ?_, r1, inv_M hI hT hM⟩
  simp only [C_36, ckx1 h6 hL, ckx2 h6 hL, ckx3 h6 hL, ckx4 h6 hL, ckx5 h6 hL]
  exact e
theorem s_37 {xs : Nat → Int32} {L it : Nat} {vX : Nat → Int32} {vP : Nat → Int32} {vN : Nat → Int32} {vG : Nat → Nat → Int32} {vU : Nat → Nat → Int32} {vR : Nat → Nat → Int32} {vNd : Nat → Int32} {vGd : Nat → Nat → Int32} {vUd : Nat → Nat → Int32} {vRd : Nat → Nat → Int32} {vH : Nat → Int32} {vHV : Nat → NV} {vQF : Nat → Int32} {vQV : Nat → NV} {vB : Nat → Nat → Int32} {vBw : Nat → Nat → Int32} {vM : (Nat → Int32) × Int64} {vnow : Nat → Int32} {vdraft : Nat → Int32} {vspare : Nat → Int32} {vearlier : Nat → Int32} {vslots : Nat → Int32} {visKept : Nat → Int32} {vbuffer : Nat → Int32} {vout : Nat → Int32} {vO : Nat → Int64} (hI : InvP it vX vP vN vG vU vR vNd vGd vUd vRd vH vHV vQF vQV vB vBw vM vnow vdraft vspare vearlier vslots visKept vbuffer vout vO) (h6 : 6 * it + 6 ≤ L) (hL : L ≤ 3072) : ∃ r, C_37 xs L (nI (6 * it)) vX vN vG vR vM vnow vO = some r ∧ r.1 = 1 ∧ InvP (it + 1) vX vP vN vG vU vR vNd vGd vUd vRd vH vHV vQF vQV vB vBw r.2.1 vnow vdraft vspare vearlier vslots visKept vbuffer vout r.2.2 := by
  have hT : it + 1 ≤ 600 := by omega
  have hI0 := hI
  obtain ⟨D, l, n, o, m8, m9, hh, hs, bo, wo, eo⟩ := hI0
  obtain ⟨r, e, r1, hM⟩ := an_boo (a_37 (vX := vX) (vM := vM) (vO := vO) m8 m9 o.1 o.2.1 (xs (Int32.toNatClampNeg (nI (6 * it) + 1))) (xs (Int32.toNatClampNeg (nI (6 * it) + 2))))
  refine ⟨r, ?_, r1, inv_M hI hT hM⟩
  simp only [C_37, ckx1 h6 hL, ckx2 h6 hL, ckx3 h6 hL, ckx4 h6 hL, ckx5 h6 hL]
  exact e
theorem s_38 {xs : Nat → Int32} {L it : Nat} {vX : Nat → Int32} {vP : Nat → Int32} {vN : Nat → Int32} {vG : Nat → Nat → Int32} {vU : Nat → Nat → Int32} {vR : Nat → Nat → Int32} {vNd : Nat → Int32} {vGd : Nat → Nat → Int32} {vUd : Nat → Nat → Int32} {vRd : Nat → Nat → Int32} {vH : Nat → Int32} {vHV : Nat → NV} {vQF : Nat → Int32} {vQV : Nat → NV} {vB : Nat → Nat → Int32} {vBw : Nat → Nat → Int32} {vM : (Nat → Int32) × Int64} {vnow : Nat → Int32} {vdraft : Nat → Int32} {vspare : Nat → Int32} {vearlier : Nat → Int32} {vslots : Nat → Int32} {visKept : Nat → Int32} {vbuffer : Nat → Int32} {vout : Nat → Int32} {vO : Nat → Int64} (hI : InvP it vX vP vN vG vU vR vNd vGd vUd vRd vH vHV vQF vQV vB vBw vM vnow vdraft vspare vearlier vslots visKept vbuffer vout vO) (h6 : 6 * it + 6 ≤ L) (hL : L ≤ 3072) : ∃ r, C_38 xs L (nI (6 * it)) vX vN vG vR vM vnow vO = some r ∧ r.1 = 1 ∧ InvP (it + 1) vX vP vN vG vU vR vNd vGd vUd vRd vH vHV vQF vQV vB vBw r.2.1 vnow vdraft vspare vearlier vslots visKept vbuffer vout r.2.2 := by
  have hT : it + 1 ≤ 600 := by omega
  have hI0 := hI
  obtain ⟨D, l, n, o, m8, m9, hh, hs, bo, wo, eo⟩ := hI0
  obtain ⟨r, e, r1, hM⟩ := an_boo (a_38 (vX := vX) (vM := vM) (vO := vO) m8 m9 o.1 o.2.1 (xs (Int32.toNatClampNeg (nI (6 * it) + 1))) (xs (Int32.toNatClampNeg (nI (6 * it) + 2))) (xs (Int32.toNatClampNeg (nI (6 * it) + 3))))
  refine ⟨r, ?_, r1, inv_M hI hT hM⟩
  simp only [C_38, ckx1 h6 hL, ckx2 h6 hL, ckx3 h6 hL, ckx4 h6 hL, ckx5 h6 hL]
  exact e
theorem s_39 {xs : Nat → Int32} {L it : Nat} {vX : Nat → Int32} {vP : Nat → Int32} {vN : Nat → Int32} {vG : Nat → Nat → Int32} {vU : Nat → Nat → Int32} {vR : Nat → Nat → Int32} {vNd : Nat → Int32} {vGd : Nat → Nat → Int32} {vUd : Nat → Nat → Int32} {vRd : Nat → Nat → Int32} {vH : Nat → Int32} {vHV : Nat → NV} {vQF : Nat → Int32} {vQV : Nat → NV} {vB : Nat → Nat → Int32} {vBw : Nat → Nat → Int32} {vM : (Nat → Int32) × Int64} {vnow : Nat → Int32} {vdraft : Nat → Int32} {vspare : Nat → Int32} {vearlier : Nat → Int32} {vslots : Nat → Int32} {visKept : Nat → Int32} {vbuffer : Nat → Int32} {vout : Nat → Int32} {vO : Nat → Int64} (hI : InvP it vX vP vN vG vU vR vNd vGd vUd vRd vH vHV vQF vQV vB vBw vM vnow vdraft vspare vearlier vslots visKept vbuffer vout vO) (h6 : 6 * it + 6 ≤ L) (hL : L ≤ 3072) : ∃ r, C_39 xs L (nI (6 * it)) vX vN vG vR vM vnow vO = some r ∧ r.1 = 1 ∧ InvP (it + 1) vX vP vN vG vU vR vNd vGd vUd vRd vH vHV vQF vQV vB vBw r.2.1 vnow vdraft vspare vearlier vslots visKept vbuffer vout r.2.2 := by
  have hT : it + 1 ≤ 600 := by omega
  have hI0 := hI
  obtain ⟨D, l, n, o, m8, m9, hh, hs, bo, wo, eo⟩ := hI0
  obtain ⟨r, e, r1, hM⟩ := an_int (a_39 (vX := vX) (vM := vM) (vO := vO) m8 m9 o.1 o.2.1 (xs (Int32.toNatClampNeg (nI (6 * it) + 1))) (xs (Int32.toNatClampNeg (nI (6 * it) + 2))))
  refine ⟨r, ?_, r1, inv_M hI hT hM⟩
  simp only [C_39, ckx1 h6 hL, ckx2 h6 hL, ckx3 h6 hL, ckx4 h6 hL, ckx5 h6 hL]
  exact e
theorem s_40 {xs : Nat → Int32} {L it : Nat} {vX : Nat → Int32} {vP : Nat → Int32} {vN : Nat → Int32} {vG : Nat → Nat → Int32} {vU : Nat → Nat → Int32} {vR : Nat → Nat → Int32} {vNd : Nat → Int32} {vGd : Nat → Nat → Int32} {vUd : Nat → Nat → Int32} {vRd : Nat → Nat → Int32} {vH : Nat → Int32} {vHV : Nat → NV} {vQF : Nat → Int32} {vQV : Nat → NV} {vB : Nat → Nat → Int32} {vBw : Nat → Nat → Int32} {vM : (Nat → Int32) × Int64} {vnow : Nat → Int32} {vdraft : Nat → Int32} {vspare : Nat → Int32} {vearlier : Nat → Int32} {vslots : Nat → Int32} {visKept : Nat → Int32} {vbuffer : Nat → Int32} {vout : Nat → Int32} {vO : Nat → Int64} (hI : InvP it vX vP vN vG vU vR vNd vGd vUd vRd vH vHV vQF vQV vB vBw vM vnow vdraft vspare vearlier vslots visKept vbuffer vout vO) (h6 : 6 * it + 6 ≤ L) (hL : L ≤ 3072) : ∃ r, C_40 xs L (nI (6 * it)) vX vN vG vR vM vnow vO = some r ∧ r.1 = 1 ∧ InvP (it + 1) vX vP vN vG vU vR vNd vGd vUd vRd vH vHV vQF vQV vB vBw r.2.1 vnow vdraft vspare vearlier vslots visKept vbuffer vout r.2.2 := by
  have hT : it + 1 ≤ 600 := by omega
  have hI0 := hI
  obtain ⟨D, l, n, o, m8, m9, hh, hs, bo, wo, eo⟩ := hI0
  obtain ⟨r, e, r1, hM⟩ := an_int (a_40 (vX := vX) (vM := vM) (vO := vO) m8 m9 o.1 o.2.1 (xs (Int32.toNatClampNeg (nI (6 * it) + 1))) (xs (Int32.toNatClampNeg (nI (6 * it) + 2))))
  refine ⟨r, ?_, r1, inv_M hI hT hM⟩
  simp only [C_40, ckx1 h6 hL, ckx2 h6 hL, ckx3 h6 hL, ckx4 h6 hL, ckx5 h6 hL]
  exact e
theorem s_41 {xs : Nat → Int32} {L it : Nat} {vX : Nat → Int32} {vP : Nat → Int32} {vN : Nat → Int32} {vG : Nat → Nat → Int32} {vU : Nat → Nat → Int32} {vR : Nat → Nat → Int32} {vNd : Nat → Int32} {vGd : Nat → Nat → Int32} {vUd : Nat → Nat → Int32} {vRd : Nat → Nat → Int32} {vH : Nat → Int32} {vHV : Nat → NV} {vQF : Nat → Int32} {vQV : Nat → NV} {vB : Nat → Nat → Int32} {vBw : Nat → Nat → Int32} {vM : (Nat → Int32) × Int64} {vnow : Nat → Int32} {vdraft : Nat → Int32} {vspare : Nat → Int32} {vearlier : Nat → Int32} {vslots : Nat → Int32} {visKept : Nat → Int32} {vbuffer : Nat → Int32} {vout : Nat → Int32} {vO : Nat → Int64} (hI : InvP it vX vP vN vG vU vR vNd vGd vUd vRd vH vHV vQF vQV vB vBw vM vnow vdraft vspare vearlier vslots visKept vbuffer vout vO) (h6 : 6 * it + 6 ≤ L) (hL : L ≤ 3072) : ∃ r, C_41 xs L (nI (6 * it)) vX vN vG vR vM vnow vO = some r ∧ r.1 = 1 ∧ InvP (it + 1) vX vP vN vG vU vR vNd vGd vUd vRd vH vHV vQF vQV vB vBw r.2.1 vnow vdraft vspare vearlier vslots visKept vbuffer vout r.2.2 := by
  have hT : it + 1 ≤ 600 := by omega
  have hI0 := hI
  obtain ⟨D, l, n, o, m8, m9, hh, hs, bo, wo, eo⟩ := hI0
  obtain ⟨r, e, r1, hM⟩ := an_int (a_41 (vX := vX) (vM := vM) (vO := vO) m8 m9 o.1 o.2.1 (xs (Int32.toNatClampNeg (nI (6 * it) + 1))))
  refine ⟨r, ?_, r1, inv_M hI hT hM⟩
  simp only [C_41, ckx1 h6 hL, ckx2 h6 hL, ckx3 h6 hL, ckx4 h6 hL, ckx5 h6 hL]
  exact e
theorem s_42 {xs : Nat → Int32} {L it : Nat} {vX : Nat → Int32} {vP : Nat → Int32} {vN : Nat → Int32} {vG : Nat → Nat → Int32} {vU : Nat → Nat → Int32} {vR : Nat → Nat → Int32} {vNd : Nat → Int32} {vGd : Nat → Nat → Int32} {vUd : Nat → Nat → Int32} {vRd : Nat → Nat → Int32} {vH : Nat → Int32} {vHV : Nat → NV} {vQF : Nat → Int32} {vQV : Nat → NV} {vB : Nat → Nat → Int32} {vBw : Nat → Nat → Int32} {vM : (Nat → Int32) × Int64} {vnow : Nat → Int32} {vdraft : Nat → Int32} {vspare : Nat → Int32} {vearlier : Nat → Int32} {vslots : Nat → Int32} {visKept : Nat → Int32} {vbuffer : Nat → Int32} {vout : Nat → Int32} {vO : Nat → Int64} (hI : InvP it vX vP vN vG vU vR vNd vGd vUd vRd vH vHV vQF vQV vB vBw vM vnow vdraft vspare vearlier vslots visKept vbuffer vout vO) (h6 : 6 * it + 6 ≤ L) (hL : L ≤ 3072) : ∃ r, C_42 xs L (nI (6 * it)) vX vN vG vR vM vnow vO = some r ∧ r.1 = 1 ∧ InvP (it + 1) vX vP vN vG vU vR vNd vGd vUd vRd vH vHV vQF vQV vB vBw r.2.1 vnow vdraft vspare vearlier vslots visKept vbuffer vout r.2.2 := by
  have hT : it + 1 ≤ 600 := by omega
  have hI0 := hI
  obtain ⟨D, l, n, o, m8, m9, hh, hs, bo, wo, eo⟩ := hI0
  obtain ⟨r, e, r1, hM⟩ := an_int (a_42 (vX := vX) (vM := vM) (vO := vO) m8 m9 o.1 o.2.1 (xs (Int32.toNatClampNeg (nI (6 * it) + 1))) (xs (Int32.toNatClampNeg (nI (6 * it) + 2))))
  refine ⟨r, ?_, r1, inv_M hI hT hM⟩
  simp only [C_42, ckx1 h6 hL, ckx2 h6 hL, ckx3 h6 hL, ckx4 h6 hL, ckx5 h6 hL]
  exact e
theorem s_4 {xs : Nat → Int32} {L it : Nat} {vX : Nat → Int32} {vP : Nat → Int32} {vN : Nat → Int32} {vG : Nat → Nat → Int32} {vU : Nat → Nat → Int32} {vR : Nat → Nat → Int32} {vNd : Nat → Int32} {vGd : Nat → Nat → Int32} {vUd : Nat → Nat → Int32} {vRd : Nat → Nat → Int32} {vH : Nat → Int32} {vHV : Nat → NV} {vQF : Nat → Int32} {vQV : Nat → NV} {vB : Nat → Nat → Int32} {vBw : Nat → Nat → Int32} {vM : (Nat → Int32) × Int64} {vnow : Nat → Int32} {vdraft : Nat → Int32} {vspare : Nat → Int32} {vearlier : Nat → Int32} {vslots : Nat → Int32} {visKept : Nat → Int32} {vbuffer : Nat → Int32} {vout : Nat → Int32} {vO : Nat → Int64} (hI : InvP it vX vP vN vG vU vR vNd vGd vUd vRd vH vHV vQF vQV vB vBw vM vnow vdraft vspare vearlier vslots visKept vbuffer vout vO) (h6 : 6 * it + 6 ≤ L) (hL : L ≤ 3072) : ∃ r, C_4 xs L (nI (6 * it)) vX vM vO = some r ∧ r.1 = 1 ∧ InvP (it + 1) vX vP vN vG vU vR vNd vGd vUd vRd vH vHV vQF vQV vB vBw r.2.1 vnow vdraft vspare vearlier vslots visKept vbuffer vout r.2.2 := by
  have hT : it + 1 ≤ 600 := by omega
  have hI0 := hI
  obtain ⟨D, l, n, o, m8, m9, hh, hs, bo, wo, eo⟩ := hI0
  obtain ⟨r, e, r1, hM⟩ := an_int (a_4 (vO := vO) eo)
  refine ⟨r, ?_, r1, inv_M hI hT hM⟩
  simp only [C_4, ckx1 h6 hL, ckx2 h6 hL, ckx3 h6 hL, ckx4 h6 hL, ckx5 h6 hL]
  exact e
theorem s_60 {xs : Nat → Int32} {L it : Nat} {vX : Nat → Int32} {vP : Nat → Int32} {vN : Nat → Int32} {vG : Nat → Nat → Int32} {vU : Nat → Nat → Int32} {vR : Nat → Nat → Int32} {vNd : Nat → Int32} {vGd : Nat → Nat → Int32} {vUd : Nat → Nat → Int32} {vRd : Nat → Nat → Int32} {vH : Nat → Int32} {vHV : Nat → NV} {vQF : Nat → Int32} {vQV : Nat → NV} {vB : Nat → Nat → Int32} {vBw : Nat → Nat → Int32} {vM : (Nat → Int32) × Int64} {vnow : Nat → Int32} {vdraft : Nat → Int32} {vspare : Nat → Int32} {vearlier : Nat → Int32} {vslots : Nat → Int32} {visKept : Nat → Int32} {vbuffer : Nat → Int32} {vout : Nat → Int32} {vO : Nat → Int64} (hI : InvP it vX vP vN vG vU vR vNd vGd vUd vRd vH vHV vQF vQV vB vBw vM vnow vdraft vspare vearlier vslots visKept vbuffer vout vO) (h6 : 6 * it + 6 ≤ L) (hL : L ≤ 3072) : ∃ r, C_60 xs L (nI (6 * it)) vX vBw vM vout vO = some r ∧ r.1 = 1 ∧ InvP (it + 1) vX vP vN vG vU vR vNd vGd vUd vRd vH vHV vQF vQV vB vBw r.2.1 vnow vdraft vspare vearlier vslots visKept vbuffer vout r.2.2 := by
  have hT : it + 1 ≤ 600 := by omega
  have hI0 := hI
  obtain ⟨D, l, n, o, m8, m9, hh, hs, bo, wo, eo⟩ := hI0
  obtain ⟨r, e, r1, hM⟩ := an_int (a_60 (vX := vX) (vO := vO) wo (xs (Int32.toNatClampNeg (nI (6 * it) + 1))))
  refine ⟨r, ?_, r1, inv_M hI hT hM⟩
  simp only [C_60, ckx1 h6 hL, ckx2 h6 hL, ckx3 h6 hL, ckx4 h6 hL, ckx5 h6 hL]
  exact e
theorem s_43 {xs : Nat → Int32} {L it : Nat} {vX : Nat → Int32} {vP : Nat → Int32} {vN : Nat → Int32} {vG : Nat → Nat → Int32} {vU : Nat → Nat → Int32} {vR : Nat → Nat → Int32} {vNd : Nat → Int32} {vGd : Nat → Nat → Int32} {vUd : Nat → Nat → Int32} {vRd : Nat → Nat → Int32} {vH : Nat → Int32} {vHV : Nat → NV} {vQF : Nat → Int32} {vQV : Nat → NV} {vB : Nat → Nat → Int32} {vBw : Nat → Nat → Int32} {vM : (Nat → Int32) × Int64} {vnow : Nat → Int32} {vdraft : Nat → Int32} {vspare : Nat → Int32} {vearlier : Nat → Int32} {vslots : Nat → Int32} {visKept : Nat → Int32} {vbuffer : Nat → Int32} {vout : Nat → Int32} {vO : Nat → Int64} (hI : InvP it vX vP vN vG vU vR vNd vGd vUd vRd vH vHV vQF vQV vB vBw vM vnow vdraft vspare vearlier vslots visKept vbuffer vout vO) (h6 : 6 * it + 6 ≤ L) (hL : L ≤ 3072) : ∃ r, C_43 xs L (nI (6 * it)) vX vN vG vR vM vnow = some r ∧ r.1 = 1 ∧ InvP (it + 1) vX vP vN vG vU vR vNd vGd vUd vRd vH vHV vQF vQV vB vBw r.2 vnow vdraft vspare vearlier vslots visKept vbuffer vout vO := by
  have hT : it + 1 ≤ 600 := by omega
  have hI0 := hI
  obtain ⟨D, l, n, o, m8, m9, hh, hs, bo, wo, eo⟩ := hI0
  obtain ⟨v, M', e8, e9, hM⟩ := a_43 (vX := vX) (vM := vM) m8 m9 o.1 o.2.1
  refine ⟨(1, M'), ?_, rfl, inv_M hI hT hM⟩
  unfold C_43
  rw [e8, q_sb, e9, q_sb]
  by_cases c : (Op.cmpValue (FP.dcmp v v) .l) = 0
  · exact if_pos c
  · dsimp only
    rw [if_neg c, if_neg c, if_neg c]
theorem s_44 {xs : Nat → Int32} {L it : Nat} {vX : Nat → Int32} {vP : Nat → Int32} {vN : Nat → Int32} {vG : Nat → Nat → Int32} {vU : Nat → Nat → Int32} {vR : Nat → Nat → Int32} {vNd : Nat → Int32} {vGd : Nat → Nat → Int32} {vUd : Nat → Nat → Int32} {vRd : Nat → Nat → Int32} {vH : Nat → Int32} {vHV : Nat → NV} {vQF : Nat → Int32} {vQV : Nat → NV} {vB : Nat → Nat → Int32} {vBw : Nat → Nat → Int32} {vM : (Nat → Int32) × Int64} {vnow : Nat → Int32} {vdraft : Nat → Int32} {vspare : Nat → Int32} {vearlier : Nat → Int32} {vslots : Nat → Int32} {visKept : Nat → Int32} {vbuffer : Nat → Int32} {vout : Nat → Int32} {vO : Nat → Int64} (hI : InvP it vX vP vN vG vU vR vNd vGd vUd vRd vH vHV vQF vQV vB vBw vM vnow vdraft vspare vearlier vslots visKept vbuffer vout vO) (h6 : 6 * it + 6 ≤ L) (hL : L ≤ 3072) : ∃ r, C_44 xs L (nI (6 * it)) vX vN vG vM vnow = some r ∧ r.1 = 1 ∧ InvP (it + 1) vX vP vN vG vU vR vNd vGd vUd vRd vH vHV vQF vQV vB vBw r.2 vnow vdraft vspare vearlier vslots visKept vbuffer vout vO := by
  have hT : it + 1 ≤ 600 := by omega
  have hI0 := hI
  obtain ⟨D, l, n, o, m8, m9, hh, hs, bo, wo, eo⟩ := hI0
  obtain ⟨v, M', e8, e9, hn, hM⟩ := a_44 (vX := vX) (vM := vM) m8 m9 o.1
  refine ⟨(1, M'), ?_, rfl, inv_M hI hT hM⟩
  unfold C_44
  rw [e8, q_sb, q_cnP hn, e9, q_sb]
  dsimp only
  rw [q_cnP hn]
  by_cases c : (Op.cmpValue (FP.dcmp (FP.f2d v) (FP.f2d v)) .l) = 0
  · exact if_pos c
  · rw [if_neg c, if_neg c, if_neg c]
theorem s_49 {xs : Nat → Int32} {L it : Nat} {vX : Nat → Int32} {vP : Nat → Int32} {vN : Nat → Int32} {vG : Nat → Nat → Int32} {vU : Nat → Nat → Int32} {vR : Nat → Nat → Int32} {vNd : Nat → Int32} {vGd : Nat → Nat → Int32} {vUd : Nat → Nat → Int32} {vRd : Nat → Nat → Int32} {vH : Nat → Int32} {vHV : Nat → NV} {vQF : Nat → Int32} {vQV : Nat → NV} {vB : Nat → Nat → Int32} {vBw : Nat → Nat → Int32} {vM : (Nat → Int32) × Int64} {vnow : Nat → Int32} {vdraft : Nat → Int32} {vspare : Nat → Int32} {vearlier : Nat → Int32} {vslots : Nat → Int32} {visKept : Nat → Int32} {vbuffer : Nat → Int32} {vout : Nat → Int32} {vO : Nat → Int64} (hI : InvP it vX vP vN vG vU vR vNd vGd vUd vRd vH vHV vQF vQV vB vBw vM vnow vdraft vspare vearlier vslots visKept vbuffer vout vO) (h6 : 6 * it + 6 ≤ L) (hL : L ≤ 3072) : ∃ r, C_49 xs L (nI (6 * it)) vX vN vG vU vR vH vHV vM vnow vearlier vO = some r ∧ r.1 = 1 ∧ InvP (it + 1) vX vP vN vG r.2.1 vR vNd vGd vUd vRd r.2.2.1 r.2.2.2.1 vQF vQV vB vBw r.2.2.2.2.1 r.2.2.2.2.2.1 vdraft vspare r.2.2.2.2.2.2.1 vslots visKept vbuffer vout r.2.2.2.2.2.2.2 := by
  have hT : it + 1 ≤ 600 := by omega
  have hI0 := hI
  obtain ⟨D, l, n, o, m8, m9, hh, hs, bo, wo, eo⟩ := hI0
  obtain ⟨c, U', H', HV', O', b, M', now', e', e8, e9, h3, h0, st, hM⟩ := a_49 (vX := vX) (vO := vO) m8 m9 o hh hT (xs (Int32.toNatClampNeg (nI (6 * it) + 1))) (xs (Int32.toNatClampNeg (nI (6 * it) + 2)))
  refine ⟨(1, U', H', HV', M', now', e', O'), ?_, rfl, inv_mk st (hs.mono (Nat.le_succ it) hT) ⟨l, n, bo.fr (hM 1 (by decide) (by decide))⟩ (wo.fr (hM 9 (by decide) (by decide))) (eo.fr (hM 2 (by decide) (by decide)))⟩
  simp only [C_49, ckx1 h6 hL, ckx2 h6 hL, ckx3 h6 hL, ckx4 h6 hL, ckx5 h6 hL, e8, e9, q_sb]
  exact tl3 h3 h0
theorem s_50 {xs : Nat → Int32} {L it : Nat} {vX : Nat → Int32} {vP : Nat → Int32} {vN : Nat → Int32} {vG : Nat → Nat → Int32} {vU : Nat → Nat → Int32} {vR : Nat → Nat → Int32} {vNd : Nat → Int32} {vGd : Nat → Nat → Int32} {vUd : Nat → Nat → Int32} {vRd : Nat → Nat → Int32} {vH : Nat → Int32} {vHV : Nat → NV} {vQF : Nat → Int32} {vQV : Nat → NV} {vB : Nat → Nat → Int32} {vBw : Nat → Nat → Int32} {vM : (Nat → Int32) × Int64} {vnow : Nat → Int32} {vdraft : Nat → Int32} {vspare : Nat → Int32} {vearlier : Nat → Int32} {vslots : Nat → Int32} {visKept : Nat → Int32} {vbuffer : Nat → Int32} {vout : Nat → Int32} {vO : Nat → Int64} (hI : InvP it vX vP vN vG vU vR vNd vGd vUd vRd vH vHV vQF vQV vB vBw vM vnow vdraft vspare vearlier vslots visKept vbuffer vout vO) (h6 : 6 * it + 6 ≤ L) (hL : L ≤ 3072) : ∃ r, C_50 xs L (nI (6 * it)) vX vN vG vU vR vH vHV vM vnow vearlier vO = some r ∧ r.1 = 1 ∧ InvP (it + 1) vX vP vN r.2.1 r.2.2.1 r.2.2.2.1 vNd vGd vUd vRd r.2.2.2.2.1 r.2.2.2.2.2.1 vQF vQV vB vBw r.2.2.2.2.2.2.1 r.2.2.2.2.2.2.2.1 vdraft vspare r.2.2.2.2.2.2.2.2.1 vslots visKept vbuffer vout r.2.2.2.2.2.2.2.2.2 := by
  have hT : it + 1 ≤ 600 := by omega
  have hI0 := hI
  obtain ⟨D, l, n, o, m8, m9, hh, hs, bo, wo, eo⟩ := hI0
  obtain ⟨c, G', U', R', H', HV', O', b, M', now', e', e8, e9, h3, h0, st, hM⟩ := a_50 (vX := vX) (vO := vO) m8 m9 o hh hT (xs (Int32.toNatClampNeg (nI (6 * it) + 1)))
  refine ⟨(1, G', U', R', H', HV', M', now', e', O'), ?_, rfl, inv_mk st (hs.mono (Nat.le_succ it) hT) ⟨l, n, bo.fr (hM 1 (by decide) (by decide))⟩ (wo.fr (hM 9 (by decide) (by decide))) (eo.fr (hM 2 (by decide) (by decide)))⟩
  simp only [C_50, ckx1 h6 hL, ckx2 h6 hL, ckx3 h6 hL, ckx4 h6 hL, ckx5 h6 hL, e8, e9, q_sb]
  exact tl3 h3 h0
theorem s_51 {xs : Nat → Int32} {L it : Nat} {vX : Nat → Int32} {vP : Nat → Int32} {vN : Nat → Int32} {vG : Nat → Nat → Int32} {vU : Nat → Nat → Int32} {vR : Nat → Nat → Int32} {vNd : Nat → Int32} {vGd : Nat → Nat → Int32} {vUd : Nat → Nat → Int32} {vRd : Nat → Nat → Int32} {vH : Nat → Int32} {vHV : Nat → NV} {vQF : Nat → Int32} {vQV : Nat → NV} {vB : Nat → Nat → Int32} {vBw : Nat → Nat → Int32} {vM : (Nat → Int32) × Int64} {vnow : Nat → Int32} {vdraft : Nat → Int32} {vspare : Nat → Int32} {vearlier : Nat → Int32} {vslots : Nat → Int32} {visKept : Nat → Int32} {vbuffer : Nat → Int32} {vout : Nat → Int32} {vO : Nat → Int64} (hI : InvP it vX vP vN vG vU vR vNd vGd vUd vRd vH vHV vQF vQV vB vBw vM vnow vdraft vspare vearlier vslots visKept vbuffer vout vO) (h6 : 6 * it + 6 ≤ L) (hL : L ≤ 3072) : ∃ r, C_51 xs L (nI (6 * it)) vX vN vG vU vR vH vHV vM vnow vearlier vO = some r ∧ r.1 = 1 ∧ InvP (it + 1) vX vP r.2.1 r.2.2.1 r.2.2.2.1 r.2.2.2.2.1 vNd vGd vUd vRd r.2.2.2.2.2.1 r.2.2.2.2.2.2.1 vQF vQV vB vBw r.2.2.2.2.2.2.2.1 r.2.2.2.2.2.2.2.2.1 vdraft vspare r.2.2.2.2.2.2.2.2.2.1 vslots visKept vbuffer vout r.2.2.2.2.2.2.2.2.2.2 := by
  have hT : it + 1 ≤ 600 := by omega
  have hI0 := hI
  obtain ⟨D, l, n, o, m8, m9, hh, hs, bo, wo, eo⟩ := hI0
  obtain ⟨c, N', G', U', R', H', HV', O', b, M', now', e', e8, e9, h3, h0, st, hM⟩ := a_51 (vX := vX) (vO := vO) m8 m9 o hh hT (xs (Int32.toNatClampNeg (nI (6 * it) + 1)))
  refine ⟨(1, N', G', U', R', H', HV', M', now', e', O'), ?_, rfl, inv_mk st (hs.mono (Nat.le_succ it) hT) ⟨l, n, bo.fr (hM 1 (by decide) (by decide))⟩ (wo.fr (hM 9 (by decide) (by decide))) (eo.fr (hM 2 (by decide) (by decide)))⟩
  simp only [C_51, ckx1 h6 hL, ckx2 h6 hL, ckx3 h6 hL, ckx4 h6 hL, ckx5 h6 hL, e8, e9, q_sb]
  exact tl3 h3 h0
theorem s_52 {xs : Nat → Int32} {L it : Nat} {vX : Nat → Int32} {vP : Nat → Int32} {vN : Nat → Int32} {vG : Nat → Nat → Int32} {vU : Nat → Nat → Int32} {vR : Nat → Nat → Int32} {vNd : Nat → Int32} {vGd : Nat → Nat → Int32} {vUd : Nat → Nat → Int32} {vRd : Nat → Nat → Int32} {vH : Nat → Int32} {vHV : Nat → NV} {vQF : Nat → Int32} {vQV : Nat → NV} {vB : Nat → Nat → Int32} {vBw : Nat → Nat → Int32} {vM : (Nat → Int32) × Int64} {vnow : Nat → Int32} {vdraft : Nat → Int32} {vspare : Nat → Int32} {vearlier : Nat → Int32} {vslots : Nat → Int32} {visKept : Nat → Int32} {vbuffer : Nat → Int32} {vout : Nat → Int32} {vO : Nat → Int64} (hI : InvP it vX vP vN vG vU vR vNd vGd vUd vRd vH vHV vQF vQV vB vBw vM vnow vdraft vspare vearlier vslots visKept vbuffer vout vO) (h6 : 6 * it + 6 ≤ L) (hL : L ≤ 3072) : ∃ r, C_52 xs L (nI (6 * it)) vX vN vG vU vR vH vHV vM vnow vearlier vO = some r ∧ r.1 = 1 ∧ InvP (it + 1) vX vP r.2.1 r.2.2.1 r.2.2.2.1 vR vNd vGd vUd vRd r.2.2.2.2.1 r.2.2.2.2.2.1 vQF vQV vB vBw r.2.2.2.2.2.2.1 r.2.2.2.2.2.2.2.1 vdraft vspare r.2.2.2.2.2.2.2.2.1 vslots visKept vbuffer vout r.2.2.2.2.2.2.2.2.2 := by
  have hT : it + 1 ≤ 600 := by omega
  have hI0 := hI
  obtain ⟨D, l, n, o, m8, m9, hh, hs, bo, wo, eo⟩ := hI0
  obtain ⟨c, N', G', U', H', HV', O', b, M', now', e', e8, e9, h3, h0, st, hM⟩ := a_52 (vX := vX) (vO := vO) m8 m9 o hh hT (xs (Int32.toNatClampNeg (nI (6 * it) + 1)))
  refine ⟨(1, N', G', U', H', HV', M', now', e', O'), ?_, rfl, inv_mk st (hs.mono (Nat.le_succ it) hT) ⟨l, n, bo.fr (hM 1 (by decide) (by decide))⟩ (wo.fr (hM 9 (by decide) (by decide))) (eo.fr (hM 2 (by decide) (by decide)))⟩
  simp only [C_52, ckx1 h6 hL, ckx2 h6 hL, ckx3 h6 hL, ckx4 h6 hL, ckx5 h6 hL, e8, e9, q_sb]
  exact tl3 h3 h0
theorem s_53 {xs : Nat → Int32} {L it : Nat} {vX : Nat → Int32} {vP : Nat → Int32} {vN : Nat → Int32} {vG : Nat → Nat → Int32} {vU : Nat → Nat → Int32} {vR : Nat → Nat → Int32} {vNd : Nat → Int32} {vGd : Nat → Nat → Int32} {vUd : Nat → Nat → Int32} {vRd : Nat → Nat → Int32} {vH : Nat → Int32} {vHV : Nat → NV} {vQF : Nat → Int32} {vQV : Nat → NV} {vB : Nat → Nat → Int32} {vBw : Nat → Nat → Int32} {vM : (Nat → Int32) × Int64} {vnow : Nat → Int32} {vdraft : Nat → Int32} {vspare : Nat → Int32} {vearlier : Nat → Int32} {vslots : Nat → Int32} {visKept : Nat → Int32} {vbuffer : Nat → Int32} {vout : Nat → Int32} {vO : Nat → Int64} (hI : InvP it vX vP vN vG vU vR vNd vGd vUd vRd vH vHV vQF vQV vB vBw vM vnow vdraft vspare vearlier vslots visKept vbuffer vout vO) (h6 : 6 * it + 6 ≤ L) (hL : L ≤ 3072) : ∃ r, C_53 xs L (nI (6 * it)) vX vN vG vU vR vH vHV vM vnow vearlier vO = some r ∧ r.1 = 1 ∧ InvP (it + 1) vX vP vN r.2.1 vU vR vNd vGd vUd vRd r.2.2.1 r.2.2.2.1 vQF vQV vB vBw r.2.2.2.2.1 r.2.2.2.2.2.1 vdraft vspare r.2.2.2.2.2.2.1 vslots visKept vbuffer vout r.2.2.2.2.2.2.2 := by
  have hT : it + 1 ≤ 600 := by omega
  have hI0 := hI
  obtain ⟨D, l, n, o, m8, m9, hh, hs, bo, wo, eo⟩ := hI0
  obtain ⟨c, G', H', HV', O', b, M', now', e', e8, e9, h3, h0, st, hM⟩ := a_53 (vX := vX) (vO := vO) m8 m9 o hh hT (xs (Int32.toNatClampNeg (nI (6 * it) + 1)))
  refine ⟨(1, G', H', HV', M', now', e', O'), ?_, rfl, inv_mk st (hs.mono (Nat.le_succ it) hT) ⟨l, n, bo.fr (hM 1 (by decide) (by decide))⟩ (wo.fr (hM 9 (by decide) (by decide))) (eo.fr (hM 2 (by decide) (by decide)))⟩
  simp only [C_53, ckx1 h6 hL, ckx2 h6 hL, ckx3 h6 hL, ckx4 h6 hL, ckx5 h6 hL, e8, e9, q_sb]
  exact tl3 h3 h0
theorem s_54 {xs : Nat → Int32} {L it : Nat} {vX : Nat → Int32} {vP : Nat → Int32} {vN : Nat → Int32} {vG : Nat → Nat → Int32} {vU : Nat → Nat → Int32} {vR : Nat → Nat → Int32} {vNd : Nat → Int32} {vGd : Nat → Nat → Int32} {vUd : Nat → Nat → Int32} {vRd : Nat → Nat → Int32} {vH : Nat → Int32} {vHV : Nat → NV} {vQF : Nat → Int32} {vQV : Nat → NV} {vB : Nat → Nat → Int32} {vBw : Nat → Nat → Int32} {vM : (Nat → Int32) × Int64} {vnow : Nat → Int32} {vdraft : Nat → Int32} {vspare : Nat → Int32} {vearlier : Nat → Int32} {vslots : Nat → Int32} {visKept : Nat → Int32} {vbuffer : Nat → Int32} {vout : Nat → Int32} {vO : Nat → Int64} (hI : InvP it vX vP vN vG vU vR vNd vGd vUd vRd vH vHV vQF vQV vB vBw vM vnow vdraft vspare vearlier vslots visKept vbuffer vout vO) (h6 : 6 * it + 6 ≤ L) (hL : L ≤ 3072) : ∃ r, C_54 xs L (nI (6 * it)) vX vN vG vU vR vH vHV vM vnow vearlier vO = some r ∧ r.1 = 1 ∧ InvP (it + 1) vX vP r.2.1 vG vU vR vNd vGd vUd vRd r.2.2.1 r.2.2.2.1 vQF vQV vB vBw r.2.2.2.2.1 r.2.2.2.2.2.1 vdraft vspare r.2.2.2.2.2.2.1 vslots visKept vbuffer vout r.2.2.2.2.2.2.2 := by
  have hT : it + 1 ≤ 600 := by omega
  have hI0 := hI
  obtain ⟨D, l, n, o, m8, m9, hh, hs, bo, wo, eo⟩ := hI0
  obtain ⟨c, N', H', HV', O', b, M', now', e', e8, e9, h3, h0, st, hM⟩ := a_54 (vX := vX) (vO := vO) m8 m9 o hh hT (xs (Int32.toNatClampNeg (nI (6 * it) + 1)))
  refine ⟨(1, N', H', HV', M', now', e', O'), ?_, rfl, inv_mk st (hs.mono (Nat.le_succ it) hT) ⟨l, n, bo.fr (hM 1 (by decide) (by decide))⟩ (wo.fr (hM 9 (by decide) (by decide))) (eo.fr (hM 2 (by decide) (by decide)))⟩
  simp only [C_54, ckx1 h6 hL, ckx2 h6 hL, ckx3 h6 hL, ckx4 h6 hL, ckx5 h6 hL, e8, e9, q_sb]
  exact tl3 h3 h0
theorem s_55 {xs : Nat → Int32} {L it : Nat} {vX : Nat → Int32} {vP : Nat → Int32} {vN : Nat → Int32} {vG : Nat → Nat → Int32} {vU : Nat → Nat → Int32} {vR : Nat → Nat → Int32} {vNd : Nat → Int32} {vGd : Nat → Nat → Int32} {vUd : Nat → Nat → Int32} {vRd : Nat → Nat → Int32} {vH : Nat → Int32} {vHV : Nat → NV} {vQF : Nat → Int32} {vQV : Nat → NV} {vB : Nat → Nat → Int32} {vBw : Nat → Nat → Int32} {vM : (Nat → Int32) × Int64} {vnow : Nat → Int32} {vdraft : Nat → Int32} {vspare : Nat → Int32} {vearlier : Nat → Int32} {vslots : Nat → Int32} {visKept : Nat → Int32} {vbuffer : Nat → Int32} {vout : Nat → Int32} {vO : Nat → Int64} (hI : InvP it vX vP vN vG vU vR vNd vGd vUd vRd vH vHV vQF vQV vB vBw vM vnow vdraft vspare vearlier vslots visKept vbuffer vout vO) (h6 : 6 * it + 6 ≤ L) (hL : L ≤ 3072) : ∃ r, C_55 xs L (nI (6 * it)) vX vN vG vU vR vH vHV vM vnow vearlier vO = some r ∧ r.1 = 1 ∧ InvP (it + 1) vX vP r.2.1 vG vU vR vNd vGd vUd vRd r.2.2.1 r.2.2.2.1 vQF vQV vB vBw r.2.2.2.2.1 r.2.2.2.2.2.1 vdraft vspare r.2.2.2.2.2.2.1 vslots visKept vbuffer vout r.2.2.2.2.2.2.2 := by
  have hT : it + 1 ≤ 600 := by omega
  have hI0 := hI
  obtain ⟨D, l, n, o, m8, m9, hh, hs, bo, wo, eo⟩ := hI0
  obtain ⟨c, N', H', HV', O', b, M', now', e', e8, e9, h3, h0, st, hM⟩ := a_55 (vX := vX) (vO := vO) m8 m9 o hh hT (xs (Int32.toNatClampNeg (nI (6 * it) + 1)))
  refine ⟨(1, N', H', HV', M', now', e', O'), ?_, rfl, inv_mk st (hs.mono (Nat.le_succ it) hT) ⟨l, n, bo.fr (hM 1 (by decide) (by decide))⟩ (wo.fr (hM 9 (by decide) (by decide))) (eo.fr (hM 2 (by decide) (by decide)))⟩
  simp only [C_55, ckx1 h6 hL, ckx2 h6 hL, ckx3 h6 hL, ckx4 h6 hL, ckx5 h6 hL, e8, e9, q_sb]
  exact tl3 h3 h0
theorem s_58 {xs : Nat → Int32} {L it : Nat} {vX : Nat → Int32} {vP : Nat → Int32} {vN : Nat → Int32} {vG : Nat → Nat → Int32} {vU : Nat → Nat → Int32} {vR : Nat → Nat → Int32} {vNd : Nat → Int32} {vGd : Nat → Nat → Int32} {vUd : Nat → Nat → Int32} {vRd : Nat → Nat → Int32} {vH : Nat → Int32} {vHV : Nat → NV} {vQF : Nat → Int32} {vQV : Nat → NV} {vB : Nat → Nat → Int32} {vBw : Nat → Nat → Int32} {vM : (Nat → Int32) × Int64} {vnow : Nat → Int32} {vdraft : Nat → Int32} {vspare : Nat → Int32} {vearlier : Nat → Int32} {vslots : Nat → Int32} {visKept : Nat → Int32} {vbuffer : Nat → Int32} {vout : Nat → Int32} {vO : Nat → Int64} (hI : InvP it vX vP vN vG vU vR vNd vGd vUd vRd vH vHV vQF vQV vB vBw vM vnow vdraft vspare vearlier vslots visKept vbuffer vout vO) (h6 : 6 * it + 6 ≤ L) (hL : L ≤ 3072) : ∃ r, C_58 xs L (nI (6 * it)) vX vN vG vU vR vH vHV vQF vQV vM vnow vearlier vslots visKept vO = some r ∧ r.1 = 1 ∧ InvP (it + 1) vX vP r.2.1 r.2.2.1 r.2.2.2.1 r.2.2.2.2.1 vNd vGd vUd vRd r.2.2.2.2.2.1 r.2.2.2.2.2.2.1 vQF vQV vB vBw r.2.2.2.2.2.2.2.1 r.2.2.2.2.2.2.2.2.1 vdraft vspare r.2.2.2.2.2.2.2.2.2.1 vslots visKept vbuffer vout r.2.2.2.2.2.2.2.2.2.2 := by
  have hT : it + 1 ≤ 600 := by omega
  have hI0 := hI
  obtain ⟨D, l, n, o, m8, m9, hh, hs, bo, wo, eo⟩ := hI0
  obtain ⟨c, N', G', U', R', H', HV', O', b, M', now', e', e8, e9, h3, h0, st, hM⟩ := a_58 (vX := vX) (vO := vO) m8 m9 o hh hT hs (xs (Int32.toNatClampNeg (nI (6 * it) + 1)))
  refine ⟨(1, N', G', U', R', H', HV', M', now', e', O'), ?_, rfl, inv_mk st (hs.mono (Nat.le_succ it) hT) ⟨l, n, bo.fr (hM 1 (by decide) (by decide))⟩ (wo.fr (hM 9 (by decide) (by decide))) (eo.fr (hM 2 (by decide) (by decide)))⟩
  simp only [C_58, ckx1 h6 hL, ckx2 h6 hL, ckx3 h6 hL, ckx4 h6 hL, ckx5 h6 hL, e8, e9, q_sb]
  exact tl3 h3 h0
theorem s_56 {xs : Nat → Int32} {L it : Nat} {vX : Nat → Int32} {vP : Nat → Int32} {vN : Nat → Int32} {vG : Nat → Nat → Int32} {vU : Nat → Nat → Int32} {vR : Nat → Nat → Int32} {vNd : Nat → Int32} {vGd : Nat → Nat → Int32} {vUd : Nat → Nat → Int32} {vRd : Nat → Nat → Int32} {vH : Nat → Int32} {vHV : Nat → NV} {vQF : Nat → Int32} {vQV : Nat → NV} {vB : Nat → Nat → Int32} {vBw : Nat → Nat → Int32} {vM : (Nat → Int32) × Int64} {vnow : Nat → Int32} {vdraft : Nat → Int32} {vspare : Nat → Int32} {vearlier : Nat → Int32} {vslots : Nat → Int32} {visKept : Nat → Int32} {vbuffer : Nat → Int32} {vout : Nat → Int32} {vO : Nat → Int64} (hI : InvP it vX vP vN vG vU vR vNd vGd vUd vRd vH vHV vQF vQV vB vBw vM vnow vdraft vspare vearlier vslots visKept vbuffer vout vO) (h6 : 6 * it + 6 ≤ L) (hL : L ≤ 3072) : ∃ r, C_56 xs L (nI (6 * it)) vX vN vG vU vR vH vHV vM vnow vearlier vO = some r ∧ r.1 = 1 ∧ InvP (it + 1) vX vP r.2.1 r.2.2.1 r.2.2.2.1 r.2.2.2.2.1 vNd vGd vUd vRd r.2.2.2.2.2.1 vHV vQF vQV vB vBw r.2.2.2.2.2.2.1 r.2.2.2.2.2.2.2.1 vdraft vspare vearlier vslots visKept vbuffer vout r.2.2.2.2.2.2.2.2 := by
  have hT : it + 1 ≤ 600 := by omega
  have hI0 := hI
  obtain ⟨D, l, n, o, m8, m9, hh, hs, bo, wo, eo⟩ := hI0
  obtain ⟨c, N', G', U', R', H', O', b, M', now', e8, e9, h3, h0, st, hM⟩ := a_56 (vX := vX) (vO := vO) m8 m9 o hh hT
  refine ⟨(1, N', G', U', R', H', M', now', O'), ?_, rfl, inv_mk st (hs.mono (Nat.le_succ it) hT) ⟨l, n, bo.fr (hM 1 (by decide) (by decide))⟩ (wo.fr (hM 9 (by decide) (by decide))) (eo.fr (hM 2 (by decide) (by decide)))⟩
  simp only [C_56, ckx1 h6 hL, ckx2 h6 hL, ckx3 h6 hL, ckx4 h6 hL, ckx5 h6 hL, e8, e9, q_sb]
  exact tl3 h3 h0
theorem s_48 {xs : Nat → Int32} {L it : Nat} {vX : Nat → Int32} {vP : Nat → Int32} {vN : Nat → Int32} {vG : Nat → Nat → Int32} {vU : Nat → Nat → Int32} {vR : Nat → Nat → Int32} {vNd : Nat → Int32} {vGd : Nat → Nat → Int32} {vUd : Nat → Nat → Int32} {vRd : Nat → Nat → Int32} {vH : Nat → Int32} {vHV : Nat → NV} {vQF : Nat → Int32} {vQV : Nat → NV} {vB : Nat → Nat → Int32} {vBw : Nat → Nat → Int32} {vM : (Nat → Int32) × Int64} {vnow : Nat → Int32} {vdraft : Nat → Int32} {vspare : Nat → Int32} {vearlier : Nat → Int32} {vslots : Nat → Int32} {visKept : Nat → Int32} {vbuffer : Nat → Int32} {vout : Nat → Int32} {vO : Nat → Int64} (hI : InvP it vX vP vN vG vU vR vNd vGd vUd vRd vH vHV vQF vQV vB vBw vM vnow vdraft vspare vearlier vslots visKept vbuffer vout vO) (h6 : 6 * it + 6 ≤ L) (hL : L ≤ 3072) : ∃ r, C_48 xs L (nI (6 * it)) vX vN vG vU vR vH vHV vB vM vnow vearlier vbuffer vO = some r ∧ r.1 = 1 ∧ InvP (it + 1) vX vP vN r.2.1 vU vR vNd vGd vUd vRd r.2.2.1 r.2.2.2.1 vQF vQV r.2.2.2.2.1 vBw r.2.2.2.2.2.1 r.2.2.2.2.2.2.1 vdraft vspare r.2.2.2.2.2.2.2.1 vslots visKept vbuffer vout r.2.2.2.2.2.2.2.2 := by
  have hT : it + 1 ≤ 600 := by omega
  have hI0 := hI
  obtain ⟨D, l, n, o, m8, m9, hh, hs, bo, wo, eo⟩ := hI0
  obtain ⟨c, G', H', HV', B', O', b, M', now', e', e8, e9, h3, h0, st, hM, n', bo'⟩ := a_48 (vX := vX) (vO := vO) m8 m9 o hh hT bo (xs (Int32.toNatClampNeg (nI (6 * it) + 1))) (xs (Int32.toNatClampNeg (nI (6 * it) + 2)))
  refine ⟨(1, G', H', HV', B', M', now', e', O'), ?_, rfl, inv_mk st (hs.mono (Nat.le_succ it) hT) ⟨l, n', bo'⟩ (wo.fr (hM 9 (by decide) (by decide) (by decide))) (eo.fr (hM 2 (by decide) (by decide) (by decide)))⟩
  simp only [C_48, ckx1 h6 hL, ckx2 h6 hL, ckx3 h6 hL, ckx4 h6 hL, ckx5 h6 hL, e8, e9, q_sb]
  exact tl3 h3 h0
theorem s_57 {xs : Nat → Int32} {L it : Nat} {vX : Nat → Int32} {vP : Nat → Int32} {vN : Nat → Int32} {vG : Nat → Nat → Int32} {vU : Nat → Nat → Int32} {vR : Nat → Nat → Int32} {vNd : Nat → Int32} {vGd : Nat → Nat → Int32} {vUd : Nat → Nat → Int32} {vRd : Nat → Nat → Int32} {vH : Nat → Int32} {vHV : Nat → NV} {vQF : Nat → Int32} {vQV : Nat → NV} {vB : Nat → Nat → Int32} {vBw : Nat → Nat → Int32} {vM : (Nat → Int32) × Int64} {vnow : Nat → Int32} {vdraft : Nat → Int32} {vspare : Nat → Int32} {vearlier : Nat → Int32} {vslots : Nat → Int32} {visKept : Nat → Int32} {vbuffer : Nat → Int32} {vout : Nat → Int32} {vO : Nat → Int64} (hI : InvP it vX vP vN vG vU vR vNd vGd vUd vRd vH vHV vQF vQV vB vBw vM vnow vdraft vspare vearlier vslots visKept vbuffer vout vO) (h6 : 6 * it + 6 ≤ L) (hL : L ≤ 3072) : ∃ r, C_57 xs L (nI (6 * it)) vX vN vG vU vR vQF vQV vM vnow vslots visKept vO = some r ∧ r.1 = 1 ∧ InvP (it + 1) vX vP vN vG vU vR vNd vGd vUd vRd vH vHV r.2.1 r.2.2.1 vB vBw r.2.2.2.1 vnow vdraft vspare vearlier r.2.2.2.2.1 r.2.2.2.2.2.1 vbuffer vout r.2.2.2.2.2.2 := by
  have hT : it + 1 ≤ 600 := by omega
  have hI0 := hI
  obtain ⟨D, l, n, o, m8, m9, hh, hs, bo, wo, eo⟩ := hI0
  obtain ⟨c, QF', QV', O', b, M', sl', ik', e8, e9, h3, h0, sn, hM⟩ := a_57 (vX := vX) (vO := vO) (vM := vM) m8 m9 o hs hT (xs (Int32.toNatClampNeg (nI (6 * it) + 1)))
  refine ⟨(1, QF', QV', M', sl', ik', O'), ?_, rfl, inv_mk ⟨D, o.mono (Nat.le_succ it) hT, m8, m9, HistOk.mono (HistOk.m (vM := vM) hh (hM 0 (by decide))) (Nat.le_succ it) hT⟩ sn ⟨l, n, bo.fr (hM 1 (by decide))⟩ (wo.fr (hM 9 (by decide))) (eo.fr (hM 2 (by decide)))⟩
  simp only [C_57, ckx1 h6 hL, ckx2 h6 hL, ckx3 h6 hL, ckx4 h6 hL, ckx5 h6 hL, e8, e9, q_sb]
  exact tl3 h3 h0
theorem s_59 {xs : Nat → Int32} {L it : Nat} {vX : Nat → Int32} {vP : Nat → Int32} {vN : Nat → Int32} {vG : Nat → Nat → Int32} {vU : Nat → Nat → Int32} {vR : Nat → Nat → Int32} {vNd : Nat → Int32} {vGd : Nat → Nat → Int32} {vUd : Nat → Nat → Int32} {vRd : Nat → Nat → Int32} {vH : Nat → Int32} {vHV : Nat → NV} {vQF : Nat → Int32} {vQV : Nat → NV} {vB : Nat → Nat → Int32} {vBw : Nat → Nat → Int32} {vM : (Nat → Int32) × Int64} {vnow : Nat → Int32} {vdraft : Nat → Int32} {vspare : Nat → Int32} {vearlier : Nat → Int32} {vslots : Nat → Int32} {visKept : Nat → Int32} {vbuffer : Nat → Int32} {vout : Nat → Int32} {vO : Nat → Int64} (hI : InvP it vX vP vN vG vU vR vNd vGd vUd vRd vH vHV vQF vQV vB vBw vM vnow vdraft vspare vearlier vslots visKept vbuffer vout vO) (h6 : 6 * it + 6 ≤ L) (hL : L ≤ 3072) : ∃ r, C_59 xs L (nI (6 * it)) vX vN vG vR vBw vM vnow vout vO = some r ∧ r.1 = 1 ∧ InvP (it + 1) vX vP vN vG vU vR vNd vGd vUd vRd vH vHV vQF vQV vB r.2.1 r.2.2.1 vnow vdraft vspare vearlier vslots visKept vbuffer r.2.2.2.1 r.2.2.2.2 := by
  have hT : it + 1 ≤ 600 := by omega
  have hI0 := hI
  obtain ⟨D, l, n, o, m8, m9, hh, hs, bo, wo, eo⟩ := hI0
  obtain ⟨c, B', O', b, M', o', e8, e9, h3, h0, wo', hM⟩ := a_59 (vX := vX) (vO := vO) (vM := vM) m8 m9 o.1 wo (xs (Int32.toNatClampNeg (nI (6 * it) + 1)))
  refine ⟨(1, B', M', o', O'), ?_, rfl, inv_mk ⟨D, o.mono (Nat.le_succ it) hT, m8, m9, HistOk.mono (HistOk.m (vM := vM) hh (hM 0 (by decide) (by decide))) (Nat.le_succ it) hT⟩ (hs.mono (Nat.le_succ it) hT) ⟨l, n, bo.fr (hM 1 (by decide) (by decide))⟩ wo' (eo.fr (hM 2 (by decide) (by decide)))⟩
  simp only [C_59, ckx1 h6 hL, ckx2 h6 hL, ckx3 h6 hL, ckx4 h6 hL, ckx5 h6 hL, e8, e9, q_sb]
  exact tl3 h3 h0
theorem s_0 {xs : Nat → Int32} {L it : Nat} {vX : Nat → Int32} {vP : Nat → Int32} {vN : Nat → Int32} {vG : Nat → Nat → Int32} {vU : Nat → Nat → Int32} {vR : Nat → Nat → Int32} {vNd : Nat → Int32} {vGd : Nat → Nat → Int32} {vUd : Nat → Nat → Int32} {vRd : Nat → Nat → Int32} {vH : Nat → Int32} {vHV : Nat → NV} {vQF : Nat → Int32} {vQV : Nat → NV} {vB : Nat → Nat → Int32} {vBw : Nat → Nat → Int32} {vM : (Nat → Int32) × Int64} {vnow : Nat → Int32} {vdraft : Nat → Int32} {vspare : Nat → Int32} {vearlier : Nat → Int32} {vslots : Nat → Int32} {visKept : Nat → Int32} {vbuffer : Nat → Int32} {vout : Nat → Int32} {vO : Nat → Int64} (hI : InvP it vX vP vN vG vU vR vNd vGd vUd vRd vH vHV vQF vQV vB vBw vM vnow vdraft vspare vearlier vslots visKept vbuffer vout vO) (h6 : 6 * it + 6 ≤ L) (hL : L ≤ 3072) : ∃ r, C_0 xs L (nI (6 * it)) vX vB vM vbuffer vO = some r ∧ r.1 = 1 ∧ InvP (it + 1) vX vP vN vG vU vR vNd vGd vUd vRd vH vHV vQF vQV r.2.1 vBw r.2.2.1 vnow vdraft vspare vearlier vslots visKept r.2.2.2.1 vout r.2.2.2.2 := by
  have hT : it + 1 ≤ 600 := by omega
  have hI0 := hI
  obtain ⟨D, l, n, o, m8, m9, hh, hs, bo, wo, eo⟩ := hI0
  obtain ⟨c, B', O', b, M', vb', e8, e9, h3, h0, bo', hM⟩ := a_0 (vX := vX) (vO := vO) bo.toE (xs (Int32.toNatClampNeg (nI (6 * it) + 1))) (xs (Int32.toNatClampNeg (nI (6 * it) + 2))) (xs (Int32.toNatClampNeg (nI (6 * it) + 3))) (xs (Int32.toNatClampNeg (nI (6 * it) + 4))) (xs (Int32.toNatClampNeg (nI (6 * it) + 5)))
  refine ⟨(1, B', M', vb', O'), ?_, rfl, inv_mk ⟨D, o.mono (Nat.le_succ it) hT, m8, m9, HistOk.mono (HistOk.m (vM := vM) hh (hM 0 (by decide) (by decide))) (Nat.le_succ it) hT⟩ (hs.mono (Nat.le_succ it) hT) (by obtain ⟨n', h⟩ := bo'; exact ⟨_, n', h.ok⟩) (wo.fr (hM 9 (by decide) (by decide))) (eo.fr (hM 2 (by decide) (by decide)))⟩
  simp only [C_0, ckx1 h6 hL, ckx2 h6 hL, ckx3 h6 hL, ckx4 h6 hL, ckx5 h6 hL, e8, e9, q_sb]
  exact tl3 h3 h0
theorem s_1 {xs : Nat → Int32} {L it : Nat} {vX : Nat → Int32} {vP : Nat → Int32} {vN : Nat → Int32} {vG : Nat → Nat → Int32} {vU : Nat → Nat → Int32} {vR : Nat → Nat → Int32} {vNd : Nat → Int32} {vGd : Nat → Nat → Int32} {vUd : Nat → Nat → Int32} {vRd : Nat → Nat → Int32} {vH : Nat → Int32} {vHV : Nat → NV} {vQF : Nat → Int32} {vQV : Nat → NV} {vB : Nat → Nat → Int32} {vBw : Nat → Nat → Int32} {vM : (Nat → Int32) × Int64} {vnow : Nat → Int32} {vdraft : Nat → Int32} {vspare : Nat → Int32} {vearlier : Nat → Int32} {vslots : Nat → Int32} {visKept : Nat → Int32} {vbuffer : Nat → Int32} {vout : Nat → Int32} {vO : Nat → Int64} (hI : InvP it vX vP vN vG vU vR vNd vGd vUd vRd vH vHV vQF vQV vB vBw vM vnow vdraft vspare vearlier vslots visKept vbuffer vout vO) (h6 : 6 * it + 6 ≤ L) (hL : L ≤ 3072) : ∃ r, C_1 xs L (nI (6 * it)) vX vB vM vO = some r ∧ r.1 = 1 ∧ InvP (it + 1) vX vP vN vG vU vR vNd vGd vUd vRd vH vHV vQF vQV r.2.1 vBw r.2.2.1 vnow vdraft vspare vearlier vslots visKept vbuffer vout r.2.2.2 := by
  have hT : it + 1 ≤ 600 := by omega
  have hI0 := hI
  obtain ⟨D, l, n, o, m8, m9, hh, hs, bo, wo, eo⟩ := hI0
  obtain ⟨c, B', O', b, M', e8, e9, h3, h0, bo', hM⟩ := a_1 (vX := vX) (vO := vO) bo.toE (xs (Int32.toNatClampNeg (nI (6 * it) + 1)))
  refine ⟨(1, B', M', O'), ?_, rfl, inv_mk ⟨D, o.mono (Nat.le_succ it) hT, m8, m9, HistOk.mono (HistOk.m (vM := vM) hh (hM 0 (by decide) (by decide))) (Nat.le_succ it) hT⟩ (hs.mono (Nat.le_succ it) hT) (by obtain ⟨n', h⟩ := bo'; exact ⟨_, n', h.ok⟩) (wo.fr (hM 9 (by decide) (by decide))) (eo.fr (hM 2 (by decide) (by decide)))⟩
  simp only [C_1, ckx1 h6 hL, ckx2 h6 hL, ckx3 h6 hL, ckx4 h6 hL, ckx5 h6 hL, e8, e9, q_sb]
  exact tl3 h3 h0
theorem s_47 {xs : Nat → Int32} {L it : Nat} {vX : Nat → Int32} {vP : Nat → Int32} {vN : Nat → Int32} {vG : Nat → Nat → Int32} {vU : Nat → Nat → Int32} {vR : Nat → Nat → Int32} {vNd : Nat → Int32} {vGd : Nat → Nat → Int32} {vUd : Nat → Nat → Int32} {vRd : Nat → Nat → Int32} {vH : Nat → Int32} {vHV : Nat → NV} {vQF : Nat → Int32} {vQV : Nat → NV} {vB : Nat → Nat → Int32} {vBw : Nat → Nat → Int32} {vM : (Nat → Int32) × Int64} {vnow : Nat → Int32} {vdraft : Nat → Int32} {vspare : Nat → Int32} {vearlier : Nat → Int32} {vslots : Nat → Int32} {visKept : Nat → Int32} {vbuffer : Nat → Int32} {vout : Nat → Int32} {vO : Nat → Int64} (hI : InvP it vX vP vN vG vU vR vNd vGd vUd vRd vH vHV vQF vQV vB vBw vM vnow vdraft vspare vearlier vslots visKept vbuffer vout vO) (h6 : 6 * it + 6 ≤ L) (hL : L ≤ 3072) : ∃ r, C_47 xs L (nI (6 * it)) vX vN vG vM vnow vspare vO = some r ∧ r.1 = 1 ∧ InvP (it + 1) vX vP vN vG vU vR vNd vGd vUd vRd vH vHV vQF vQV vB vBw r.2.1 vnow vdraft r.2.2.1 vearlier vslots visKept vbuffer vout r.2.2.2 := by
  have hT : it + 1 ≤ 600 := by omega
  have hI0 := hI
  obtain ⟨D, l, n, o, m8, m9, hh, hs, bo, wo, eo⟩ := hI0
  obtain ⟨c, O', b, M', s', e8, e9, h3, h0, hM⟩ := a_47 (vX := vX) (vO := vO) (vM := vM) (vspare := vspare) m8 m9 o (xs (Int32.toNatClampNeg (nI (6 * it) + 1)))
  refine ⟨(1, M', s', O'), ?_, rfl, inv_mk ⟨D, o.mono (Nat.le_succ it) hT, m8, m9, HistOk.mono (HistOk.m (vM := vM) hh (hM 0 (by decide))) (Nat.le_succ it) hT⟩ (hs.mono (Nat.le_succ it) hT) ⟨l, n, bo.fr (hM 1 (by decide))⟩ (wo.fr (hM 9 (by decide))) (eo.fr (hM 2 (by decide)))⟩
  simp only [C_47, ckx1 h6 hL, ckx2 h6 hL, ckx3 h6 hL, ckx4 h6 hL, ckx5 h6 hL, e8, e9, q_sb]
  exact tl3 h3 h0
theorem s_2 {xs : Nat → Int32} {L it : Nat} {vX : Nat → Int32} {vP : Nat → Int32} {vN : Nat → Int32} {vG : Nat → Nat → Int32} {vU : Nat → Nat → Int32} {vR : Nat → Nat → Int32} {vNd : Nat → Int32} {vGd : Nat → Nat → Int32} {vUd : Nat → Nat → Int32} {vRd : Nat → Nat → Int32} {vH : Nat → Int32} {vHV : Nat → NV} {vQF : Nat → Int32} {vQV : Nat → NV} {vB : Nat → Nat → Int32} {vBw : Nat → Nat → Int32} {vM : (Nat → Int32) × Int64} {vnow : Nat → Int32} {vdraft : Nat → Int32} {vspare : Nat → Int32} {vearlier : Nat → Int32} {vslots : Nat → Int32} {visKept : Nat → Int32} {vbuffer : Nat → Int32} {vout : Nat → Int32} {vO : Nat → Int64} (hI : InvP it vX vP vN vG vU vR vNd vGd vUd vRd vH vHV vQF vQV vB vBw vM vnow vdraft vspare vearlier vslots visKept vbuffer vout vO) (h6 : 6 * it + 6 ≤ L) (hL : L ≤ 3072) : ∃ r, C_2 xs L (nI (6 * it)) vX vP vN vG vU vR vNd vGd vUd vRd vH vQF vB vM vnow vdraft visKept vbuffer vO = some r ∧ r.1 = 1 ∧ InvP (it + 1) r.2.1 r.2.2.1 r.2.2.2.1 r.2.2.2.2.1 r.2.2.2.2.2.1 r.2.2.2.2.2.2.1 r.2.2.2.2.2.2.2.1 r.2.2.2.2.2.2.2.2.1 r.2.2.2.2.2.2.2.2.2.1 r.2.2.2.2.2.2.2.2.2.2.1 r.2.2.2.2.2.2.2.2.2.2.2.1 vHV r.2.2.2.2.2.2.2.2.2.2.2.2.1 vQV r.2.2.2.2.2.2.2.2.2.2.2.2.2.1 vBw r.2.2.2.2.2.2.2.2.2.2.2.2.2.2.1 r.2.2.2.2.2.2.2.2.2.2.2.2.2.2.2.1 r.2.2.2.2.2.2.2.2.2.2.2.2.2.2.2.2.1 vspare vearlier vslots r.2.2.2.2.2.2.2.2.2.2.2.2.2.2.2.2.2.1 vbuffer vout r.2.2.2.2.2.2.2.2.2.2.2.2.2.2.2.2.2.2 := by
  have hT : it + 1 ≤ 600 := by omega
  have hI0 := hI
  obtain ⟨D, l, n, o, m8, m9, hh, hs, bo, wo, eo⟩ := hI0
  obtain ⟨c, X', P', N', G', U', R', Nd', Gd', Ud', Rd', H', QF', B', O', b, M', now', d', ik', e8, e9, h3, h0, st, sn, bo', eo', h9⟩ := a_2 (vX := vX) (vP := vP) (vNd := vNd) (vGd := vGd) (vUd := vUd) (vRd := vRd) (vdraft := vdraft) (vO := vO) m8 m9 o hh hs bo hT
  refine ⟨(1, X', P', N', G', U', R', Nd', Gd', Ud', Rd', H', QF', B', M', now', d', ik', O'), ?_, rfl, inv_mk st sn bo' (wo.fr h9) eo'⟩
  simp only [C_2, ckx1 h6 hL, ckx2 h6 hL, ckx3 h6 hL, ckx4 h6 hL, ckx5 h6 hL, e8, e9, q_sb]
  exact tl3 h3 h0
theorem step_all {xs : Nat → Int32} {L : Nat} : StepAll xs L InvP := by
  intro it vX vP vN vG vU vR vNd vGd vUd vRd vH vHV vQF vQV vB vBw vM vnow vdraft vspare vearlier vslots visKept vbuffer vout vO hI h6 hL
  have hT : it + 1 ≤ 600 := by omega
  exact ⟨inv_M hI hT (fun _ _ => rfl), s_0 hI h6 hL, s_1 hI h6 hL, s_2 hI h6 hL, s_3 hI h6 hL, s_4 hI h6 hL, s_5 hI h6 hL, s_6 hI h6 hL, s_7 hI h6 hL, s_8 hI h6 hL, s_9 hI h6 hL, s_10 hI h6 hL, s_11 hI h6 hL, s_12 hI h6 hL, s_13 hI h6 hL, s_14 hI h6 hL, s_15 hI h6 hL, s_16 hI h6 hL, s_17 hI h6 hL, s_18 hI h6 hL, s_19 hI h6 hL, s_20 hI h6 hL, s_21 hI h6 hL, s_22 hI h6 hL, s_23 hI h6 hL, s_24 hI h6 hL, s_25 hI h6 hL, s_26 hI h6 hL, s_27 hI h6 hL, s_28 hI h6 hL, s_29 hI h6 hL, s_30 hI h6 hL, s_31 hI h6 hL, s_32 hI h6 hL, s_33 hI h6 hL, s_34 hI h6 hL, s_35 hI h6 hL, s_36 hI h6 hL, s_37 hI h6 hL, s_38 hI h6 hL, s_39 hI h6 hL, s_40 hI h6 hL, s_41 hI h6 hL, s_42 hI h6 hL, s_43 hI h6 hL, s_44 hI h6 hL, s_45 hI h6 hL, s_46 hI h6 hL, s_47 hI h6 hL, s_48 hI h6 hL, s_49 hI h6 hL, s_50 hI h6 hL, s_51 hI h6 hL, s_52 hI h6 hL, s_53 hI h6 hL, s_54 hI h6 hL, s_55 hI h6 hL, s_56 hI h6 hL, s_57 hI h6 hL, s_58 hI h6 hL, s_59 hI h6 hL, s_60 hI h6 hL⟩
