/-! the law's loop, out of a step of each case under an invariant Inv of all values-/
def StepAll (xs : Nat → Int32) (L : Nat) (Inv : Nat → (Nat → Int32) → (Nat → Int32) → (Nat → Int32) → (Nat → Nat → Int32) → (Nat → Nat → Int32) → (Nat → Nat → Int32) → (Nat → Int32) → (Nat → Nat → Int32) → (Nat → Nat → Int32) → (Nat → Nat → Int32) → (Nat → Int32) → (Nat → NV) → (Nat → Int32) → (Nat → NV) → (Nat → Nat → Int32) → (Nat → Nat → Int32) → ((Nat → Int32) × Int64) → (Nat → Int32) → (Nat → Int32) → (Nat → Int32) → (Nat → Int32) → (Nat → Int32) → (Nat → Int32) → (Nat → Int32) → (Nat → Int32) → (Nat → Int64) → Prop) : Prop := ∀ (it : Nat) (vX : Nat → Int32) (vP : Nat → Int32) (vN : Nat → Int32) (vG : Nat → Nat → Int32) (vU : Nat → Nat → Int32) (vR : Nat → Nat → Int32) (vNd : Nat → Int32) (vGd : Nat → Nat → Int32) (vUd : Nat → Nat → Int32) (vRd : Nat → Nat → Int32) (vH : Nat → Int32) (vHV : Nat → NV) (vQF : Nat → Int32) (vQV : Nat → NV) (vB : Nat → Nat → Int32) (vBw : Nat → Nat → Int32) (vM : (Nat → Int32) × Int64) (vnow : Nat → Int32) (vdraft : Nat → Int32) (vspare : Nat → Int32) (vearlier : Nat → Int32) (vslots : Nat → Int32) (visKept : Nat → Int32) (vbuffer : Nat → Int32) (vout : Nat → Int32) (vO : Nat → Int64), Inv it vX vP vN vG vU vR vNd vGd vUd vRd vH vHV vQF vQV vB vBw vM vnow vdraft vspare vearlier vslots visKept vbuffer vout vO → 6 * it + 6 ≤ L → L ≤ 3072 → Inv (it + 1) vX vP vN vG vU vR vNd vGd vUd vRd vH vHV vQF vQV vB vBw vM vnow vdraft vspare vearlier vslots visKept vbuffer vout vO ∧
  (∃ r, C_0 xs L (nI (6 * it)) vX vB vM vbuffer vO = some r ∧ r.1 = 1 ∧ Inv (it + 1) vX vP vN vG vU vR vNd vGd vUd vRd vH vHV vQF vQV r.2.1 vBw r.2.2.1 vnow vdraft vspare vearlier vslots visKept r.2.2.2.1 vout r.2.2.2.2) ∧
  (∃ r, C_1 xs L (nI (6 * it)) vX vB vM vO = some r ∧ r.1 = 1 ∧ Inv (it + 1) vX vP vN vG vU vR vNd vGd vUd vRd vH vHV vQF vQV r.2.1 vBw r.2.2.1 vnow vdraft vspare vearlier vslots visKept vbuffer vout r.2.2.2) ∧
  (∃ r, C_2 xs L (nI (6 * it)) vX vP vN vG vU vR vNd vGd vUd vRd vH vQF vB vM vnow vdraft visKept vbuffer vO = some r ∧ r.1 = 1 ∧ Inv (it + 1) r.2.1 r.2.2.1 r.2.2.2.1 r.2.2.2.2.1 r.2.2.2.2.2.1 r.2.2.2.2.2.2.1 r.2.2.2.2.2.2.2.1 r.2.2.2.2.2.2.2.2.1 r.2.2.2.2.2.2.2.2.2.1 r.2.2.2.2.2.2.2.2.2.2.1 r.2.2.2.2.2.2.2.2.2.2.2.1 vHV r.2.2.2.2.2.2.2.2.2.2.2.2.1 vQV r.2.2.2.2.2.2.2.2.2.2.2.2.2.1 vBw r.2.2.2.2.2.2.2.2.2.2.2.2.2.2.1 r.2.2.2.2.2.2.2.2.2.2.2.2.2.2.2.1 r.2.2.2.2.2.2.2.2.2.2.2.2.2.2.2.2.1 vspare vearlier vslots r.2.2.2.2.2.2.2.2.2.2.2.2.2.2.2.2.2.1 vbuffer vout r.2.2.2.2.2.2.2.2.2.2.2.2.2.2.2.2.2.2) ∧
  (∃ r, C_3 xs L (nI (6 * it)) vX vM = some r ∧ r.1 = 1 ∧ Inv (it + 1) vX vP vN vG vU vR vNd vGd vUd vRd vH vHV vQF vQV vB vBw r.2 vnow vdraft vspare vearlier vslots visKept vbuffer vout vO) ∧
  (∃ r, C_4 xs L (nI (6 * it)) vX vM vO = some r ∧ r.1 = 1 ∧ Inv (it + 1) vX vP vN vG vU vR vNd vGd vUd vRd vH vHV vQF vQV vB vBw r.2.1 vnow vdraft vspare vearlier vslots visKept vbuffer vout r.2.2) ∧
  (∃ r, C_5 xs L (nI (6 * it)) vX vN vM vnow = some r ∧ r.1 = 1 ∧ Inv (it + 1) vX vP vN vG vU vR vNd vGd vUd vRd vH vHV vQF vQV vB vBw r.2 vnow vdraft vspare vearlier vslots visKept vbuffer vout vO) ∧
  (∃ r, C_6 xs L (nI (6 * it)) vX vN vM vnow = some r ∧ r.1 = 1 ∧ Inv (it + 1) vX vP vN vG vU vR vNd vGd vUd vRd vH vHV vQF vQV vB vBw r.2 vnow vdraft vspare vearlier vslots visKept vbuffer vout vO) ∧
  (∃ r, C_7 xs L (nI (6 * it)) vX vN vM vnow = some r ∧ r.1 = 1 ∧ Inv (it + 1) vX vP vN vG vU vR vNd vGd vUd vRd vH vHV vQF vQV vB vBw r.2 vnow vdraft vspare vearlier vslots visKept vbuffer vout vO) ∧
  (∃ r, C_8 xs L (nI (6 * it)) vX vN vM vnow = some r ∧ r.1 = 1 ∧ Inv (it + 1) vX vP vN vG vU vR vNd vGd vUd vRd vH vHV vQF vQV vB vBw r.2 vnow vdraft vspare vearlier vslots visKept vbuffer vout vO) ∧
  (∃ r, C_9 xs L (nI (6 * it)) vX vN vM vnow = some r ∧ r.1 = 1 ∧ Inv (it + 1) vX vP vN vG vU vR vNd vGd vUd vRd vH vHV vQF vQV vB vBw r.2 vnow vdraft vspare vearlier vslots visKept vbuffer vout vO) ∧
  (∃ r, C_10 xs L (nI (6 * it)) vX vN vM vnow = some r ∧ r.1 = 1 ∧ Inv (it + 1) vX vP vN vG vU vR vNd vGd vUd vRd vH vHV vQF vQV vB vBw r.2 vnow vdraft vspare vearlier vslots visKept vbuffer vout vO) ∧
  (∃ r, C_11 xs L (nI (6 * it)) vX vN vR vM vnow = some r ∧ r.1 = 1 ∧ Inv (it + 1) vX vP vN vG vU vR vNd vGd vUd vRd vH vHV vQF vQV vB vBw r.2 vnow vdraft vspare vearlier vslots visKept vbuffer vout vO) ∧
  (∃ r, C_12 xs L (nI (6 * it)) vX vN vM vnow = some r ∧ r.1 = 1 ∧ Inv (it + 1) vX vP vN vG vU vR vNd vGd vUd vRd vH vHV vQF vQV vB vBw r.2 vnow vdraft vspare vearlier vslots visKept vbuffer vout vO) ∧
  (∃ r, C_13 xs L (nI (6 * it)) vX vN vG vM vnow = some r ∧ r.1 = 1 ∧ Inv (it + 1) vX vP vN vG vU vR vNd vGd vUd vRd vH vHV vQF vQV vB vBw r.2 vnow vdraft vspare vearlier vslots visKept vbuffer vout vO) ∧
  (∃ r, C_14 xs L (nI (6 * it)) vX vN vG vM vnow vO = some r ∧ r.1 = 1 ∧ Inv (it + 1) vX vP vN vG vU vR vNd vGd vUd vRd vH vHV vQF vQV vB vBw r.2.1 vnow vdraft vspare vearlier vslots visKept vbuffer vout r.2.2) ∧
  (∃ r, C_15 xs L (nI (6 * it)) vX vN vG vM vnow vO = some r ∧ r.1 = 1 ∧ Inv (it + 1) vX vP vN vG vU vR vNd vGd vUd vRd vH vHV vQF vQV vB vBw r.2.1 vnow vdraft vspare vearlier vslots visKept vbuffer vout r.2.2) ∧
  (∃ r, C_16 xs L (nI (6 * it)) vX vN vG vB vM vnow vbuffer vO = some r ∧ r.1 = 1 ∧ Inv (it + 1) vX vP vN vG vU vR vNd vGd vUd vRd vH vHV vQF vQV vB vBw r.2.1 vnow vdraft vspare vearlier vslots visKept vbuffer vout r.2.2) ∧
  (∃ r, C_17 xs L (nI (6 * it)) vX vN vG vM vnow vO = some r ∧ r.1 = 1 ∧ Inv (it + 1) vX vP vN vG vU vR vNd vGd vUd vRd vH vHV vQF vQV vB vBw r.2.1 vnow vdraft vspare vearlier vslots visKept vbuffer vout r.2.2) ∧
  (∃ r, C_18 xs L (nI (6 * it)) vX vN vG vM vnow vO = some r ∧ r.1 = 1 ∧ Inv (it + 1) vX vP vN vG vU vR vNd vGd vUd vRd vH vHV vQF vQV vB vBw r.2.1 vnow vdraft vspare vearlier vslots visKept vbuffer vout r.2.2) ∧
  (∃ r, C_19 xs L (nI (6 * it)) vX vN vG vM vnow vO = some r ∧ r.1 = 1 ∧ Inv (it + 1) vX vP vN vG vU vR vNd vGd vUd vRd vH vHV vQF vQV vB vBw r.2.1 vnow vdraft vspare vearlier vslots visKept vbuffer vout r.2.2) ∧
  (∃ r, C_20 xs L (nI (6 * it)) vX vN vG vM vnow vO = some r ∧ r.1 = 1 ∧ Inv (it + 1) vX vP vN vG vU vR vNd vGd vUd vRd vH vHV vQF vQV vB vBw r.2.1 vnow vdraft vspare vearlier vslots visKept vbuffer vout r.2.2) ∧
  (∃ r, C_21 xs L (nI (6 * it)) vX vN vG vM vnow vO = some r ∧ r.1 = 1 ∧ Inv (it + 1) vX vP vN vG vU vR vNd vGd vUd vRd vH vHV vQF vQV vB vBw r.2.1 vnow vdraft vspare vearlier vslots visKept vbuffer vout r.2.2) ∧
  (∃ r, C_22 xs L (nI (6 * it)) vX vN vG vM vnow = some r ∧ r.1 = 1 ∧ Inv (it + 1) vX vP vN vG vU vR vNd vGd vUd vRd vH vHV vQF vQV vB vBw r.2 vnow vdraft vspare vearlier vslots visKept vbuffer vout vO) ∧
  (∃ r, C_23 xs L (nI (6 * it)) vX vN vG vM vnow vO = some r ∧ r.1 = 1 ∧ Inv (it + 1) vX vP vN vG vU vR vNd vGd vUd vRd vH vHV vQF vQV vB vBw r.2.1 vnow vdraft vspare vearlier vslots visKept vbuffer vout r.2.2) ∧
  (∃ r, C_24 xs L (nI (6 * it)) vX vN vU vM vnow = some r ∧ r.1 = 1 ∧ Inv (it + 1) vX vP vN vG vU vR vNd vGd vUd vRd vH vHV vQF vQV vB vBw r.2 vnow vdraft vspare vearlier vslots visKept vbuffer vout vO) ∧
  (∃ r, C_25 xs L (nI (6 * it)) vX vN vU vM vnow vO = some r ∧ r.1 = 1 ∧ Inv (it + 1) vX vP vN vG vU vR vNd vGd vUd vRd vH vHV vQF vQV vB vBw r.2.1 vnow vdraft vspare vearlier vslots visKept vbuffer vout r.2.2) ∧
  (∃ r, C_26 xs L (nI (6 * it)) vX vN vU vM vnow vO = some r ∧ r.1 = 1 ∧ Inv (it + 1) vX vP vN vG vU vR vNd vGd vUd vRd vH vHV vQF vQV vB vBw r.2.1 vnow vdraft vspare vearlier vslots visKept vbuffer vout r.2.2) ∧
  (∃ r, C_27 xs L (nI (6 * it)) vX vN vU vM vnow vO = some r ∧ r.1 = 1 ∧ Inv (it + 1) vX vP vN vG vU vR vNd vGd vUd vRd vH vHV vQF vQV vB vBw r.2.1 vnow vdraft vspare vearlier vslots visKept vbuffer vout r.2.2) ∧
  (∃ r, C_28 xs L (nI (6 * it)) vX vN vU vM vnow vO = some r ∧ r.1 = 1 ∧ Inv (it + 1) vX vP vN vG vU vR vNd vGd vUd vRd vH vHV vQF vQV vB vBw r.2.1 vnow vdraft vspare vearlier vslots visKept vbuffer vout r.2.2) ∧
  (∃ r, C_29 xs L (nI (6 * it)) vX vN vU vM vnow vO = some r ∧ r.1 = 1 ∧ Inv (it + 1) vX vP vN vG vU vR vNd vGd vUd vRd vH vHV vQF vQV vB vBw r.2.1 vnow vdraft vspare vearlier vslots visKept vbuffer vout r.2.2) ∧
  (∃ r, C_30 xs L (nI (6 * it)) vX vN vG vU vM vnow vO = some r ∧ r.1 = 1 ∧ Inv (it + 1) vX vP vN vG vU vR vNd vGd vUd vRd vH vHV vQF vQV vB vBw r.2.1 vnow vdraft vspare vearlier vslots visKept vbuffer vout r.2.2) ∧
  (∃ r, C_31 xs L (nI (6 * it)) vX vN vU vM vnow = some r ∧ r.1 = 1 ∧ Inv (it + 1) vX vP vN vG vU vR vNd vGd vUd vRd vH vHV vQF vQV vB vBw r.2 vnow vdraft vspare vearlier vslots visKept vbuffer vout vO) ∧
  (∃ r, C_32 xs L (nI (6 * it)) vX vN vU vM vnow = some r ∧ r.1 = 1 ∧ Inv (it + 1) vX vP vN vG vU vR vNd vGd vUd vRd vH vHV vQF vQV vB vBw r.2 vnow vdraft vspare vearlier vslots visKept vbuffer vout vO) ∧
  (∃ r, C_33 xs L (nI (6 * it)) vX vN vR vM vnow = some r ∧ r.1 = 1 ∧ Inv (it + 1) vX vP vN vG vU vR vNd vGd vUd vRd vH vHV vQF vQV vB vBw r.2 vnow vdraft vspare vearlier vslots visKept vbuffer vout vO) ∧
  (∃ r, C_34 xs L (nI (6 * it)) vX vN vR vM vnow vO = some r ∧ r.1 = 1 ∧ Inv (it + 1) vX vP vN vG vU vR vNd vGd vUd vRd vH vHV vQF vQV vB vBw r.2.1 vnow vdraft vspare vearlier vslots visKept vbuffer vout r.2.2) ∧
  (∃ r, C_35 xs L (nI (6 * it)) vX vN vR vM vnow vO = some r ∧ r.1 = 1 ∧ Inv (it + 1) vX vP vN vG vU vR vNd vGd vUd vRd vH vHV vQF vQV vB vBw r.2.1 vnow vdraft vspare vearlier vslots visKept vbuffer vout r.2.2) ∧
  (∃ r, C_36 xs L (nI (6 * it)) vX vN vR vM vnow vO = some r ∧ r.1 = 1 ∧ Inv (it + 1) vX vP vN vG vU vR vNd vGd vUd vRd vH vHV vQF vQV vB vBw r.2.1 vnow vdraft vspare vearlier vslots visKept vbuffer vout r.2.2) ∧
  (∃ r, C_37 xs L (nI (6 * it)) vX vN vG vR vM vnow vO = some r ∧ r.1 = 1 ∧ Inv (it + 1) vX vP vN vG vU vR vNd vGd vUd vRd vH vHV vQF vQV vB vBw r.2.1 vnow vdraft vspare vearlier vslots visKept vbuffer vout r.2.2) ∧
  (∃ r, C_38 xs L (nI (6 * it)) vX vN vG vR vM vnow vO = some r ∧ r.1 = 1 ∧ Inv (it + 1) vX vP vN vG vU vR vNd vGd vUd vRd vH vHV vQF vQV vB vBw r.2.1 vnow vdraft vspare vearlier vslots visKept vbuffer vout r.2.2) ∧
  (∃ r, C_39 xs L (nI (6 * it)) vX vN vG vR vM vnow vO = some r ∧ r.1 = 1 ∧ Inv (it + 1) vX vP vN vG vU vR vNd vGd vUd vRd vH vHV vQF vQV vB vBw r.2.1 vnow vdraft vspare vearlier vslots visKept vbuffer vout r.2.2) ∧
  (∃ r, C_40 xs L (nI (6 * it)) vX vN vG vR vM vnow vO = some r ∧ r.1 = 1 ∧ Inv (it + 1) vX vP vN vG vU vR vNd vGd vUd vRd vH vHV vQF vQV vB vBw r.2.1 vnow vdraft vspare vearlier vslots visKept vbuffer vout r.2.2) ∧
  (∃ r, C_41 xs L (nI (6 * it)) vX vN vG vR vM vnow vO = some r ∧ r.1 = 1 ∧ Inv (it + 1) vX vP vN vG vU vR vNd vGd vUd vRd vH vHV vQF vQV vB vBw r.2.1 vnow vdraft vspare vearlier vslots visKept vbuffer vout r.2.2) ∧
  (∃ r, C_42 xs L (nI (6 * it)) vX vN vG vR vM vnow vO = some r ∧ r.1 = 1 ∧ Inv (it + 1) vX vP vN vG vU vR vNd vGd vUd vRd vH vHV vQF vQV vB vBw r.2.1 vnow vdraft vspare vearlier vslots visKept vbuffer vout r.2.2) ∧
  (∃ r, C_43 xs L (nI (6 * it)) vX vN vG vR vM vnow = some r ∧ r.1 = 1 ∧ Inv (it + 1) vX vP vN vG vU vR vNd vGd vUd vRd vH vHV vQF vQV vB vBw r.2 vnow vdraft vspare vearlier vslots visKept vbuffer vout vO) ∧
  (∃ r, C_44 xs L (nI (6 * it)) vX vN vG vM vnow = some r ∧ r.1 = 1 ∧ Inv (it + 1) vX vP vN vG vU vR vNd vGd vUd vRd vH vHV vQF vQV vB vBw r.2 vnow vdraft vspare vearlier vslots visKept vbuffer vout vO) ∧
  (∃ r, C_45 xs L (nI (6 * it)) vX vN vG vU vM vnow vO = some r ∧ r.1 = 1 ∧ Inv (it + 1) vX vP vN vG vU vR vNd vGd vUd vRd vH vHV vQF vQV vB vBw r.2.1 vnow vdraft vspare vearlier vslots visKept vbuffer vout r.2.2) ∧
  (∃ r, C_46 xs L (nI (6 * it)) vX vN vG vR vM vnow vO = some r ∧ r.1 = 1 ∧ Inv (it + 1) vX vP vN vG vU vR vNd vGd vUd vRd vH vHV vQF vQV vB vBw r.2.1 vnow vdraft vspare vearlier vslots visKept vbuffer vout r.2.2) ∧
  (∃ r, C_47 xs L (nI (6 * it)) vX vN vG vM vnow vspare vO = some r ∧ r.1 = 1 ∧ Inv (it + 1) vX vP vN vG vU vR vNd vGd vUd vRd vH vHV vQF vQV vB vBw r.2.1 vnow vdraft r.2.2.1 vearlier vslots visKept vbuffer vout r.2.2.2) ∧
  (∃ r, C_48 xs L (nI (6 * it)) vX vN vG vU vR vH vHV vB vM vnow vearlier vbuffer vO = some r ∧ r.1 = 1 ∧ Inv (it + 1) vX vP vN r.2.1 vU vR vNd vGd vUd vRd r.2.2.1 r.2.2.2.1 vQF vQV r.2.2.2.2.1 vBw r.2.2.2.2.2.1 r.2.2.2.2.2.2.1 vdraft vspare r.2.2.2.2.2.2.2.1 vslots visKept vbuffer vout r.2.2.2.2.2.2.2.2) ∧
  (∃ r, C_49 xs L (nI (6 * it)) vX vN vG vU vR vH vHV vM vnow vearlier vO = some r ∧ r.1 = 1 ∧ Inv (it + 1) vX vP vN vG r.2.1 vR vNd vGd vUd vRd r.2.2.1 r.2.2.2.1 vQF vQV vB vBw r.2.2.2.2.1 r.2.2.2.2.2.1 vdraft vspare r.2.2.2.2.2.2.1 vslots visKept vbuffer vout r.2.2.2.2.2.2.2) ∧
  (∃ r, C_50 xs L (nI (6 * it)) vX vN vG vU vR vH vHV vM vnow vearlier vO = some r ∧ r.1 = 1 ∧ Inv (it + 1) vX vP vN r.2.1 r.2.2.1 r.2.2.2.1 vNd vGd vUd vRd r.2.2.2.2.1 r.2.2.2.2.2.1 vQF vQV vB vBw r.2.2.2.2.2.2.1 r.2.2.2.2.2.2.2.1 vdraft vspare r.2.2.2.2.2.2.2.2.1 vslots visKept vbuffer vout r.2.2.2.2.2.2.2.2.2) ∧
  (∃ r, C_51 xs L (nI (6 * it)) vX vN vG vU vR vH vHV vM vnow vearlier vO = some r ∧ r.1 = 1 ∧ Inv (it + 1) vX vP r.2.1 r.2.2.1 r.2.2.2.1 r.2.2.2.2.1 vNd vGd vUd vRd r.2.2.2.2.2.1 r.2.2.2.2.2.2.1 vQF vQV vB vBw r.2.2.2.2.2.2.2.1 r.2.2.2.2.2.2.2.2.1 vdraft vspare r.2.2.2.2.2.2.2.2.2.1 vslots visKept vbuffer vout r.2.2.2.2.2.2.2.2.2.2) ∧
  (∃ r, C_52 xs L (nI (6 * it)) vX vN vG vU vR vH vHV vM vnow vearlier vO = some r ∧ r.1 = 1 ∧ Inv (it + 1) vX vP r.2.1 r.2.2.1 r.2.2.2.1 vR vNd vGd vUd vRd r.2.2.2.2.1 r.2.2.2.2.2.1 vQF vQV vB vBw r.2.2.2.2.2.2.1 r.2.2.2.2.2.2.2.1 vdraft vspare r.2.2.2.2.2.2.2.2.1 vslots visKept vbuffer vout r.2.2.2.2.2.2.2.2.2) ∧
  (∃ r, C_53 xs L (nI (6 * it)) vX vN vG vU vR vH vHV vM vnow vearlier vO = some r ∧ r.1 = 1 ∧ Inv (it + 1) vX vP vN r.2.1 vU vR vNd vGd vUd vRd r.2.2.1 r.2.2.2.1 vQF vQV vB vBw r.2.2.2.2.1 r.2.2.2.2.2.1 vdraft vspare r.2.2.2.2.2.2.1 vslots visKept vbuffer vout r.2.2.2.2.2.2.2) ∧
  (∃ r, C_54 xs L (nI (6 * it)) vX vN vG vU vR vH vHV vM vnow vearlier vO = some r ∧ r.1 = 1 ∧ Inv (it + 1) vX vP r.2.1 vG vU vR vNd vGd vUd vRd r.2.2.1 r.2.2.2.1 vQF vQV vB vBw r.2.2.2.2.1 r.2.2.2.2.2.1 vdraft vspare r.2.2.2.2.2.2.1 vslots visKept vbuffer vout r.2.2.2.2.2.2.2) ∧
  (∃ r, C_55 xs L (nI (6 * it)) vX vN vG vU vR vH vHV vM vnow vearlier vO = some r ∧ r.1 = 1 ∧ Inv (it + 1) vX vP r.2.1 vG vU vR vNd vGd vUd vRd r.2.2.1 r.2.2.2.1 vQF vQV vB vBw r.2.2.2.2.1 r.2.2.2.2.2.1 vdraft vspare r.2.2.2.2.2.2.1 vslots visKept vbuffer vout r.2.2.2.2.2.2.2) ∧
  (∃ r, C_56 xs L (nI (6 * it)) vX vN vG vU vR vH vHV vM vnow vearlier vO = some r ∧ r.1 = 1 ∧ Inv (it + 1) vX vP r.2.1 r.2.2.1 r.2.2.2.1 r.2.2.2.2.1 vNd vGd vUd vRd r.2.2.2.2.2.1 vHV vQF vQV vB vBw r.2.2.2.2.2.2.1 r.2.2.2.2.2.2.2.1 vdraft vspare vearlier vslots visKept vbuffer vout r.2.2.2.2.2.2.2.2) ∧
  (∃ r, C_57 xs L (nI (6 * it)) vX vN vG vU vR vQF vQV vM vnow vslots visKept vO = some r ∧ r.1 = 1 ∧ Inv (it + 1) vX vP vN vG vU vR vNd vGd vUd vRd vH vHV r.2.1 r.2.2.1 vB vBw r.2.2.2.1 vnow vdraft vspare vearlier r.2.2.2.2.1 r.2.2.2.2.2.1 vbuffer vout r.2.2.2.2.2.2) ∧
  (∃ r, C_58 xs L (nI (6 * it)) vX vN vG vU vR vH vHV vQF vQV vM vnow vearlier vslots visKept vO = some r ∧ r.1 = 1 ∧ Inv (it + 1) vX vP r.2.1 r.2.2.1 r.2.2.2.1 r.2.2.2.2.1 vNd vGd vUd vRd r.2.2.2.2.2.1 r.2.2.2.2.2.2.1 vQF vQV vB vBw r.2.2.2.2.2.2.2.1 r.2.2.2.2.2.2.2.2.1 vdraft vspare r.2.2.2.2.2.2.2.2.2.1 vslots visKept vbuffer vout r.2.2.2.2.2.2.2.2.2.2) ∧
  (∃ r, C_59 xs L (nI (6 * it)) vX vN vG vR vBw vM vnow vout vO = some r ∧ r.1 = 1 ∧ Inv (it + 1) vX vP vN vG vU vR vNd vGd vUd vRd vH vHV vQF vQV vB r.2.1 r.2.2.1 vnow vdraft vspare vearlier vslots visKept vbuffer r.2.2.2.1 r.2.2.2.2) ∧
  (∃ r, C_60 xs L (nI (6 * it)) vX vBw vM vout vO = some r ∧ r.1 = 1 ∧ Inv (it + 1) vX vP vN vG vU vR vNd vGd vUd vRd vH vHV vQF vQV vB vBw r.2.1 vnow vdraft vspare vearlier vslots visKept vbuffer vout r.2.2)
theorem lp_cond {L it : Nat} (hL : L ≤ 3072) (h : 6 * it ≤ L) : (Int32.ofNat L - 6 < nI (6 * it)) ↔ L < 6 * it + 6 := by
  have h1 : (nI L - nI 6).toInt = (L : Int) - 6 := pk_sub_toInt (a := L) (b := 6) (by omega) (by omega)
  have h2 : (nI (6 * it)).toInt = ((6 * it : Nat) : Int) := nI_toInt (by omega)
  have h3 : (Int32.ofNat L - 6 : Int32) = nI L - nI 6 := rfl
  rw [h3, Int32.lt_iff_toInt_lt, h1, h2]
  omega
set_option maxHeartbeats 40000000 in
set_option maxRecDepth 100000 in
theorem law_loop {p : Program} {l : Launch} {e : Env} {s : State} {m : MethodId} {below : List Frame} {meth : Method} {c : Code} {b L : Nat} {xs : Nat → Int32} (hst : l.stackTraces = false) (C0 : lw_At p s m meth c b L xs) (hL : L ≤ 3072) {E : Ev} (hK : KX E s) (hE : EX E (LA s) s s.heap) (hN : NC s) (aX : Nat) (aB : Nat → Nat) (aBw : Nat → Nat) (aP : Nat) (aN : Nat) (aNd : Nat) (aH : Nat) (aQ : Nat) (aG : Nat → Nat) (aU : Nat → Nat) (aR : Nat → Nat) (aGd : Nat → Nat) (aUd : Nat → Nat) (aRd : Nat → Nat) (aHA : Nat) (kn : Nat → Nat) (kg : Nat → Nat → Nat) (ku : Nat → Nat → Nat) (kr : Nat → Nat → Nat) (aQA : Nat) (aQF : Nat) (qn : Nat → Nat) (qg : Nat → Nat → Nat) (qu : Nat → Nat → Nat) (qr : Nat → Nat → Nat) (aM : Nat → Nat) (aO : Nat) {Inv : Nat → (Nat → Int32) → (Nat → Int32) → (Nat → Int32) → (Nat → Nat → Int32) → (Nat → Nat → Int32) → (Nat → Nat → Int32) → (Nat → Int32) → (Nat → Nat → Int32) → (Nat → Nat → Int32) → (Nat → Nat → Int32) → (Nat → Int32) → (Nat → NV) → (Nat → Int32) → (Nat → NV) → (Nat → Nat → Int32) → (Nat → Nat → Int32) → ((Nat → Int32) × Int64) → (Nat → Int32) → (Nat → Int32) → (Nat → Int32) → (Nat → Int32) → (Nat → Int32) → (Nat → Int32) → (Nat → Int32) → (Nat → Int32) → (Nat → Int64) → Prop} (hstep : StepAll xs L Inv) :
    ∀ (n it : Nat) (vX : Nat → Int32) (vP : Nat → Int32) (vN : Nat → Int32) (vG : Nat → Nat → Int32) (vU : Nat → Nat → Int32) (vR : Nat → Nat → Int32) (vNd : Nat → Int32) (vGd : Nat → Nat → Int32) (vUd : Nat → Nat → Int32) (vRd : Nat → Nat → Int32) (vH : Nat → Int32) (vHV : Nat → NV) (vQF : Nat → Int32) (vQV : Nat → NV) (vB : Nat → Nat → Int32) (vBw : Nat → Nat → Int32) (vM : (Nat → Int32) × Int64) (vnow : Nat → Int32) (vdraft : Nat → Int32) (vspare : Nat → Int32) (vearlier : Nat → Int32) (vslots : Nat → Int32) (visKept : Nat → Int32) (vbuffer : Nat → Int32) (vout : Nat → Int32) (vO : Nat → Int64), Inv it vX vP vN vG vU vR vNd vGd vUd vRd vH vHV vQF vQV vB vBw vM vnow vdraft vspare vearlier vslots visKept vbuffer vout vO → 6 * it ≤ L → L < 6 * it + 6 * n → ∀ (H : Heap) (locs : List Loc), va_P E.1 vwCl (W_X aX aB aBw aP aN aNd aH aQ vX ++ (W_P aP aB vP ++ (W_N aN aG aU aR vN ++ (W_G E aG vG ++ (W_U E aU vU ++ (W_R E aR vR ++ (W_N aNd aGd aUd aRd vNd ++ (W_G E aGd vGd ++ (W_U E aUd vUd ++ (W_R E aRd vRd ++ (W_H aH aHA vH ++ (W_NA E aHA 8 kn ++ (W_V8 E kn kg ku kr vHV ++ (W_Q aQ aQA aQF ++ (W_NA E aQA 2 qn ++ (W_Z E aQF 2 vQF ++ (W_V2 E qn qg qu qr vQV ++ (W_B E aB vB ++ (W_B E aBw vBw ++ (W_M aM vM ++ (W_A E (aM 1) 306 vnow ++ (W_A E (aM 2) 306 vdraft ++ (W_A E (aM 3) 306 vspare ++ (W_A E (aM 4) 2448 vearlier ++ (W_A E (aM 5) 612 vslots ++ (W_Z E (aM 6) 2 visKept ++ (W_A E (aM 7) 600 vbuffer ++ (W_A E (aM 8) 400 vout ++ (W_J E aO 1 vO))))))))))))))))))))))))))))) H → va_D (LA s) (W_X aX aB aBw aP aN aNd aH aQ vX ++ (W_P aP aB vP ++ (W_N aN aG aU aR vN ++ (W_G E aG vG ++ (W_U E aU vU ++ (W_R E aR vR ++ (W_N aNd aGd aUd aRd vNd ++ (W_G E aGd vGd ++ (W_U E aUd vUd ++ (W_R E aRd vRd ++ (W_H aH aHA vH ++ (W_NA E aHA 8 kn ++ (W_V8 E kn kg ku kr vHV ++ (W_Q aQ aQA aQF ++ (W_NA E aQA 2 qn ++ (W_Z E aQF 2 vQF ++ (W_V2 E qn qg qu qr vQV ++ (W_B E aB vB ++ (W_B E aBw vBw ++ (W_M aM vM ++ (W_A E (aM 1) 306 vnow ++ (W_A E (aM 2) 306 vdraft ++ (W_A E (aM 3) 306 vspare ++ (W_A E (aM 4) 2448 vearlier ++ (W_A E (aM 5) 612 vslots ++ (W_Z E (aM 6) 2 visKept ++ (W_A E (aM 7) 600 vbuffer ++ (W_A E (aM 8) 400 vout ++ (W_J E aO 1 vO))))))))))))))))))))))))))))) → va_S (LA s) s.heap H locs → ∀ (ls : Array Slot), lv_has ls 9 [(0, .ref b), (1, .ref aX), (2, .ref (aM 0)), (3, .ref aO), (4, .int (nI (6 * it)))] → W p l e room_1 s m #[Value.ref b] below meth c H locs (237 + 4 * it) (10590 + 24 * it) (lw_Z below #[Value.ref b] s) (F0 m 23 ls []) := by
  obtain ⟨hx, hb, hr, hml, hown0, hts, hX, hbl, hlocks, hgv⟩ := id C0
  have hA : ∀ q : Nat, s.heap.size ≤ q → LA s q := fun _ h => h
  have hbA : ¬ LA s b := Nat.not_le.mpr hbl
  intro n
  induction n with
  | zero => intro it vX vP vN vG vU vR vNd vGd vUd vRd vH vHV vQF vQV vB vBw vM vnow vdraft vspare vearlier vslots visKept vbuffer vout vO hI h1 h2; exact absurd h2 (by omega)
  | succ n ih =>
    intro it vX vP vN vG vU vR vNd vGd vUd vRd vH vHV vQF vQV vB vBw vM vnow vdraft vspare vearlier vslots visKept vbuffer vout vO hI h1 h2 H locs hP hD hS ls hl
    refine lv_iload hx hb dL_law_23 (lv_at hl 4 rfl) ?_
    refine lv_aload_n hx hb dL_law_25 rfl (lv_at hl 0 rfl) ?_
    refine va_slen hx hb hX hbl hbA hS dL_law_26 ?_
    refine lv_bipush (v := 6) hx hb dL_law_27 (by decide) ?_
    refine lv_isub hx hb dL_law_29 ?_
    refine lv_icmp_gt (tgt := 3206) hx hb dL_law_30 (by decide) (fun cq => ?_) (fun cq => ?_)
    · have hlt := (lp_cond hL h1).mp cq
      refine lv_iconst (v := 1) hx hb dL_law_3206 (by decide) ?_
      refine va_forget (fun q hq => hS.2.2 q hq) ?_
      refine W.widen (k := 601024) (n := 7293034) (by omega) (by omega) ?_
      exact lw_ret (d0 := s.drawn) (Drawn.sameBut.refl s.drawn lw_cs) hx hb hr hlocks dL_law_3207
    · have hge : 6 * it + 6 ≤ L := Nat.not_lt.mp fun z => cq ((lp_cond hL h1).mpr z)
      have hin : vp_in (nI (6 * it)) L := vp_in_nI (by omega) (by omega)
      refine lv_aload_n hx hb dL_law_33 rfl (lv_at hl 0 rfl) ?_
      refine lv_iload hx hb dL_law_34 (lv_at hl 4 rfl) ?_
      refine va_sld hx hb hX hbl hbA hS hin dL_law_36 ?_
      refine lv_bipush (v := 63) hx hb dL_law_37 (by decide) ?_
      refine lv_iand hx hb dL_law_39 ?_
      obtain ⟨k, hk, ek⟩ := pk_andE (xs (nI (6 * it)).toNatClampNeg) (m := 63) 6 (by decide)
      rw [ek]
      have e6 : nI (6 * it) + Int32.ofInt 6 = nI (6 * (it + 1)) := by
        rw [show Int32.ofInt 6 = nI 6 by decide, nI_add]
        exact congrArg nI (by omega)
      obtain ⟨hI1, hall⟩ := hstep it vX vP vN vG vU vR vNd vGd vUd vRd vH vHV vQF vQV vB vBw vM vnow vdraft vspare vearlier vslots visKept vbuffer vout vO hI hge hL
      clear ek
      match k, hk with
      | 0, _ =>
        obtain ⟨r, hf, hr1, hI2⟩ := hall.1
        refine lv_tableIn (x := nI 0) (off := 260) (tgt := 300) hx hb dL_law_40 (by decide) (by decide) (by decide) (by decide) ?_
        refine lc_0 hst C0 hK hE hN aX aB aBw aP aN aNd aH aQ aG aU aR aGd aUd aRd aHA kn kg ku kr aQA aQF qn qg qu qr aM aO vX vP vN vG vU vR vNd vGd vUd vRd vH vHV vQF vQV vB vBw vM vnow vdraft vspare vearlier vslots visKept vbuffer vout vO _ r hf hr1 (by omega) (by omega) hP hD hS ls hl (fun H locs ls hP hD hS hl => ?_)
        refine lv_iinc (v := nI (6 * (it + 1))) (lv' := [(4, .int (nI (6 * (it + 1)))), (0, .ref b), (1, .ref aX), (2, .ref (aM 0)), (3, .ref aO)]) hx hb dL_law_3200 hl (k := 4) rfl e6 (by decide) rfl (fun ls hl => ?_)
        refine lv_goto (tgt := 23) hx hb dL_law_3203 (by decide) ?_
        exact ih (it + 1) vX vP vN vG vU vR vNd vGd vUd vRd vH vHV vQF vQV r.2.1 vBw r.2.2.1 vnow vdraft vspare vearlier vslots visKept r.2.2.2.1 vout r.2.2.2.2 hI2 (by omega) (by omega) H locs hP hD hS ls (lv_sub hl [1, 2, 3, 4, 0] rfl)
      | 1, _ =>
        obtain ⟨r, hf, hr1, hI2⟩ := hall.2.1
        refine lv_tableIn (x := nI 1) (off := 364) (tgt := 404) hx hb dL_law_40 (by decide) (by decide) (by decide) (by decide) ?_
        refine lc_1 hst C0 hK hE hN aX aB aBw aP aN aNd aH aQ aG aU aR aGd aUd aRd aHA kn kg ku kr aQA aQF qn qg qu qr aM aO vX vP vN vG vU vR vNd vGd vUd vRd vH vHV vQF vQV vB vBw vM vnow vdraft vspare vearlier vslots visKept vbuffer vout vO _ r hf hr1 (by omega) (by omega) hP hD hS ls hl (fun H locs ls hP hD hS hl => ?_)
        refine lv_iinc (v := nI (6 * (it + 1))) (lv' := [(4, .int (nI (6 * (it + 1)))), (0, .ref b), (1, .ref aX), (2, .ref (aM 0)), (3, .ref aO)]) hx hb dL_law_3200 hl (k := 4) rfl e6 (by decide) rfl (fun ls hl => ?_)
        refine lv_goto (tgt := 23) hx hb dL_law_3203 (by decide) ?_
        exact ih (it + 1) vX vP vN vG vU vR vNd vGd vUd vRd vH vHV vQF vQV r.2.1 vBw r.2.2.1 vnow vdraft vspare vearlier vslots visKept vbuffer vout r.2.2.2 hI2 (by omega) (by omega) H locs hP hD hS ls (lv_sub hl [1, 2, 3, 4, 0] rfl)
      | 2, _ =>
        obtain ⟨r, hf, hr1, hI2⟩ := hall.2.2.1
        refine lv_tableIn (x := nI 2) (off := 420) (tgt := 460) hx hb dL_law_40 (by decide) (by decide) (by decide) (by decide) ?_
        refine lc_2 hst C0 hK hE hN aX aB aBw aP aN aNd aH aQ aG aU aR aGd aUd aRd aHA kn kg ku kr aQA aQF qn qg qu qr aM aO vX vP vN vG vU vR vNd vGd vUd vRd vH vHV vQF vQV vB vBw vM vnow vdraft vspare vearlier vslots visKept vbuffer vout vO _ r hf hr1 (by omega) (by omega) hP hD hS ls hl (fun H locs ls hP hD hS hl => ?_)
        refine lv_iinc (v := nI (6 * (it + 1))) (lv' := [(4, .int (nI (6 * (it + 1)))), (0, .ref b), (1, .ref aX), (2, .ref (aM 0)), (3, .ref aO)]) hx hb dL_law_3200 hl (k := 4) rfl e6 (by decide) rfl (fun ls hl => ?_)
        refine lv_goto (tgt := 23) hx hb dL_law_3203 (by decide) ?_
        exact ih (it + 1) r.2.1 r.2.2.1 r.2.2.2.1 r.2.2.2.2.1 r.2.2.2.2.2.1 r.2.2.2.2.2.2.1 r.2.2.2.2.2.2.2.1 r.2.2.2.2.2.2.2.2.1 r.2.2.2.2.2.2.2.2.2.1 r.2.2.2.2.2.2.2.2.2.2.1 r.2.2.2.2.2.2.2.2.2.2.2.1 vHV r.2.2.2.2.2.2.2.2.2.2.2.2.1 vQV r.2.2.2.2.2.2.2.2.2.2.2.2.2.1 vBw r.2.2.2.2.2.2.2.2.2.2.2.2.2.2.1 r.2.2.2.2.2.2.2.2.2.2.2.2.2.2.2.1 r.2.2.2.2.2.2.2.2.2.2.2.2.2.2.2.2.1 vspare vearlier vslots r.2.2.2.2.2.2.2.2.2.2.2.2.2.2.2.2.2.1 vbuffer vout r.2.2.2.2.2.2.2.2.2.2.2.2.2.2.2.2.2.2 hI2 (by omega) (by omega) H locs hP hD hS ls (lv_sub hl [1, 2, 3, 4, 0] rfl)
      | 3, _ =>
        obtain ⟨r, hf, hr1, hI2⟩ := hall.2.2.2.1
        refine lv_tableIn (x := nI 3) (off := 464) (tgt := 504) hx hb dL_law_40 (by decide) (by decide) (by decide) (by decide) ?_
        refine lc_3 hst C0 hK hE hN aX aB aBw aP aN aNd aH aQ aG aU aR aGd aUd aRd aHA kn kg ku kr aQA aQF qn qg qu qr aM aO vX vP vN vG vU vR vNd vGd vUd vRd vH vHV vQF vQV vB vBw vM vnow vdraft vspare vearlier vslots visKept vbuffer vout vO _ r hf hr1 (by omega) (by omega) hP hD hS ls hl (fun H locs ls hP hD hS hl => ?_)
        refine lv_iinc (v := nI (6 * (it + 1))) (lv' := [(4, .int (nI (6 * (it + 1)))), (0, .ref b), (1, .ref aX), (2, .ref (aM 0)), (3, .ref aO)]) hx hb dL_law_3200 hl (k := 4) rfl e6 (by decide) rfl (fun ls hl => ?_)
        refine lv_goto (tgt := 23) hx hb dL_law_3203 (by decide) ?_
        exact ih (it + 1) vX vP vN vG vU vR vNd vGd vUd vRd vH vHV vQF vQV vB vBw r.2 vnow vdraft vspare vearlier vslots visKept vbuffer vout vO hI2 (by omega) (by omega) H locs hP hD hS ls (lv_sub hl [1, 2, 3, 4, 0] rfl)
      | 4, _ =>
        obtain ⟨r, hf, hr1, hI2⟩ := hall.2.2.2.2.1
        refine lv_tableIn (x := nI 4) (off := 477) (tgt := 517) hx hb dL_law_40 (by decide) (by decide) (by decide) (by decide) ?_
        refine lc_4 hst C0 hK hE hN aX aB aBw aP aN aNd aH aQ aG aU aR aGd aUd aRd aHA kn kg ku kr aQA aQF qn qg qu qr aM aO vX vP vN vG vU vR vNd vGd vUd vRd vH vHV vQF vQV vB vBw vM vnow vdraft vspare vearlier vslots visKept vbuffer vout vO _ r hf hr1 (by omega) (by omega) hP hD hS ls hl (fun H locs ls hP hD hS hl => ?_)
        refine lv_iinc (v := nI (6 * (it + 1))) (lv' := [(4, .int (nI (6 * (it + 1)))), (0, .ref b), (1, .ref aX), (2, .ref (aM 0)), (3, .ref aO)]) hx hb dL_law_3200 hl (k := 4) rfl e6 (by decide) rfl (fun ls hl => ?_)
        refine lv_goto (tgt := 23) hx hb dL_law_3203 (by decide) ?_
        exact ih (it + 1) vX vP vN vG vU vR vNd vGd vUd vRd vH vHV vQF vQV vB vBw r.2.1 vnow vdraft vspare vearlier vslots visKept vbuffer vout r.2.2 hI2 (by omega) (by omega) H locs hP hD hS ls (lv_sub hl [1, 2, 3, 4, 0] rfl)
      | 5, _ =>
        obtain ⟨r, hf, hr1, hI2⟩ := hall.2.2.2.2.2.1
        refine lv_tableIn (x := nI 5) (off := 521) (tgt := 561) hx hb dL_law_40 (by decide) (by decide) (by decide) (by decide) ?_
        refine lc_5 hst C0 hK hE hN aX aB aBw aP aN aNd aH aQ aG aU aR aGd aUd aRd aHA kn kg ku kr aQA aQF qn qg qu qr aM aO vX vP vN vG vU vR vNd vGd vUd vRd vH vHV vQF vQV vB vBw vM vnow vdraft vspare vearlier vslots visKept vbuffer vout vO _ r hf hr1 (by omega) (by omega) hP hD hS ls hl (fun H locs ls hP hD hS hl => ?_)
        refine lv_iinc (v := nI (6 * (it + 1))) (lv' := [(4, .int (nI (6 * (it + 1)))), (0, .ref b), (1, .ref aX), (2, .ref (aM 0)), (3, .ref aO)]) hx hb dL_law_3200 hl (k := 4) rfl e6 (by decide) rfl (fun ls hl => ?_)
        refine lv_goto (tgt := 23) hx hb dL_law_3203 (by decide) ?_
        exact ih (it + 1) vX vP vN vG vU vR vNd vGd vUd vRd vH vHV vQF vQV vB vBw r.2 vnow vdraft vspare vearlier vslots visKept vbuffer vout vO hI2 (by omega) (by omega) H locs hP hD hS ls (lv_sub hl [1, 2, 3, 4, 0] rfl)
      | 6, _ =>
        obtain ⟨r, hf, hr1, hI2⟩ := hall.2.2.2.2.2.2.1
        refine lv_tableIn (x := nI 6) (off := 534) (tgt := 574) hx hb dL_law_40 (by decide) (by decide) (by decide) (by decide) ?_
        refine lc_6 hst C0 hK hE hN aX aB aBw aP aN aNd aH aQ aG aU aR aGd aUd aRd aHA kn kg ku kr aQA aQF qn qg qu qr aM aO vX vP vN vG vU vR vNd vGd vUd vRd vH vHV vQF vQV vB vBw vM vnow vdraft vspare vearlier vslots visKept vbuffer vout vO _ r hf hr1 (by omega) (by omega) hP hD hS ls hl (fun H locs ls hP hD hS hl => ?_)
        refine lv_iinc (v := nI (6 * (it + 1))) (lv' := [(4, .int (nI (6 * (it + 1)))), (0, .ref b), (1, .ref aX), (2, .ref (aM 0)), (3, .ref aO)]) hx hb dL_law_3200 hl (k := 4) rfl e6 (by decide) rfl (fun ls hl => ?_)
        refine lv_goto (tgt := 23) hx hb dL_law_3203 (by decide) ?_
        exact ih (it + 1) vX vP vN vG vU vR vNd vGd vUd vRd vH vHV vQF vQV vB vBw r.2 vnow vdraft vspare vearlier vslots visKept vbuffer vout vO hI2 (by omega) (by omega) H locs hP hD hS ls (lv_sub hl [1, 2, 3, 4, 0] rfl)
      | 7, _ =>
        obtain ⟨r, hf, hr1, hI2⟩ := hall.2.2.2.2.2.2.2.1
        refine lv_tableIn (x := nI 7) (off := 547) (tgt := 587) hx hb dL_law_40 (by decide) (by decide) (by decide) (by decide) ?_
        refine lc_7 hst C0 hK hE hN aX aB aBw aP aN aNd aH aQ aG aU aR aGd aUd aRd aHA kn kg ku kr aQA aQF qn qg qu qr aM aO vX vP vN vG vU vR vNd vGd vUd vRd vH vHV vQF vQV vB vBw vM vnow vdraft vspare vearlier vslots visKept vbuffer vout vO _ r hf hr1 (by omega) (by omega) hP hD hS ls hl (fun H locs ls hP hD hS hl => ?_)
        refine lv_iinc (v := nI (6 * (it + 1))) (lv' := [(4, .int (nI (6 * (it + 1)))), (0, .ref b), (1, .ref aX), (2, .ref (aM 0)), (3, .ref aO)]) hx hb dL_law_3200 hl (k := 4) rfl e6 (by decide) rfl (fun ls hl => ?_)
        refine lv_goto (tgt := 23) hx hb dL_law_3203 (by decide) ?_
        exact ih (it + 1) vX vP vN vG vU vR vNd vGd vUd vRd vH vHV vQF vQV vB vBw r.2 vnow vdraft vspare vearlier vslots visKept vbuffer vout vO hI2 (by omega) (by omega) H locs hP hD hS ls (lv_sub hl [1, 2, 3, 4, 0] rfl)
      | 8, _ =>
        obtain ⟨r, hf, hr1, hI2⟩ := hall.2.2.2.2.2.2.2.2.1
        refine lv_tableIn (x := nI 8) (off := 560) (tgt := 600) hx hb dL_law_40 (by decide) (by decide) (by decide) (by decide) ?_
        refine lc_8 hst C0 hK hE hN aX aB aBw aP aN aNd aH aQ aG aU aR aGd aUd aRd aHA kn kg ku kr aQA aQF qn qg qu qr aM aO vX vP vN vG vU vR vNd vGd vUd vRd vH vHV vQF vQV vB vBw vM vnow vdraft vspare vearlier vslots visKept vbuffer vout vO _ r hf hr1 (by omega) (by omega) hP hD hS ls hl (fun H locs ls hP hD hS hl => ?_)
        refine lv_iinc (v := nI (6 * (it + 1))) (lv' := [(4, .int (nI (6 * (it + 1)))), (0, .ref b), (1, .ref aX), (2, .ref (aM 0)), (3, .ref aO)]) hx hb dL_law_3200 hl (k := 4) rfl e6 (by decide) rfl (fun ls hl => ?_)
        refine lv_goto (tgt := 23) hx hb dL_law_3203 (by decide) ?_
        exact ih (it + 1) vX vP vN vG vU vR vNd vGd vUd vRd vH vHV vQF vQV vB vBw r.2 vnow vdraft vspare vearlier vslots visKept vbuffer vout vO hI2 (by omega) (by omega) H locs hP hD hS ls (lv_sub hl [1, 2, 3, 4, 0] rfl)
      | 9, _ =>
        obtain ⟨r, hf, hr1, hI2⟩ := hall.2.2.2.2.2.2.2.2.2.1
        refine lv_tableIn (x := nI 9) (off := 573) (tgt := 613) hx hb dL_law_40 (by decide) (by decide) (by decide) (by decide) ?_
        refine lc_9 hst C0 hK hE hN aX aB aBw aP aN aNd aH aQ aG aU aR aGd aUd aRd aHA kn kg ku kr aQA aQF qn qg qu qr aM aO vX vP vN vG vU vR vNd vGd vUd vRd vH vHV vQF vQV vB vBw vM vnow vdraft vspare vearlier vslots visKept vbuffer vout vO _ r hf hr1 (by omega) (by omega) hP hD hS ls hl (fun H locs ls hP hD hS hl => ?_)
        refine lv_iinc (v := nI (6 * (it + 1))) (lv' := [(4, .int (nI (6 * (it + 1)))), (0, .ref b), (1, .ref aX), (2, .ref (aM 0)), (3, .ref aO)]) hx hb dL_law_3200 hl (k := 4) rfl e6 (by decide) rfl (fun ls hl => ?_)
        refine lv_goto (tgt := 23) hx hb dL_law_3203 (by decide) ?_
        exact ih (it + 1) vX vP vN vG vU vR vNd vGd vUd vRd vH vHV vQF vQV vB vBw r.2 vnow vdraft vspare vearlier vslots visKept vbuffer vout vO hI2 (by omega) (by omega) H locs hP hD hS ls (lv_sub hl [1, 2, 3, 4, 0] rfl)
      | 10, _ =>
        obtain ⟨r, hf, hr1, hI2⟩ := hall.2.2.2.2.2.2.2.2.2.2.1
        refine lv_tableIn (x := nI 10) (off := 586) (tgt := 626) hx hb dL_law_40 (by decide) (by decide) (by decide) (by decide) ?_
        refine lc_10 hst C0 hK hE hN aX aB aBw aP aN aNd aH aQ aG aU aR aGd aUd aRd aHA kn kg ku kr aQA aQF qn qg qu qr aM aO vX vP vN vG vU vR vNd vGd vUd vRd vH vHV vQF vQV vB vBw vM vnow vdraft vspare vearlier vslots visKept vbuffer vout vO _ r hf hr1 (by omega) (by omega) hP hD hS ls hl (fun H locs ls hP hD hS hl => ?_)
        refine lv_iinc (v := nI (6 * (it + 1))) (lv' := [(4, .int (nI (6 * (it + 1)))), (0, .ref b), (1, .ref aX), (2, .ref (aM 0)), (3, .ref aO)]) hx hb dL_law_3200 hl (k := 4) rfl e6 (by decide) rfl (fun ls hl => ?_)
        refine lv_goto (tgt := 23) hx hb dL_law_3203 (by decide) ?_
        exact ih (it + 1) vX vP vN vG vU vR vNd vGd vUd vRd vH vHV vQF vQV vB vBw r.2 vnow vdraft vspare vearlier vslots visKept vbuffer vout vO hI2 (by omega) (by omega) H locs hP hD hS ls (lv_sub hl [1, 2, 3, 4, 0] rfl)
      | 11, _ =>
        obtain ⟨r, hf, hr1, hI2⟩ := hall.2.2.2.2.2.2.2.2.2.2.2.1
        refine lv_tableIn (x := nI 11) (off := 599) (tgt := 639) hx hb dL_law_40 (by decide) (by decide) (by decide) (by decide) ?_
        refine lc_11 hst C0 hK hE hN aX aB aBw aP aN aNd aH aQ aG aU aR aGd aUd aRd aHA kn kg ku kr aQA aQF qn qg qu qr aM aO vX vP vN vG vU vR vNd vGd vUd vRd vH vHV vQF vQV vB vBw vM vnow vdraft vspare vearlier vslots visKept vbuffer vout vO _ r hf hr1 (by omega) (by omega) hP hD hS ls hl (fun H locs ls hP hD hS hl => ?_)
        refine lv_iinc (v := nI (6 * (it + 1))) (lv' := [(4, .int (nI (6 * (it + 1)))), (0, .ref b), (1, .ref aX), (2, .ref (aM 0)), (3, .ref aO)]) hx hb dL_law_3200 hl (k := 4) rfl e6 (by decide) rfl (fun ls hl => ?_)
        refine lv_goto (tgt := 23) hx hb dL_law_3203 (by decide) ?_
        exact ih (it + 1) vX vP vN vG vU vR vNd vGd vUd vRd vH vHV vQF vQV vB vBw r.2 vnow vdraft vspare vearlier vslots visKept vbuffer vout vO hI2 (by omega) (by omega) H locs hP hD hS ls (lv_sub hl [1, 2, 3, 4, 0] rfl)
      | 12, _ =>
        obtain ⟨r, hf, hr1, hI2⟩ := hall.2.2.2.2.2.2.2.2.2.2.2.2.1
        refine lv_tableIn (x := nI 12) (off := 612) (tgt := 652) hx hb dL_law_40 (by decide) (by decide) (by decide) (by decide) ?_
        refine lc_12 hst C0 hK hE hN aX aB aBw aP aN aNd aH aQ aG aU aR aGd aUd aRd aHA kn kg ku kr aQA aQF qn qg qu qr aM aO vX vP vN vG vU vR vNd vGd vUd vRd vH vHV vQF vQV vB vBw vM vnow vdraft vspare vearlier vslots visKept vbuffer vout vO _ r hf hr1 (by omega) (by omega) hP hD hS ls hl (fun H locs ls hP hD hS hl => ?_)
        refine lv_iinc (v := nI (6 * (it + 1))) (lv' := [(4, .int (nI (6 * (it + 1)))), (0, .ref b), (1, .ref aX), (2, .ref (aM 0)), (3, .ref aO)]) hx hb dL_law_3200 hl (k := 4) rfl e6 (by decide) rfl (fun ls hl => ?_)
        refine lv_goto (tgt := 23) hx hb dL_law_3203 (by decide) ?_
        exact ih (it + 1) vX vP vN vG vU vR vNd vGd vUd vRd vH vHV vQF vQV vB vBw r.2 vnow vdraft vspare vearlier vslots visKept vbuffer vout vO hI2 (by omega) (by omega) H locs hP hD hS ls (lv_sub hl [1, 2, 3, 4, 0] rfl)
      | 13, _ =>
        obtain ⟨r, hf, hr1, hI2⟩ := hall.2.2.2.2.2.2.2.2.2.2.2.2.2.1
        refine lv_tableIn (x := nI 13) (off := 625) (tgt := 665) hx hb dL_law_40 (by decide) (by decide) (by decide) (by decide) ?_
        refine lc_13 hst C0 hK hE hN aX aB aBw aP aN aNd aH aQ aG aU aR aGd aUd aRd aHA kn kg ku kr aQA aQF qn qg qu qr aM aO vX vP vN vG vU vR vNd vGd vUd vRd vH vHV vQF vQV vB vBw vM vnow vdraft vspare vearlier vslots visKept vbuffer vout vO _ r hf hr1 (by omega) (by omega) hP hD hS ls hl (fun H locs ls hP hD hS hl => ?_)
        refine lv_iinc (v := nI (6 * (it + 1))) (lv' := [(4, .int (nI (6 * (it + 1)))), (0, .ref b), (1, .ref aX), (2, .ref (aM 0)), (3, .ref aO)]) hx hb dL_law_3200 hl (k := 4) rfl e6 (by decide) rfl (fun ls hl => ?_)
        refine lv_goto (tgt := 23) hx hb dL_law_3203 (by decide) ?_
        exact ih (it + 1) vX vP vN vG vU vR vNd vGd vUd vRd vH vHV vQF vQV vB vBw r.2 vnow vdraft vspare vearlier vslots visKept vbuffer vout vO hI2 (by omega) (by omega) H locs hP hD hS ls (lv_sub hl [1, 2, 3, 4, 0] rfl)
      | 14, _ =>
        obtain ⟨r, hf, hr1, hI2⟩ := hall.2.2.2.2.2.2.2.2.2.2.2.2.2.2.1
        refine lv_tableIn (x := nI 14) (off := 638) (tgt := 678) hx hb dL_law_40 (by decide) (by decide) (by decide) (by decide) ?_
        refine lc_14 hst C0 hK hE hN aX aB aBw aP aN aNd aH aQ aG aU aR aGd aUd aRd aHA kn kg ku kr aQA aQF qn qg qu qr aM aO vX vP vN vG vU vR vNd vGd vUd vRd vH vHV vQF vQV vB vBw vM vnow vdraft vspare vearlier vslots visKept vbuffer vout vO _ r hf hr1 (by omega) (by omega) hP hD hS ls hl (fun H locs ls hP hD hS hl => ?_)
        refine lv_iinc (v := nI (6 * (it + 1))) (lv' := [(4, .int (nI (6 * (it + 1)))), (0, .ref b), (1, .ref aX), (2, .ref (aM 0)), (3, .ref aO)]) hx hb dL_law_3200 hl (k := 4) rfl e6 (by decide) rfl (fun ls hl => ?_)
        refine lv_goto (tgt := 23) hx hb dL_law_3203 (by decide) ?_
        exact ih (it + 1) vX vP vN vG vU vR vNd vGd vUd vRd vH vHV vQF vQV vB vBw r.2.1 vnow vdraft vspare vearlier vslots visKept vbuffer vout r.2.2 hI2 (by omega) (by omega) H locs hP hD hS ls (lv_sub hl [1, 2, 3, 4, 0] rfl)
      | 15, _ =>
        obtain ⟨r, hf, hr1, hI2⟩ := hall.2.2.2.2.2.2.2.2.2.2.2.2.2.2.2.1
        refine lv_tableIn (x := nI 15) (off := 694) (tgt := 734) hx hb dL_law_40 (by decide) (by decide) (by decide) (by decide) ?_
        refine lc_15 hst C0 hK hE hN aX aB aBw aP aN aNd aH aQ aG aU aR aGd aUd aRd aHA kn kg ku kr aQA aQF qn qg qu qr aM aO vX vP vN vG vU vR vNd vGd vUd vRd vH vHV vQF vQV vB vBw vM vnow vdraft vspare vearlier vslots visKept vbuffer vout vO _ r hf hr1 (by omega) (by omega) hP hD hS ls hl (fun H locs ls hP hD hS hl => ?_)
        refine lv_iinc (v := nI (6 * (it + 1))) (lv' := [(4, .int (nI (6 * (it + 1)))), (0, .ref b), (1, .ref aX), (2, .ref (aM 0)), (3, .ref aO)]) hx hb dL_law_3200 hl (k := 4) rfl e6 (by decide) rfl (fun ls hl => ?_)
        refine lv_goto (tgt := 23) hx hb dL_law_3203 (by decide) ?_
        exact ih (it + 1) vX vP vN vG vU vR vNd vGd vUd vRd vH vHV vQF vQV vB vBw r.2.1 vnow vdraft vspare vearlier vslots visKept vbuffer vout r.2.2 hI2 (by omega) (by omega) H locs hP hD hS ls (lv_sub hl [1, 2, 3, 4, 0] rfl)
      | 16, _ =>
        obtain ⟨r, hf, hr1, hI2⟩ := hall.2.2.2.2.2.2.2.2.2.2.2.2.2.2.2.2.1
        refine lv_tableIn (x := nI 16) (off := 762) (tgt := 802) hx hb dL_law_40 (by decide) (by decide) (by decide) (by decide) ?_
        refine lc_16 hst C0 hK hE hN aX aB aBw aP aN aNd aH aQ aG aU aR aGd aUd aRd aHA kn kg ku kr aQA aQF qn qg qu qr aM aO vX vP vN vG vU vR vNd vGd vUd vRd vH vHV vQF vQV vB vBw vM vnow vdraft vspare vearlier vslots visKept vbuffer vout vO _ r hf hr1 (by omega) (by omega) hP hD hS ls hl (fun H locs ls hP hD hS hl => ?_)
        refine lv_iinc (v := nI (6 * (it + 1))) (lv' := [(4, .int (nI (6 * (it + 1)))), (0, .ref b), (1, .ref aX), (2, .ref (aM 0)), (3, .ref aO)]) hx hb dL_law_3200 hl (k := 4) rfl e6 (by decide) rfl (fun ls hl => ?_)
        refine lv_goto (tgt := 23) hx hb dL_law_3203 (by decide) ?_
        exact ih (it + 1) vX vP vN vG vU vR vNd vGd vUd vRd vH vHV vQF vQV vB vBw r.2.1 vnow vdraft vspare vearlier vslots visKept vbuffer vout r.2.2 hI2 (by omega) (by omega) H locs hP hD hS ls (lv_sub hl [1, 2, 3, 4, 0] rfl)
      | 17, _ =>
        obtain ⟨r, hf, hr1, hI2⟩ := hall.2.2.2.2.2.2.2.2.2.2.2.2.2.2.2.2.2.1
        refine lv_tableIn (x := nI 17) (off := 806) (tgt := 846) hx hb dL_law_40 (by decide) (by decide) (by decide) (by decide) ?_
        refine lc_17 hst C0 hK hE hN aX aB aBw aP aN aNd aH aQ aG aU aR aGd aUd aRd aHA kn kg ku kr aQA aQF qn qg qu qr aM aO vX vP vN vG vU vR vNd vGd vUd vRd vH vHV vQF vQV vB vBw vM vnow vdraft vspare vearlier vslots visKept vbuffer vout vO _ r hf hr1 (by omega) (by omega) hP hD hS ls hl (fun H locs ls hP hD hS hl => ?_)
        refine lv_iinc (v := nI (6 * (it + 1))) (lv' := [(4, .int (nI (6 * (it + 1)))), (0, .ref b), (1, .ref aX), (2, .ref (aM 0)), (3, .ref aO)]) hx hb dL_law_3200 hl (k := 4) rfl e6 (by decide) rfl (fun ls hl => ?_)
        refine lv_goto (tgt := 23) hx hb dL_law_3203 (by decide) ?_
        exact ih (it + 1) vX vP vN vG vU vR vNd vGd vUd vRd vH vHV vQF vQV vB vBw r.2.1 vnow vdraft vspare vearlier vslots visKept vbuffer vout r.2.2 hI2 (by omega) (by omega) H locs hP hD hS ls (lv_sub hl [1, 2, 3, 4, 0] rfl)
      | 18, _ =>
        obtain ⟨r, hf, hr1, hI2⟩ := hall.2.2.2.2.2.2.2.2.2.2.2.2.2.2.2.2.2.2.1
        refine lv_tableIn (x := nI 18) (off := 862) (tgt := 902) hx hb dL_law_40 (by decide) (by decide) (by decide) (by decide) ?_
        refine lc_18 hst C0 hK hE hN aX aB aBw aP aN aNd aH aQ aG aU aR aGd aUd aRd aHA kn kg ku kr aQA aQF qn qg qu qr aM aO vX vP vN vG vU vR vNd vGd vUd vRd vH vHV vQF vQV vB vBw vM vnow vdraft vspare vearlier vslots visKept vbuffer vout vO _ r hf hr1 (by omega) (by omega) hP hD hS ls hl (fun H locs ls hP hD hS hl => ?_)
        refine lv_iinc (v := nI (6 * (it + 1))) (lv' := [(4, .int (nI (6 * (it + 1)))), (0, .ref b), (1, .ref aX), (2, .ref (aM 0)), (3, .ref aO)]) hx hb dL_law_3200 hl (k := 4) rfl e6 (by decide) rfl (fun ls hl => ?_)
        refine lv_goto (tgt := 23) hx hb dL_law_3203 (by decide) ?_
        exact ih (it + 1) vX vP vN vG vU vR vNd vGd vUd vRd vH vHV vQF vQV vB vBw r.2.1 vnow vdraft vspare vearlier vslots visKept vbuffer vout r.2.2 hI2 (by omega) (by omega) H locs hP hD hS ls (lv_sub hl [1, 2, 3, 4, 0] rfl)
      | 19, _ =>
        obtain ⟨r, hf, hr1, hI2⟩ := hall.2.2.2.2.2.2.2.2.2.2.2.2.2.2.2.2.2.2.2.1
        refine lv_tableIn (x := nI 19) (off := 918) (tgt := 958) hx hb dL_law_40 (by decide) (by decide) (by decide) (by decide) ?_
        refine lc_19 hst C0 hK hE hN aX aB aBw aP aN aNd aH aQ aG aU aR aGd aUd aRd aHA kn kg ku kr aQA aQF qn qg qu qr aM aO vX vP vN vG vU vR vNd vGd vUd vRd vH vHV vQF vQV vB vBw vM vnow vdraft vspare vearlier vslots visKept vbuffer vout vO _ r hf hr1 (by omega) (by omega) hP hD hS ls hl (fun H locs ls hP hD hS hl => ?_)
        refine lv_iinc (v := nI (6 * (it + 1))) (lv' := [(4, .int (nI (6 * (it + 1)))), (0, .ref b), (1, .ref aX), (2, .ref (aM 0)), (3, .ref aO)]) hx hb dL_law_3200 hl (k := 4) rfl e6 (by decide) rfl (fun ls hl => ?_)
        refine lv_goto (tgt := 23) hx hb dL_law_3203 (by decide) ?_
        exact ih (it + 1) vX vP vN vG vU vR vNd vGd vUd vRd vH vHV vQF vQV vB vBw r.2.1 vnow vdraft vspare vearlier vslots visKept vbuffer vout r.2.2 hI2 (by omega) (by omega) H locs hP hD hS ls (lv_sub hl [1, 2, 3, 4, 0] rfl)
      | 20, _ =>
        obtain ⟨r, hf, hr1, hI2⟩ := hall.2.2.2.2.2.2.2.2.2.2.2.2.2.2.2.2.2.2.2.2.1
        refine lv_tableIn (x := nI 20) (off := 981) (tgt := 1021) hx hb dL_law_40 (by decide) (by decide) (by decide) (by decide) ?_
        refine lc_20 hst C0 hK hE hN aX aB aBw aP aN aNd aH aQ aG aU aR aGd aUd aRd aHA kn kg ku kr aQA aQF qn qg qu qr aM aO vX vP vN vG vU vR vNd vGd vUd vRd vH vHV vQF vQV vB vBw vM vnow vdraft vspare vearlier vslots visKept vbuffer vout vO _ r hf hr1 (by omega) (by omega) hP hD hS ls hl (fun H locs ls hP hD hS hl => ?_)
        refine lv_iinc (v := nI (6 * (it + 1))) (lv' := [(4, .int (nI (6 * (it + 1)))), (0, .ref b), (1, .ref aX), (2, .ref (aM 0)), (3, .ref aO)]) hx hb dL_law_3200 hl (k := 4) rfl e6 (by decide) rfl (fun ls hl => ?_)
        refine lv_goto (tgt := 23) hx hb dL_law_3203 (by decide) ?_
        exact ih (it + 1) vX vP vN vG vU vR vNd vGd vUd vRd vH vHV vQF vQV vB vBw r.2.1 vnow vdraft vspare vearlier vslots visKept vbuffer vout r.2.2 hI2 (by omega) (by omega) H locs hP hD hS ls (lv_sub hl [1, 2, 3, 4, 0] rfl)
      | 21, _ =>
        obtain ⟨r, hf, hr1, hI2⟩ := hall.2.2.2.2.2.2.2.2.2.2.2.2.2.2.2.2.2.2.2.2.2.1
        refine lv_tableIn (x := nI 21) (off := 1037) (tgt := 1077) hx hb dL_law_40 (by decide) (by decide) (by decide) (by decide) ?_
        refine lc_21 hst C0 hK hE hN aX aB aBw aP aN aNd aH aQ aG aU aR aGd aUd aRd aHA kn kg ku kr aQA aQF qn qg qu qr aM aO vX vP vN vG vU vR vNd vGd vUd vRd vH vHV vQF vQV vB vBw vM vnow vdraft vspare vearlier vslots visKept vbuffer vout vO _ r hf hr1 (by omega) (by omega) hP hD hS ls hl (fun H locs ls hP hD hS hl => ?_)
        refine lv_iinc (v := nI (6 * (it + 1))) (lv' := [(4, .int (nI (6 * (it + 1)))), (0, .ref b), (1, .ref aX), (2, .ref (aM 0)), (3, .ref aO)]) hx hb dL_law_3200 hl (k := 4) rfl e6 (by decide) rfl (fun ls hl => ?_)
        refine lv_goto (tgt := 23) hx hb dL_law_3203 (by decide) ?_
        exact ih (it + 1) vX vP vN vG vU vR vNd vGd vUd vRd vH vHV vQF vQV vB vBw r.2.1 vnow vdraft vspare vearlier vslots visKept vbuffer vout r.2.2 hI2 (by omega) (by omega) H locs hP hD hS ls (lv_sub hl [1, 2, 3, 4, 0] rfl)
      | 22, _ =>
        obtain ⟨r, hf, hr1, hI2⟩ := hall.2.2.2.2.2.2.2.2.2.2.2.2.2.2.2.2.2.2.2.2.2.2.1
        refine lv_tableIn (x := nI 22) (off := 1093) (tgt := 1133) hx hb dL_law_40 (by decide) (by decide) (by decide) (by decide) ?_
        refine lc_22 hst C0 hK hE hN aX aB aBw aP aN aNd aH aQ aG aU aR aGd aUd aRd aHA kn kg ku kr aQA aQF qn qg qu qr aM aO vX vP vN vG vU vR vNd vGd vUd vRd vH vHV vQF vQV vB vBw vM vnow vdraft vspare vearlier vslots visKept vbuffer vout vO _ r hf hr1 (by omega) (by omega) hP hD hS ls hl (fun H locs ls hP hD hS hl => ?_)
        refine lv_iinc (v := nI (6 * (it + 1))) (lv' := [(4, .int (nI (6 * (it + 1)))), (0, .ref b), (1, .ref aX), (2, .ref (aM 0)), (3, .ref aO)]) hx hb dL_law_3200 hl (k := 4) rfl e6 (by decide) rfl (fun ls hl => ?_)
        refine lv_goto (tgt := 23) hx hb dL_law_3203 (by decide) ?_
        exact ih (it + 1) vX vP vN vG vU vR vNd vGd vUd vRd vH vHV vQF vQV vB vBw r.2 vnow vdraft vspare vearlier vslots visKept vbuffer vout vO hI2 (by omega) (by omega) H locs hP hD hS ls (lv_sub hl [1, 2, 3, 4, 0] rfl)
      | 23, _ =>
        obtain ⟨r, hf, hr1, hI2⟩ := hall.2.2.2.2.2.2.2.2.2.2.2.2.2.2.2.2.2.2.2.2.2.2.2.1
        refine lv_tableIn (x := nI 23) (off := 1106) (tgt := 1146) hx hb dL_law_40 (by decide) (by decide) (by decide) (by decide) ?_
        refine lc_23 hst C0 hK hE hN aX aB aBw aP aN aNd aH aQ aG aU aR aGd aUd aRd aHA kn kg ku kr aQA aQF qn qg qu qr aM aO vX vP vN vG vU vR vNd vGd vUd vRd vH vHV vQF vQV vB vBw vM vnow vdraft vspare vearlier vslots visKept vbuffer vout vO _ r hf hr1 (by omega) (by omega) hP hD hS ls hl (fun H locs ls hP hD hS hl => ?_)
        refine lv_iinc (v := nI (6 * (it + 1))) (lv' := [(4, .int (nI (6 * (it + 1)))), (0, .ref b), (1, .ref aX), (2, .ref (aM 0)), (3, .ref aO)]) hx hb dL_law_3200 hl (k := 4) rfl e6 (by decide) rfl (fun ls hl => ?_)
        refine lv_goto (tgt := 23) hx hb dL_law_3203 (by decide) ?_
        exact ih (it + 1) vX vP vN vG vU vR vNd vGd vUd vRd vH vHV vQF vQV vB vBw r.2.1 vnow vdraft vspare vearlier vslots visKept vbuffer vout r.2.2 hI2 (by omega) (by omega) H locs hP hD hS ls (lv_sub hl [1, 2, 3, 4, 0] rfl)
      | 24, _ =>
        obtain ⟨r, hf, hr1, hI2⟩ := hall.2.2.2.2.2.2.2.2.2.2.2.2.2.2.2.2.2.2.2.2.2.2.2.2.1
        refine lv_tableIn (x := nI 24) (off := 1169) (tgt := 1209) hx hb dL_law_40 (by decide) (by decide) (by decide) (by decide) ?_
        refine lc_24 hst C0 hK hE hN aX aB aBw aP aN aNd aH aQ aG aU aR aGd aUd aRd aHA kn kg ku kr aQA aQF qn qg qu qr aM aO vX vP vN vG vU vR vNd vGd vUd vRd vH vHV vQF vQV vB vBw vM vnow vdraft vspare vearlier vslots visKept vbuffer vout vO _ r hf hr1 (by omega) (by omega) hP hD hS ls hl (fun H locs ls hP hD hS hl => ?_)
        refine lv_iinc (v := nI (6 * (it + 1))) (lv' := [(4, .int (nI (6 * (it + 1)))), (0, .ref b), (1, .ref aX), (2, .ref (aM 0)), (3, .ref aO)]) hx hb dL_law_3200 hl (k := 4) rfl e6 (by decide) rfl (fun ls hl => ?_)
        refine lv_goto (tgt := 23) hx hb dL_law_3203 (by decide) ?_
        exact ih (it + 1) vX vP vN vG vU vR vNd vGd vUd vRd vH vHV vQF vQV vB vBw r.2 vnow vdraft vspare vearlier vslots visKept vbuffer vout vO hI2 (by omega) (by omega) H locs hP hD hS ls (lv_sub hl [1, 2, 3, 4, 0] rfl)
      | 25, _ =>
        obtain ⟨r, hf, hr1, hI2⟩ := hall.2.2.2.2.2.2.2.2.2.2.2.2.2.2.2.2.2.2.2.2.2.2.2.2.2.1
        refine lv_tableIn (x := nI 25) (off := 1182) (tgt := 1222) hx hb dL_law_40 (by decide) (by decide) (by decide) (by decide) ?_
        refine lc_25 hst C0 hK hE hN aX aB aBw aP aN aNd aH aQ aG aU aR aGd aUd aRd aHA kn kg ku kr aQA aQF qn qg qu qr aM aO vX vP vN vG vU vR vNd vGd vUd vRd vH vHV vQF vQV vB vBw vM vnow vdraft vspare vearlier vslots visKept vbuffer vout vO _ r hf hr1 (by omega) (by omega) hP hD hS ls hl (fun H locs ls hP hD hS hl => ?_)
        refine lv_iinc (v := nI (6 * (it + 1))) (lv' := [(4, .int (nI (6 * (it + 1)))), (0, .ref b), (1, .ref aX), (2, .ref (aM 0)), (3, .ref aO)]) hx hb dL_law_3200 hl (k := 4) rfl e6 (by decide) rfl (fun ls hl => ?_)
        refine lv_goto (tgt := 23) hx hb dL_law_3203 (by decide) ?_
        exact ih (it + 1) vX vP vN vG vU vR vNd vGd vUd vRd vH vHV vQF vQV vB vBw r.2.1 vnow vdraft vspare vearlier vslots visKept vbuffer vout r.2.2 hI2 (by omega) (by omega) H locs hP hD hS ls (lv_sub hl [1, 2, 3, 4, 0] rfl)
      | 26, _ =>
        obtain ⟨r, hf, hr1, hI2⟩ := hall.2.2.2.2.2.2.2.2.2.2.2.2.2.2.2.2.2.2.2.2.2.2.2.2.2.2.1
        refine lv_tableIn (x := nI 26) (off := 1238) (tgt := 1278) hx hb dL_law_40 (by decide) (by decide) (by decide) (by decide) ?_
        refine lc_26 hst C0 hK hE hN aX aB aBw aP aN aNd aH aQ aG aU aR aGd aUd aRd aHA kn kg ku kr aQA aQF qn qg qu qr aM aO vX vP vN vG vU vR vNd vGd vUd vRd vH vHV vQF vQV vB vBw vM vnow vdraft vspare vearlier vslots visKept vbuffer vout vO _ r hf hr1 (by omega) (by omega) hP hD hS ls hl (fun H locs ls hP hD hS hl => ?_)
        refine lv_iinc (v := nI (6 * (it + 1))) (lv' := [(4, .int (nI (6 * (it + 1)))), (0, .ref b), (1, .ref aX), (2, .ref (aM 0)), (3, .ref aO)]) hx hb dL_law_3200 hl (k := 4) rfl e6 (by decide) rfl (fun ls hl => ?_)
        refine lv_goto (tgt := 23) hx hb dL_law_3203 (by decide) ?_
        exact ih (it + 1) vX vP vN vG vU vR vNd vGd vUd vRd vH vHV vQF vQV vB vBw r.2.1 vnow vdraft vspare vearlier vslots visKept vbuffer vout r.2.2 hI2 (by omega) (by omega) H locs hP hD hS ls (lv_sub hl [1, 2, 3, 4, 0] rfl)
      | 27, _ =>
        obtain ⟨r, hf, hr1, hI2⟩ := hall.2.2.2.2.2.2.2.2.2.2.2.2.2.2.2.2.2.2.2.2.2.2.2.2.2.2.2.1
        refine lv_tableIn (x := nI 27) (off := 1294) (tgt := 1334) hx hb dL_law_40 (by decide) (by decide) (by decide) (by decide) ?_
        refine lc_27 hst C0 hK hE hN aX aB aBw aP aN aNd aH aQ aG aU aR aGd aUd aRd aHA kn kg ku kr aQA aQF qn qg qu qr aM aO vX vP vN vG vU vR vNd vGd vUd vRd vH vHV vQF vQV vB vBw vM vnow vdraft vspare vearlier vslots visKept vbuffer vout vO _ r hf hr1 (by omega) (by omega) hP hD hS ls hl (fun H locs ls hP hD hS hl => ?_)
        refine lv_iinc (v := nI (6 * (it + 1))) (lv' := [(4, .int (nI (6 * (it + 1)))), (0, .ref b), (1, .ref aX), (2, .ref (aM 0)), (3, .ref aO)]) hx hb dL_law_3200 hl (k := 4) rfl e6 (by decide) rfl (fun ls hl => ?_)
        refine lv_goto (tgt := 23) hx hb dL_law_3203 (by decide) ?_
        exact ih (it + 1) vX vP vN vG vU vR vNd vGd vUd vRd vH vHV vQF vQV vB vBw r.2.1 vnow vdraft vspare vearlier vslots visKept vbuffer vout r.2.2 hI2 (by omega) (by omega) H locs hP hD hS ls (lv_sub hl [1, 2, 3, 4, 0] rfl)
      | 28, _ =>
        obtain ⟨r, hf, hr1, hI2⟩ := hall.2.2.2.2.2.2.2.2.2.2.2.2.2.2.2.2.2.2.2.2.2.2.2.2.2.2.2.2.1
        refine lv_tableIn (x := nI 28) (off := 1357) (tgt := 1397) hx hb dL_law_40 (by decide) (by decide) (by decide) (by decide) ?_
        refine lc_28 hst C0 hK hE hN aX aB aBw aP aN aNd aH aQ aG aU aR aGd aUd aRd aHA kn kg ku kr aQA aQF qn qg qu qr aM aO vX vP vN vG vU vR vNd vGd vUd vRd vH vHV vQF vQV vB vBw vM vnow vdraft vspare vearlier vslots visKept vbuffer vout vO _ r hf hr1 (by omega) (by omega) hP hD hS ls hl (fun H locs ls hP hD hS hl => ?_)
        refine lv_iinc (v := nI (6 * (it + 1))) (lv' := [(4, .int (nI (6 * (it + 1)))), (0, .ref b), (1, .ref aX), (2, .ref (aM 0)), (3, .ref aO)]) hx hb dL_law_3200 hl (k := 4) rfl e6 (by decide) rfl (fun ls hl => ?_)
        refine lv_goto (tgt := 23) hx hb dL_law_3203 (by decide) ?_
        exact ih (it + 1) vX vP vN vG vU vR vNd vGd vUd vRd vH vHV vQF vQV vB vBw r.2.1 vnow vdraft vspare vearlier vslots visKept vbuffer vout r.2.2 hI2 (by omega) (by omega) H locs hP hD hS ls (lv_sub hl [1, 2, 3, 4, 0] rfl)
      | 29, _ =>
        obtain ⟨r, hf, hr1, hI2⟩ := hall.2.2.2.2.2.2.2.2.2.2.2.2.2.2.2.2.2.2.2.2.2.2.2.2.2.2.2.2.2.1
        refine lv_tableIn (x := nI 29) (off := 1420) (tgt := 1460) hx hb dL_law_40 (by decide) (by decide) (by decide) (by decide) ?_
        refine lc_29 hst C0 hK hE hN aX aB aBw aP aN aNd aH aQ aG aU aR aGd aUd aRd aHA kn kg ku kr aQA aQF qn qg qu qr aM aO vX vP vN vG vU vR vNd vGd vUd vRd vH vHV vQF vQV vB vBw vM vnow vdraft vspare vearlier vslots visKept vbuffer vout vO _ r hf hr1 (by omega) (by omega) hP hD hS ls hl (fun H locs ls hP hD hS hl => ?_)
        refine lv_iinc (v := nI (6 * (it + 1))) (lv' := [(4, .int (nI (6 * (it + 1)))), (0, .ref b), (1, .ref aX), (2, .ref (aM 0)), (3, .ref aO)]) hx hb dL_law_3200 hl (k := 4) rfl e6 (by decide) rfl (fun ls hl => ?_)
        refine lv_goto (tgt := 23) hx hb dL_law_3203 (by decide) ?_
        exact ih (it + 1) vX vP vN vG vU vR vNd vGd vUd vRd vH vHV vQF vQV vB vBw r.2.1 vnow vdraft vspare vearlier vslots visKept vbuffer vout r.2.2 hI2 (by omega) (by omega) H locs hP hD hS ls (lv_sub hl [1, 2, 3, 4, 0] rfl)
      | 30, _ =>
        obtain ⟨r, hf, hr1, hI2⟩ := hall.2.2.2.2.2.2.2.2.2.2.2.2.2.2.2.2.2.2.2.2.2.2.2.2.2.2.2.2.2.2.1
        refine lv_tableIn (x := nI 30) (off := 1476) (tgt := 1516) hx hb dL_law_40 (by decide) (by decide) (by decide) (by decide) ?_
        refine lc_30 hst C0 hK hE hN aX aB aBw aP aN aNd aH aQ aG aU aR aGd aUd aRd aHA kn kg ku kr aQA aQF qn qg qu qr aM aO vX vP vN vG vU vR vNd vGd vUd vRd vH vHV vQF vQV vB vBw vM vnow vdraft vspare vearlier vslots visKept vbuffer vout vO _ r hf hr1 (by omega) (by omega) hP hD hS ls hl (fun H locs ls hP hD hS hl => ?_)
        refine lv_iinc (v := nI (6 * (it + 1))) (lv' := [(4, .int (nI (6 * (it + 1)))), (0, .ref b), (1, .ref aX), (2, .ref (aM 0)), (3, .ref aO)]) hx hb dL_law_3200 hl (k := 4) rfl e6 (by decide) rfl (fun ls hl => ?_)
        refine lv_goto (tgt := 23) hx hb dL_law_3203 (by decide) ?_
        exact ih (it + 1) vX vP vN vG vU vR vNd vGd vUd vRd vH vHV vQF vQV vB vBw r.2.1 vnow vdraft vspare vearlier vslots visKept vbuffer vout r.2.2 hI2 (by omega) (by omega) H locs hP hD hS ls (lv_sub hl [1, 2, 3, 4, 0] rfl)
      | 31, _ =>
        obtain ⟨r, hf, hr1, hI2⟩ := hall.2.2.2.2.2.2.2.2.2.2.2.2.2.2.2.2.2.2.2.2.2.2.2.2.2.2.2.2.2.2.2.1
        refine lv_tableIn (x := nI 31) (off := 1532) (tgt := 1572) hx hb dL_law_40 (by decide) (by decide) (by decide) (by decide) ?_
        refine lc_31 hst C0 hK hE hN aX aB aBw aP aN aNd aH aQ aG aU aR aGd aUd aRd aHA kn kg ku kr aQA aQF qn qg qu qr aM aO vX vP vN vG vU vR vNd vGd vUd vRd vH vHV vQF vQV vB vBw vM vnow vdraft vspare vearlier vslots visKept vbuffer vout vO _ r hf hr1 (by omega) (by omega) hP hD hS ls hl (fun H locs ls hP hD hS hl => ?_)
        refine lv_iinc (v := nI (6 * (it + 1))) (lv' := [(4, .int (nI (6 * (it + 1)))), (0, .ref b), (1, .ref aX), (2, .ref (aM 0)), (3, .ref aO)]) hx hb dL_law_3200 hl (k := 4) rfl e6 (by decide) rfl (fun ls hl => ?_)
        refine lv_goto (tgt := 23) hx hb dL_law_3203 (by decide) ?_
        exact ih (it + 1) vX vP vN vG vU vR vNd vGd vUd vRd vH vHV vQF vQV vB vBw r.2 vnow vdraft vspare vearlier vslots visKept vbuffer vout vO hI2 (by omega) (by omega) H locs hP hD hS ls (lv_sub hl [1, 2, 3, 4, 0] rfl)
      | 32, _ =>
        obtain ⟨r, hf, hr1, hI2⟩ := hall.2.2.2.2.2.2.2.2.2.2.2.2.2.2.2.2.2.2.2.2.2.2.2.2.2.2.2.2.2.2.2.2.1
        refine lv_tableIn (x := nI 32) (off := 1545) (tgt := 1585) hx hb dL_law_40 (by decide) (by decide) (by decide) (by decide) ?_
        refine lc_32 hst C0 hK hE hN aX aB aBw aP aN aNd aH aQ aG aU aR aGd aUd aRd aHA kn kg ku kr aQA aQF qn qg qu qr aM aO vX vP vN vG vU vR vNd vGd vUd vRd vH vHV vQF vQV vB vBw vM vnow vdraft vspare vearlier vslots visKept vbuffer vout vO _ r hf hr1 (by omega) (by omega) hP hD hS ls hl (fun H locs ls hP hD hS hl => ?_)
        refine lv_iinc (v := nI (6 * (it + 1))) (lv' := [(4, .int (nI (6 * (it + 1)))), (0, .ref b), (1, .ref aX), (2, .ref (aM 0)), (3, .ref aO)]) hx hb dL_law_3200 hl (k := 4) rfl e6 (by decide) rfl (fun ls hl => ?_)
        refine lv_goto (tgt := 23) hx hb dL_law_3203 (by decide) ?_
        exact ih (it + 1) vX vP vN vG vU vR vNd vGd vUd vRd vH vHV vQF vQV vB vBw r.2 vnow vdraft vspare vearlier vslots visKept vbuffer vout vO hI2 (by omega) (by omega) H locs hP hD hS ls (lv_sub hl [1, 2, 3, 4, 0] rfl)
      | 33, _ =>
        obtain ⟨r, hf, hr1, hI2⟩ := hall.2.2.2.2.2.2.2.2.2.2.2.2.2.2.2.2.2.2.2.2.2.2.2.2.2.2.2.2.2.2.2.2.2.1
        refine lv_tableIn (x := nI 33) (off := 1558) (tgt := 1598) hx hb dL_law_40 (by decide) (by decide) (by decide) (by decide) ?_
        refine lc_33 hst C0 hK hE hN aX aB aBw aP aN aNd aH aQ aG aU aR aGd aUd aRd aHA kn kg ku kr aQA aQF qn qg qu qr aM aO vX vP vN vG vU vR vNd vGd vUd vRd vH vHV vQF vQV vB vBw vM vnow vdraft vspare vearlier vslots visKept vbuffer vout vO _ r hf hr1 (by omega) (by omega) hP hD hS ls hl (fun H locs ls hP hD hS hl => ?_)
        refine lv_iinc (v := nI (6 * (it + 1))) (lv' := [(4, .int (nI (6 * (it + 1)))), (0, .ref b), (1, .ref aX), (2, .ref (aM 0)), (3, .ref aO)]) hx hb dL_law_3200 hl (k := 4) rfl e6 (by decide) rfl (fun ls hl => ?_)
        refine lv_goto (tgt := 23) hx hb dL_law_3203 (by decide) ?_
        exact ih (it + 1) vX vP vN vG vU vR vNd vGd vUd vRd vH vHV vQF vQV vB vBw r.2 vnow vdraft vspare vearlier vslots visKept vbuffer vout vO hI2 (by omega) (by omega) H locs hP hD hS ls (lv_sub hl [1, 2, 3, 4, 0] rfl)
      | 34, _ =>
        obtain ⟨r, hf, hr1, hI2⟩ := hall.2.2.2.2.2.2.2.2.2.2.2.2.2.2.2.2.2.2.2.2.2.2.2.2.2.2.2.2.2.2.2.2.2.2.1
        refine lv_tableIn (x := nI 34) (off := 1571) (tgt := 1611) hx hb dL_law_40 (by decide) (by decide) (by decide) (by decide) ?_
        refine lc_34 hst C0 hK hE hN aX aB aBw aP aN aNd aH aQ aG aU aR aGd aUd aRd aHA kn kg ku kr aQA aQF qn qg qu qr aM aO vX vP vN vG vU vR vNd vGd vUd vRd vH vHV vQF vQV vB vBw vM vnow vdraft vspare vearlier vslots visKept vbuffer vout vO _ r hf hr1 (by omega) (by omega) hP hD hS ls hl (fun H locs ls hP hD hS hl => ?_)
        refine lv_iinc (v := nI (6 * (it + 1))) (lv' := [(4, .int (nI (6 * (it + 1)))), (0, .ref b), (1, .ref aX), (2, .ref (aM 0)), (3, .ref aO)]) hx hb dL_law_3200 hl (k := 4) rfl e6 (by decide) rfl (fun ls hl => ?_)
        refine lv_goto (tgt := 23) hx hb dL_law_3203 (by decide) ?_
        exact ih (it + 1) vX vP vN vG vU vR vNd vGd vUd vRd vH vHV vQF vQV vB vBw r.2.1 vnow vdraft vspare vearlier vslots visKept vbuffer vout r.2.2 hI2 (by omega) (by omega) H locs hP hD hS ls (lv_sub hl [1, 2, 3, 4, 0] rfl)
      | 35, _ =>
        obtain ⟨r, hf, hr1, hI2⟩ := hall.2.2.2.2.2.2.2.2.2.2.2.2.2.2.2.2.2.2.2.2.2.2.2.2.2.2.2.2.2.2.2.2.2.2.2.1
        refine lv_tableIn (x := nI 35) (off := 1627) (tgt := 1667) hx hb dL_law_40 (by decide) (by decide) (by decide) (by decide) ?_
        refine lc_35 hst C0 hK hE hN aX aB aBw aP aN aNd aH aQ aG aU aR aGd aUd aRd aHA kn kg ku kr aQA aQF qn qg qu qr aM aO vX vP vN vG vU vR vNd vGd vUd vRd vH vHV vQF vQV vB vBw vM vnow vdraft vspare vearlier vslots visKept vbuffer vout vO _ r hf hr1 (by omega) (by omega) hP hD hS ls hl (fun H locs ls hP hD hS hl => ?_)
        refine lv_iinc (v := nI (6 * (it + 1))) (lv' := [(4, .int (nI (6 * (it + 1)))), (0, .ref b), (1, .ref aX), (2, .ref (aM 0)), (3, .ref aO)]) hx hb dL_law_3200 hl (k := 4) rfl e6 (by decide) rfl (fun ls hl => ?_)
        refine lv_goto (tgt := 23) hx hb dL_law_3203 (by decide) ?_
        exact ih (it + 1) vX vP vN vG vU vR vNd vGd vUd vRd vH vHV vQF vQV vB vBw r.2.1 vnow vdraft vspare vearlier vslots visKept vbuffer vout r.2.2 hI2 (by omega) (by omega) H locs hP hD hS ls (lv_sub hl [1, 2, 3, 4, 0] rfl)
      | 36, _ =>
        obtain ⟨r, hf, hr1, hI2⟩ := hall.2.2.2.2.2.2.2.2.2.2.2.2.2.2.2.2.2.2.2.2.2.2.2.2.2.2.2.2.2.2.2.2.2.2.2.2.1
        refine lv_tableIn (x := nI 36) (off := 1683) (tgt := 1723) hx hb dL_law_40 (by decide) (by decide) (by decide) (by decide) ?_
        refine lc_36 hst C0 hK hE hN aX aB aBw aP aN aNd aH aQ aG aU aR aGd aUd aRd aHA kn kg ku kr aQA aQF qn qg qu qr aM aO vX vP vN vG vU vR vNd vGd vUd vRd vH vHV vQF vQV vB vBw vM vnow vdraft vspare vearlier vslots visKept vbuffer vout vO _ r hf hr1 (by omega) (by omega) hP hD hS ls hl (fun H locs ls hP hD hS hl => ?_)
        refine lv_iinc (v := nI (6 * (it + 1))) (lv' := [(4, .int (nI (6 * (it + 1)))), (0, .ref b), (1, .ref aX), (2, .ref (aM 0)), (3, .ref aO)]) hx hb dL_law_3200 hl (k := 4) rfl e6 (by decide) rfl (fun ls hl => ?_)
        refine lv_goto (tgt := 23) hx hb dL_law_3203 (by decide) ?_
        exact ih (it + 1) vX vP vN vG vU vR vNd vGd vUd vRd vH vHV vQF vQV vB vBw r.2.1 vnow vdraft vspare vearlier vslots visKept vbuffer vout r.2.2 hI2 (by omega) (by omega) H locs hP hD hS ls (lv_sub hl [1, 2, 3, 4, 0] rfl)
      | 37, _ =>
        obtain ⟨r, hf, hr1, hI2⟩ := hall.2.2.2.2.2.2.2.2.2.2.2.2.2.2.2.2.2.2.2.2.2.2.2.2.2.2.2.2.2.2.2.2.2.2.2.2.2.1
        refine lv_tableIn (x := nI 37) (off := 1746) (tgt := 1786) hx hb dL_law_40 (by decide) (by decide) (by decide) (by decide) ?_
        refine lc_37 hst C0 hK hE hN aX aB aBw aP aN aNd aH aQ aG aU aR aGd aUd aRd aHA kn kg ku kr aQA aQF qn qg qu qr aM aO vX vP vN vG vU vR vNd vGd vUd vRd vH vHV vQF vQV vB vBw vM vnow vdraft vspare vearlier vslots visKept vbuffer vout vO _ r hf hr1 (by omega) (by omega) hP hD hS ls hl (fun H locs ls hP hD hS hl => ?_)
        refine lv_iinc (v := nI (6 * (it + 1))) (lv' := [(4, .int (nI (6 * (it + 1)))), (0, .ref b), (1, .ref aX), (2, .ref (aM 0)), (3, .ref aO)]) hx hb dL_law_3200 hl (k := 4) rfl e6 (by decide) rfl (fun ls hl => ?_)
        refine lv_goto (tgt := 23) hx hb dL_law_3203 (by decide) ?_
        exact ih (it + 1) vX vP vN vG vU vR vNd vGd vUd vRd vH vHV vQF vQV vB vBw r.2.1 vnow vdraft vspare vearlier vslots visKept vbuffer vout r.2.2 hI2 (by omega) (by omega) H locs hP hD hS ls (lv_sub hl [1, 2, 3, 4, 0] rfl)
      | 38, _ =>
        obtain ⟨r, hf, hr1, hI2⟩ := hall.2.2.2.2.2.2.2.2.2.2.2.2.2.2.2.2.2.2.2.2.2.2.2.2.2.2.2.2.2.2.2.2.2.2.2.2.2.2.1
        refine lv_tableIn (x := nI 38) (off := 1821) (tgt := 1861) hx hb dL_law_40 (by decide) (by decide) (by decide) (by decide) ?_
        refine lc_38 hst C0 hK hE hN aX aB aBw aP aN aNd aH aQ aG aU aR aGd aUd aRd aHA kn kg ku kr aQA aQF qn qg qu qr aM aO vX vP vN vG vU vR vNd vGd vUd vRd vH vHV vQF vQV vB vBw vM vnow vdraft vspare vearlier vslots visKept vbuffer vout vO _ r hf hr1 (by omega) (by omega) hP hD hS ls hl (fun H locs ls hP hD hS hl => ?_)
        refine lv_iinc (v := nI (6 * (it + 1))) (lv' := [(4, .int (nI (6 * (it + 1)))), (0, .ref b), (1, .ref aX), (2, .ref (aM 0)), (3, .ref aO)]) hx hb dL_law_3200 hl (k := 4) rfl e6 (by decide) rfl (fun ls hl => ?_)
        refine lv_goto (tgt := 23) hx hb dL_law_3203 (by decide) ?_
        exact ih (it + 1) vX vP vN vG vU vR vNd vGd vUd vRd vH vHV vQF vQV vB vBw r.2.1 vnow vdraft vspare vearlier vslots visKept vbuffer vout r.2.2 hI2 (by omega) (by omega) H locs hP hD hS ls (lv_sub hl [1, 2, 3, 4, 0] rfl)
      | 39, _ =>
        obtain ⟨r, hf, hr1, hI2⟩ := hall.2.2.2.2.2.2.2.2.2.2.2.2.2.2.2.2.2.2.2.2.2.2.2.2.2.2.2.2.2.2.2.2.2.2.2.2.2.2.2.1
        refine lv_tableIn (x := nI 39) (off := 1908) (tgt := 1948) hx hb dL_law_40 (by decide) (by decide) (by decide) (by decide) ?_
        refine lc_39 hst C0 hK hE hN aX aB aBw aP aN aNd aH aQ aG aU aR aGd aUd aRd aHA kn kg ku kr aQA aQF qn qg qu qr aM aO vX vP vN vG vU vR vNd vGd vUd vRd vH vHV vQF vQV vB vBw vM vnow vdraft vspare vearlier vslots visKept vbuffer vout vO _ r hf hr1 (by omega) (by omega) hP hD hS ls hl (fun H locs ls hP hD hS hl => ?_)
        refine lv_iinc (v := nI (6 * (it + 1))) (lv' := [(4, .int (nI (6 * (it + 1)))), (0, .ref b), (1, .ref aX), (2, .ref (aM 0)), (3, .ref aO)]) hx hb dL_law_3200 hl (k := 4) rfl e6 (by decide) rfl (fun ls hl => ?_)
        refine lv_goto (tgt := 23) hx hb dL_law_3203 (by decide) ?_
        exact ih (it + 1) vX vP vN vG vU vR vNd vGd vUd vRd vH vHV vQF vQV vB vBw r.2.1 vnow vdraft vspare vearlier vslots visKept vbuffer vout r.2.2 hI2 (by omega) (by omega) H locs hP hD hS ls (lv_sub hl [1, 2, 3, 4, 0] rfl)
      | 40, _ =>
        obtain ⟨r, hf, hr1, hI2⟩ := hall.2.2.2.2.2.2.2.2.2.2.2.2.2.2.2.2.2.2.2.2.2.2.2.2.2.2.2.2.2.2.2.2.2.2.2.2.2.2.2.2.1
        refine lv_tableIn (x := nI 40) (off := 1976) (tgt := 2016) hx hb dL_law_40 (by decide) (by decide) (by decide) (by decide) ?_
        refine lc_40 hst C0 hK hE hN aX aB aBw aP aN aNd aH aQ aG aU aR aGd aUd aRd aHA kn kg ku kr aQA aQF qn qg qu qr aM aO vX vP vN vG vU vR vNd vGd vUd vRd vH vHV vQF vQV vB vBw vM vnow vdraft vspare vearlier vslots visKept vbuffer vout vO _ r hf hr1 (by omega) (by omega) hP hD hS ls hl (fun H locs ls hP hD hS hl => ?_)
        refine lv_iinc (v := nI (6 * (it + 1))) (lv' := [(4, .int (nI (6 * (it + 1)))), (0, .ref b), (1, .ref aX), (2, .ref (aM 0)), (3, .ref aO)]) hx hb dL_law_3200 hl (k := 4) rfl e6 (by decide) rfl (fun ls hl => ?_)
        refine lv_goto (tgt := 23) hx hb dL_law_3203 (by decide) ?_
        exact ih (it + 1) vX vP vN vG vU vR vNd vGd vUd vRd vH vHV vQF vQV vB vBw r.2.1 vnow vdraft vspare vearlier vslots visKept vbuffer vout r.2.2 hI2 (by omega) (by omega) H locs hP hD hS ls (lv_sub hl [1, 2, 3, 4, 0] rfl)
      | 41, _ =>
        obtain ⟨r, hf, hr1, hI2⟩ := hall.2.2.2.2.2.2.2.2.2.2.2.2.2.2.2.2.2.2.2.2.2.2.2.2.2.2.2.2.2.2.2.2.2.2.2.2.2.2.2.2.2.1
        refine lv_tableIn (x := nI 41) (off := 2044) (tgt := 2084) hx hb dL_law_40 (by decide) (by decide) (by decide) (by decide) ?_
        refine lc_41 hst C0 hK hE hN aX aB aBw aP aN aNd aH aQ aG aU aR aGd aUd aRd aHA kn kg ku kr aQA aQF qn qg qu qr aM aO vX vP vN vG vU vR vNd vGd vUd vRd vH vHV vQF vQV vB vBw vM vnow vdraft vspare vearlier vslots visKept vbuffer vout vO _ r hf hr1 (by omega) (by omega) hP hD hS ls hl (fun H locs ls hP hD hS hl => ?_)
        refine lv_iinc (v := nI (6 * (it + 1))) (lv' := [(4, .int (nI (6 * (it + 1)))), (0, .ref b), (1, .ref aX), (2, .ref (aM 0)), (3, .ref aO)]) hx hb dL_law_3200 hl (k := 4) rfl e6 (by decide) rfl (fun ls hl => ?_)
        refine lv_goto (tgt := 23) hx hb dL_law_3203 (by decide) ?_
        exact ih (it + 1) vX vP vN vG vU vR vNd vGd vUd vRd vH vHV vQF vQV vB vBw r.2.1 vnow vdraft vspare vearlier vslots visKept vbuffer vout r.2.2 hI2 (by omega) (by omega) H locs hP hD hS ls (lv_sub hl [1, 2, 3, 4, 0] rfl)
      | 42, _ =>
        obtain ⟨r, hf, hr1, hI2⟩ := hall.2.2.2.2.2.2.2.2.2.2.2.2.2.2.2.2.2.2.2.2.2.2.2.2.2.2.2.2.2.2.2.2.2.2.2.2.2.2.2.2.2.2.1
        refine lv_tableIn (x := nI 42) (off := 2100) (tgt := 2140) hx hb dL_law_40 (by decide) (by decide) (by decide) (by decide) ?_
        refine lc_42 hst C0 hK hE hN aX aB aBw aP aN aNd aH aQ aG aU aR aGd aUd aRd aHA kn kg ku kr aQA aQF qn qg qu qr aM aO vX vP vN vG vU vR vNd vGd vUd vRd vH vHV vQF vQV vB vBw vM vnow vdraft vspare vearlier vslots visKept vbuffer vout vO _ r hf hr1 (by omega) (by omega) hP hD hS ls hl (fun H locs ls hP hD hS hl => ?_)
        refine lv_iinc (v := nI (6 * (it + 1))) (lv' := [(4, .int (nI (6 * (it + 1)))), (0, .ref b), (1, .ref aX), (2, .ref (aM 0)), (3, .ref aO)]) hx hb dL_law_3200 hl (k := 4) rfl e6 (by decide) rfl (fun ls hl => ?_)
        refine lv_goto (tgt := 23) hx hb dL_law_3203 (by decide) ?_
        exact ih (it + 1) vX vP vN vG vU vR vNd vGd vUd vRd vH vHV vQF vQV vB vBw r.2.1 vnow vdraft vspare vearlier vslots visKept vbuffer vout r.2.2 hI2 (by omega) (by omega) H locs hP hD hS ls (lv_sub hl [1, 2, 3, 4, 0] rfl)
      | 43, _ =>
        obtain ⟨r, hf, hr1, hI2⟩ := hall.2.2.2.2.2.2.2.2.2.2.2.2.2.2.2.2.2.2.2.2.2.2.2.2.2.2.2.2.2.2.2.2.2.2.2.2.2.2.2.2.2.2.2.1
        refine lv_tableIn (x := nI 43) (off := 2168) (tgt := 2208) hx hb dL_law_40 (by decide) (by decide) (by decide) (by decide) ?_
        refine lc_43 hst C0 hK hE hN aX aB aBw aP aN aNd aH aQ aG aU aR aGd aUd aRd aHA kn kg ku kr aQA aQF qn qg qu qr aM aO vX vP vN vG vU vR vNd vGd vUd vRd vH vHV vQF vQV vB vBw vM vnow vdraft vspare vearlier vslots visKept vbuffer vout vO _ r hf hr1 (by omega) (by omega) hP hD hS ls hl (fun H locs ls hP hD hS hl => ?_)
        refine lv_iinc (v := nI (6 * (it + 1))) (lv' := [(4, .int (nI (6 * (it + 1)))), (0, .ref b), (1, .ref aX), (2, .ref (aM 0)), (3, .ref aO)]) hx hb dL_law_3200 hl (k := 4) rfl e6 (by decide) rfl (fun ls hl => ?_)
        refine lv_goto (tgt := 23) hx hb dL_law_3203 (by decide) ?_
        exact ih (it + 1) vX vP vN vG vU vR vNd vGd vUd vRd vH vHV vQF vQV vB vBw r.2 vnow vdraft vspare vearlier vslots visKept vbuffer vout vO hI2 (by omega) (by omega) H locs hP hD hS ls (lv_sub hl [1, 2, 3, 4, 0] rfl)
      | 44, _ =>
        obtain ⟨r, hf, hr1, hI2⟩ := hall.2.2.2.2.2.2.2.2.2.2.2.2.2.2.2.2.2.2.2.2.2.2.2.2.2.2.2.2.2.2.2.2.2.2.2.2.2.2.2.2.2.2.2.2.1
        refine lv_tableIn (x := nI 44) (off := 2209) (tgt := 2249) hx hb dL_law_40 (by decide) (by decide) (by decide) (by decide) ?_
        refine lc_44 hst C0 hK hE hN aX aB aBw aP aN aNd aH aQ aG aU aR aGd aUd aRd aHA kn kg ku kr aQA aQF qn qg qu qr aM aO vX vP vN vG vU vR vNd vGd vUd vRd vH vHV vQF vQV vB vBw vM vnow vdraft vspare vearlier vslots visKept vbuffer vout vO _ r hf hr1 (by omega) (by omega) hP hD hS ls hl (fun H locs ls hP hD hS hl => ?_)
        refine lv_iinc (v := nI (6 * (it + 1))) (lv' := [(4, .int (nI (6 * (it + 1)))), (0, .ref b), (1, .ref aX), (2, .ref (aM 0)), (3, .ref aO)]) hx hb dL_law_3200 hl (k := 4) rfl e6 (by decide) rfl (fun ls hl => ?_)
        refine lv_goto (tgt := 23) hx hb dL_law_3203 (by decide) ?_
        exact ih (it + 1) vX vP vN vG vU vR vNd vGd vUd vRd vH vHV vQF vQV vB vBw r.2 vnow vdraft vspare vearlier vslots visKept vbuffer vout vO hI2 (by omega) (by omega) H locs hP hD hS ls (lv_sub hl [1, 2, 3, 4, 0] rfl)
      | 45, _ =>
        obtain ⟨r, hf, hr1, hI2⟩ := hall.2.2.2.2.2.2.2.2.2.2.2.2.2.2.2.2.2.2.2.2.2.2.2.2.2.2.2.2.2.2.2.2.2.2.2.2.2.2.2.2.2.2.2.2.2.1
        refine lv_tableIn (x := nI 45) (off := 2252) (tgt := 2292) hx hb dL_law_40 (by decide) (by decide) (by decide) (by decide) ?_
        refine lc_45 hst C0 hK hE hN aX aB aBw aP aN aNd aH aQ aG aU aR aGd aUd aRd aHA kn kg ku kr aQA aQF qn qg qu qr aM aO vX vP vN vG vU vR vNd vGd vUd vRd vH vHV vQF vQV vB vBw vM vnow vdraft vspare vearlier vslots visKept vbuffer vout vO _ r hf hr1 (by omega) (by omega) hP hD hS ls hl (fun H locs ls hP hD hS hl => ?_)
        refine lv_iinc (v := nI (6 * (it + 1))) (lv' := [(4, .int (nI (6 * (it + 1)))), (0, .ref b), (1, .ref aX), (2, .ref (aM 0)), (3, .ref aO)]) hx hb dL_law_3200 hl (k := 4) rfl e6 (by decide) rfl (fun ls hl => ?_)
        refine lv_goto (tgt := 23) hx hb dL_law_3203 (by decide) ?_
        exact ih (it + 1) vX vP vN vG vU vR vNd vGd vUd vRd vH vHV vQF vQV vB vBw r.2.1 vnow vdraft vspare vearlier vslots visKept vbuffer vout r.2.2 hI2 (by omega) (by omega) H locs hP hD hS ls (lv_sub hl [1, 2, 3, 4, 0] rfl)
      | 46, _ =>
        obtain ⟨r, hf, hr1, hI2⟩ := hall.2.2.2.2.2.2.2.2.2.2.2.2.2.2.2.2.2.2.2.2.2.2.2.2.2.2.2.2.2.2.2.2.2.2.2.2.2.2.2.2.2.2.2.2.2.2.1
        refine lv_tableIn (x := nI 46) (off := 2308) (tgt := 2348) hx hb dL_law_40 (by decide) (by decide) (by decide) (by decide) ?_
        refine lc_46 hst C0 hK hE hN aX aB aBw aP aN aNd aH aQ aG aU aR aGd aUd aRd aHA kn kg ku kr aQA aQF qn qg qu qr aM aO vX vP vN vG vU vR vNd vGd vUd vRd vH vHV vQF vQV vB vBw vM vnow vdraft vspare vearlier vslots visKept vbuffer vout vO _ r hf hr1 (by omega) (by omega) hP hD hS ls hl (fun H locs ls hP hD hS hl => ?_)
        refine lv_iinc (v := nI (6 * (it + 1))) (lv' := [(4, .int (nI (6 * (it + 1)))), (0, .ref b), (1, .ref aX), (2, .ref (aM 0)), (3, .ref aO)]) hx hb dL_law_3200 hl (k := 4) rfl e6 (by decide) rfl (fun ls hl => ?_)
        refine lv_goto (tgt := 23) hx hb dL_law_3203 (by decide) ?_
        exact ih (it + 1) vX vP vN vG vU vR vNd vGd vUd vRd vH vHV vQF vQV vB vBw r.2.1 vnow vdraft vspare vearlier vslots visKept vbuffer vout r.2.2 hI2 (by omega) (by omega) H locs hP hD hS ls (lv_sub hl [1, 2, 3, 4, 0] rfl)
      | 47, _ =>
        obtain ⟨r, hf, hr1, hI2⟩ := hall.2.2.2.2.2.2.2.2.2.2.2.2.2.2.2.2.2.2.2.2.2.2.2.2.2.2.2.2.2.2.2.2.2.2.2.2.2.2.2.2.2.2.2.2.2.2.2.1
        refine lv_tableIn (x := nI 47) (off := 2364) (tgt := 2404) hx hb dL_law_40 (by decide) (by decide) (by decide) (by decide) ?_
        refine lc_47 hst C0 hK hE hN aX aB aBw aP aN aNd aH aQ aG aU aR aGd aUd aRd aHA kn kg ku kr aQA aQF qn qg qu qr aM aO vX vP vN vG vU vR vNd vGd vUd vRd vH vHV vQF vQV vB vBw vM vnow vdraft vspare vearlier vslots visKept vbuffer vout vO _ r hf hr1 (by omega) (by omega) hP hD hS ls hl (fun H locs ls hP hD hS hl => ?_)
        refine lv_iinc (v := nI (6 * (it + 1))) (lv' := [(4, .int (nI (6 * (it + 1)))), (0, .ref b), (1, .ref aX), (2, .ref (aM 0)), (3, .ref aO)]) hx hb dL_law_3200 hl (k := 4) rfl e6 (by decide) rfl (fun ls hl => ?_)
        refine lv_goto (tgt := 23) hx hb dL_law_3203 (by decide) ?_
        exact ih (it + 1) vX vP vN vG vU vR vNd vGd vUd vRd vH vHV vQF vQV vB vBw r.2.1 vnow vdraft r.2.2.1 vearlier vslots visKept vbuffer vout r.2.2.2 hI2 (by omega) (by omega) H locs hP hD hS ls (lv_sub hl [1, 2, 3, 4, 0] rfl)
      | 48, _ =>
        obtain ⟨r, hf, hr1, hI2⟩ := hall.2.2.2.2.2.2.2.2.2.2.2.2.2.2.2.2.2.2.2.2.2.2.2.2.2.2.2.2.2.2.2.2.2.2.2.2.2.2.2.2.2.2.2.2.2.2.2.2.1
        refine lv_tableIn (x := nI 48) (off := 2420) (tgt := 2460) hx hb dL_law_40 (by decide) (by decide) (by decide) (by decide) ?_
        refine lc_48 hst C0 hK hE hN aX aB aBw aP aN aNd aH aQ aG aU aR aGd aUd aRd aHA kn kg ku kr aQA aQF qn qg qu qr aM aO vX vP vN vG vU vR vNd vGd vUd vRd vH vHV vQF vQV vB vBw vM vnow vdraft vspare vearlier vslots visKept vbuffer vout vO _ r hf hr1 (by omega) (by omega) hP hD hS ls hl (fun H locs ls hP hD hS hl => ?_)
        refine lv_iinc (v := nI (6 * (it + 1))) (lv' := [(4, .int (nI (6 * (it + 1)))), (0, .ref b), (1, .ref aX), (2, .ref (aM 0)), (3, .ref aO)]) hx hb dL_law_3200 hl (k := 4) rfl e6 (by decide) rfl (fun ls hl => ?_)
        refine lv_goto (tgt := 23) hx hb dL_law_3203 (by decide) ?_
        exact ih (it + 1) vX vP vN r.2.1 vU vR vNd vGd vUd vRd r.2.2.1 r.2.2.2.1 vQF vQV r.2.2.2.2.1 vBw r.2.2.2.2.2.1 r.2.2.2.2.2.2.1 vdraft vspare r.2.2.2.2.2.2.2.1 vslots visKept vbuffer vout r.2.2.2.2.2.2.2.2 hI2 (by omega) (by omega) H locs hP hD hS ls (lv_sub hl [1, 2, 3, 4, 0] rfl)
      | 49, _ =>
        obtain ⟨r, hf, hr1, hI2⟩ := hall.2.2.2.2.2.2.2.2.2.2.2.2.2.2.2.2.2.2.2.2.2.2.2.2.2.2.2.2.2.2.2.2.2.2.2.2.2.2.2.2.2.2.2.2.2.2.2.2.2.1
        refine lv_tableIn (x := nI 49) (off := 2488) (tgt := 2528) hx hb dL_law_40 (by decide) (by decide) (by decide) (by decide) ?_
        refine lc_49 hst C0 hK hE hN aX aB aBw aP aN aNd aH aQ aG aU aR aGd aUd aRd aHA kn kg ku kr aQA aQF qn qg qu qr aM aO vX vP vN vG vU vR vNd vGd vUd vRd vH vHV vQF vQV vB vBw vM vnow vdraft vspare vearlier vslots visKept vbuffer vout vO _ r hf hr1 (by omega) (by omega) hP hD hS ls hl (fun H locs ls hP hD hS hl => ?_)
        refine lv_iinc (v := nI (6 * (it + 1))) (lv' := [(4, .int (nI (6 * (it + 1)))), (0, .ref b), (1, .ref aX), (2, .ref (aM 0)), (3, .ref aO)]) hx hb dL_law_3200 hl (k := 4) rfl e6 (by decide) rfl (fun ls hl => ?_)
        refine lv_goto (tgt := 23) hx hb dL_law_3203 (by decide) ?_
        exact ih (it + 1) vX vP vN vG r.2.1 vR vNd vGd vUd vRd r.2.2.1 r.2.2.2.1 vQF vQV vB vBw r.2.2.2.2.1 r.2.2.2.2.2.1 vdraft vspare r.2.2.2.2.2.2.1 vslots visKept vbuffer vout r.2.2.2.2.2.2.2 hI2 (by omega) (by omega) H locs hP hD hS ls (lv_sub hl [1, 2, 3, 4, 0] rfl)
      | 50, _ =>
        obtain ⟨r, hf, hr1, hI2⟩ := hall.2.2.2.2.2.2.2.2.2.2.2.2.2.2.2.2.2.2.2.2.2.2.2.2.2.2.2.2.2.2.2.2.2.2.2.2.2.2.2.2.2.2.2.2.2.2.2.2.2.2.1
        refine lv_tableIn (x := nI 50) (off := 2556) (tgt := 2596) hx hb dL_law_40 (by decide) (by decide) (by decide) (by decide) ?_
        refine lc_50 hst C0 hK hE hN aX aB aBw aP aN aNd aH aQ aG aU aR aGd aUd aRd aHA kn kg ku kr aQA aQF qn qg qu qr aM aO vX vP vN vG vU vR vNd vGd vUd vRd vH vHV vQF vQV vB vBw vM vnow vdraft vspare vearlier vslots visKept vbuffer vout vO _ r hf hr1 (by omega) (by omega) hP hD hS ls hl (fun H locs ls hP hD hS hl => ?_)
        refine lv_iinc (v := nI (6 * (it + 1))) (lv' := [(4, .int (nI (6 * (it + 1)))), (0, .ref b), (1, .ref aX), (2, .ref (aM 0)), (3, .ref aO)]) hx hb dL_law_3200 hl (k := 4) rfl e6 (by decide) rfl (fun ls hl => ?_)
        refine lv_goto (tgt := 23) hx hb dL_law_3203 (by decide) ?_
        exact ih (it + 1) vX vP vN r.2.1 r.2.2.1 r.2.2.2.1 vNd vGd vUd vRd r.2.2.2.2.1 r.2.2.2.2.2.1 vQF vQV vB vBw r.2.2.2.2.2.2.1 r.2.2.2.2.2.2.2.1 vdraft vspare r.2.2.2.2.2.2.2.2.1 vslots visKept vbuffer vout r.2.2.2.2.2.2.2.2.2 hI2 (by omega) (by omega) H locs hP hD hS ls (lv_sub hl [1, 2, 3, 4, 0] rfl)
      | 51, _ =>
        obtain ⟨r, hf, hr1, hI2⟩ := hall.2.2.2.2.2.2.2.2.2.2.2.2.2.2.2.2.2.2.2.2.2.2.2.2.2.2.2.2.2.2.2.2.2.2.2.2.2.2.2.2.2.2.2.2.2.2.2.2.2.2.2.1
        refine lv_tableIn (x := nI 51) (off := 2612) (tgt := 2652) hx hb dL_law_40 (by decide) (by decide) (by decide) (by decide) ?_
        refine lc_51 hst C0 hK hE hN aX aB aBw aP aN aNd aH aQ aG aU aR aGd aUd aRd aHA kn kg ku kr aQA aQF qn qg qu qr aM aO vX vP vN vG vU vR vNd vGd vUd vRd vH vHV vQF vQV vB vBw vM vnow vdraft vspare vearlier vslots visKept vbuffer vout vO _ r hf hr1 (by omega) (by omega) hP hD hS ls hl (fun H locs ls hP hD hS hl => ?_)
        refine lv_iinc (v := nI (6 * (it + 1))) (lv' := [(4, .int (nI (6 * (it + 1)))), (0, .ref b), (1, .ref aX), (2, .ref (aM 0)), (3, .ref aO)]) hx hb dL_law_3200 hl (k := 4) rfl e6 (by decide) rfl (fun ls hl => ?_)
        refine lv_goto (tgt := 23) hx hb dL_law_3203 (by decide) ?_
        exact ih (it + 1) vX vP r.2.1 r.2.2.1 r.2.2.2.1 r.2.2.2.2.1 vNd vGd vUd vRd r.2.2.2.2.2.1 r.2.2.2.2.2.2.1 vQF vQV vB vBw r.2.2.2.2.2.2.2.1 r.2.2.2.2.2.2.2.2.1 vdraft vspare r.2.2.2.2.2.2.2.2.2.1 vslots visKept vbuffer vout r.2.2.2.2.2.2.2.2.2.2 hI2 (by omega) (by omega) H locs hP hD hS ls (lv_sub hl [1, 2, 3, 4, 0] rfl)
      | 52, _ =>
        obtain ⟨r, hf, hr1, hI2⟩ := hall.2.2.2.2.2.2.2.2.2.2.2.2.2.2.2.2.2.2.2.2.2.2.2.2.2.2.2.2.2.2.2.2.2.2.2.2.2.2.2.2.2.2.2.2.2.2.2.2.2.2.2.2.1
        refine lv_tableIn (x := nI 52) (off := 2668) (tgt := 2708) hx hb dL_law_40 (by decide) (by decide) (by decide) (by decide) ?_
        refine lc_52 hst C0 hK hE hN aX aB aBw aP aN aNd aH aQ aG aU aR aGd aUd aRd aHA kn kg ku kr aQA aQF qn qg qu qr aM aO vX vP vN vG vU vR vNd vGd vUd vRd vH vHV vQF vQV vB vBw vM vnow vdraft vspare vearlier vslots visKept vbuffer vout vO _ r hf hr1 (by omega) (by omega) hP hD hS ls hl (fun H locs ls hP hD hS hl => ?_)
        refine lv_iinc (v := nI (6 * (it + 1))) (lv' := [(4, .int (nI (6 * (it + 1)))), (0, .ref b), (1, .ref aX), (2, .ref (aM 0)), (3, .ref aO)]) hx hb dL_law_3200 hl (k := 4) rfl e6 (by decide) rfl (fun ls hl => ?_)
        refine lv_goto (tgt := 23) hx hb dL_law_3203 (by decide) ?_
        exact ih (it + 1) vX vP r.2.1 r.2.2.1 r.2.2.2.1 vR vNd vGd vUd vRd r.2.2.2.2.1 r.2.2.2.2.2.1 vQF vQV vB vBw r.2.2.2.2.2.2.1 r.2.2.2.2.2.2.2.1 vdraft vspare r.2.2.2.2.2.2.2.2.1 vslots visKept vbuffer vout r.2.2.2.2.2.2.2.2.2 hI2 (by omega) (by omega) H locs hP hD hS ls (lv_sub hl [1, 2, 3, 4, 0] rfl)
      | 53, _ =>
        obtain ⟨r, hf, hr1, hI2⟩ := hall.2.2.2.2.2.2.2.2.2.2.2.2.2.2.2.2.2.2.2.2.2.2.2.2.2.2.2.2.2.2.2.2.2.2.2.2.2.2.2.2.2.2.2.2.2.2.2.2.2.2.2.2.2.1
        refine lv_tableIn (x := nI 53) (off := 2724) (tgt := 2764) hx hb dL_law_40 (by decide) (by decide) (by decide) (by decide) ?_
        refine lc_53 hst C0 hK hE hN aX aB aBw aP aN aNd aH aQ aG aU aR aGd aUd aRd aHA kn kg ku kr aQA aQF qn qg qu qr aM aO vX vP vN vG vU vR vNd vGd vUd vRd vH vHV vQF vQV vB vBw vM vnow vdraft vspare vearlier vslots visKept vbuffer vout vO _ r hf hr1 (by omega) (by omega) hP hD hS ls hl (fun H locs ls hP hD hS hl => ?_)
        refine lv_iinc (v := nI (6 * (it + 1))) (lv' := [(4, .int (nI (6 * (it + 1)))), (0, .ref b), (1, .ref aX), (2, .ref (aM 0)), (3, .ref aO)]) hx hb dL_law_3200 hl (k := 4) rfl e6 (by decide) rfl (fun ls hl => ?_)
        refine lv_goto (tgt := 23) hx hb dL_law_3203 (by decide) ?_
        exact ih (it + 1) vX vP vN r.2.1 vU vR vNd vGd vUd vRd r.2.2.1 r.2.2.2.1 vQF vQV vB vBw r.2.2.2.2.1 r.2.2.2.2.2.1 vdraft vspare r.2.2.2.2.2.2.1 vslots visKept vbuffer vout r.2.2.2.2.2.2.2 hI2 (by omega) (by omega) H locs hP hD hS ls (lv_sub hl [1, 2, 3, 4, 0] rfl)
      | 54, _ =>
        obtain ⟨r, hf, hr1, hI2⟩ := hall.2.2.2.2.2.2.2.2.2.2.2.2.2.2.2.2.2.2.2.2.2.2.2.2.2.2.2.2.2.2.2.2.2.2.2.2.2.2.2.2.2.2.2.2.2.2.2.2.2.2.2.2.2.2.1
        refine lv_tableIn (x := nI 54) (off := 2780) (tgt := 2820) hx hb dL_law_40 (by decide) (by decide) (by decide) (by decide) ?_
        refine lc_54 hst C0 hK hE hN aX aB aBw aP aN aNd aH aQ aG aU aR aGd aUd aRd aHA kn kg ku kr aQA aQF qn qg qu qr aM aO vX vP vN vG vU vR vNd vGd vUd vRd vH vHV vQF vQV vB vBw vM vnow vdraft vspare vearlier vslots visKept vbuffer vout vO _ r hf hr1 (by omega) (by omega) hP hD hS ls hl (fun H locs ls hP hD hS hl => ?_)
        refine lv_iinc (v := nI (6 * (it + 1))) (lv' := [(4, .int (nI (6 * (it + 1)))), (0, .ref b), (1, .ref aX), (2, .ref (aM 0)), (3, .ref aO)]) hx hb dL_law_3200 hl (k := 4) rfl e6 (by decide) rfl (fun ls hl => ?_)
        refine lv_goto (tgt := 23) hx hb dL_law_3203 (by decide) ?_
        exact ih (it + 1) vX vP r.2.1 vG vU vR vNd vGd vUd vRd r.2.2.1 r.2.2.2.1 vQF vQV vB vBw r.2.2.2.2.1 r.2.2.2.2.2.1 vdraft vspare r.2.2.2.2.2.2.1 vslots visKept vbuffer vout r.2.2.2.2.2.2.2 hI2 (by omega) (by omega) H locs hP hD hS ls (lv_sub hl [1, 2, 3, 4, 0] rfl)
      | 55, _ =>
        obtain ⟨r, hf, hr1, hI2⟩ := hall.2.2.2.2.2.2.2.2.2.2.2.2.2.2.2.2.2.2.2.2.2.2.2.2.2.2.2.2.2.2.2.2.2.2.2.2.2.2.2.2.2.2.2.2.2.2.2.2.2.2.2.2.2.2.2.1
        refine lv_tableIn (x := nI 55) (off := 2836) (tgt := 2876) hx hb dL_law_40 (by decide) (by decide) (by decide) (by decide) ?_
        refine lc_55 hst C0 hK hE hN aX aB aBw aP aN aNd aH aQ aG aU aR aGd aUd aRd aHA kn kg ku kr aQA aQF qn qg qu qr aM aO vX vP vN vG vU vR vNd vGd vUd vRd vH vHV vQF vQV vB vBw vM vnow vdraft vspare vearlier vslots visKept vbuffer vout vO _ r hf hr1 (by omega) (by omega) hP hD hS ls hl (fun H locs ls hP hD hS hl => ?_)
        refine lv_iinc (v := nI (6 * (it + 1))) (lv' := [(4, .int (nI (6 * (it + 1)))), (0, .ref b), (1, .ref aX), (2, .ref (aM 0)), (3, .ref aO)]) hx hb dL_law_3200 hl (k := 4) rfl e6 (by decide) rfl (fun ls hl => ?_)
        refine lv_goto (tgt := 23) hx hb dL_law_3203 (by decide) ?_
        exact ih (it + 1) vX vP r.2.1 vG vU vR vNd vGd vUd vRd r.2.2.1 r.2.2.2.1 vQF vQV vB vBw r.2.2.2.2.1 r.2.2.2.2.2.1 vdraft vspare r.2.2.2.2.2.2.1 vslots visKept vbuffer vout r.2.2.2.2.2.2.2 hI2 (by omega) (by omega) H locs hP hD hS ls (lv_sub hl [1, 2, 3, 4, 0] rfl)
      | 56, _ =>
        obtain ⟨r, hf, hr1, hI2⟩ := hall.2.2.2.2.2.2.2.2.2.2.2.2.2.2.2.2.2.2.2.2.2.2.2.2.2.2.2.2.2.2.2.2.2.2.2.2.2.2.2.2.2.2.2.2.2.2.2.2.2.2.2.2.2.2.2.2.1
        refine lv_tableIn (x := nI 56) (off := 2892) (tgt := 2932) hx hb dL_law_40 (by decide) (by decide) (by decide) (by decide) ?_
        refine lc_56 hst C0 hK hE hN aX aB aBw aP aN aNd aH aQ aG aU aR aGd aUd aRd aHA kn kg ku kr aQA aQF qn qg qu qr aM aO vX vP vN vG vU vR vNd vGd vUd vRd vH vHV vQF vQV vB vBw vM vnow vdraft vspare vearlier vslots visKept vbuffer vout vO _ r hf hr1 (by omega) (by omega) hP hD hS ls hl (fun H locs ls hP hD hS hl => ?_)
        refine lv_iinc (v := nI (6 * (it + 1))) (lv' := [(4, .int (nI (6 * (it + 1)))), (0, .ref b), (1, .ref aX), (2, .ref (aM 0)), (3, .ref aO)]) hx hb dL_law_3200 hl (k := 4) rfl e6 (by decide) rfl (fun ls hl => ?_)
        refine lv_goto (tgt := 23) hx hb dL_law_3203 (by decide) ?_
        exact ih (it + 1) vX vP r.2.1 r.2.2.1 r.2.2.2.1 r.2.2.2.2.1 vNd vGd vUd vRd r.2.2.2.2.2.1 vHV vQF vQV vB vBw r.2.2.2.2.2.2.1 r.2.2.2.2.2.2.2.1 vdraft vspare vearlier vslots visKept vbuffer vout r.2.2.2.2.2.2.2.2 hI2 (by omega) (by omega) H locs hP hD hS ls (lv_sub hl [1, 2, 3, 4, 0] rfl)
      | 57, _ =>
        obtain ⟨r, hf, hr1, hI2⟩ := hall.2.2.2.2.2.2.2.2.2.2.2.2.2.2.2.2.2.2.2.2.2.2.2.2.2.2.2.2.2.2.2.2.2.2.2.2.2.2.2.2.2.2.2.2.2.2.2.2.2.2.2.2.2.2.2.2.2.1
        refine lv_tableIn (x := nI 57) (off := 2936) (tgt := 2976) hx hb dL_law_40 (by decide) (by decide) (by decide) (by decide) ?_
        refine lc_57 hst C0 hK hE hN aX aB aBw aP aN aNd aH aQ aG aU aR aGd aUd aRd aHA kn kg ku kr aQA aQF qn qg qu qr aM aO vX vP vN vG vU vR vNd vGd vUd vRd vH vHV vQF vQV vB vBw vM vnow vdraft vspare vearlier vslots visKept vbuffer vout vO _ r hf hr1 (by omega) (by omega) hP hD hS ls hl (fun H locs ls hP hD hS hl => ?_)
        refine lv_iinc (v := nI (6 * (it + 1))) (lv' := [(4, .int (nI (6 * (it + 1)))), (0, .ref b), (1, .ref aX), (2, .ref (aM 0)), (3, .ref aO)]) hx hb dL_law_3200 hl (k := 4) rfl e6 (by decide) rfl (fun ls hl => ?_)
        refine lv_goto (tgt := 23) hx hb dL_law_3203 (by decide) ?_
        exact ih (it + 1) vX vP vN vG vU vR vNd vGd vUd vRd vH vHV r.2.1 r.2.2.1 vB vBw r.2.2.2.1 vnow vdraft vspare vearlier r.2.2.2.2.1 r.2.2.2.2.2.1 vbuffer vout r.2.2.2.2.2.2 hI2 (by omega) (by omega) H locs hP hD hS ls (lv_sub hl [1, 2, 3, 4, 0] rfl)
      | 58, _ =>
        obtain ⟨r, hf, hr1, hI2⟩ := hall.2.2.2.2.2.2.2.2.2.2.2.2.2.2.2.2.2.2.2.2.2.2.2.2.2.2.2.2.2.2.2.2.2.2.2.2.2.2.2.2.2.2.2.2.2.2.2.2.2.2.2.2.2.2.2.2.2.2.1
        refine lv_tableIn (x := nI 58) (off := 2992) (tgt := 3032) hx hb dL_law_40 (by decide) (by decide) (by decide) (by decide) ?_
        refine lc_58 hst C0 hK hE hN aX aB aBw aP aN aNd aH aQ aG aU aR aGd aUd aRd aHA kn kg ku kr aQA aQF qn qg qu qr aM aO vX vP vN vG vU vR vNd vGd vUd vRd vH vHV vQF vQV vB vBw vM vnow vdraft vspare vearlier vslots visKept vbuffer vout vO _ r hf hr1 (by omega) (by omega) hP hD hS ls hl (fun H locs ls hP hD hS hl => ?_)
        refine lv_iinc (v := nI (6 * (it + 1))) (lv' := [(4, .int (nI (6 * (it + 1)))), (0, .ref b), (1, .ref aX), (2, .ref (aM 0)), (3, .ref aO)]) hx hb dL_law_3200 hl (k := 4) rfl e6 (by decide) rfl (fun ls hl => ?_)
        refine lv_goto (tgt := 23) hx hb dL_law_3203 (by decide) ?_
        exact ih (it + 1) vX vP r.2.1 r.2.2.1 r.2.2.2.1 r.2.2.2.2.1 vNd vGd vUd vRd r.2.2.2.2.2.1 r.2.2.2.2.2.2.1 vQF vQV vB vBw r.2.2.2.2.2.2.2.1 r.2.2.2.2.2.2.2.2.1 vdraft vspare r.2.2.2.2.2.2.2.2.2.1 vslots visKept vbuffer vout r.2.2.2.2.2.2.2.2.2.2 hI2 (by omega) (by omega) H locs hP hD hS ls (lv_sub hl [1, 2, 3, 4, 0] rfl)
      | 59, _ =>
        obtain ⟨r, hf, hr1, hI2⟩ := hall.2.2.2.2.2.2.2.2.2.2.2.2.2.2.2.2.2.2.2.2.2.2.2.2.2.2.2.2.2.2.2.2.2.2.2.2.2.2.2.2.2.2.2.2.2.2.2.2.2.2.2.2.2.2.2.2.2.2.2.1
        refine lv_tableIn (x := nI 59) (off := 3048) (tgt := 3088) hx hb dL_law_40 (by decide) (by decide) (by decide) (by decide) ?_
        refine lc_59 hst C0 hK hE hN aX aB aBw aP aN aNd aH aQ aG aU aR aGd aUd aRd aHA kn kg ku kr aQA aQF qn qg qu qr aM aO vX vP vN vG vU vR vNd vGd vUd vRd vH vHV vQF vQV vB vBw vM vnow vdraft vspare vearlier vslots visKept vbuffer vout vO _ r hf hr1 (by omega) (by omega) hP hD hS ls hl (fun H locs ls hP hD hS hl => ?_)
        refine lv_iinc (v := nI (6 * (it + 1))) (lv' := [(4, .int (nI (6 * (it + 1)))), (0, .ref b), (1, .ref aX), (2, .ref (aM 0)), (3, .ref aO)]) hx hb dL_law_3200 hl (k := 4) rfl e6 (by decide) rfl (fun ls hl => ?_)
        refine lv_goto (tgt := 23) hx hb dL_law_3203 (by decide) ?_
        exact ih (it + 1) vX vP vN vG vU vR vNd vGd vUd vRd vH vHV vQF vQV vB r.2.1 r.2.2.1 vnow vdraft vspare vearlier vslots visKept vbuffer r.2.2.2.1 r.2.2.2.2 hI2 (by omega) (by omega) H locs hP hD hS ls (lv_sub hl [1, 2, 3, 4, 0] rfl)
      | 60, _ =>
        obtain ⟨r, hf, hr1, hI2⟩ := hall.2.2.2.2.2.2.2.2.2.2.2.2.2.2.2.2.2.2.2.2.2.2.2.2.2.2.2.2.2.2.2.2.2.2.2.2.2.2.2.2.2.2.2.2.2.2.2.2.2.2.2.2.2.2.2.2.2.2.2.2
        refine lv_tableIn (x := nI 60) (off := 3104) (tgt := 3144) hx hb dL_law_40 (by decide) (by decide) (by decide) (by decide) ?_
        refine lc_60 hst C0 hK hE hN aX aB aBw aP aN aNd aH aQ aG aU aR aGd aUd aRd aHA kn kg ku kr aQA aQF qn qg qu qr aM aO vX vP vN vG vU vR vNd vGd vUd vRd vH vHV vQF vQV vB vBw vM vnow vdraft vspare vearlier vslots visKept vbuffer vout vO _ r hf hr1 (by omega) (by omega) hP hD hS ls hl (fun H locs ls hP hD hS hl => ?_)
        refine lv_iinc (v := nI (6 * (it + 1))) (lv' := [(4, .int (nI (6 * (it + 1)))), (0, .ref b), (1, .ref aX), (2, .ref (aM 0)), (3, .ref aO)]) hx hb dL_law_3200 hl (k := 4) rfl e6 (by decide) rfl (fun ls hl => ?_)
        refine lv_goto (tgt := 23) hx hb dL_law_3203 (by decide) ?_
        exact ih (it + 1) vX vP vN vG vU vR vNd vGd vUd vRd vH vHV vQF vQV vB vBw r.2.1 vnow vdraft vspare vearlier vslots visKept vbuffer vout r.2.2 hI2 (by omega) (by omega) H locs hP hD hS ls (lv_sub hl [1, 2, 3, 4, 0] rfl)
      | 61, _ =>
        refine lv_tableOut (x := nI 61) (tgt := 3200) hx hb dL_law_40 (Or.inr (by decide)) (by decide) ?_
        refine lv_iinc (v := nI (6 * (it + 1))) (lv' := [(4, .int (nI (6 * (it + 1)))), (0, .ref b), (1, .ref aX), (2, .ref (aM 0)), (3, .ref aO)]) hx hb dL_law_3200 hl (k := 4) rfl e6 (by decide) rfl (fun ls hl => ?_)
        refine lv_goto (tgt := 23) hx hb dL_law_3203 (by decide) ?_
        refine W.widen (k := 237 + 4 * (it + 1)) (n := 10590 + 24 * (it + 1)) (by omega) (by omega) ?_
        exact ih (it + 1) vX vP vN vG vU vR vNd vGd vUd vRd vH vHV vQF vQV vB vBw vM vnow vdraft vspare vearlier vslots visKept vbuffer vout vO hI1 (by omega) (by omega) H locs hP hD hS ls (lv_sub hl [1, 2, 3, 4, 0] rfl)
      | 62, _ =>
        refine lv_tableOut (x := nI 62) (tgt := 3200) hx hb dL_law_40 (Or.inr (by decide)) (by decide) ?_
        refine lv_iinc (v := nI (6 * (it + 1))) (lv' := [(4, .int (nI (6 * (it + 1)))), (0, .ref b), (1, .ref aX), (2, .ref (aM 0)), (3, .ref aO)]) hx hb dL_law_3200 hl (k := 4) rfl e6 (by decide) rfl (fun ls hl => ?_)
        refine lv_goto (tgt := 23) hx hb dL_law_3203 (by decide) ?_
        refine W.widen (k := 237 + 4 * (it + 1)) (n := 10590 + 24 * (it + 1)) (by omega) (by omega) ?_
        exact ih (it + 1) vX vP vN vG vU vR vNd vGd vUd vRd vH vHV vQF vQV vB vBw vM vnow vdraft vspare vearlier vslots visKept vbuffer vout vO hI1 (by omega) (by omega) H locs hP hD hS ls (lv_sub hl [1, 2, 3, 4, 0] rfl)
      | 63, _ =>
        refine lv_tableOut (x := nI 63) (tgt := 3200) hx hb dL_law_40 (Or.inr (by decide)) (by decide) ?_
        refine lv_iinc (v := nI (6 * (it + 1))) (lv' := [(4, .int (nI (6 * (it + 1)))), (0, .ref b), (1, .ref aX), (2, .ref (aM 0)), (3, .ref aO)]) hx hb dL_law_3200 hl (k := 4) rfl e6 (by decide) rfl (fun ls hl => ?_)
        refine lv_goto (tgt := 23) hx hb dL_law_3203 (by decide) ?_
        refine W.widen (k := 237 + 4 * (it + 1)) (n := 10590 + 24 * (it + 1)) (by omega) (by omega) ?_
        exact ih (it + 1) vX vP vN vG vU vR vNd vGd vUd vRd vH vHV vQF vQV vB vBw vM vnow vdraft vspare vearlier vslots visKept vbuffer vout vO hI1 (by omega) (by omega) H locs hP hD hS ls (lv_sub hl [1, 2, 3, 4, 0] rfl)
      | k + 64, hk => exact absurd hk (by omega)
