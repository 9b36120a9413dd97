def J_K_register_245 (rec_135 : Int32 → Int32 → Int32 → Int32 → Int32 → Int32 → Int32 → Int32 → Int32 → Int32 → (Nat → Int32) → (Nat → Int32) → (Nat → Int32) → KV → Option (Int32 × KV)) (x1 : Int32) (x2 : Int32) (x3 : Int32) (x4 : Int32) (x5 : Int32) (x6 : Int32) (x7 : Int32) (x11 : Int32) (x12 : Int32) (x13 : Int32) (x15 : Int32) (x16 : Int32) (a32 : Nat → Int32) (a38 : Nat → Int32) (a44 : Nat → Int32) (vK : KV) : Option (Int32 × KV) := ck x15 10 (lt (upd a32 (Int32.toNatClampNeg x15) x16) (fun b1 => (rec_135 x1 x2 x3 x4 x5 x6 x7 x11 x12 (x13 + 1) b1 a38 a44 vK)))
def J_K_register_207 (rec_135 : Int32 → Int32 → Int32 → Int32 → Int32 → Int32 → Int32 → Int32 → Int32 → Int32 → (Nat → Int32) → (Nat → Int32) → (Nat → Int32) → KV → Option (Int32 × KV)) (x1 : Int32) (x2 : Int32) (x3 : Int32) (x4 : Int32) (x5 : Int32) (x6 : Int32) (x7 : Int32) (x13 : Int32) (x14 : Int32) (x15 : Int32) (x16 : Int32) (t0 : Int32) (a32 : Nat → Int32) (a38 : Nat → Int32) (a44 : Nat → Int32) (vK : KV) : Option (Int32 × KV) := (if x16 = 1 then ck x15 10 (lt (upd a38 (Int32.toNatClampNeg x15) x14) (fun b2 => (J_K_register_245 rec_135 x1 x2 x3 x4 x5 x6 x7 x14 t0 x13 x15 x16 a32 b2 a44 vK))) else ck x15 10 (ck x15 10 (ck x15 10 (lt (upd a44 (Int32.toNatClampNeg x15) ((a44 (Int32.toNatClampNeg x15)) + (x14 - (a38 (Int32.toNatClampNeg x15))))) (fun b1 => (J_K_register_245 rec_135 x1 x2 x3 x4 x5 x6 x7 x14 t0 x13 x15 x16 a32 a38 b1 vK))))))
def J_K_register_543 (rec_264 : Int32 → Int32 → Int32 → Int32 → Int32 → Int32 → Int32 → Int32 → Int32 → Int32 → (Nat → Int32) → (Nat → Int32) → (Nat → Int32) → KV → Option (Int32 × KV)) (x1 : Int32) (x2 : Int32) (x4 : Int32) (x5 : Int32) (x6 : Int32) (x7 : Int32) (x11 : Int32) (x13 : Int32) (x14 : Int32) (a32 : Nat → Int32) (a38 : Nat → Int32) (a44 : Nat → Int32) (vK : KV) : Option (Int32 × KV) := (rec_264 x1 x2 x4 x5 x6 x7 x11 0 x13 (x14 + 1) a32 a38 a44 vK)
def J_K_register_536 (rec_264 : Int32 → Int32 → Int32 → Int32 → Int32 → Int32 → Int32 → Int32 → Int32 → Int32 → (Nat → Int32) → (Nat → Int32) → (Nat → Int32) → KV → Option (Int32 × KV)) (x1 : Int32) (x2 : Int32) (x4 : Int32) (x5 : Int32) (x6 : Int32) (x7 : Int32) (x11 : Int32) (x13 : Int32) (x14 : Int32) (t0 : Int32) (t1 : Int32) (a32 : Nat → Int32) (a38 : Nat → Int32) (a44 : Nat → Int32) (vK : KV) : Option (Int32 × KV) := (if t0 = t1 then (rec_264 x1 x2 x4 x5 x6 x7 x11 1 x13 (x14 + 1) a32 a38 a44 vK) else (J_K_register_543 rec_264 x1 x2 x4 x5 x6 x7 x11 x13 x14 a32 a38 a44 vK))
def J_K_register_484 (rec_264 : Int32 → Int32 → Int32 → Int32 → Int32 → Int32 → Int32 → Int32 → Int32 → Int32 → (Nat → Int32) → (Nat → Int32) → (Nat → Int32) → KV → Option (Int32 × KV)) (x1 : Int32) (x2 : Int32) (x4 : Int32) (x5 : Int32) (x6 : Int32) (x7 : Int32) (x11 : Int32) (x13 : Int32) (x14 : Int32) (x15 : Int32) (a32 : Nat → Int32) (a38 : Nat → Int32) (a44 : Nat → Int32) (vK : KV) : Option (Int32 × KV) := (F_K_call__ vK 40 x14).bind (fun u1 => (if x15 = 0 then (J_K_register_536 rec_264 x1 x2 x4 x5 x6 x7 x11 x13 x14 u1.1 (-102) a32 a38 a44 u1.2) else (F_K_call__ u1.2 18 x14).bind (fun u2 => (F_X8_yawn (u2.2.1) (u2.2.2.2.1) (u2.2.2.2.2.2.2.1)).bind (fun u3 => (F_K_call__ u2.2 22 x14).bind (fun u4 => (if u4.1 = 0 then (J_K_register_536 rec_264 x1 x2 x4 x5 x6 x7 x11 x13 x14 u1.1 (if 0 < ((u2.1 - u3) - 0) then ((u2.1 - u3) - 0) else 0) a32 a38 a44 u4.2) else (J_K_register_536 rec_264 x1 x2 x4 x5 x6 x7 x11 x13 x14 u1.1 (if 0 < ((u2.1 - u3) - 1) then ((u2.1 - u3) - 1) else 0) a32 a38 a44 u4.2)))))))
def J_K_register_436 (rec_264 : Int32 → Int32 → Int32 → Int32 → Int32 → Int32 → Int32 → Int32 → Int32 → Int32 → (Nat → Int32) → (Nat → Int32) → (Nat → Int32) → KV → Option (Int32 × KV)) (x1 : Int32) (x2 : Int32) (x4 : Int32) (x5 : Int32) (x6 : Int32) (x7 : Int32) (x11 : Int32) (x13 : Int32) (x14 : Int32) (x15 : Int32) (x18 : Int32) (a32 : Nat → Int32) (a38 : Nat → Int32) (a44 : Nat → Int32) (vK : KV) : Option (Int32 × KV) := (F_K_call__ vK 22 x14).bind (fun u1 => (if u1.1 < 0 then (J_K_register_543 rec_264 x1 x2 x4 x5 x6 x7 x11 x13 x14 a32 a38 a44 u1.2) else (F_K_call__ u1.2 23 x14).bind (fun u2 => (if u2.1 = 0 then (J_K_register_484 rec_264 x1 x2 x4 x5 x6 x7 x11 x13 x14 x15 a32 a38 a44 u2.2) else (if x15 = 1 then (if x18 ≤ 0 then (J_K_register_543 rec_264 x1 x2 x4 x5 x6 x7 x11 x13 x14 a32 a38 a44 u2.2) else ck x14 10 ((if ((x4 + 1) - (a38 (Int32.toNatClampNeg x14))) ≤ 10 then (J_K_register_543 rec_264 x1 x2 x4 x5 x6 x7 x11 x13 x14 a32 a38 a44 u2.2) else (J_K_register_484 rec_264 x1 x2 x4 x5 x6 x7 x11 x13 x14 x15 a32 a38 a44 u2.2)))) else (J_K_register_543 rec_264 x1 x2 x4 x5 x6 x7 x11 x13 x14 a32 a38 a44 u2.2))))))
def J_K_register_379 (rec_264 : Int32 → Int32 → Int32 → Int32 → Int32 → Int32 → Int32 → Int32 → Int32 → Int32 → (Nat → Int32) → (Nat → Int32) → (Nat → Int32) → KV → Option (Int32 × KV)) (x1 : Int32) (x2 : Int32) (x4 : Int32) (x5 : Int32) (x6 : Int32) (x7 : Int32) (x11 : Int32) (x13 : Int32) (x14 : Int32) (x15 : Int32) (x16 : Int32) (x17 : Int32) (x18 : Int32) (t0 : Int32) (t1 : Int32) (a32 : Nat → Int32) (a38 : Nat → Int32) (a44 : Nat → Int32) (vK : KV) : Option (Int32 × KV) := (if t0 = t1 then (F_K_call__ vK 37 x14).bind (fun u1 => (if u1.1 = x16 then (F_K_call_ u1.2 38 x14 x14).bind (fun u2 => (if u2.1 = x16 then (if x17 = (-101) then (J_K_register_436 rec_264 x1 x2 x4 x5 x6 x7 x11 x13 x14 x15 x18 a32 a38 a44 u2.2) else (if x15 = 1 then (F_K_call__ u2.2 28 x17).bind (fun u3 => (if u3.1 = x14 then (J_K_register_436 rec_264 x1 x2 x4 x5 x6 x7 x11 x13 x14 x15 x18 a32 a38 a44 u3.2) else (J_K_register_543 rec_264 x1 x2 x4 x5 x6 x7 x11 x13 x14 a32 a38 a44 u3.2))) else (J_K_register_543 rec_264 x1 x2 x4 x5 x6 x7 x11 x13 x14 a32 a38 a44 u2.2))) else (J_K_register_543 rec_264 x1 x2 x4 x5 x6 x7 x11 x13 x14 a32 a38 a44 u2.2))) else (J_K_register_543 rec_264 x1 x2 x4 x5 x6 x7 x11 x13 x14 a32 a38 a44 u1.2))) else (J_K_register_543 rec_264 x1 x2 x4 x5 x6 x7 x11 x13 x14 a32 a38 a44 vK))
def J_K_register_308 (rec_264 : Int32 → Int32 → Int32 → Int32 → Int32 → Int32 → Int32 → Int32 → Int32 → Int32 → (Nat → Int32) → (Nat → Int32) → (Nat → Int32) → KV → Option (Int32 × KV)) (x1 : Int32) (x2 : Int32) (x4 : Int32) (x5 : Int32) (x6 : Int32) (x7 : Int32) (x11 : Int32) (x13 : Int32) (x14 : Int32) (x15 : Int32) (t0 : Int32) (t1 : Int32) (a32 : Nat → Int32) (a38 : Nat → Int32) (a44 : Nat → Int32) (vK : KV) : Option (Int32 × KV) := (F_K_call__ vK 29 x14).bind (fun u1 => (F_K_call__ u1.2 19 x14).bind (fun u2 => ck x14 10 ((if x15 = (a32 (Int32.toNatClampNeg x14)) then (F_K_call__ u2.2 21 x14).bind (fun u3 => (if x15 = 1 then ck x14 10 ((J_K_register_379 rec_264 x1 x2 x4 (x5 + x15) x6 x7 x11 (x13 + (t0 + t1)) x14 x15 (t0 + t1) u1.1 u2.1 u3.1 (a38 (Int32.toNatClampNeg x14)) a32 a38 a44 u3.2)) else (J_K_register_379 rec_264 x1 x2 x4 (x5 + x15) x6 x7 x11 (x13 + (t0 + t1)) x14 x15 (t0 + t1) u1.1 u2.1 u3.1 (-101) a32 a38 a44 u3.2))) else (J_K_register_543 rec_264 x1 x2 x4 (x5 + x15) x6 x7 x11 (x13 + (t0 + t1)) x14 a32 a38 a44 u2.2)))))
def J_K_register_714 (rec_555 : Int32 → Int32 → Int32 → Int32 → Int32 → Int32 → Int32 → Int32 → Int32 → Int32 → KV → Option (Int32 × KV)) (x1 : Int32) (x2 : Int32) (x4 : Int32) (x5 : Int32) (x6 : Int32) (x7 : Int32) (x11 : Int32) (x13 : Int32) (x14 : Int32) (vK : KV) : Option (Int32 × KV) := (rec_555 x1 x2 x4 x5 x6 x7 x11 0 x13 (x14 + 1) vK)
def J_K_register_707 (rec_555 : Int32 → Int32 → Int32 → Int32 → Int32 → Int32 → Int32 → Int32 → Int32 → Int32 → KV → Option (Int32 × KV)) (x1 : Int32) (x2 : Int32) (x4 : Int32) (x5 : Int32) (x6 : Int32) (x7 : Int32) (x11 : Int32) (x13 : Int32) (x14 : Int32) (t0 : Int32) (t1 : Int32) (vK : KV) : Option (Int32 × KV) := (if t0 = t1 then (rec_555 x1 x2 x4 x5 x6 x7 x11 1 x13 (x14 + 1) vK) else (J_K_register_714 rec_555 x1 x2 x4 x5 x6 x7 x11 x13 x14 vK))
def J_K_register_682 (rec_555 : Int32 → Int32 → Int32 → Int32 → Int32 → Int32 → Int32 → Int32 → Int32 → Int32 → KV → Option (Int32 × KV)) (x1 : Int32) (x2 : Int32) (x4 : Int32) (x5 : Int32) (x6 : Int32) (x7 : Int32) (x11 : Int32) (x13 : Int32) (x14 : Int32) (x15 : Int32) (x16 : Int32) (vK : KV) : Option (Int32 × KV) := (F_K_call__ vK 27 x14).bind (fun u1 => (if 0 ≤ x15 then (J_K_register_707 rec_555 x1 x2 x4 x5 x6 x7 x11 x13 x14 u1.1 0 u1.2) else (if 50 < x16 then (J_K_register_707 rec_555 x1 x2 x4 x5 x6 x7 x11 x13 x14 u1.1 0 u1.2) else (J_K_register_707 rec_555 x1 x2 x4 x5 x6 x7 x11 x13 x14 u1.1 1 u1.2))))
def J_K_register_661 (rec_555 : Int32 → Int32 → Int32 → Int32 → Int32 → Int32 → Int32 → Int32 → Int32 → Int32 → KV → Option (Int32 × KV)) (x1 : Int32) (x2 : Int32) (x4 : Int32) (x5 : Int32) (x6 : Int32) (x7 : Int32) (x11 : Int32) (x13 : Int32) (x14 : Int32) (x15 : Int32) (x16 : Int32) (t0 : Int32) (t1 : Int32) (vK : KV) : Option (Int32 × KV) := (if t0 = t1 then (if x15 < 0 then (J_K_register_682 rec_555 x1 x2 x4 x5 x6 x7 x11 x13 x14 x15 x16 vK) else (F_K_call__ vK 29 x15).bind (fun u1 => (if u1.1 = x14 then (J_K_register_682 rec_555 x1 x2 x4 x5 x6 x7 x11 x13 x14 x15 x16 u1.2) else (J_K_register_714 rec_555 x1 x2 x4 x5 x6 x7 x11 x13 x14 u1.2)))) else (J_K_register_714 rec_555 x1 x2 x4 x5 x6 x7 x11 x13 x14 vK))
def J_K_register_649 (rec_555 : Int32 → Int32 → Int32 → Int32 → Int32 → Int32 → Int32 → Int32 → Int32 → Int32 → KV → Option (Int32 × KV)) (x1 : Int32) (x2 : Int32) (x4 : Int32) (x5 : Int32) (x6 : Int32) (x7 : Int32) (x11 : Int32) (x13 : Int32) (x14 : Int32) (x15 : Int32) (x16 : Int32) (t0 : Int32) (vK : KV) : Option (Int32 × KV) := (if x15 = (-101) then (J_K_register_661 rec_555 x1 x2 x4 x5 x6 x7 x11 x13 x14 x15 x16 t0 1 vK) else (J_K_register_661 rec_555 x1 x2 x4 x5 x6 x7 x11 x13 x14 x15 x16 t0 0 vK))
def J_K_register_620 (rec_555 : Int32 → Int32 → Int32 → Int32 → Int32 → Int32 → Int32 → Int32 → Int32 → Int32 → KV → Option (Int32 × KV)) (x1 : Int32) (x2 : Int32) (x4 : Int32) (x5 : Int32) (x6 : Int32) (x7 : Int32) (x11 : Int32) (x13 : Int32) (x14 : Int32) (x15 : Int32) (x16 : Int32) (vK : KV) : Option (Int32 × KV) := (if x16 < 0 then (J_K_register_714 rec_555 x1 x2 x4 x5 x6 x7 x11 x13 x14 vK) else (if 100 ≤ x16 then (J_K_register_714 rec_555 x1 x2 x4 x5 x6 x7 x11 x13 x14 vK) else (F_K_call__ vK 26 x14).bind (fun u1 => (if u1.1 = 1 then (J_K_register_649 rec_555 x1 x2 x4 x5 x6 x7 x11 x13 x14 x15 x16 1 u1.2) else (J_K_register_649 rec_555 x1 x2 x4 x5 x6 x7 x11 x13 x14 x15 x16 0 u1.2)))))
def J_K_register_823 (vK : KV) : Option (Int32 × KV) := (some (0, vK))
def J_K_register_815 (t0 : UInt32) (t1 : UInt32) (vK : KV) : Option (Int32 × KV) := (if (Op.cmpValue (FP.fcmp t0 t1) .l) = 0 then (some (1, vK)) else (J_K_register_823 vK))
def J_K_register_793 (x1 : Int32) (x5 : Int32) (t0 : UInt64) (t1 : UInt64) (vK : KV) : Option (Int32 × KV) := (if (Op.cmpValue (FP.dcmp t0 t1) .l) = 0 then (F_X8_shareOut (vK.1) (vK.2.2.1) (vK.2.2.2.1)).bind (fun u1 => (if x1 = 0 then (J_K_register_815 u1 FP.fconst0 vK) else cn ((FP.fdiv (FP.i2f x5) (FP.i2f x1)) &&& 0x7fffffff ≤ 0x7f800000) ((J_K_register_815 u1 (FP.fdiv (FP.i2f x5) (FP.i2f x1)) vK)))) else (J_K_register_823 vK))
def J_K_register_723 (x1 : Int32) (x4 : Int32) (x5 : Int32) (x6 : Int32) (x7 : Int32) (x11 : Int32) (x12 : Int32) (x13 : Int32) (vK : KV) : Option (Int32 × KV) := (if x12 = 0 then (J_K_register_823 vK) else (F_X8_keysAtDesk (vK.1) (vK.2.2.1) (vK.2.2.2.1)).bind (fun u1 => (if x5 = u1 then (F_X8_standCount (vK.1) (vK.2.2.1) (vK.2.2.2.2.1)).bind (fun u2 => (if x6 = u2 then (F_X8_borrowedCount (vK.1) (vK.2.2.1) (vK.2.2.2.2.1)).bind (fun u3 => (if x7 = u3 then (F_X8_yawn (vK.1) (vK.2.2.1) (vK.2.2.2.2.2.1)).bind (fun u4 => (if u4 = (if ((x4 - x11) / 30) < 9 then ((x4 - x11) / 30) else 9) then (F_X8_meanMinutesOut (vK.1) (vK.2.2.1) (vK.2.2.2.1) (vK.2.2.2.2.2.1)).bind (fun u5 => (if x1 = 0 then (J_K_register_793 x1 x5 u5 FP.dconst0 vK) else cn ((FP.ddiv (FP.i2d x13) (FP.i2d x1)) &&& 0x7fffffffffffffff ≤ 0x7ff0000000000000) ((J_K_register_793 x1 x5 u5 (FP.ddiv (FP.i2d x13) (FP.i2d x1)) vK)))) else (J_K_register_823 vK))) else (J_K_register_823 vK))) else (J_K_register_823 vK))) else (J_K_register_823 vK))))
def B_K_register_555 (rec_555 : Int32 → Int32 → Int32 → Int32 → Int32 → Int32 → Int32 → Int32 → Int32 → Int32 → KV → Option (Int32 × KV)) (x1 : Int32) (x2 : Int32) (x4 : Int32) (x5 : Int32) (x6 : Int32) (x7 : Int32) (x11 : Int32) (x12 : Int32) (x13 : Int32) (x14 : Int32) (vK : KV) : Option (Int32 × KV) := (if x2 ≤ x14 then (J_K_register_723 x1 x4 x5 x6 x7 x11 x12 x13 vK) else (if x12 = 0 then (J_K_register_723 x1 x4 x5 x6 x7 x11 x12 x13 vK) else (F_K_call__ vK 28 x14).bind (fun u1 => (F_K_call__ u1.2 25 x14).bind (fun u2 => (F_K_call__ u2.2 26 x14).bind (fun u3 => (if u1.1 < 0 then (J_K_register_620 rec_555 x1 x2 x4 x5 (x6 + u3.1) x7 x11 x13 x14 u1.1 u2.1 u3.2) else (F_K_call__ u3.2 24 x14).bind (fun u4 => (if u1.1 = u4.1 then (J_K_register_620 rec_555 x1 x2 x4 x5 (x6 + u3.1) x7 x11 x13 x14 u1.1 u2.1 u4.2) else (J_K_register_620 rec_555 x1 x2 x4 x5 (x6 + u3.1) (x7 + 1) x11 x13 x14 u1.1 u2.1 u4.2)))))))))
def L_K_register_555 : Nat → Int32 → Int32 → Int32 → Int32 → Int32 → Int32 → Int32 → Int32 → Int32 → Int32 → KV → Option (Int32 × KV)
  | 0 => fun _ _ _ _ _ _ _ _ _ _ _ => none
  | n + 1 => fun x1 x2 x4 x5 x6 x7 x11 x12 x13 x14 vK => B_K_register_555 (L_K_register_555 n) x1 x2 x4 x5 x6 x7 x11 x12 x13 x14 vK
def B_K_register_264 (rec_264 : Int32 → Int32 → Int32 → Int32 → Int32 → Int32 → Int32 → Int32 → Int32 → Int32 → (Nat → Int32) → (Nat → Int32) → (Nat → Int32) → KV → Option (Int32 × KV)) (x1 : Int32) (x2 : Int32) (x4 : Int32) (x5 : Int32) (x6 : Int32) (x7 : Int32) (x11 : Int32) (x12 : Int32) (x13 : Int32) (x14 : Int32) (a32 : Nat → Int32) (a38 : Nat → Int32) (a44 : Nat → Int32) (vK : KV) : Option (Int32 × KV) := (if x1 ≤ x14 then (L_K_register_555 13 x1 x2 x4 x5 x6 x7 x11 x12 x13 0 vK) else (if x12 = 0 then (L_K_register_555 13 x1 x2 x4 x5 x6 x7 x11 x12 x13 0 vK) else (F_K_call__ vK 20 x14).bind (fun u1 => ck x14 10 ((if u1.1 = 1 then ck x14 10 ((J_K_register_308 rec_264 x1 x2 x4 x5 x6 x7 x11 x13 x14 u1.1 (a44 (Int32.toNatClampNeg x14)) (x4 - (a38 (Int32.toNatClampNeg x14))) a32 a38 a44 u1.2)) else (J_K_register_308 rec_264 x1 x2 x4 x5 x6 x7 x11 x13 x14 u1.1 (a44 (Int32.toNatClampNeg x14)) 0 a32 a38 a44 u1.2))))))
def L_K_register_264 : Nat → Int32 → Int32 → Int32 → Int32 → Int32 → Int32 → Int32 → Int32 → Int32 → Int32 → (Nat → Int32) → (Nat → Int32) → (Nat → Int32) → KV → Option (Int32 × KV)
  | 0 => fun _ _ _ _ _ _ _ _ _ _ _ _ _ _ => none
  | n + 1 => fun x1 x2 x4 x5 x6 x7 x11 x12 x13 x14 a32 a38 a44 vK => B_K_register_264 (L_K_register_264 n) x1 x2 x4 x5 x6 x7 x11 x12 x13 x14 a32 a38 a44 vK
def B_K_register_135 (rec_135 : Int32 → Int32 → Int32 → Int32 → Int32 → Int32 → Int32 → Int32 → Int32 → Int32 → (Nat → Int32) → (Nat → Int32) → (Nat → Int32) → KV → Option (Int32 × KV)) (x1 : Int32) (x2 : Int32) (x3 : Int32) (x4 : Int32) (x5 : Int32) (x6 : Int32) (x7 : Int32) (x11 : Int32) (x12 : Int32) (x13 : Int32) (a32 : Nat → Int32) (a38 : Nat → Int32) (a44 : Nat → Int32) (vK : KV) : Option (Int32 × KV) := (if x3 ≤ x13 then (L_K_register_264 11 x1 x2 x4 x5 x6 x7 x11 x12 0 0 a32 a38 a44 vK) else (if x12 = 0 then (L_K_register_264 11 x1 x2 x4 x5 x6 x7 x11 x12 0 0 a32 a38 a44 vK) else (F_K_call__ vK 30 x13).bind (fun u1 => (F_K_call__ u1.2 31 x13).bind (fun u2 => (F_K_call__ u2.2 32 x13).bind (fun u3 => (if u1.1 < x11 then (J_K_register_207 rec_135 x1 x2 x3 x4 x5 x6 x7 x13 u1.1 u2.1 u3.1 0 a32 a38 a44 u3.2) else (if x4 < u1.1 then (J_K_register_207 rec_135 x1 x2 x3 x4 x5 x6 x7 x13 u1.1 u2.1 u3.1 0 a32 a38 a44 u3.2) else ck u2.1 10 ((if u3.1 = (1 - (a32 (Int32.toNatClampNeg u2.1))) then (J_K_register_207 rec_135 x1 x2 x3 x4 x5 x6 x7 x13 u1.1 u2.1 u3.1 1 a32 a38 a44 u3.2) else (J_K_register_207 rec_135 x1 x2 x3 x4 x5 x6 x7 x13 u1.1 u2.1 u3.1 0 a32 a38 a44 u3.2))))))))))
def L_K_register_135 : Nat → Int32 → Int32 → Int32 → Int32 → Int32 → Int32 → Int32 → Int32 → Int32 → Int32 → (Nat → Int32) → (Nat → Int32) → (Nat → Int32) → KV → Option (Int32 × KV)
  | 0 => fun _ _ _ _ _ _ _ _ _ _ _ _ _ _ => none
  | n + 1 => fun x1 x2 x3 x4 x5 x6 x7 x11 x12 x13 a32 a38 a44 vK => B_K_register_135 (L_K_register_135 n) x1 x2 x3 x4 x5 x6 x7 x11 x12 x13 a32 a38 a44 vK
def J_K_register_129 (x1 : Int32) (x2 : Int32) (x3 : Int32) (x4 : Int32) (x5 : Int32) (x6 : Int32) (x7 : Int32) (x11 : Int32) (a32 : Nat → Int32) (a38 : Nat → Int32) (a44 : Nat → Int32) (vK : KV) : Option (Int32 × KV) := (L_K_register_135 61 x1 x2 x3 x4 x5 x6 x7 x11 0 0 a32 a38 a44 vK)
def F_K_register (v0 : KV) : Option (Int32 × KV) := (F_X8_guestCount (v0.1) (v0.2.2.1) (v0.2.2.2.1)).bind (fun u1 => (F_X8_umbrellaCount (v0.1) (v0.2.2.1) (v0.2.2.2.2.1)).bind (fun u2 => (F_X8_entryCount (v0.1) (v0.2.2.1) (v0.2.2.2.2.2.1)).bind (fun u3 => (F_X8_minute (v0.1) (v0.2.2.1)).bind (fun u4 => (if 10 < u1 then (J_K_register_129 u1 u2 u3 u4 0 0 0 0 (fun _ => 0) (fun _ => 0) (fun _ => 0) v0) else (if 12 < u2 then (J_K_register_129 u1 u2 u3 u4 0 0 0 0 (fun _ => 0) (fun _ => 0) (fun _ => 0) v0) else (if 60 < u3 then (J_K_register_129 u1 u2 u3 u4 0 0 0 0 (fun _ => 0) (fun _ => 0) (fun _ => 0) v0) else (if 720 < u4 then (J_K_register_129 u1 u2 u3 u4 0 0 0 0 (fun _ => 0) (fun _ => 0) (fun _ => 0) v0) else (F_K_call__ v0 18 u1).bind (fun u5 => (if u5.1 = (-104) then (F_K_call__ u5.2 25 u2).bind (fun u6 => (if u6.1 = (-104) then (F_K_call__ u6.2 30 u3).bind (fun u7 => (if u7.1 = (-104) then (F_K_call__ u7.2 42 u1).bind (fun u8 => (if u8.1 = (-104) then (L_K_register_135 61 u1 u2 u3 u4 0 0 0 0 1 0 (fun _ => 0) (fun _ => 0) (fun _ => 0) u8.2) else (J_K_register_129 u1 u2 u3 u4 0 0 0 0 (fun _ => 0) (fun _ => 0) (fun _ => 0) u8.2))) else (J_K_register_129 u1 u2 u3 u4 0 0 0 0 (fun _ => 0) (fun _ => 0) (fun _ => 0) u7.2))) else (J_K_register_129 u1 u2 u3 u4 0 0 0 0 (fun _ => 0) (fun _ => 0) (fun _ => 0) u6.2))) else (J_K_register_129 u1 u2 u3 u4 0 0 0 0 (fun _ => 0) (fun _ => 0) (fun _ => 0) u5.2)))))))))))
abbrev rm_L_register : Room := { frames := 11, cells := 1236, slots := 6 * 1236, locals := 245 }
set_option maxHeartbeats 16000000 in
set_option maxRecDepth 100000 in
theorem c_K_register (E : Ev) (l : Launch) (hst : l.stackTraces = false) (k : KA) (v0 : KV) (r : Int32 × KV) (hf : F_K_register v0 = some r) : LM E l yL_register (.code yL_register cL_register 19 (some .boolean) :: GA) rm_L_register [.ref k.1] (W_K E k v0) (some (.int r.1)) (W_K E k r.2) 1236 := by
  refine LM.of0 (own := RL) rfl (by decide) (Nat.le_of_ble_eq_true rfl) ?_
  intro p e s m below meth c A ls hx hb hr hml hown hg hlocks hK hE hN hA hP hD hS hl
  have hl : lv_has ls 19 [(0, .ref k.1)] := hl
  have jp_823 : ∀ (vK : KV) (cs : Nat) (H : Heap) (locs : List Loc) (ls : Array Slot), J_K_register_823 vK = some r → cs + 0 ≤ 1236 → va_P E.1 vwCl (W_K E k vK ++ []) H → va_D A (W_K E k vK ++ []) → va_S A s.heap H locs → lv_has ls 19 [] → W p l e rm_L_register s m ([.ref k.1] : List Value).toArray below meth c H locs cs (6 * cs) (vx_MQ below (QW E (some (.int r.1)) (W_K E k r.2) A) (fun _ _ _ => False) ([.ref k.1] : List Value).toArray s 1236 (6 * 1236) A) (F0 m 823 ls []) := by
    intro vK cs H locs ls hf hc hP hD hS hl
    unfold J_K_register_823 at hf
    refine lv_iconst (v := 0) hx hb dL_register_823 (by decide) ?_
    obtain rfl := Option.some.inj hf
    exact lm_yret (v := 0) hx hb hr rfl hlocks (lk_P1 hP) hS dL_register_824 (by omega) (by omega)
  have jp_815 : ∀ (t0 : UInt32) (t1 : UInt32) (vK : KV) (cs : Nat) (H : Heap) (locs : List Loc) (ls : Array Slot), J_K_register_815 t0 t1 vK = some r → cs + 0 ≤ 1236 → va_P E.1 vwCl (W_K E k vK ++ []) H → va_D A (W_K E k vK ++ []) → va_S A s.heap H locs → lv_has ls 19 [] → W p l e rm_L_register s m ([.ref k.1] : List Value).toArray below meth c H locs cs (6 * cs) (vx_MQ below (QW E (some (.int r.1)) (W_K E k r.2) A) (fun _ _ _ => False) ([.ref k.1] : List Value).toArray s 1236 (6 * 1236) A) (F0 m 815 ls [.float t1, .float t0]) := by
    intro t0 t1 vK cs H locs ls hf hc hP hD hS hl
    unfold J_K_register_815 at hf
    refine lv_fcmp hx hb dL_register_815 ?_
    refine lv_if_ne (tgt := 823) hx hb dL_register_816 (by decide) (fun cq => ?_) (fun cq => ?_)
    · have hf := ie cq hf
      exact jp_823 _ _ _ _ _ hf (by omega) hP hD hS (lv_sub hl [] rfl)
    · have hf := it cq hf
      refine lv_iconst (v := 1) hx hb dL_register_819 (by decide) ?_
      refine lv_goto (tgt := 824) hx hb dL_register_820 (by decide) ?_
      obtain rfl := Option.some.inj hf
      exact lm_yret (v := 1) hx hb hr rfl hlocks (lk_P1 hP) hS dL_register_824 (by omega) (by omega)
  have jp_793 : ∀ (x1 : Int32) (x5 : Int32) (t0 : UInt64) (t1 : UInt64) (vK : KV) (cs : Nat) (H : Heap) (locs : List Loc) (ls : Array Slot), J_K_register_793 x1 x5 t0 t1 vK = some r → cs + 0 ≤ 1236 → va_P E.1 vwCl (W_K E k vK ++ []) H → va_D A (W_K E k vK ++ []) → va_S A s.heap H locs → lv_has ls 19 [(0, .ref k.1), (1, .int x1), (5, .int x5)] → W p l e rm_L_register s m ([.ref k.1] : List Value).toArray below meth c H locs cs (6 * cs) (vx_MQ below (QW E (some (.int r.1)) (W_K E k r.2) A) (fun _ _ _ => False) ([.ref k.1] : List Value).toArray s 1236 (6 * 1236) A) (F0 m 793 ls [.double t1, .double t0]) := by
    intro x1 x5 t0 t1 vK cs H locs ls hf hc hP hD hS hl
    unfold J_K_register_793 at hf
    refine lv_dcmp hx hb dL_register_793 ?_
    refine lv_if_ne (tgt := 823) hx hb dL_register_794 (by decide) (fun cq => ?_) (fun cq => ?_)
    · have hf := ie cq hf
      exact jp_823 _ _ _ _ _ hf (by omega) hP hD hS (lv_sub hl [] rfl)
    · have hf := it cq hf
      refine lv_aload_n hx hb dL_register_797 rfl (lv_at hl 0 rfl) ?_
      obtain ⟨u1, hu1, hf⟩ := bn hf
      refine lk_V (As := []) (rest := []) (wr := []) hx hb hml hown hg (k_X8_shareOut E l k vK u1 hu1) cy_X8_shareOut ml_L_279 ⟨⟨rfl, rfl⟩, Nat.le_of_ble_eq_true rfl, Nat.le_of_ble_eq_true rfl⟩ hK hE hP hD hS hA (W_Ka E k _ _) rfl rfl rfl hl.1 rfl (Nat.le_of_ble_eq_true rfl) dL_register_798 ⟨by show _ ≤ 1236; omega, by show _ ≤ 6 * 1236; omega⟩ [.float u1] rfl (fun H locs hP hD hS => ?_)
      refine lv_iload_n hx hb dL_register_801 rfl (lv_at hl 1 rfl) ?_
      refine lv_if_ne (tgt := 809) hx hb dL_register_802 (by decide) (fun cq => ?_) (fun cq => ?_)
      · have hf := ie cq hf
        refine lv_iload hx hb dL_register_809 (lv_at hl 2 rfl) ?_
        refine lv_i2f hx hb dL_register_811 ?_
        refine lv_iload_n hx hb dL_register_812 rfl (lv_at hl 1 rfl) ?_
        refine lv_i2f hx hb dL_register_813 ?_
        obtain ⟨hnn, hf⟩ := cn_o hf
        refine lv_fdiv hx hb dL_register_814 hnn ?_
        exact jp_815 _ _ _ _ _ _ _ hf (by omega) hP hD hS (lv_sub hl [] rfl)
      · have hf := it cq hf
        refine lv_fconst0 hx hb dL_register_805 ?_
        refine lv_goto (tgt := 815) hx hb dL_register_806 (by decide) ?_
        exact jp_815 _ _ _ _ _ _ _ hf (by omega) hP hD hS (lv_sub hl [] rfl)
  have jp_723 : ∀ (x1 : Int32) (x4 : Int32) (x5 : Int32) (x6 : Int32) (x7 : Int32) (x11 : Int32) (x12 : Int32) (x13 : Int32) (vK : KV) (cs : Nat) (H : Heap) (locs : List Loc) (ls : Array Slot), J_K_register_723 x1 x4 x5 x6 x7 x11 x12 x13 vK = some r → cs + 0 ≤ 1236 → va_P E.1 vwCl (W_K E k vK ++ []) H → va_D A (W_K E k vK ++ []) → va_S A s.heap H locs → lv_has ls 19 [(0, .ref k.1), (1, .int x1), (4, .int x4), (5, .int x5), (6, .int x6), (7, .int x7), (11, .int x11), (12, .int x12), (13, .int x13)] → W p l e rm_L_register s m ([.ref k.1] : List Value).toArray below meth c H locs cs (6 * cs) (vx_MQ below (QW E (some (.int r.1)) (W_K E k r.2) A) (fun _ _ _ => False) ([.ref k.1] : List Value).toArray s 1236 (6 * 1236) A) (F0 m 723 ls []) := by
    intro x1 x4 x5 x6 x7 x11 x12 x13 vK cs H locs ls hf hc hP hD hS hl
    unfold J_K_register_723 at hf
    refine lv_iload hx hb dL_register_723 (lv_at hl 7 rfl) ?_
    refine lv_if_eq (tgt := 823) hx hb dL_register_725 (by decide) (fun cq => ?_) (fun cq => ?_)
    · have hf := it cq hf
      exact jp_823 _ _ _ _ _ hf (by omega) hP hD hS (lv_sub hl [] rfl)
    · have hf := ie cq hf
      refine lv_iload hx hb dL_register_728 (lv_at hl 3 rfl) ?_
      refine lv_aload_n hx hb dL_register_730 rfl (lv_at hl 0 rfl) ?_
      obtain ⟨u1, hu1, hf⟩ := bn hf
      refine lk_V (As := []) (rest := [.int x5]) (wr := []) hx hb hml hown hg (k_X8_keysAtDesk E l k vK u1 hu1) cy_X8_keysAtDesk ml_L_263 ⟨⟨rfl, rfl⟩, Nat.le_of_ble_eq_true rfl, Nat.le_of_ble_eq_true rfl⟩ hK hE hP hD hS hA (W_Ka E k _ _) rfl rfl rfl hl.1 rfl (Nat.le_of_ble_eq_true rfl) dL_register_731 ⟨by show _ ≤ 1236; omega, by show _ ≤ 6 * 1236; omega⟩ [.int u1, .int x5] rfl (fun H locs hP hD hS => ?_)
      refine lv_icmp_ne (tgt := 823) hx hb dL_register_734 (by decide) (fun cq => ?_) (fun cq => ?_)
      · have hf := ie cq hf
        exact jp_823 _ _ _ _ _ hf (by omega) hP hD hS (lv_sub hl [] rfl)
      · have hf := it cq hf
        refine lv_iload hx hb dL_register_737 (lv_at hl 4 rfl) ?_
        refine lv_aload_n hx hb dL_register_739 rfl (lv_at hl 0 rfl) ?_
        obtain ⟨u2, hu2, hf⟩ := bn hf
        refine lk_V (As := []) (rest := [.int x6]) (wr := []) hx hb hml hown hg (k_X8_standCount E l k vK u2 hu2) cy_X8_standCount ml_L_266 ⟨⟨rfl, rfl⟩, Nat.le_of_ble_eq_true rfl, Nat.le_of_ble_eq_true rfl⟩ hK hE hP hD hS hA (W_Ka E k _ _) rfl rfl rfl hl.1 rfl (Nat.le_of_ble_eq_true rfl) dL_register_740 ⟨by show _ ≤ 1236; omega, by show _ ≤ 6 * 1236; omega⟩ [.int u2, .int x6] rfl (fun H locs hP hD hS => ?_)
        refine lv_icmp_ne (tgt := 823) hx hb dL_register_743 (by decide) (fun cq => ?_) (fun cq => ?_)
        · have hf := ie cq hf
          exact jp_823 _ _ _ _ _ hf (by omega) hP hD hS (lv_sub hl [] rfl)
        · have hf := it cq hf
          refine lv_iload hx hb dL_register_746 (lv_at hl 5 rfl) ?_
          refine lv_aload_n hx hb dL_register_748 rfl (lv_at hl 0 rfl) ?_
          obtain ⟨u3, hu3, hf⟩ := bn hf
          refine lk_V (As := []) (rest := [.int x7]) (wr := []) hx hb hml hown hg (k_X8_borrowedCount E l k vK u3 hu3) cy_X8_borrowedCount ml_L_269 ⟨⟨rfl, rfl⟩, Nat.le_of_ble_eq_true rfl, Nat.le_of_ble_eq_true rfl⟩ hK hE hP hD hS hA (W_Ka E k _ _) rfl rfl rfl hl.1 rfl (Nat.le_of_ble_eq_true rfl) dL_register_749 ⟨by show _ ≤ 1236; omega, by show _ ≤ 6 * 1236; omega⟩ [.int u3, .int x7] rfl (fun H locs hP hD hS => ?_)
          refine lv_icmp_ne (tgt := 823) hx hb dL_register_752 (by decide) (fun cq => ?_) (fun cq => ?_)
          · have hf := ie cq hf
            exact jp_823 _ _ _ _ _ hf (by omega) hP hD hS (lv_sub hl [] rfl)
          · have hf := it cq hf
            refine lv_aload_n hx hb dL_register_755 rfl (lv_at hl 0 rfl) ?_
            obtain ⟨u4, hu4, hf⟩ := bn hf
            refine lk_V (As := []) (rest := []) (wr := []) hx hb hml hown hg (k_X8_yawn E l k vK u4 hu4) cy_X8_yawn ml_L_255 ⟨⟨rfl, rfl⟩, Nat.le_of_ble_eq_true rfl, Nat.le_of_ble_eq_true rfl⟩ hK hE hP hD hS hA (W_Ka E k _ _) rfl rfl rfl hl.1 rfl (Nat.le_of_ble_eq_true rfl) dL_register_756 ⟨by show _ ≤ 1236; omega, by show _ ≤ 6 * 1236; omega⟩ [.int u4] rfl (fun H locs hP hD hS => ?_)
            refine lv_bipush (v := 9) hx hb dL_register_759 (by decide) ?_
            refine lv_iload hx hb dL_register_761 (lv_at hl 2 rfl) ?_
            refine lv_iload hx hb dL_register_763 (lv_at hl 6 rfl) ?_
            refine lv_isub hx hb dL_register_765 ?_
            refine lv_bipush (v := 30) hx hb dL_register_766 (by decide) ?_
            refine lv_idiv hx hb dL_register_768 (by decide) ?_
            refine cm_min hx hb hml hl.1 hown hg ml_L_272 (Nat.le_of_ble_eq_true rfl) (Nat.le_of_ble_eq_true rfl) ⟨by show _ ≤ 1236; omega, by show _ ≤ 6 * 1236; omega⟩ dL_register_769 ?_
            refine lv_icmp_ne (tgt := 823) hx hb dL_register_772 (by decide) (fun cq => ?_) (fun cq => ?_)
            · have hf := ie cq hf
              exact jp_823 _ _ _ _ _ hf (by omega) hP hD hS (lv_sub hl [] rfl)
            · have hf := it cq hf
              refine lv_aload_n hx hb dL_register_775 rfl (lv_at hl 0 rfl) ?_
              obtain ⟨u5, hu5, hf⟩ := bn hf
              refine lk_V (As := []) (rest := []) (wr := []) hx hb hml hown hg (k_X8_meanMinutesOut E l k vK u5 hu5) cy_X8_meanMinutesOut ml_L_275 ⟨⟨rfl, rfl⟩, Nat.le_of_ble_eq_true rfl, Nat.le_of_ble_eq_true rfl⟩ hK hE hP hD hS hA (W_Ka E k _ _) rfl rfl rfl hl.1 rfl (Nat.le_of_ble_eq_true rfl) dL_register_776 ⟨by show _ ≤ 1236; omega, by show _ ≤ 6 * 1236; omega⟩ [.double u5] rfl (fun H locs hP hD hS => ?_)
              refine lv_iload_n hx hb dL_register_779 rfl (lv_at hl 1 rfl) ?_
              refine lv_if_ne (tgt := 787) hx hb dL_register_780 (by decide) (fun cq => ?_) (fun cq => ?_)
              · have hf := ie cq hf
                refine lv_iload hx hb dL_register_787 (lv_at hl 8 rfl) ?_
                refine lv_i2d hx hb dL_register_789 ?_
                refine lv_iload_n hx hb dL_register_790 rfl (lv_at hl 1 rfl) ?_
                refine lv_i2d hx hb dL_register_791 ?_
                obtain ⟨hnn, hf⟩ := cn_o hf
                refine lv_ddiv hx hb dL_register_792 hnn ?_
                exact jp_793 _ _ _ _ _ _ _ _ _ hf (by omega) hP hD hS (lv_sub hl [0, 1, 3] rfl)
              · have hf := it cq hf
                refine lv_dconst0 hx hb dL_register_783 ?_
                refine lv_goto (tgt := 793) hx hb dL_register_784 (by decide) ?_
                exact jp_793 _ _ _ _ _ _ _ _ _ hf (by omega) hP hD hS (lv_sub hl [0, 1, 3] rfl)
  have lp_555 : ∀ (n : Nat) (x1 : Int32) (x2 : Int32) (x4 : Int32) (x5 : Int32) (x6 : Int32) (x7 : Int32) (x11 : Int32) (x12 : Int32) (x13 : Int32) (x14 : Int32) (vK : KV) (cs : Nat) (H : Heap) (locs : List Loc) (ls : Array Slot), L_K_register_555 n x1 x2 x4 x5 x6 x7 x11 x12 x13 x14 vK = some r → cs + n * 21 + 0 ≤ 1236 → va_P E.1 vwCl (W_K E k vK ++ []) H → va_D A (W_K E k vK ++ []) → va_S A s.heap H locs → lv_has ls 19 [(0, .ref k.1), (1, .int x1), (2, .int x2), (4, .int x4), (5, .int x5), (6, .int x6), (7, .int x7), (11, .int x11), (12, .int x12), (13, .int x13), (14, .int x14)] → W p l e rm_L_register s m ([.ref k.1] : List Value).toArray below meth c H locs cs (6 * cs) (vx_MQ below (QW E (some (.int r.1)) (W_K E k r.2) A) (fun _ _ _ => False) ([.ref k.1] : List Value).toArray s 1236 (6 * 1236) A) (F0 m 555 ls []) := by
    intro n_555
    induction n_555 with
    | zero => intro x1 x2 x4 x5 x6 x7 x11 x12 x13 x14 vK cs H locs ls hf; cases hf
    | succ n_555 ih_555 =>
      have jp_714 : ∀ (x1 : Int32) (x2 : Int32) (x4 : Int32) (x5 : Int32) (x6 : Int32) (x7 : Int32) (x11 : Int32) (x13 : Int32) (x14 : Int32) (vK : KV) (cs : Nat) (H : Heap) (locs : List Loc) (ls : Array Slot), J_K_register_714 (L_K_register_555 n_555) x1 x2 x4 x5 x6 x7 x11 x13 x14 vK = some r → cs + 0 + (n_555 * 21 + 0) ≤ 1236 → va_P E.1 vwCl (W_K E k vK ++ []) H → va_D A (W_K E k vK ++ []) → va_S A s.heap H locs → lv_has ls 19 [(0, .ref k.1), (1, .int x1), (2, .int x2), (4, .int x4), (5, .int x5), (6, .int x6), (7, .int x7), (11, .int x11), (13, .int x13), (14, .int x14)] → W p l e rm_L_register s m ([.ref k.1] : List Value).toArray below meth c H locs cs (6 * cs) (vx_MQ below (QW E (some (.int r.1)) (W_K E k r.2) A) (fun _ _ _ => False) ([.ref k.1] : List Value).toArray s 1236 (6 * 1236) A) (F0 m 714 ls []) := by
        intro x1 x2 x4 x5 x6 x7 x11 x13 x14 vK cs H locs ls hf hc hP hD hS hl
        unfold J_K_register_714 at hf
        refine lv_iconst (v := 0) hx hb dL_register_714 (by decide) ?_
        refine lv_istore (lv' := [(12, .int 0), (0, .ref k.1), (1, .int x1), (2, .int x2), (4, .int x4), (5, .int x5), (6, .int x6), (7, .int x7), (11, .int x11), (13, .int x13), (14, .int x14)]) hx hb dL_register_715 hl (by decide) rfl (fun ls hl => ?_)
        refine lv_iinc (v := (x14 + 1)) (lv' := [(14, .int (x14 + 1)), (12, .int 0), (0, .ref k.1), (1, .int x1), (2, .int x2), (4, .int x4), (5, .int x5), (6, .int x6), (7, .int x7), (11, .int x11), (13, .int x13)]) hx hb dL_register_717 hl (k := 10) rfl rfl (by decide) rfl (fun ls hl => ?_)
        refine lv_goto (tgt := 555) hx hb dL_register_720 (by decide) ?_
        exact ih_555 _ _ _ _ _ _ _ _ _ _ _ _ _ _ _ hf (by omega) hP hD hS (lv_sub hl [2, 3, 4, 5, 6, 7, 8, 9, 1, 10, 0] rfl)
      have jp_707 : ∀ (x1 : Int32) (x2 : Int32) (x4 : Int32) (x5 : Int32) (x6 : Int32) (x7 : Int32) (x11 : Int32) (x13 : Int32) (x14 : Int32) (t0 : Int32) (t1 : Int32) (vK : KV) (cs : Nat) (H : Heap) (locs : List Loc) (ls : Array Slot), J_K_register_707 (L_K_register_555 n_555) x1 x2 x4 x5 x6 x7 x11 x13 x14 t0 t1 vK = some r → cs + 0 + (n_555 * 21 + 0) ≤ 1236 → va_P E.1 vwCl (W_K E k vK ++ []) H → va_D A (W_K E k vK ++ []) → va_S A s.heap H locs → lv_has ls 19 [(0, .ref k.1), (1, .int x1), (2, .int x2), (4, .int x4), (5, .int x5), (6, .int x6), (7, .int x7), (11, .int x11), (13, .int x13), (14, .int x14)] → W p l e rm_L_register s m ([.ref k.1] : List Value).toArray below meth c H locs cs (6 * cs) (vx_MQ below (QW E (some (.int r.1)) (W_K E k r.2) A) (fun _ _ _ => False) ([.ref k.1] : List Value).toArray s 1236 (6 * 1236) A) (F0 m 707 ls [.int t1, .int t0]) := by
        intro x1 x2 x4 x5 x6 x7 x11 x13 x14 t0 t1 vK cs H locs ls hf hc hP hD hS hl
        unfold J_K_register_707 at hf
        refine lv_icmp_ne (tgt := 714) hx hb dL_register_707 (by decide) (fun cq => ?_) (fun cq => ?_)
        · have hf := ie cq hf
          exact jp_714 _ _ _ _ _ _ _ _ _ _ _ _ _ _ hf (by omega) hP hD hS (lv_sub hl [0, 1, 2, 3, 4, 5, 6, 7, 8, 9] rfl)
        · have hf := it cq hf
          refine lv_iconst (v := 1) hx hb dL_register_710 (by decide) ?_
          refine lv_goto (tgt := 715) hx hb dL_register_711 (by decide) ?_
          refine lv_istore (lv' := [(12, .int 1), (0, .ref k.1), (1, .int x1), (2, .int x2), (4, .int x4), (5, .int x5), (6, .int x6), (7, .int x7), (11, .int x11), (13, .int x13), (14, .int x14)]) hx hb dL_register_715 hl (by decide) rfl (fun ls hl => ?_)
          refine lv_iinc (v := (x14 + 1)) (lv' := [(14, .int (x14 + 1)), (12, .int 1), (0, .ref k.1), (1, .int x1), (2, .int x2), (4, .int x4), (5, .int x5), (6, .int x6), (7, .int x7), (11, .int x11), (13, .int x13)]) hx hb dL_register_717 hl (k := 10) rfl rfl (by decide) rfl (fun ls hl => ?_)
          refine lv_goto (tgt := 555) hx hb dL_register_720 (by decide) ?_
          exact ih_555 _ _ _ _ _ _ _ _ _ _ _ _ _ _ _ hf (by omega) hP hD hS (lv_sub hl [2, 3, 4, 5, 6, 7, 8, 9, 1, 10, 0] rfl)
      have jp_682 : ∀ (x1 : Int32) (x2 : Int32) (x4 : Int32) (x5 : Int32) (x6 : Int32) (x7 : Int32) (x11 : Int32) (x13 : Int32) (x14 : Int32) (x15 : Int32) (x16 : Int32) (vK : KV) (cs : Nat) (H : Heap) (locs : List Loc) (ls : Array Slot), J_K_register_682 (L_K_register_555 n_555) x1 x2 x4 x5 x6 x7 x11 x13 x14 x15 x16 vK = some r → cs + 3 + (n_555 * 21 + 0) ≤ 1236 → va_P E.1 vwCl (W_K E k vK ++ []) H → va_D A (W_K E k vK ++ []) → va_S A s.heap H locs → lv_has ls 19 [(0, .ref k.1), (1, .int x1), (2, .int x2), (4, .int x4), (5, .int x5), (6, .int x6), (7, .int x7), (11, .int x11), (13, .int x13), (14, .int x14), (15, .int x15), (16, .int x16)] → W p l e rm_L_register s m ([.ref k.1] : List Value).toArray below meth c H locs cs (6 * cs) (vx_MQ below (QW E (some (.int r.1)) (W_K E k r.2) A) (fun _ _ _ => False) ([.ref k.1] : List Value).toArray s 1236 (6 * 1236) A) (F0 m 682 ls []) := by
        intro x1 x2 x4 x5 x6 x7 x11 x13 x14 x15 x16 vK cs H locs ls hf hc hP hD hS hl
        unfold J_K_register_682 at hf
        refine lv_aload_n hx hb dL_register_682 rfl (lv_at hl 0 rfl) ?_
        refine lv_bipush (v := 27) hx hb dL_register_683 (by decide) ?_
        refine lv_iload hx hb dL_register_685 (lv_at hl 9 rfl) ?_
        obtain ⟨u1, hu1, hf⟩ := bn hf
        refine lk_S (As := [.ref k.1, .int 27, .int x14]) (rest := []) (wr := []) hx hb hml hown hg (c_K_call__ E l hst k vK 27 x14 u1 hu1) cs_L_call__ ml_L_171 ⟨⟨rfl, rfl⟩, Nat.le_of_ble_eq_true rfl, Nat.le_of_ble_eq_true rfl⟩ hK hE hN hP hD hS hA (W_Ka E k _ _) rfl hl.1 rfl (Nat.le_of_ble_eq_true rfl) dL_register_687 ⟨by show _ ≤ 1236; omega, by show _ ≤ 6 * 1236; omega⟩ [.int u1.1] rfl (fun H locs hP hD hS => ?_)
        refine lv_iload hx hb dL_register_690 (lv_at hl 10 rfl) ?_
        refine lv_if_ge (tgt := 706) hx hb dL_register_692 (by decide) (fun cq => ?_) (fun cq => ?_)
        · have hf := it cq hf
          refine lv_iconst (v := 0) hx hb dL_register_706 (by decide) ?_
          exact jp_707 _ _ _ _ _ _ _ _ _ _ _ _ _ _ _ _ hf (by omega) hP hD hS (lv_sub hl [0, 1, 2, 3, 4, 5, 6, 7, 8, 9] rfl)
        · have hf := ie cq hf
          refine lv_iload hx hb dL_register_695 (lv_at hl 11 rfl) ?_
          refine lv_bipush (v := 50) hx hb dL_register_697 (by decide) ?_
          refine lv_icmp_gt (tgt := 706) hx hb dL_register_699 (by decide) (fun cq => ?_) (fun cq => ?_)
          · have hf := it cq hf
            refine lv_iconst (v := 0) hx hb dL_register_706 (by decide) ?_
            exact jp_707 _ _ _ _ _ _ _ _ _ _ _ _ _ _ _ _ hf (by omega) hP hD hS (lv_sub hl [0, 1, 2, 3, 4, 5, 6, 7, 8, 9] rfl)
          · have hf := ie cq hf
            refine lv_iconst (v := 1) hx hb dL_register_702 (by decide) ?_
            refine lv_goto (tgt := 707) hx hb dL_register_703 (by decide) ?_
            exact jp_707 _ _ _ _ _ _ _ _ _ _ _ _ _ _ _ _ hf (by omega) hP hD hS (lv_sub hl [0, 1, 2, 3, 4, 5, 6, 7, 8, 9] rfl)
      have jp_661 : ∀ (x1 : Int32) (x2 : Int32) (x4 : Int32) (x5 : Int32) (x6 : Int32) (x7 : Int32) (x11 : Int32) (x13 : Int32) (x14 : Int32) (x15 : Int32) (x16 : Int32) (t0 : Int32) (t1 : Int32) (vK : KV) (cs : Nat) (H : Heap) (locs : List Loc) (ls : Array Slot), J_K_register_661 (L_K_register_555 n_555) x1 x2 x4 x5 x6 x7 x11 x13 x14 x15 x16 t0 t1 vK = some r → cs + 6 + (n_555 * 21 + 0) ≤ 1236 → va_P E.1 vwCl (W_K E k vK ++ []) H → va_D A (W_K E k vK ++ []) → va_S A s.heap H locs → lv_has ls 19 [(0, .ref k.1), (1, .int x1), (2, .int x2), (4, .int x4), (5, .int x5), (6, .int x6), (7, .int x7), (11, .int x11), (13, .int x13), (14, .int x14), (15, .int x15), (16, .int x16)] → W p l e rm_L_register s m ([.ref k.1] : List Value).toArray below meth c H locs cs (6 * cs) (vx_MQ below (QW E (some (.int r.1)) (W_K E k r.2) A) (fun _ _ _ => False) ([.ref k.1] : List Value).toArray s 1236 (6 * 1236) A) (F0 m 661 ls [.int t1, .int t0]) := by
        intro x1 x2 x4 x5 x6 x7 x11 x13 x14 x15 x16 t0 t1 vK cs H locs ls hf hc hP hD hS hl
        unfold J_K_register_661 at hf
        refine lv_icmp_ne (tgt := 714) hx hb dL_register_661 (by decide) (fun cq => ?_) (fun cq => ?_)
        · have hf := ie cq hf
          exact jp_714 _ _ _ _ _ _ _ _ _ _ _ _ _ _ hf (by omega) hP hD hS (lv_sub hl [0, 1, 2, 3, 4, 5, 6, 7, 8, 9] rfl)
        · have hf := it cq hf
          refine lv_iload hx hb dL_register_664 (lv_at hl 10 rfl) ?_
          refine lv_if_lt (tgt := 682) hx hb dL_register_666 (by decide) (fun cq => ?_) (fun cq => ?_)
          · have hf := it cq hf
            exact jp_682 _ _ _ _ _ _ _ _ _ _ _ _ _ _ _ _ hf (by omega) hP hD hS (lv_sub hl [0, 1, 2, 3, 4, 5, 6, 7, 8, 9, 10, 11] rfl)
          · have hf := ie cq hf
            refine lv_aload_n hx hb dL_register_669 rfl (lv_at hl 0 rfl) ?_
            refine lv_bipush (v := 29) hx hb dL_register_670 (by decide) ?_
            refine lv_iload hx hb dL_register_672 (lv_at hl 10 rfl) ?_
            obtain ⟨u1, hu1, hf⟩ := bn hf
            refine lk_S (As := [.ref k.1, .int 29, .int x15]) (rest := []) (wr := []) hx hb hml hown hg (c_K_call__ E l hst k vK 29 x15 u1 hu1) cs_L_call__ ml_L_171 ⟨⟨rfl, rfl⟩, Nat.le_of_ble_eq_true rfl, Nat.le_of_ble_eq_true rfl⟩ hK hE hN hP hD hS hA (W_Ka E k _ _) rfl hl.1 rfl (Nat.le_of_ble_eq_true rfl) dL_register_674 ⟨by show _ ≤ 1236; omega, by show _ ≤ 6 * 1236; omega⟩ [.int u1.1] rfl (fun H locs hP hD hS => ?_)
            refine lv_iload hx hb dL_register_677 (lv_at hl 9 rfl) ?_
            refine lv_icmp_ne (tgt := 714) hx hb dL_register_679 (by decide) (fun cq => ?_) (fun cq => ?_)
            · have hf := ie cq hf
              exact jp_714 _ _ _ _ _ _ _ _ _ _ _ _ _ _ hf (by omega) hP hD hS (lv_sub hl [0, 1, 2, 3, 4, 5, 6, 7, 8, 9] rfl)
            · have hf := it cq hf
              exact jp_682 _ _ _ _ _ _ _ _ _ _ _ _ _ _ _ _ hf (by omega) hP hD hS (lv_sub hl [0, 1, 2, 3, 4, 5, 6, 7, 8, 9, 10, 11] rfl)
      have jp_649 : ∀ (x1 : Int32) (x2 : Int32) (x4 : Int32) (x5 : Int32) (x6 : Int32) (x7 : Int32) (x11 : Int32) (x13 : Int32) (x14 : Int32) (x15 : Int32) (x16 : Int32) (t0 : Int32) (vK : KV) (cs : Nat) (H : Heap) (locs : List Loc) (ls : Array Slot), J_K_register_649 (L_K_register_555 n_555) x1 x2 x4 x5 x6 x7 x11 x13 x14 x15 x16 t0 vK = some r → cs + 6 + (n_555 * 21 + 0) ≤ 1236 → va_P E.1 vwCl (W_K E k vK ++ []) H → va_D A (W_K E k vK ++ []) → va_S A s.heap H locs → lv_has ls 19 [(0, .ref k.1), (1, .int x1), (2, .int x2), (4, .int x4), (5, .int x5), (6, .int x6), (7, .int x7), (11, .int x11), (13, .int x13), (14, .int x14), (15, .int x15), (16, .int x16)] → W p l e rm_L_register s m ([.ref k.1] : List Value).toArray below meth c H locs cs (6 * cs) (vx_MQ below (QW E (some (.int r.1)) (W_K E k r.2) A) (fun _ _ _ => False) ([.ref k.1] : List Value).toArray s 1236 (6 * 1236) A) (F0 m 649 ls [.int t0]) := by
        intro x1 x2 x4 x5 x6 x7 x11 x13 x14 x15 x16 t0 vK cs H locs ls hf hc hP hD hS hl
        unfold J_K_register_649 at hf
        refine lv_iload hx hb dL_register_649 (lv_at hl 10 rfl) ?_
        refine lv_bipush (v := (-101)) hx hb dL_register_651 (by decide) ?_
        refine lv_icmp_ne (tgt := 660) hx hb dL_register_653 (by decide) (fun cq => ?_) (fun cq => ?_)
        · have hf := ie cq hf
          refine lv_iconst (v := 0) hx hb dL_register_660 (by decide) ?_
          exact jp_661 _ _ _ _ _ _ _ _ _ _ _ _ _ _ _ _ _ _ hf (by omega) hP hD hS (lv_sub hl [0, 1, 2, 3, 4, 5, 6, 7, 8, 9, 10, 11] rfl)
        · have hf := it cq hf
          refine lv_iconst (v := 1) hx hb dL_register_656 (by decide) ?_
          refine lv_goto (tgt := 661) hx hb dL_register_657 (by decide) ?_
          exact jp_661 _ _ _ _ _ _ _ _ _ _ _ _ _ _ _ _ _ _ hf (by omega) hP hD hS (lv_sub hl [0, 1, 2, 3, 4, 5, 6, 7, 8, 9, 10, 11] rfl)
      have jp_620 : ∀ (x1 : Int32) (x2 : Int32) (x4 : Int32) (x5 : Int32) (x6 : Int32) (x7 : Int32) (x11 : Int32) (x13 : Int32) (x14 : Int32) (x15 : Int32) (x16 : Int32) (vK : KV) (cs : Nat) (H : Heap) (locs : List Loc) (ls : Array Slot), J_K_register_620 (L_K_register_555 n_555) x1 x2 x4 x5 x6 x7 x11 x13 x14 x15 x16 vK = some r → cs + 9 + (n_555 * 21 + 0) ≤ 1236 → va_P E.1 vwCl (W_K E k vK ++ []) H → va_D A (W_K E k vK ++ []) → va_S A s.heap H locs → lv_has ls 19 [(0, .ref k.1), (1, .int x1), (2, .int x2), (4, .int x4), (5, .int x5), (6, .int x6), (7, .int x7), (11, .int x11), (13, .int x13), (14, .int x14), (15, .int x15), (16, .int x16)] → W p l e rm_L_register s m ([.ref k.1] : List Value).toArray below meth c H locs cs (6 * cs) (vx_MQ below (QW E (some (.int r.1)) (W_K E k r.2) A) (fun _ _ _ => False) ([.ref k.1] : List Value).toArray s 1236 (6 * 1236) A) (F0 m 620 ls []) := by
        intro x1 x2 x4 x5 x6 x7 x11 x13 x14 x15 x16 vK cs H locs ls hf hc hP hD hS hl
        unfold J_K_register_620 at hf
        refine lv_iload hx hb dL_register_620 (lv_at hl 11 rfl) ?_
        refine lv_if_lt (tgt := 714) hx hb dL_register_622 (by decide) (fun cq => ?_) (fun cq => ?_)
        · have hf := it cq hf
          exact jp_714 _ _ _ _ _ _ _ _ _ _ _ _ _ _ hf (by omega) hP hD hS (lv_sub hl [0, 1, 2, 3, 4, 5, 6, 7, 8, 9] rfl)
        · have hf := ie cq hf
          refine lv_iload hx hb dL_register_625 (lv_at hl 11 rfl) ?_
          refine lv_bipush (v := 100) hx hb dL_register_627 (by decide) ?_
          refine lv_icmp_ge (tgt := 714) hx hb dL_register_629 (by decide) (fun cq => ?_) (fun cq => ?_)
          · have hf := it cq hf
            exact jp_714 _ _ _ _ _ _ _ _ _ _ _ _ _ _ hf (by omega) hP hD hS (lv_sub hl [0, 1, 2, 3, 4, 5, 6, 7, 8, 9] rfl)
          · have hf := ie cq hf
            refine lv_aload_n hx hb dL_register_632 rfl (lv_at hl 0 rfl) ?_
            refine lv_bipush (v := 26) hx hb dL_register_633 (by decide) ?_
            refine lv_iload hx hb dL_register_635 (lv_at hl 9 rfl) ?_
            obtain ⟨u1, hu1, hf⟩ := bn hf
            refine lk_S (As := [.ref k.1, .int 26, .int x14]) (rest := []) (wr := []) hx hb hml hown hg (c_K_call__ E l hst k vK 26 x14 u1 hu1) cs_L_call__ ml_L_171 ⟨⟨rfl, rfl⟩, Nat.le_of_ble_eq_true rfl, Nat.le_of_ble_eq_true rfl⟩ hK hE hN hP hD hS hA (W_Ka E k _ _) rfl hl.1 rfl (Nat.le_of_ble_eq_true rfl) dL_register_637 ⟨by show _ ≤ 1236; omega, by show _ ≤ 6 * 1236; omega⟩ [.int u1.1] rfl (fun H locs hP hD hS => ?_)
            refine lv_iconst (v := 1) hx hb dL_register_640 (by decide) ?_
            refine lv_icmp_ne (tgt := 648) hx hb dL_register_641 (by decide) (fun cq => ?_) (fun cq => ?_)
            · have hf := ie cq hf
              refine lv_iconst (v := 0) hx hb dL_register_648 (by decide) ?_
              exact jp_649 _ _ _ _ _ _ _ _ _ _ _ _ _ _ _ _ _ hf (by omega) hP hD hS (lv_sub hl [0, 1, 2, 3, 4, 5, 6, 7, 8, 9, 10, 11] rfl)
            · have hf := it cq hf
              refine lv_iconst (v := 1) hx hb dL_register_644 (by decide) ?_
              refine lv_goto (tgt := 649) hx hb dL_register_645 (by decide) ?_
              exact jp_649 _ _ _ _ _ _ _ _ _ _ _ _ _ _ _ _ _ hf (by omega) hP hD hS (lv_sub hl [0, 1, 2, 3, 4, 5, 6, 7, 8, 9, 10, 11] rfl)
      intro x1 x2 x4 x5 x6 x7 x11 x12 x13 x14 vK cs H locs ls hf hc hP hD hS hl
      replace hf : B_K_register_555 (L_K_register_555 n_555) x1 x2 x4 x5 x6 x7 x11 x12 x13 x14 vK = some r := hf
      unfold B_K_register_555 at hf
      refine lv_iload hx hb dL_register_555 (lv_at hl 10 rfl) ?_
      refine lv_iload_n hx hb dL_register_557 rfl (lv_at hl 2 rfl) ?_
      refine lv_icmp_ge (tgt := 723) hx hb dL_register_558 (by decide) (fun cq => ?_) (fun cq => ?_)
      · have hf := it cq hf
        exact jp_723 _ _ _ _ _ _ _ _ _ _ _ _ _ hf (by omega) hP hD hS (lv_sub hl [0, 1, 3, 4, 5, 6, 7, 8, 9] rfl)
      · have hf := ie cq hf
        refine lv_iload hx hb dL_register_561 (lv_at hl 8 rfl) ?_
        refine lv_if_eq (tgt := 723) hx hb dL_register_563 (by decide) (fun cq => ?_) (fun cq => ?_)
        · have hf := it cq hf
          exact jp_723 _ _ _ _ _ _ _ _ _ _ _ _ _ hf (by omega) hP hD hS (lv_sub hl [0, 1, 3, 4, 5, 6, 7, 8, 9] rfl)
        · have hf := ie cq hf
          refine lv_aload_n hx hb dL_register_566 rfl (lv_at hl 0 rfl) ?_
          refine lv_bipush (v := 28) hx hb dL_register_567 (by decide) ?_
          refine lv_iload hx hb dL_register_569 (lv_at hl 10 rfl) ?_
          obtain ⟨u1, hu1, hf⟩ := bn hf
          refine lk_S (As := [.ref k.1, .int 28, .int x14]) (rest := []) (wr := []) hx hb hml hown hg (c_K_call__ E l hst k vK 28 x14 u1 hu1) cs_L_call__ ml_L_171 ⟨⟨rfl, rfl⟩, Nat.le_of_ble_eq_true rfl, Nat.le_of_ble_eq_true rfl⟩ hK hE hN hP hD hS hA (W_Ka E k _ _) rfl hl.1 rfl (Nat.le_of_ble_eq_true rfl) dL_register_571 ⟨by show _ ≤ 1236; omega, by show _ ≤ 6 * 1236; omega⟩ [.int u1.1] rfl (fun H locs hP hD hS => ?_)
          refine lv_istore (lv' := [(15, .int u1.1), (0, .ref k.1), (1, .int x1), (2, .int x2), (4, .int x4), (5, .int x5), (6, .int x6), (7, .int x7), (11, .int x11), (12, .int x12), (13, .int x13), (14, .int x14)]) hx hb dL_register_574 hl (by decide) rfl (fun ls hl => ?_)
          refine lv_aload_n hx hb dL_register_576 rfl (lv_at hl 1 rfl) ?_
          refine lv_bipush (v := 25) hx hb dL_register_577 (by decide) ?_
          refine lv_iload hx hb dL_register_579 (lv_at hl 11 rfl) ?_
          obtain ⟨u2, hu2, hf⟩ := bn hf
          refine lk_S (As := [.ref k.1, .int 25, .int x14]) (rest := []) (wr := []) hx hb hml hown hg (c_K_call__ E l hst k u1.2 25 x14 u2 hu2) cs_L_call__ ml_L_171 ⟨⟨rfl, rfl⟩, Nat.le_of_ble_eq_true rfl, Nat.le_of_ble_eq_true rfl⟩ hK hE hN hP hD hS hA (W_Ka E k _ _) rfl hl.1 rfl (Nat.le_of_ble_eq_true rfl) dL_register_581 ⟨by show _ ≤ 1236; omega, by show _ ≤ 6 * 1236; omega⟩ [.int u2.1] rfl (fun H locs hP hD hS => ?_)
          refine lv_istore (lv' := [(16, .int u2.1), (15, .int u1.1), (0, .ref k.1), (1, .int x1), (2, .int x2), (4, .int x4), (5, .int x5), (6, .int x6), (7, .int x7), (11, .int x11), (12, .int x12), (13, .int x13), (14, .int x14)]) hx hb dL_register_584 hl (by decide) rfl (fun ls hl => ?_)
          refine lv_iload hx hb dL_register_586 (lv_at hl 7 rfl) ?_
          refine lv_aload_n hx hb dL_register_588 rfl (lv_at hl 2 rfl) ?_
          refine lv_bipush (v := 26) hx hb dL_register_589 (by decide) ?_
          refine lv_iload hx hb dL_register_591 (lv_at hl 12 rfl) ?_
          obtain ⟨u3, hu3, hf⟩ := bn hf
          refine lk_S (As := [.ref k.1, .int 26, .int x14]) (rest := [.int x6]) (wr := []) hx hb hml hown hg (c_K_call__ E l hst k u2.2 26 x14 u3 hu3) cs_L_call__ ml_L_171 ⟨⟨rfl, rfl⟩, Nat.le_of_ble_eq_true rfl, Nat.le_of_ble_eq_true rfl⟩ hK hE hN hP hD hS hA (W_Ka E k _ _) rfl hl.1 rfl (Nat.le_of_ble_eq_true rfl) dL_register_593 ⟨by show _ ≤ 1236; omega, by show _ ≤ 6 * 1236; omega⟩ [.int u3.1, .int x6] rfl (fun H locs hP hD hS => ?_)
          refine lv_iadd hx hb dL_register_596 ?_
          refine lv_istore (lv' := [(6, .int (x6 + u3.1)), (16, .int u2.1), (15, .int u1.1), (0, .ref k.1), (1, .int x1), (2, .int x2), (4, .int x4), (5, .int x5), (7, .int x7), (11, .int x11), (12, .int x12), (13, .int x13), (14, .int x14)]) hx hb dL_register_597 hl (by decide) rfl (fun ls hl => ?_)
          refine lv_iload hx hb dL_register_599 (lv_at hl 2 rfl) ?_
          refine lv_if_lt (tgt := 620) hx hb dL_register_601 (by decide) (fun cq => ?_) (fun cq => ?_)
          · have hf := it cq hf
            exact jp_620 _ _ _ _ _ _ _ _ _ _ _ _ _ _ _ _ hf (by omega) hP hD hS (lv_sub hl [3, 4, 5, 6, 7, 0, 8, 9, 11, 12, 2, 1] rfl)
          · have hf := ie cq hf
            refine lv_iload hx hb dL_register_604 (lv_at hl 2 rfl) ?_
            refine lv_aload_n hx hb dL_register_606 rfl (lv_at hl 3 rfl) ?_
            refine lv_bipush (v := 24) hx hb dL_register_607 (by decide) ?_
            refine lv_iload hx hb dL_register_609 (lv_at hl 12 rfl) ?_
            obtain ⟨u4, hu4, hf⟩ := bn hf
            refine lk_S (As := [.ref k.1, .int 24, .int x14]) (rest := [.int u1.1]) (wr := []) hx hb hml hown hg (c_K_call__ E l hst k u3.2 24 x14 u4 hu4) cs_L_call__ ml_L_171 ⟨⟨rfl, rfl⟩, Nat.le_of_ble_eq_true rfl, Nat.le_of_ble_eq_true rfl⟩ hK hE hN hP hD hS hA (W_Ka E k _ _) rfl hl.1 rfl (Nat.le_of_ble_eq_true rfl) dL_register_611 ⟨by show _ ≤ 1236; omega, by show _ ≤ 6 * 1236; omega⟩ [.int u4.1, .int u1.1] rfl (fun H locs hP hD hS => ?_)
            refine lv_icmp_eq (tgt := 620) hx hb dL_register_614 (by decide) (fun cq => ?_) (fun cq => ?_)
            · have hf := it cq hf
              exact jp_620 _ _ _ _ _ _ _ _ _ _ _ _ _ _ _ _ hf (by omega) hP hD hS (lv_sub hl [3, 4, 5, 6, 7, 0, 8, 9, 11, 12, 2, 1] rfl)
            · have hf := ie cq hf
              refine lv_iinc (v := (x7 + 1)) (lv' := [(7, .int (x7 + 1)), (6, .int (x6 + u3.1)), (16, .int u2.1), (15, .int u1.1), (0, .ref k.1), (1, .int x1), (2, .int x2), (4, .int x4), (5, .int x5), (11, .int x11), (12, .int x12), (13, .int x13), (14, .int x14)]) hx hb dL_register_617 hl (k := 8) rfl rfl (by decide) rfl (fun ls hl => ?_)
              exact jp_620 _ _ _ _ _ _ _ _ _ _ _ _ _ _ _ _ hf (by omega) hP hD hS (lv_sub hl [4, 5, 6, 7, 8, 1, 0, 9, 11, 12, 3, 2] rfl)
  have lp_264 : ∀ (n : Nat) (x1 : Int32) (x2 : Int32) (x4 : Int32) (x5 : Int32) (x6 : Int32) (x7 : Int32) (x11 : Int32) (x12 : Int32) (x13 : Int32) (x14 : Int32) (a32 : Nat → Int32) (a38 : Nat → Int32) (a44 : Nat → Int32) (vK : KV) (q32 : Nat) (q38 : Nat) (q44 : Nat) (cs : Nat) (H : Heap) (locs : List Loc) (ls : Array Slot), L_K_register_264 n x1 x2 x4 x5 x6 x7 x11 x12 x13 x14 a32 a38 a44 vK = some r → cs + n * 36 + 273 ≤ 1236 → va_P E.1 vwCl (W_K E k vK ++ [(q32, .inl (E.2.1, 10, .inl a32)), (q38, .inl (E.2.1, 10, .inl a38)), (q44, .inl (E.2.1, 10, .inl a44))]) H → va_D A (W_K E k vK ++ [(q32, .inl (E.2.1, 10, .inl a32)), (q38, .inl (E.2.1, 10, .inl a38)), (q44, .inl (E.2.1, 10, .inl a44))]) → va_S A s.heap H locs → lv_has ls 19 [(0, .ref k.1), (1, .int x1), (2, .int x2), (4, .int x4), (5, .int x5), (6, .int x6), (7, .int x7), (8, .ref q32), (9, .ref q38), (10, .ref q44), (11, .int x11), (12, .int x12), (13, .int x13), (14, .int x14)] → W p l e rm_L_register s m ([.ref k.1] : List Value).toArray below meth c H locs cs (6 * cs) (vx_MQ below (QW E (some (.int r.1)) (W_K E k r.2) A) (fun _ _ _ => False) ([.ref k.1] : List Value).toArray s 1236 (6 * 1236) A) (F0 m 264 ls []) := by
    intro n_264
    induction n_264 with
    | zero => intro x1 x2 x4 x5 x6 x7 x11 x12 x13 x14 a32 a38 a44 vK q32 q38 q44 cs H locs ls hf; cases hf
    | succ n_264 ih_264 =>
      have jp_543 : ∀ (x1 : Int32) (x2 : Int32) (x4 : Int32) (x5 : Int32) (x6 : Int32) (x7 : Int32) (x11 : Int32) (x13 : Int32) (x14 : Int32) (a32 : Nat → Int32) (a38 : Nat → Int32) (a44 : Nat → Int32) (vK : KV) (q32 : Nat) (q38 : Nat) (q44 : Nat) (cs : Nat) (H : Heap) (locs : List Loc) (ls : Array Slot), J_K_register_543 (L_K_register_264 n_264) x1 x2 x4 x5 x6 x7 x11 x13 x14 a32 a38 a44 vK = some r → cs + 0 + (n_264 * 36 + 273) ≤ 1236 → va_P E.1 vwCl (W_K E k vK ++ [(q32, .inl (E.2.1, 10, .inl a32)), (q38, .inl (E.2.1, 10, .inl a38)), (q44, .inl (E.2.1, 10, .inl a44))]) H → va_D A (W_K E k vK ++ [(q32, .inl (E.2.1, 10, .inl a32)), (q38, .inl (E.2.1, 10, .inl a38)), (q44, .inl (E.2.1, 10, .inl a44))]) → va_S A s.heap H locs → lv_has ls 19 [(0, .ref k.1), (1, .int x1), (2, .int x2), (4, .int x4), (5, .int x5), (6, .int x6), (7, .int x7), (8, .ref q32), (9, .ref q38), (10, .ref q44), (11, .int x11), (13, .int x13), (14, .int x14)] → W p l e rm_L_register s m ([.ref k.1] : List Value).toArray below meth c H locs cs (6 * cs) (vx_MQ below (QW E (some (.int r.1)) (W_K E k r.2) A) (fun _ _ _ => False) ([.ref k.1] : List Value).toArray s 1236 (6 * 1236) A) (F0 m 543 ls []) := by
        intro x1 x2 x4 x5 x6 x7 x11 x13 x14 a32 a38 a44 vK q32 q38 q44 cs H locs ls hf hc hP hD hS hl
        unfold J_K_register_543 at hf
        refine lv_iconst (v := 0) hx hb dL_register_543 (by decide) ?_
        refine lv_istore (lv' := [(12, .int 0), (0, .ref k.1), (1, .int x1), (2, .int x2), (4, .int x4), (5, .int x5), (6, .int x6), (7, .int x7), (8, .ref q32), (9, .ref q38), (10, .ref q44), (11, .int x11), (13, .int x13), (14, .int x14)]) hx hb dL_register_544 hl (by decide) rfl (fun ls hl => ?_)
        refine lv_iinc (v := (x14 + 1)) (lv' := [(14, .int (x14 + 1)), (12, .int 0), (0, .ref k.1), (1, .int x1), (2, .int x2), (4, .int x4), (5, .int x5), (6, .int x6), (7, .int x7), (8, .ref q32), (9, .ref q38), (10, .ref q44), (11, .int x11), (13, .int x13)]) hx hb dL_register_546 hl (k := 13) rfl rfl (by decide) rfl (fun ls hl => ?_)
        refine lv_goto (tgt := 264) hx hb dL_register_549 (by decide) ?_
        exact ih_264 _ _ _ _ _ _ _ _ _ _ _ _ _ _ _ _ _ _ _ _ _ hf (by omega) hP hD hS (lv_sub hl [2, 3, 4, 5, 6, 7, 8, 9, 10, 11, 12, 1, 13, 0] rfl)
      have jp_536 : ∀ (x1 : Int32) (x2 : Int32) (x4 : Int32) (x5 : Int32) (x6 : Int32) (x7 : Int32) (x11 : Int32) (x13 : Int32) (x14 : Int32) (t0 : Int32) (t1 : Int32) (a32 : Nat → Int32) (a38 : Nat → Int32) (a44 : Nat → Int32) (vK : KV) (q32 : Nat) (q38 : Nat) (q44 : Nat) (cs : Nat) (H : Heap) (locs : List Loc) (ls : Array Slot), J_K_register_536 (L_K_register_264 n_264) x1 x2 x4 x5 x6 x7 x11 x13 x14 t0 t1 a32 a38 a44 vK = some r → cs + 0 + (n_264 * 36 + 273) ≤ 1236 → va_P E.1 vwCl (W_K E k vK ++ [(q32, .inl (E.2.1, 10, .inl a32)), (q38, .inl (E.2.1, 10, .inl a38)), (q44, .inl (E.2.1, 10, .inl a44))]) H → va_D A (W_K E k vK ++ [(q32, .inl (E.2.1, 10, .inl a32)), (q38, .inl (E.2.1, 10, .inl a38)), (q44, .inl (E.2.1, 10, .inl a44))]) → va_S A s.heap H locs → lv_has ls 19 [(0, .ref k.1), (1, .int x1), (2, .int x2), (4, .int x4), (5, .int x5), (6, .int x6), (7, .int x7), (8, .ref q32), (9, .ref q38), (10, .ref q44), (11, .int x11), (13, .int x13), (14, .int x14)] → W p l e rm_L_register s m ([.ref k.1] : List Value).toArray below meth c H locs cs (6 * cs) (vx_MQ below (QW E (some (.int r.1)) (W_K E k r.2) A) (fun _ _ _ => False) ([.ref k.1] : List Value).toArray s 1236 (6 * 1236) A) (F0 m 536 ls [.int t1, .int t0]) := by
        intro x1 x2 x4 x5 x6 x7 x11 x13 x14 t0 t1 a32 a38 a44 vK q32 q38 q44 cs H locs ls hf hc hP hD hS hl
        unfold J_K_register_536 at hf
        refine lv_icmp_ne (tgt := 543) hx hb dL_register_536 (by decide) (fun cq => ?_) (fun cq => ?_)
        · have hf := ie cq hf
          exact jp_543 _ _ _ _ _ _ _ _ _ _ _ _ _ _ _ _ _ _ _ _ hf (by omega) hP hD hS (lv_sub hl [0, 1, 2, 3, 4, 5, 6, 7, 8, 9, 10, 11, 12] rfl)
        · have hf := it cq hf
          refine lv_iconst (v := 1) hx hb dL_register_539 (by decide) ?_
          refine lv_goto (tgt := 544) hx hb dL_register_540 (by decide) ?_
          refine lv_istore (lv' := [(12, .int 1), (0, .ref k.1), (1, .int x1), (2, .int x2), (4, .int x4), (5, .int x5), (6, .int x6), (7, .int x7), (8, .ref q32), (9, .ref q38), (10, .ref q44), (11, .int x11), (13, .int x13), (14, .int x14)]) hx hb dL_register_544 hl (by decide) rfl (fun ls hl => ?_)
          refine lv_iinc (v := (x14 + 1)) (lv' := [(14, .int (x14 + 1)), (12, .int 1), (0, .ref k.1), (1, .int x1), (2, .int x2), (4, .int x4), (5, .int x5), (6, .int x6), (7, .int x7), (8, .ref q32), (9, .ref q38), (10, .ref q44), (11, .int x11), (13, .int x13)]) hx hb dL_register_546 hl (k := 13) rfl rfl (by decide) rfl (fun ls hl => ?_)
          refine lv_goto (tgt := 264) hx hb dL_register_549 (by decide) ?_
          exact ih_264 _ _ _ _ _ _ _ _ _ _ _ _ _ _ _ _ _ _ _ _ _ hf (by omega) hP hD hS (lv_sub hl [2, 3, 4, 5, 6, 7, 8, 9, 10, 11, 12, 1, 13, 0] rfl)
      have jp_484 : ∀ (x1 : Int32) (x2 : Int32) (x4 : Int32) (x5 : Int32) (x6 : Int32) (x7 : Int32) (x11 : Int32) (x13 : Int32) (x14 : Int32) (x15 : Int32) (a32 : Nat → Int32) (a38 : Nat → Int32) (a44 : Nat → Int32) (vK : KV) (q32 : Nat) (q38 : Nat) (q44 : Nat) (cs : Nat) (H : Heap) (locs : List Loc) (ls : Array Slot), J_K_register_484 (L_K_register_264 n_264) x1 x2 x4 x5 x6 x7 x11 x13 x14 x15 a32 a38 a44 vK = some r → cs + 9 + (n_264 * 36 + 273) ≤ 1236 → va_P E.1 vwCl (W_K E k vK ++ [(q32, .inl (E.2.1, 10, .inl a32)), (q38, .inl (E.2.1, 10, .inl a38)), (q44, .inl (E.2.1, 10, .inl a44))]) H → va_D A (W_K E k vK ++ [(q32, .inl (E.2.1, 10, .inl a32)), (q38, .inl (E.2.1, 10, .inl a38)), (q44, .inl (E.2.1, 10, .inl a44))]) → va_S A s.heap H locs → lv_has ls 19 [(0, .ref k.1), (1, .int x1), (2, .int x2), (4, .int x4), (5, .int x5), (6, .int x6), (7, .int x7), (8, .ref q32), (9, .ref q38), (10, .ref q44), (11, .int x11), (13, .int x13), (14, .int x14), (15, .int x15)] → W p l e rm_L_register s m ([.ref k.1] : List Value).toArray below meth c H locs cs (6 * cs) (vx_MQ below (QW E (some (.int r.1)) (W_K E k r.2) A) (fun _ _ _ => False) ([.ref k.1] : List Value).toArray s 1236 (6 * 1236) A) (F0 m 484 ls []) := by
        intro x1 x2 x4 x5 x6 x7 x11 x13 x14 x15 a32 a38 a44 vK q32 q38 q44 cs H locs ls hf hc hP hD hS hl
        unfold J_K_register_484 at hf
        refine lv_aload_n hx hb dL_register_484 rfl (lv_at hl 0 rfl) ?_
        refine lv_bipush (v := 40) hx hb dL_register_485 (by decide) ?_
        refine lv_iload hx hb dL_register_487 (lv_at hl 12 rfl) ?_
        obtain ⟨u1, hu1, hf⟩ := bn hf
        refine lk_S (As := [.ref k.1, .int 40, .int x14]) (rest := []) (wr := [(q32, .inl (E.2.1, 10, .inl a32)), (q38, .inl (E.2.1, 10, .inl a38)), (q44, .inl (E.2.1, 10, .inl a44))]) hx hb hml hown hg (c_K_call__ E l hst k vK 40 x14 u1 hu1) cs_L_call__ ml_L_171 ⟨⟨rfl, rfl⟩, Nat.le_of_ble_eq_true rfl, Nat.le_of_ble_eq_true rfl⟩ hK hE hN hP hD hS hA (W_Ka E k _ _) rfl hl.1 rfl (Nat.le_of_ble_eq_true rfl) dL_register_489 ⟨by show _ ≤ 1236; omega, by show _ ≤ 6 * 1236; omega⟩ [.int u1.1] rfl (fun H locs hP hD hS => ?_)
        refine lv_iload hx hb dL_register_492 (lv_at hl 13 rfl) ?_
        refine lv_if_ne (tgt := 502) hx hb dL_register_494 (by decide) (fun cq => ?_) (fun cq => ?_)
        · have hf := ie cq hf
          refine lv_iconst (v := 0) hx hb dL_register_502 (by decide) ?_
          refine lv_aload_n hx hb dL_register_503 rfl (lv_at hl 0 rfl) ?_
          refine lv_bipush (v := 18) hx hb dL_register_504 (by decide) ?_
          refine lv_iload hx hb dL_register_506 (lv_at hl 12 rfl) ?_
          obtain ⟨u2, hu2, hf⟩ := bn hf
          refine lk_S (As := [.ref k.1, .int 18, .int x14]) (rest := [.int 0, .int u1.1]) (wr := [(q32, .inl (E.2.1, 10, .inl a32)), (q38, .inl (E.2.1, 10, .inl a38)), (q44, .inl (E.2.1, 10, .inl a44))]) hx hb hml hown hg (c_K_call__ E l hst k u1.2 18 x14 u2 hu2) cs_L_call__ ml_L_171 ⟨⟨rfl, rfl⟩, Nat.le_of_ble_eq_true rfl, Nat.le_of_ble_eq_true rfl⟩ hK hE hN hP hD hS hA (W_Ka E k _ _) rfl hl.1 rfl (Nat.le_of_ble_eq_true rfl) dL_register_508 ⟨by show _ ≤ 1236; omega, by show _ ≤ 6 * 1236; omega⟩ [.int u2.1, .int 0, .int u1.1] rfl (fun H locs hP hD hS => ?_)
          refine lv_aload_n hx hb dL_register_511 rfl (lv_at hl 0 rfl) ?_
          obtain ⟨u3, hu3, hf⟩ := bn hf
          refine lk_V (As := []) (rest := [.int u2.1, .int 0, .int u1.1]) (wr := [(q32, .inl (E.2.1, 10, .inl a32)), (q38, .inl (E.2.1, 10, .inl a38)), (q44, .inl (E.2.1, 10, .inl a44))]) hx hb hml hown hg (k_X8_yawn E l k u2.2 u3 hu3) cy_X8_yawn ml_L_255 ⟨⟨rfl, rfl⟩, Nat.le_of_ble_eq_true rfl, Nat.le_of_ble_eq_true rfl⟩ hK hE hP hD hS hA (W_Ka E k _ _) rfl rfl rfl hl.1 rfl (Nat.le_of_ble_eq_true rfl) dL_register_512 ⟨by show _ ≤ 1236; omega, by show _ ≤ 6 * 1236; omega⟩ [.int u3, .int u2.1, .int 0, .int u1.1] rfl (fun H locs hP hD hS => ?_)
          refine lv_isub hx hb dL_register_515 ?_
          refine lv_aload_n hx hb dL_register_516 rfl (lv_at hl 0 rfl) ?_
          refine lv_bipush (v := 22) hx hb dL_register_517 (by decide) ?_
          refine lv_iload hx hb dL_register_519 (lv_at hl 12 rfl) ?_
          obtain ⟨u4, hu4, hf⟩ := bn hf
          refine lk_S (As := [.ref k.1, .int 22, .int x14]) (rest := [.int (u2.1 - u3), .int 0, .int u1.1]) (wr := [(q32, .inl (E.2.1, 10, .inl a32)), (q38, .inl (E.2.1, 10, .inl a38)), (q44, .inl (E.2.1, 10, .inl a44))]) hx hb hml hown hg (c_K_call__ E l hst k u2.2 22 x14 u4 hu4) cs_L_call__ ml_L_171 ⟨⟨rfl, rfl⟩, Nat.le_of_ble_eq_true rfl, Nat.le_of_ble_eq_true rfl⟩ hK hE hN hP hD hS hA (W_Ka E k _ _) rfl hl.1 rfl (Nat.le_of_ble_eq_true rfl) dL_register_521 ⟨by show _ ≤ 1236; omega, by show _ ≤ 6 * 1236; omega⟩ [.int u4.1, .int (u2.1 - u3), .int 0, .int u1.1] rfl (fun H locs hP hD hS => ?_)
          refine lv_if_ne (tgt := 531) hx hb dL_register_524 (by decide) (fun cq => ?_) (fun cq => ?_)
          · have hf := ie cq hf
            refine lv_iconst (v := 1) hx hb dL_register_531 (by decide) ?_
            refine lv_isub hx hb dL_register_532 ?_
            refine cm_max hx hb hml hl.1 hown hg ml_L_258 (Nat.le_of_ble_eq_true rfl) (Nat.le_of_ble_eq_true rfl) ⟨by show _ ≤ 1236; omega, by show _ ≤ 6 * 1236; omega⟩ dL_register_533 ?_
            exact jp_536 _ _ _ _ _ _ _ _ _ _ _ _ _ _ _ _ _ _ _ _ _ _ hf (by omega) hP hD hS (lv_sub hl [0, 1, 2, 3, 4, 5, 6, 7, 8, 9, 10, 11, 12] rfl)
          · have hf := it cq hf
            refine lv_iconst (v := 0) hx hb dL_register_527 (by decide) ?_
            refine lv_goto (tgt := 532) hx hb dL_register_528 (by decide) ?_
            refine lv_isub hx hb dL_register_532 ?_
            refine cm_max hx hb hml hl.1 hown hg ml_L_258 (Nat.le_of_ble_eq_true rfl) (Nat.le_of_ble_eq_true rfl) ⟨by show _ ≤ 1236; omega, by show _ ≤ 6 * 1236; omega⟩ dL_register_533 ?_
            exact jp_536 _ _ _ _ _ _ _ _ _ _ _ _ _ _ _ _ _ _ _ _ _ _ hf (by omega) hP hD hS (lv_sub hl [0, 1, 2, 3, 4, 5, 6, 7, 8, 9, 10, 11, 12] rfl)
        · have hf := it cq hf
          refine lv_bipush (v := (-102)) hx hb dL_register_497 (by decide) ?_
          refine lv_goto (tgt := 536) hx hb dL_register_499 (by decide) ?_
          exact jp_536 _ _ _ _ _ _ _ _ _ _ _ _ _ _ _ _ _ _ _ _ _ _ hf (by omega) hP hD hS (lv_sub hl [0, 1, 2, 3, 4, 5, 6, 7, 8, 9, 10, 11, 12] rfl)
      have jp_436 : ∀ (x1 : Int32) (x2 : Int32) (x4 : Int32) (x5 : Int32) (x6 : Int32) (x7 : Int32) (x11 : Int32) (x13 : Int32) (x14 : Int32) (x15 : Int32) (x18 : Int32) (a32 : Nat → Int32) (a38 : Nat → Int32) (a44 : Nat → Int32) (vK : KV) (q32 : Nat) (q38 : Nat) (q44 : Nat) (cs : Nat) (H : Heap) (locs : List Loc) (ls : Array Slot), J_K_register_436 (L_K_register_264 n_264) x1 x2 x4 x5 x6 x7 x11 x13 x14 x15 x18 a32 a38 a44 vK = some r → cs + 15 + (n_264 * 36 + 273) ≤ 1236 → va_P E.1 vwCl (W_K E k vK ++ [(q32, .inl (E.2.1, 10, .inl a32)), (q38, .inl (E.2.1, 10, .inl a38)), (q44, .inl (E.2.1, 10, .inl a44))]) H → va_D A (W_K E k vK ++ [(q32, .inl (E.2.1, 10, .inl a32)), (q38, .inl (E.2.1, 10, .inl a38)), (q44, .inl (E.2.1, 10, .inl a44))]) → va_S A s.heap H locs → lv_has ls 19 [(0, .ref k.1), (1, .int x1), (2, .int x2), (4, .int x4), (5, .int x5), (6, .int x6), (7, .int x7), (8, .ref q32), (9, .ref q38), (10, .ref q44), (11, .int x11), (13, .int x13), (14, .int x14), (15, .int x15), (18, .int x18)] → W p l e rm_L_register s m ([.ref k.1] : List Value).toArray below meth c H locs cs (6 * cs) (vx_MQ below (QW E (some (.int r.1)) (W_K E k r.2) A) (fun _ _ _ => False) ([.ref k.1] : List Value).toArray s 1236 (6 * 1236) A) (F0 m 436 ls []) := by
        intro x1 x2 x4 x5 x6 x7 x11 x13 x14 x15 x18 a32 a38 a44 vK q32 q38 q44 cs H locs ls hf hc hP hD hS hl
        unfold J_K_register_436 at hf
        refine lv_aload_n hx hb dL_register_436 rfl (lv_at hl 0 rfl) ?_
        refine lv_bipush (v := 22) hx hb dL_register_437 (by decide) ?_
        refine lv_iload hx hb dL_register_439 (lv_at hl 12 rfl) ?_
        obtain ⟨u1, hu1, hf⟩ := bn hf
        refine lk_S (As := [.ref k.1, .int 22, .int x14]) (rest := []) (wr := [(q32, .inl (E.2.1, 10, .inl a32)), (q38, .inl (E.2.1, 10, .inl a38)), (q44, .inl (E.2.1, 10, .inl a44))]) hx hb hml hown hg (c_K_call__ E l hst k vK 22 x14 u1 hu1) cs_L_call__ ml_L_171 ⟨⟨rfl, rfl⟩, Nat.le_of_ble_eq_true rfl, Nat.le_of_ble_eq_true rfl⟩ hK hE hN hP hD hS hA (W_Ka E k _ _) rfl hl.1 rfl (Nat.le_of_ble_eq_true rfl) dL_register_441 ⟨by show _ ≤ 1236; omega, by show _ ≤ 6 * 1236; omega⟩ [.int u1.1] rfl (fun H locs hP hD hS => ?_)
        refine lv_if_lt (tgt := 543) hx hb dL_register_444 (by decide) (fun cq => ?_) (fun cq => ?_)
        · have hf := it cq hf
          exact jp_543 _ _ _ _ _ _ _ _ _ _ _ _ _ _ _ _ _ _ _ _ hf (by omega) hP hD hS (lv_sub hl [0, 1, 2, 3, 4, 5, 6, 7, 8, 9, 10, 11, 12] rfl)
        · have hf := ie cq hf
          refine lv_aload_n hx hb dL_register_447 rfl (lv_at hl 0 rfl) ?_
          refine lv_bipush (v := 23) hx hb dL_register_448 (by decide) ?_
          refine lv_iload hx hb dL_register_450 (lv_at hl 12 rfl) ?_
          obtain ⟨u2, hu2, hf⟩ := bn hf
          refine lk_S (As := [.ref k.1, .int 23, .int x14]) (rest := []) (wr := [(q32, .inl (E.2.1, 10, .inl a32)), (q38, .inl (E.2.1, 10, .inl a38)), (q44, .inl (E.2.1, 10, .inl a44))]) hx hb hml hown hg (c_K_call__ E l hst k u1.2 23 x14 u2 hu2) cs_L_call__ ml_L_171 ⟨⟨rfl, rfl⟩, Nat.le_of_ble_eq_true rfl, Nat.le_of_ble_eq_true rfl⟩ hK hE hN hP hD hS hA (W_Ka E k _ _) rfl hl.1 rfl (Nat.le_of_ble_eq_true rfl) dL_register_452 ⟨by show _ ≤ 1236; omega, by show _ ≤ 6 * 1236; omega⟩ [.int u2.1] rfl (fun H locs hP hD hS => ?_)
          refine lv_if_eq (tgt := 484) hx hb dL_register_455 (by decide) (fun cq => ?_) (fun cq => ?_)
          · have hf := it cq hf
            exact jp_484 _ _ _ _ _ _ _ _ _ _ _ _ _ _ _ _ _ _ _ _ _ hf (by omega) hP hD hS (lv_sub hl [0, 1, 2, 3, 4, 5, 6, 7, 8, 9, 10, 11, 12, 13] rfl)
          · have hf := ie cq hf
            refine lv_iload hx hb dL_register_458 (lv_at hl 13 rfl) ?_
            refine lv_iconst (v := 1) hx hb dL_register_460 (by decide) ?_
            refine lv_icmp_ne (tgt := 543) hx hb dL_register_461 (by decide) (fun cq => ?_) (fun cq => ?_)
            · have hf := ie cq hf
              exact jp_543 _ _ _ _ _ _ _ _ _ _ _ _ _ _ _ _ _ _ _ _ hf (by omega) hP hD hS (lv_sub hl [0, 1, 2, 3, 4, 5, 6, 7, 8, 9, 10, 11, 12] rfl)
            · have hf := it cq hf
              refine lv_iload hx hb dL_register_464 (lv_at hl 14 rfl) ?_
              refine lv_if_le (tgt := 543) hx hb dL_register_466 (by decide) (fun cq => ?_) (fun cq => ?_)
              · have hf := it cq hf
                exact jp_543 _ _ _ _ _ _ _ _ _ _ _ _ _ _ _ _ _ _ _ _ hf (by omega) hP hD hS (lv_sub hl [0, 1, 2, 3, 4, 5, 6, 7, 8, 9, 10, 11, 12] rfl)
              · have hf := ie cq hf
                refine lv_iload hx hb dL_register_469 (lv_at hl 3 rfl) ?_
                refine lv_iconst (v := 1) hx hb dL_register_471 (by decide) ?_
                refine lv_iadd hx hb dL_register_472 ?_
                refine lv_aload hx hb dL_register_473 (lv_at hl 8 rfl) ?_
                refine lv_iload hx hb dL_register_475 (lv_at hl 12 rfl) ?_
                obtain ⟨hi, hf⟩ := ck_o hf
                refine la_ld hx hb hK hP 1 rfl hi dL_register_477 ?_
                refine lv_isub hx hb dL_register_478 ?_
                refine lv_bipush (v := 10) hx hb dL_register_479 (by decide) ?_
                refine lv_icmp_le (tgt := 543) hx hb dL_register_481 (by decide) (fun cq => ?_) (fun cq => ?_)
                · have hf := it cq hf
                  exact jp_543 _ _ _ _ _ _ _ _ _ _ _ _ _ _ _ _ _ _ _ _ hf (by omega) hP hD hS (lv_sub hl [0, 1, 2, 3, 4, 5, 6, 7, 8, 9, 10, 11, 12] rfl)
                · have hf := ie cq hf
                  exact jp_484 _ _ _ _ _ _ _ _ _ _ _ _ _ _ _ _ _ _ _ _ _ hf (by omega) hP hD hS (lv_sub hl [0, 1, 2, 3, 4, 5, 6, 7, 8, 9, 10, 11, 12, 13] rfl)
      have jp_379 : ∀ (x1 : Int32) (x2 : Int32) (x4 : Int32) (x5 : Int32) (x6 : Int32) (x7 : Int32) (x11 : Int32) (x13 : Int32) (x14 : Int32) (x15 : Int32) (x16 : Int32) (x17 : Int32) (x18 : Int32) (t0 : Int32) (t1 : Int32) (a32 : Nat → Int32) (a38 : Nat → Int32) (a44 : Nat → Int32) (vK : KV) (q32 : Nat) (q38 : Nat) (q44 : Nat) (cs : Nat) (H : Heap) (locs : List Loc) (ls : Array Slot), J_K_register_379 (L_K_register_264 n_264) x1 x2 x4 x5 x6 x7 x11 x13 x14 x15 x16 x17 x18 t0 t1 a32 a38 a44 vK = some r → cs + 24 + (n_264 * 36 + 273) ≤ 1236 → va_P E.1 vwCl (W_K E k vK ++ [(q32, .inl (E.2.1, 10, .inl a32)), (q38, .inl (E.2.1, 10, .inl a38)), (q44, .inl (E.2.1, 10, .inl a44))]) H → va_D A (W_K E k vK ++ [(q32, .inl (E.2.1, 10, .inl a32)), (q38, .inl (E.2.1, 10, .inl a38)), (q44, .inl (E.2.1, 10, .inl a44))]) → va_S A s.heap H locs → lv_has ls 19 [(0, .ref k.1), (1, .int x1), (2, .int x2), (4, .int x4), (5, .int x5), (6, .int x6), (7, .int x7), (8, .ref q32), (9, .ref q38), (10, .ref q44), (11, .int x11), (13, .int x13), (14, .int x14), (15, .int x15), (16, .int x16), (17, .int x17), (18, .int x18)] → W p l e rm_L_register s m ([.ref k.1] : List Value).toArray below meth c H locs cs (6 * cs) (vx_MQ below (QW E (some (.int r.1)) (W_K E k r.2) A) (fun _ _ _ => False) ([.ref k.1] : List Value).toArray s 1236 (6 * 1236) A) (F0 m 379 ls [.int t1, .int t0]) := by
        intro x1 x2 x4 x5 x6 x7 x11 x13 x14 x15 x16 x17 x18 t0 t1 a32 a38 a44 vK q32 q38 q44 cs H locs ls hf hc hP hD hS hl
        unfold J_K_register_379 at hf
        refine lv_icmp_ne (tgt := 543) hx hb dL_register_379 (by decide) (fun cq => ?_) (fun cq => ?_)
        · have hf := ie cq hf
          exact jp_543 _ _ _ _ _ _ _ _ _ _ _ _ _ _ _ _ _ _ _ _ hf (by omega) hP hD hS (lv_sub hl [0, 1, 2, 3, 4, 5, 6, 7, 8, 9, 10, 11, 12] rfl)
        · have hf := it cq hf
          refine lv_aload_n hx hb dL_register_382 rfl (lv_at hl 0 rfl) ?_
          refine lv_bipush (v := 37) hx hb dL_register_383 (by decide) ?_
          refine lv_iload hx hb dL_register_385 (lv_at hl 12 rfl) ?_
          obtain ⟨u1, hu1, hf⟩ := bn hf
          refine lk_S (As := [.ref k.1, .int 37, .int x14]) (rest := []) (wr := [(q32, .inl (E.2.1, 10, .inl a32)), (q38, .inl (E.2.1, 10, .inl a38)), (q44, .inl (E.2.1, 10, .inl a44))]) hx hb hml hown hg (c_K_call__ E l hst k vK 37 x14 u1 hu1) cs_L_call__ ml_L_171 ⟨⟨rfl, rfl⟩, Nat.le_of_ble_eq_true rfl, Nat.le_of_ble_eq_true rfl⟩ hK hE hN hP hD hS hA (W_Ka E k _ _) rfl hl.1 rfl (Nat.le_of_ble_eq_true rfl) dL_register_387 ⟨by show _ ≤ 1236; omega, by show _ ≤ 6 * 1236; omega⟩ [.int u1.1] rfl (fun H locs hP hD hS => ?_)
          refine lv_iload hx hb dL_register_390 (lv_at hl 14 rfl) ?_
          refine lv_icmp_ne (tgt := 543) hx hb dL_register_392 (by decide) (fun cq => ?_) (fun cq => ?_)
          · have hf := ie cq hf
            exact jp_543 _ _ _ _ _ _ _ _ _ _ _ _ _ _ _ _ _ _ _ _ hf (by omega) hP hD hS (lv_sub hl [0, 1, 2, 3, 4, 5, 6, 7, 8, 9, 10, 11, 12] rfl)
          · have hf := it cq hf
            refine lv_aload_n hx hb dL_register_395 rfl (lv_at hl 0 rfl) ?_
            refine lv_bipush (v := 38) hx hb dL_register_396 (by decide) ?_
            refine lv_iload hx hb dL_register_398 (lv_at hl 12 rfl) ?_
            refine lv_iload hx hb dL_register_400 (lv_at hl 12 rfl) ?_
            obtain ⟨u2, hu2, hf⟩ := bn hf
            refine lk_S (As := [.ref k.1, .int 38, .int x14, .int x14]) (rest := []) (wr := [(q32, .inl (E.2.1, 10, .inl a32)), (q38, .inl (E.2.1, 10, .inl a38)), (q44, .inl (E.2.1, 10, .inl a44))]) hx hb hml hown hg (c_K_call_ E l hst k u1.2 38 x14 x14 u2 hu2) cs_L_call_ ml_L_252 ⟨⟨rfl, rfl⟩, Nat.le_of_ble_eq_true rfl, Nat.le_of_ble_eq_true rfl⟩ hK hE hN hP hD hS hA (W_Ka E k _ _) rfl hl.1 rfl (Nat.le_of_ble_eq_true rfl) dL_register_402 ⟨by show _ ≤ 1236; omega, by show _ ≤ 6 * 1236; omega⟩ [.int u2.1] rfl (fun H locs hP hD hS => ?_)
            refine lv_iload hx hb dL_register_405 (lv_at hl 14 rfl) ?_
            refine lv_icmp_ne (tgt := 543) hx hb dL_register_407 (by decide) (fun cq => ?_) (fun cq => ?_)
            · have hf := ie cq hf
              exact jp_543 _ _ _ _ _ _ _ _ _ _ _ _ _ _ _ _ _ _ _ _ hf (by omega) hP hD hS (lv_sub hl [0, 1, 2, 3, 4, 5, 6, 7, 8, 9, 10, 11, 12] rfl)
            · have hf := it cq hf
              refine lv_iload hx hb dL_register_410 (lv_at hl 15 rfl) ?_
              refine lv_bipush (v := (-101)) hx hb dL_register_412 (by decide) ?_
              refine lv_icmp_eq (tgt := 436) hx hb dL_register_414 (by decide) (fun cq => ?_) (fun cq => ?_)
              · have hf := it cq hf
                exact jp_436 _ _ _ _ _ _ _ _ _ _ _ _ _ _ _ _ _ _ _ _ _ _ hf (by omega) hP hD hS (lv_sub hl [0, 1, 2, 3, 4, 5, 6, 7, 8, 9, 10, 11, 12, 13, 16] rfl)
              · have hf := ie cq hf
                refine lv_iload hx hb dL_register_417 (lv_at hl 13 rfl) ?_
                refine lv_iconst (v := 1) hx hb dL_register_419 (by decide) ?_
                refine lv_icmp_ne (tgt := 543) hx hb dL_register_420 (by decide) (fun cq => ?_) (fun cq => ?_)
                · have hf := ie cq hf
                  exact jp_543 _ _ _ _ _ _ _ _ _ _ _ _ _ _ _ _ _ _ _ _ hf (by omega) hP hD hS (lv_sub hl [0, 1, 2, 3, 4, 5, 6, 7, 8, 9, 10, 11, 12] rfl)
                · have hf := it cq hf
                  refine lv_aload_n hx hb dL_register_423 rfl (lv_at hl 0 rfl) ?_
                  refine lv_bipush (v := 28) hx hb dL_register_424 (by decide) ?_
                  refine lv_iload hx hb dL_register_426 (lv_at hl 15 rfl) ?_
                  obtain ⟨u3, hu3, hf⟩ := bn hf
                  refine lk_S (As := [.ref k.1, .int 28, .int x17]) (rest := []) (wr := [(q32, .inl (E.2.1, 10, .inl a32)), (q38, .inl (E.2.1, 10, .inl a38)), (q44, .inl (E.2.1, 10, .inl a44))]) hx hb hml hown hg (c_K_call__ E l hst k u2.2 28 x17 u3 hu3) cs_L_call__ ml_L_171 ⟨⟨rfl, rfl⟩, Nat.le_of_ble_eq_true rfl, Nat.le_of_ble_eq_true rfl⟩ hK hE hN hP hD hS hA (W_Ka E k _ _) rfl hl.1 rfl (Nat.le_of_ble_eq_true rfl) dL_register_428 ⟨by show _ ≤ 1236; omega, by show _ ≤ 6 * 1236; omega⟩ [.int u3.1] rfl (fun H locs hP hD hS => ?_)
                  refine lv_iload hx hb dL_register_431 (lv_at hl 12 rfl) ?_
                  refine lv_icmp_ne (tgt := 543) hx hb dL_register_433 (by decide) (fun cq => ?_) (fun cq => ?_)
                  · have hf := ie cq hf
                    exact jp_543 _ _ _ _ _ _ _ _ _ _ _ _ _ _ _ _ _ _ _ _ hf (by omega) hP hD hS (lv_sub hl [0, 1, 2, 3, 4, 5, 6, 7, 8, 9, 10, 11, 12] rfl)
                  · have hf := it cq hf
                    exact jp_436 _ _ _ _ _ _ _ _ _ _ _ _ _ _ _ _ _ _ _ _ _ _ hf (by omega) hP hD hS (lv_sub hl [0, 1, 2, 3, 4, 5, 6, 7, 8, 9, 10, 11, 12, 13, 16] rfl)
      have jp_308 : ∀ (x1 : Int32) (x2 : Int32) (x4 : Int32) (x5 : Int32) (x6 : Int32) (x7 : Int32) (x11 : Int32) (x13 : Int32) (x14 : Int32) (x15 : Int32) (t0 : Int32) (t1 : Int32) (a32 : Nat → Int32) (a38 : Nat → Int32) (a44 : Nat → Int32) (vK : KV) (q32 : Nat) (q38 : Nat) (q44 : Nat) (cs : Nat) (H : Heap) (locs : List Loc) (ls : Array Slot), J_K_register_308 (L_K_register_264 n_264) x1 x2 x4 x5 x6 x7 x11 x13 x14 x15 t0 t1 a32 a38 a44 vK = some r → cs + 33 + (n_264 * 36 + 273) ≤ 1236 → va_P E.1 vwCl (W_K E k vK ++ [(q32, .inl (E.2.1, 10, .inl a32)), (q38, .inl (E.2.1, 10, .inl a38)), (q44, .inl (E.2.1, 10, .inl a44))]) H → va_D A (W_K E k vK ++ [(q32, .inl (E.2.1, 10, .inl a32)), (q38, .inl (E.2.1, 10, .inl a38)), (q44, .inl (E.2.1, 10, .inl a44))]) → va_S A s.heap H locs → lv_has ls 19 [(0, .ref k.1), (1, .int x1), (2, .int x2), (4, .int x4), (5, .int x5), (6, .int x6), (7, .int x7), (8, .ref q32), (9, .ref q38), (10, .ref q44), (11, .int x11), (13, .int x13), (14, .int x14), (15, .int x15)] → W p l e rm_L_register s m ([.ref k.1] : List Value).toArray below meth c H locs cs (6 * cs) (vx_MQ below (QW E (some (.int r.1)) (W_K E k r.2) A) (fun _ _ _ => False) ([.ref k.1] : List Value).toArray s 1236 (6 * 1236) A) (F0 m 308 ls [.int t1, .int t0]) := by
        intro x1 x2 x4 x5 x6 x7 x11 x13 x14 x15 t0 t1 a32 a38 a44 vK q32 q38 q44 cs H locs ls hf hc hP hD hS hl
        unfold J_K_register_308 at hf
        refine lv_iadd hx hb dL_register_308 ?_
        refine lv_istore (lv' := [(16, .int (t0 + t1)), (0, .ref k.1), (1, .int x1), (2, .int x2), (4, .int x4), (5, .int x5), (6, .int x6), (7, .int x7), (8, .ref q32), (9, .ref q38), (10, .ref q44), (11, .int x11), (13, .int x13), (14, .int x14), (15, .int x15)]) hx hb dL_register_309 hl (by decide) rfl (fun ls hl => ?_)
        refine lv_iload hx hb dL_register_311 (lv_at hl 5 rfl) ?_
        refine lv_iload hx hb dL_register_313 (lv_at hl 14 rfl) ?_
        refine lv_iadd hx hb dL_register_315 ?_
        refine lv_istore (lv' := [(5, .int (x5 + x15)), (16, .int (t0 + t1)), (0, .ref k.1), (1, .int x1), (2, .int x2), (4, .int x4), (6, .int x6), (7, .int x7), (8, .ref q32), (9, .ref q38), (10, .ref q44), (11, .int x11), (13, .int x13), (14, .int x14), (15, .int x15)]) hx hb dL_register_316 hl (by decide) rfl (fun ls hl => ?_)
        refine lv_iload hx hb dL_register_318 (lv_at hl 12 rfl) ?_
        refine lv_iload hx hb dL_register_320 (lv_at hl 1 rfl) ?_
        refine lv_iadd hx hb dL_register_322 ?_
        refine lv_istore (lv' := [(13, .int (x13 + (t0 + t1))), (5, .int (x5 + x15)), (16, .int (t0 + t1)), (0, .ref k.1), (1, .int x1), (2, .int x2), (4, .int x4), (6, .int x6), (7, .int x7), (8, .ref q32), (9, .ref q38), (10, .ref q44), (11, .int x11), (14, .int x14), (15, .int x15)]) hx hb dL_register_323 hl (by decide) rfl (fun ls hl => ?_)
        refine lv_aload_n hx hb dL_register_325 rfl (lv_at hl 3 rfl) ?_
        refine lv_bipush (v := 29) hx hb dL_register_326 (by decide) ?_
        refine lv_iload hx hb dL_register_328 (lv_at hl 13 rfl) ?_
        obtain ⟨u1, hu1, hf⟩ := bn hf
        refine lk_S (As := [.ref k.1, .int 29, .int x14]) (rest := []) (wr := [(q32, .inl (E.2.1, 10, .inl a32)), (q38, .inl (E.2.1, 10, .inl a38)), (q44, .inl (E.2.1, 10, .inl a44))]) hx hb hml hown hg (c_K_call__ E l hst k vK 29 x14 u1 hu1) cs_L_call__ ml_L_171 ⟨⟨rfl, rfl⟩, Nat.le_of_ble_eq_true rfl, Nat.le_of_ble_eq_true rfl⟩ hK hE hN hP hD hS hA (W_Ka E k _ _) rfl hl.1 rfl (Nat.le_of_ble_eq_true rfl) dL_register_330 ⟨by show _ ≤ 1236; omega, by show _ ≤ 6 * 1236; omega⟩ [.int u1.1] rfl (fun H locs hP hD hS => ?_)
        refine lv_istore (lv' := [(17, .int u1.1), (13, .int (x13 + (t0 + t1))), (5, .int (x5 + x15)), (16, .int (t0 + t1)), (0, .ref k.1), (1, .int x1), (2, .int x2), (4, .int x4), (6, .int x6), (7, .int x7), (8, .ref q32), (9, .ref q38), (10, .ref q44), (11, .int x11), (14, .int x14), (15, .int x15)]) hx hb dL_register_333 hl (by decide) rfl (fun ls hl => ?_)
        refine lv_aload_n hx hb dL_register_335 rfl (lv_at hl 4 rfl) ?_
        refine lv_bipush (v := 19) hx hb dL_register_336 (by decide) ?_
        refine lv_iload hx hb dL_register_338 (lv_at hl 14 rfl) ?_
        obtain ⟨u2, hu2, hf⟩ := bn hf
        refine lk_S (As := [.ref k.1, .int 19, .int x14]) (rest := []) (wr := [(q32, .inl (E.2.1, 10, .inl a32)), (q38, .inl (E.2.1, 10, .inl a38)), (q44, .inl (E.2.1, 10, .inl a44))]) hx hb hml hown hg (c_K_call__ E l hst k u1.2 19 x14 u2 hu2) cs_L_call__ ml_L_171 ⟨⟨rfl, rfl⟩, Nat.le_of_ble_eq_true rfl, Nat.le_of_ble_eq_true rfl⟩ hK hE hN hP hD hS hA (W_Ka E k _ _) rfl hl.1 rfl (Nat.le_of_ble_eq_true rfl) dL_register_340 ⟨by show _ ≤ 1236; omega, by show _ ≤ 6 * 1236; omega⟩ [.int u2.1] rfl (fun H locs hP hD hS => ?_)
        refine lv_istore (lv' := [(18, .int u2.1), (17, .int u1.1), (13, .int (x13 + (t0 + t1))), (5, .int (x5 + x15)), (16, .int (t0 + t1)), (0, .ref k.1), (1, .int x1), (2, .int x2), (4, .int x4), (6, .int x6), (7, .int x7), (8, .ref q32), (9, .ref q38), (10, .ref q44), (11, .int x11), (14, .int x14), (15, .int x15)]) hx hb dL_register_343 hl (by decide) rfl (fun ls hl => ?_)
        refine lv_iload hx hb dL_register_345 (lv_at hl 16 rfl) ?_
        refine lv_aload hx hb dL_register_347 (lv_at hl 11 rfl) ?_
        refine lv_iload hx hb dL_register_349 (lv_at hl 15 rfl) ?_
        obtain ⟨hi, hf⟩ := ck_o hf
        refine la_ld hx hb hK hP 0 rfl hi dL_register_351 ?_
        refine lv_icmp_ne (tgt := 543) hx hb dL_register_352 (by decide) (fun cq => ?_) (fun cq => ?_)
        · have hf := ie cq hf
          exact jp_543 _ _ _ _ _ _ _ _ _ _ _ _ _ _ _ _ _ _ _ _ hf (by omega) hP hD hS (lv_sub hl [5, 6, 7, 8, 3, 9, 10, 11, 12, 13, 14, 2, 15] rfl)
        · have hf := it cq hf
          refine lv_aload_n hx hb dL_register_355 rfl (lv_at hl 5 rfl) ?_
          refine lv_bipush (v := 21) hx hb dL_register_356 (by decide) ?_
          refine lv_iload hx hb dL_register_358 (lv_at hl 15 rfl) ?_
          obtain ⟨u3, hu3, hf⟩ := bn hf
          refine lk_S (As := [.ref k.1, .int 21, .int x14]) (rest := []) (wr := [(q32, .inl (E.2.1, 10, .inl a32)), (q38, .inl (E.2.1, 10, .inl a38)), (q44, .inl (E.2.1, 10, .inl a44))]) hx hb hml hown hg (c_K_call__ E l hst k u2.2 21 x14 u3 hu3) cs_L_call__ ml_L_171 ⟨⟨rfl, rfl⟩, Nat.le_of_ble_eq_true rfl, Nat.le_of_ble_eq_true rfl⟩ hK hE hN hP hD hS hA (W_Ka E k _ _) rfl hl.1 rfl (Nat.le_of_ble_eq_true rfl) dL_register_360 ⟨by show _ ≤ 1236; omega, by show _ ≤ 6 * 1236; omega⟩ [.int u3.1] rfl (fun H locs hP hD hS => ?_)
          refine lv_iload hx hb dL_register_363 (lv_at hl 16 rfl) ?_
          refine lv_iconst (v := 1) hx hb dL_register_365 (by decide) ?_
          refine lv_icmp_ne (tgt := 377) hx hb dL_register_366 (by decide) (fun cq => ?_) (fun cq => ?_)
          · have hf := ie cq hf
            refine lv_bipush (v := (-101)) hx hb dL_register_377 (by decide) ?_
            exact jp_379 _ _ _ _ _ _ _ _ _ _ _ _ _ _ _ _ _ _ _ _ _ _ _ _ _ _ hf (by omega) hP hD hS (lv_sub hl [5, 6, 7, 8, 3, 9, 10, 11, 12, 13, 14, 2, 15, 16, 4, 1, 0] rfl)
          · have hf := it cq hf
            refine lv_aload hx hb dL_register_369 (lv_at hl 12 rfl) ?_
            refine lv_iload hx hb dL_register_371 (lv_at hl 15 rfl) ?_
            obtain ⟨hi, hf⟩ := ck_o hf
            refine la_ld hx hb hK hP 1 rfl hi dL_register_373 ?_
            refine lv_goto (tgt := 379) hx hb dL_register_374 (by decide) ?_
            exact jp_379 _ _ _ _ _ _ _ _ _ _ _ _ _ _ _ _ _ _ _ _ _ _ _ _ _ _ hf (by omega) hP hD hS (lv_sub hl [5, 6, 7, 8, 3, 9, 10, 11, 12, 13, 14, 2, 15, 16, 4, 1, 0] rfl)
      intro x1 x2 x4 x5 x6 x7 x11 x12 x13 x14 a32 a38 a44 vK q32 q38 q44 cs H locs ls hf hc hP hD hS hl
      replace hf : B_K_register_264 (L_K_register_264 n_264) x1 x2 x4 x5 x6 x7 x11 x12 x13 x14 a32 a38 a44 vK = some r := hf
      unfold B_K_register_264 at hf
      refine lv_iload hx hb dL_register_264 (lv_at hl 13 rfl) ?_
      refine lv_iload_n hx hb dL_register_266 rfl (lv_at hl 1 rfl) ?_
      refine lv_icmp_ge (tgt := 552) hx hb dL_register_267 (by decide) (fun cq => ?_) (fun cq => ?_)
      · have hf := it cq hf
        refine lv_iconst (v := 0) hx hb dL_register_552 (by decide) ?_
        refine lv_istore (lv' := [(14, .int 0), (0, .ref k.1), (1, .int x1), (2, .int x2), (4, .int x4), (5, .int x5), (6, .int x6), (7, .int x7), (8, .ref q32), (9, .ref q38), (10, .ref q44), (11, .int x11), (12, .int x12), (13, .int x13)]) hx hb dL_register_553 hl (by decide) rfl (fun ls hl => ?_)
        have hP : va_P E.1 vwCl (W_K E k vK ++ []) _ := lk_P [] rfl hP
        have hD : va_D A (W_K E k vK ++ []) := lk_D [] rfl rfl hD
        exact lp_555 13 _ _ _ _ _ _ _ _ _ _ _ _ _ _ _ hf (by omega) hP hD hS (lv_sub hl [1, 2, 3, 4, 5, 6, 7, 11, 12, 13, 0] rfl)
      · have hf := ie cq hf
        refine lv_iload hx hb dL_register_270 (lv_at hl 11 rfl) ?_
        refine lv_if_eq (tgt := 552) hx hb dL_register_272 (by decide) (fun cq => ?_) (fun cq => ?_)
        · have hf := it cq hf
          refine lv_iconst (v := 0) hx hb dL_register_552 (by decide) ?_
          refine lv_istore (lv' := [(14, .int 0), (0, .ref k.1), (1, .int x1), (2, .int x2), (4, .int x4), (5, .int x5), (6, .int x6), (7, .int x7), (8, .ref q32), (9, .ref q38), (10, .ref q44), (11, .int x11), (12, .int x12), (13, .int x13)]) hx hb dL_register_553 hl (by decide) rfl (fun ls hl => ?_)
          have hP : va_P E.1 vwCl (W_K E k vK ++ []) _ := lk_P [] rfl hP
          have hD : va_D A (W_K E k vK ++ []) := lk_D [] rfl rfl hD
          exact lp_555 13 _ _ _ _ _ _ _ _ _ _ _ _ _ _ _ hf (by omega) hP hD hS (lv_sub hl [1, 2, 3, 4, 5, 6, 7, 11, 12, 13, 0] rfl)
        · have hf := ie cq hf
          refine lv_aload_n hx hb dL_register_275 rfl (lv_at hl 0 rfl) ?_
          refine lv_bipush (v := 20) hx hb dL_register_276 (by decide) ?_
          refine lv_iload hx hb dL_register_278 (lv_at hl 13 rfl) ?_
          obtain ⟨u1, hu1, hf⟩ := bn hf
          refine lk_S (As := [.ref k.1, .int 20, .int x14]) (rest := []) (wr := [(q32, .inl (E.2.1, 10, .inl a32)), (q38, .inl (E.2.1, 10, .inl a38)), (q44, .inl (E.2.1, 10, .inl a44))]) hx hb hml hown hg (c_K_call__ E l hst k vK 20 x14 u1 hu1) cs_L_call__ ml_L_171 ⟨⟨rfl, rfl⟩, Nat.le_of_ble_eq_true rfl, Nat.le_of_ble_eq_true rfl⟩ hK hE hN hP hD hS hA (W_Ka E k _ _) rfl hl.1 rfl (Nat.le_of_ble_eq_true rfl) dL_register_280 ⟨by show _ ≤ 1236; omega, by show _ ≤ 6 * 1236; omega⟩ [.int u1.1] rfl (fun H locs hP hD hS => ?_)
          refine lv_istore (lv' := [(15, .int u1.1), (0, .ref k.1), (1, .int x1), (2, .int x2), (4, .int x4), (5, .int x5), (6, .int x6), (7, .int x7), (8, .ref q32), (9, .ref q38), (10, .ref q44), (11, .int x11), (12, .int x12), (13, .int x13), (14, .int x14)]) hx hb dL_register_283 hl (by decide) rfl (fun ls hl => ?_)
          refine lv_aload hx hb dL_register_285 (lv_at hl 10 rfl) ?_
          refine lv_iload hx hb dL_register_287 (lv_at hl 14 rfl) ?_
          obtain ⟨hi, hf⟩ := ck_o hf
          refine la_ld hx hb hK hP 2 rfl hi dL_register_289 ?_
          refine lv_iload hx hb dL_register_290 (lv_at hl 0 rfl) ?_
          refine lv_iconst (v := 1) hx hb dL_register_292 (by decide) ?_
          refine lv_icmp_ne (tgt := 307) hx hb dL_register_293 (by decide) (fun cq => ?_) (fun cq => ?_)
          · have hf := ie cq hf
            refine lv_iconst (v := 0) hx hb dL_register_307 (by decide) ?_
            exact jp_308 _ _ _ _ _ _ _ _ _ _ _ _ _ _ _ _ _ _ _ _ _ _ _ hf (by omega) hP hD hS (lv_sub hl [1, 2, 3, 4, 5, 6, 7, 8, 9, 10, 11, 13, 14, 0] rfl)
          · have hf := it cq hf
            refine lv_iload hx hb dL_register_296 (lv_at hl 4 rfl) ?_
            refine lv_aload hx hb dL_register_298 (lv_at hl 9 rfl) ?_
            refine lv_iload hx hb dL_register_300 (lv_at hl 14 rfl) ?_
            obtain ⟨hi, hf⟩ := ck_o hf
            refine la_ld hx hb hK hP 1 rfl hi dL_register_302 ?_
            refine lv_isub hx hb dL_register_303 ?_
            refine lv_goto (tgt := 308) hx hb dL_register_304 (by decide) ?_
            exact jp_308 _ _ _ _ _ _ _ _ _ _ _ _ _ _ _ _ _ _ _ _ _ _ _ hf (by omega) hP hD hS (lv_sub hl [1, 2, 3, 4, 5, 6, 7, 8, 9, 10, 11, 13, 14, 0] rfl)
  have lp_135 : ∀ (n : Nat) (x1 : Int32) (x2 : Int32) (x3 : Int32) (x4 : Int32) (x5 : Int32) (x6 : Int32) (x7 : Int32) (x11 : Int32) (x12 : Int32) (x13 : Int32) (a32 : Nat → Int32) (a38 : Nat → Int32) (a44 : Nat → Int32) (vK : KV) (q32 : Nat) (q38 : Nat) (q44 : Nat) (cs : Nat) (H : Heap) (locs : List Loc) (ls : Array Slot), L_K_register_135 n x1 x2 x3 x4 x5 x6 x7 x11 x12 x13 a32 a38 a44 vK = some r → cs + n * 9 + 669 ≤ 1236 → va_P E.1 vwCl (W_K E k vK ++ [(q32, .inl (E.2.1, 10, .inl a32)), (q38, .inl (E.2.1, 10, .inl a38)), (q44, .inl (E.2.1, 10, .inl a44))]) H → va_D A (W_K E k vK ++ [(q32, .inl (E.2.1, 10, .inl a32)), (q38, .inl (E.2.1, 10, .inl a38)), (q44, .inl (E.2.1, 10, .inl a44))]) → va_S A s.heap H locs → lv_has ls 19 [(0, .ref k.1), (1, .int x1), (2, .int x2), (3, .int x3), (4, .int x4), (5, .int x5), (6, .int x6), (7, .int x7), (8, .ref q32), (9, .ref q38), (10, .ref q44), (11, .int x11), (12, .int x12), (13, .int x13)] → W p l e rm_L_register s m ([.ref k.1] : List Value).toArray below meth c H locs cs (6 * cs) (vx_MQ below (QW E (some (.int r.1)) (W_K E k r.2) A) (fun _ _ _ => False) ([.ref k.1] : List Value).toArray s 1236 (6 * 1236) A) (F0 m 135 ls []) := by
    intro n_135
    induction n_135 with
    | zero => intro x1 x2 x3 x4 x5 x6 x7 x11 x12 x13 a32 a38 a44 vK q32 q38 q44 cs H locs ls hf; cases hf
    | succ n_135 ih_135 =>
      have jp_245 : ∀ (x1 : Int32) (x2 : Int32) (x3 : Int32) (x4 : Int32) (x5 : Int32) (x6 : Int32) (x7 : Int32) (x11 : Int32) (x12 : Int32) (x13 : Int32) (x15 : Int32) (x16 : Int32) (a32 : Nat → Int32) (a38 : Nat → Int32) (a44 : Nat → Int32) (vK : KV) (q32 : Nat) (q38 : Nat) (q44 : Nat) (cs : Nat) (H : Heap) (locs : List Loc) (ls : Array Slot), J_K_register_245 (L_K_register_135 n_135) x1 x2 x3 x4 x5 x6 x7 x11 x12 x13 x15 x16 a32 a38 a44 vK = some r → cs + 0 + (n_135 * 9 + 669) ≤ 1236 → va_P E.1 vwCl (W_K E k vK ++ [(q32, .inl (E.2.1, 10, .inl a32)), (q38, .inl (E.2.1, 10, .inl a38)), (q44, .inl (E.2.1, 10, .inl a44))]) H → va_D A (W_K E k vK ++ [(q32, .inl (E.2.1, 10, .inl a32)), (q38, .inl (E.2.1, 10, .inl a38)), (q44, .inl (E.2.1, 10, .inl a44))]) → va_S A s.heap H locs → lv_has ls 19 [(0, .ref k.1), (1, .int x1), (2, .int x2), (3, .int x3), (4, .int x4), (5, .int x5), (6, .int x6), (7, .int x7), (8, .ref q32), (9, .ref q38), (10, .ref q44), (11, .int x11), (12, .int x12), (13, .int x13), (15, .int x15), (16, .int x16)] → W p l e rm_L_register s m ([.ref k.1] : List Value).toArray below meth c H locs cs (6 * cs) (vx_MQ below (QW E (some (.int r.1)) (W_K E k r.2) A) (fun _ _ _ => False) ([.ref k.1] : List Value).toArray s 1236 (6 * 1236) A) (F0 m 245 ls []) := by
        intro x1 x2 x3 x4 x5 x6 x7 x11 x12 x13 x15 x16 a32 a38 a44 vK q32 q38 q44 cs H locs ls hf hc hP hD hS hl
        unfold J_K_register_245 at hf
        refine lv_aload hx hb dL_register_245 (lv_at hl 8 rfl) ?_
        refine lv_iload hx hb dL_register_247 (lv_at hl 14 rfl) ?_
        refine lv_iload hx hb dL_register_249 (lv_at hl 15 rfl) ?_
        obtain ⟨hi, hf⟩ := ck_o hf
        obtain ⟨b1, hv, hf⟩ := lt_o hf
        refine la_st (y2 := [(q32, .inl (E.2.1, 10, .inl b1)), (q38, .inl (E.2.1, 10, .inl a38)), (q44, .inl (E.2.1, 10, .inl a44))]) hx hb hK hP hD hS 0 rfl hi (by rw [hv]; rfl) dL_register_251 (fun H locs hP hD hS => ?_)
        clear hv
        refine lv_iinc (v := (x13 + 1)) (lv' := [(13, .int (x13 + 1)), (0, .ref k.1), (1, .int x1), (2, .int x2), (3, .int x3), (4, .int x4), (5, .int x5), (6, .int x6), (7, .int x7), (8, .ref q32), (9, .ref q38), (10, .ref q44), (11, .int x11), (12, .int x12), (15, .int x15), (16, .int x16)]) hx hb dL_register_252 hl (k := 13) rfl rfl (by decide) rfl (fun ls hl => ?_)
        refine lv_goto (tgt := 135) hx hb dL_register_255 (by decide) ?_
        exact ih_135 _ _ _ _ _ _ _ _ _ _ _ _ _ _ _ _ _ _ _ _ _ hf (by omega) hP hD hS (lv_sub hl [1, 2, 3, 4, 5, 6, 7, 8, 9, 10, 11, 12, 13, 0] rfl)
      have jp_207 : ∀ (x1 : Int32) (x2 : Int32) (x3 : Int32) (x4 : Int32) (x5 : Int32) (x6 : Int32) (x7 : Int32) (x13 : Int32) (x14 : Int32) (x15 : Int32) (x16 : Int32) (t0 : Int32) (a32 : Nat → Int32) (a38 : Nat → Int32) (a44 : Nat → Int32) (vK : KV) (q32 : Nat) (q38 : Nat) (q44 : Nat) (cs : Nat) (H : Heap) (locs : List Loc) (ls : Array Slot), J_K_register_207 (L_K_register_135 n_135) x1 x2 x3 x4 x5 x6 x7 x13 x14 x15 x16 t0 a32 a38 a44 vK = some r → cs + 0 + (n_135 * 9 + 669) ≤ 1236 → va_P E.1 vwCl (W_K E k vK ++ [(q32, .inl (E.2.1, 10, .inl a32)), (q38, .inl (E.2.1, 10, .inl a38)), (q44, .inl (E.2.1, 10, .inl a44))]) H → va_D A (W_K E k vK ++ [(q32, .inl (E.2.1, 10, .inl a32)), (q38, .inl (E.2.1, 10, .inl a38)), (q44, .inl (E.2.1, 10, .inl a44))]) → va_S A s.heap H locs → lv_has ls 19 [(0, .ref k.1), (1, .int x1), (2, .int x2), (3, .int x3), (4, .int x4), (5, .int x5), (6, .int x6), (7, .int x7), (8, .ref q32), (9, .ref q38), (10, .ref q44), (13, .int x13), (14, .int x14), (15, .int x15), (16, .int x16)] → W p l e rm_L_register s m ([.ref k.1] : List Value).toArray below meth c H locs cs (6 * cs) (vx_MQ below (QW E (some (.int r.1)) (W_K E k r.2) A) (fun _ _ _ => False) ([.ref k.1] : List Value).toArray s 1236 (6 * 1236) A) (F0 m 207 ls [.int t0]) := by
        intro x1 x2 x3 x4 x5 x6 x7 x13 x14 x15 x16 t0 a32 a38 a44 vK q32 q38 q44 cs H locs ls hf hc hP hD hS hl
        unfold J_K_register_207 at hf
        refine lv_istore (lv' := [(12, .int t0), (0, .ref k.1), (1, .int x1), (2, .int x2), (3, .int x3), (4, .int x4), (5, .int x5), (6, .int x6), (7, .int x7), (8, .ref q32), (9, .ref q38), (10, .ref q44), (13, .int x13), (14, .int x14), (15, .int x15), (16, .int x16)]) hx hb dL_register_207 hl (by decide) rfl (fun ls hl => ?_)
        refine lv_iload hx hb dL_register_209 (lv_at hl 13 rfl) ?_
        refine lv_istore (lv' := [(11, .int x14), (12, .int t0), (0, .ref k.1), (1, .int x1), (2, .int x2), (3, .int x3), (4, .int x4), (5, .int x5), (6, .int x6), (7, .int x7), (8, .ref q32), (9, .ref q38), (10, .ref q44), (13, .int x13), (14, .int x14), (15, .int x15), (16, .int x16)]) hx hb dL_register_211 hl (by decide) rfl (fun ls hl => ?_)
        refine lv_iload hx hb dL_register_213 (lv_at hl 16 rfl) ?_
        refine lv_iconst (v := 1) hx hb dL_register_215 (by decide) ?_
        refine lv_icmp_ne (tgt := 229) hx hb dL_register_216 (by decide) (fun cq => ?_) (fun cq => ?_)
        · have hf := ie cq hf
          refine lv_aload hx hb dL_register_229 (lv_at hl 12 rfl) ?_
          refine lv_iload hx hb dL_register_231 (lv_at hl 15 rfl) ?_
          refine lv_dup2_11 hx hb dL_register_233 rfl rfl ?_
          obtain ⟨hi, hf⟩ := ck_o hf
          refine la_ld hx hb hK hP 2 rfl hi dL_register_234 ?_
          refine lv_iload hx hb dL_register_235 (lv_at hl 14 rfl) ?_
          refine lv_aload hx hb dL_register_237 (lv_at hl 11 rfl) ?_
          refine lv_iload hx hb dL_register_239 (lv_at hl 15 rfl) ?_
          obtain ⟨hi, hf⟩ := ck_o hf
          refine la_ld hx hb hK hP 1 rfl hi dL_register_241 ?_
          refine lv_isub hx hb dL_register_242 ?_
          refine lv_iadd hx hb dL_register_243 ?_
          obtain ⟨hi, hf⟩ := ck_o hf
          obtain ⟨b1, hv, hf⟩ := lt_o hf
          refine la_st (y2 := [(q32, .inl (E.2.1, 10, .inl a32)), (q38, .inl (E.2.1, 10, .inl a38)), (q44, .inl (E.2.1, 10, .inl b1))]) hx hb hK hP hD hS 2 rfl hi (by rw [hv]; rfl) dL_register_244 (fun H locs hP hD hS => ?_)
          clear hv
          exact jp_245 _ _ _ _ _ _ _ _ _ _ _ _ _ _ _ _ _ _ _ _ _ _ _ hf (by omega) hP hD hS (lv_sub hl [2, 3, 4, 5, 6, 7, 8, 9, 10, 11, 12, 0, 1, 13, 15, 16] rfl)
        · have hf := it cq hf
          refine lv_aload hx hb dL_register_219 (lv_at hl 11 rfl) ?_
          refine lv_iload hx hb dL_register_221 (lv_at hl 15 rfl) ?_
          refine lv_iload hx hb dL_register_223 (lv_at hl 14 rfl) ?_
          obtain ⟨hi, hf⟩ := ck_o hf
          obtain ⟨b2, hv, hf⟩ := lt_o hf
          refine la_st (y2 := [(q32, .inl (E.2.1, 10, .inl a32)), (q38, .inl (E.2.1, 10, .inl b2)), (q44, .inl (E.2.1, 10, .inl a44))]) hx hb hK hP hD hS 1 rfl hi (by rw [hv]; rfl) dL_register_225 (fun H locs hP hD hS => ?_)
          clear hv
          refine lv_goto (tgt := 245) hx hb dL_register_226 (by decide) ?_
          exact jp_245 _ _ _ _ _ _ _ _ _ _ _ _ _ _ _ _ _ _ _ _ _ _ _ hf (by omega) hP hD hS (lv_sub hl [2, 3, 4, 5, 6, 7, 8, 9, 10, 11, 12, 0, 1, 13, 15, 16] rfl)
      intro x1 x2 x3 x4 x5 x6 x7 x11 x12 x13 a32 a38 a44 vK q32 q38 q44 cs H locs ls hf hc hP hD hS hl
      replace hf : B_K_register_135 (L_K_register_135 n_135) x1 x2 x3 x4 x5 x6 x7 x11 x12 x13 a32 a38 a44 vK = some r := hf
      unfold B_K_register_135 at hf
      refine lv_iload hx hb dL_register_135 (lv_at hl 13 rfl) ?_
      refine lv_iload_n hx hb dL_register_137 rfl (lv_at hl 3 rfl) ?_
      refine lv_icmp_ge (tgt := 258) hx hb dL_register_138 (by decide) (fun cq => ?_) (fun cq => ?_)
      · have hf := it cq hf
        refine lv_iconst (v := 0) hx hb dL_register_258 (by decide) ?_
        refine lv_istore (lv' := [(13, .int 0), (0, .ref k.1), (1, .int x1), (2, .int x2), (3, .int x3), (4, .int x4), (5, .int x5), (6, .int x6), (7, .int x7), (8, .ref q32), (9, .ref q38), (10, .ref q44), (11, .int x11), (12, .int x12)]) hx hb dL_register_259 hl (by decide) rfl (fun ls hl => ?_)
        refine lv_iconst (v := 0) hx hb dL_register_261 (by decide) ?_
        refine lv_istore (lv' := [(14, .int 0), (13, .int 0), (0, .ref k.1), (1, .int x1), (2, .int x2), (3, .int x3), (4, .int x4), (5, .int x5), (6, .int x6), (7, .int x7), (8, .ref q32), (9, .ref q38), (10, .ref q44), (11, .int x11), (12, .int x12)]) hx hb dL_register_262 hl (by decide) rfl (fun ls hl => ?_)
        exact lp_264 11 _ _ _ _ _ _ _ _ _ _ _ _ _ _ _ _ _ _ _ _ _ hf (by omega) hP hD hS (lv_sub hl [2, 3, 4, 6, 7, 8, 9, 10, 11, 12, 13, 14, 1, 0] rfl)
      · have hf := ie cq hf
        refine lv_iload hx hb dL_register_141 (lv_at hl 12 rfl) ?_
        refine lv_if_eq (tgt := 258) hx hb dL_register_143 (by decide) (fun cq => ?_) (fun cq => ?_)
        · have hf := it cq hf
          refine lv_iconst (v := 0) hx hb dL_register_258 (by decide) ?_
          refine lv_istore (lv' := [(13, .int 0), (0, .ref k.1), (1, .int x1), (2, .int x2), (3, .int x3), (4, .int x4), (5, .int x5), (6, .int x6), (7, .int x7), (8, .ref q32), (9, .ref q38), (10, .ref q44), (11, .int x11), (12, .int x12)]) hx hb dL_register_259 hl (by decide) rfl (fun ls hl => ?_)
          refine lv_iconst (v := 0) hx hb dL_register_261 (by decide) ?_
          refine lv_istore (lv' := [(14, .int 0), (13, .int 0), (0, .ref k.1), (1, .int x1), (2, .int x2), (3, .int x3), (4, .int x4), (5, .int x5), (6, .int x6), (7, .int x7), (8, .ref q32), (9, .ref q38), (10, .ref q44), (11, .int x11), (12, .int x12)]) hx hb dL_register_262 hl (by decide) rfl (fun ls hl => ?_)
          exact lp_264 11 _ _ _ _ _ _ _ _ _ _ _ _ _ _ _ _ _ _ _ _ _ hf (by omega) hP hD hS (lv_sub hl [2, 3, 4, 6, 7, 8, 9, 10, 11, 12, 13, 14, 1, 0] rfl)
        · have hf := ie cq hf
          refine lv_aload_n hx hb dL_register_146 rfl (lv_at hl 0 rfl) ?_
          refine lv_bipush (v := 30) hx hb dL_register_147 (by decide) ?_
          refine lv_iload hx hb dL_register_149 (lv_at hl 13 rfl) ?_
          obtain ⟨u1, hu1, hf⟩ := bn hf
          refine lk_S (As := [.ref k.1, .int 30, .int x13]) (rest := []) (wr := [(q32, .inl (E.2.1, 10, .inl a32)), (q38, .inl (E.2.1, 10, .inl a38)), (q44, .inl (E.2.1, 10, .inl a44))]) hx hb hml hown hg (c_K_call__ E l hst k vK 30 x13 u1 hu1) cs_L_call__ ml_L_171 ⟨⟨rfl, rfl⟩, Nat.le_of_ble_eq_true rfl, Nat.le_of_ble_eq_true rfl⟩ hK hE hN hP hD hS hA (W_Ka E k _ _) rfl hl.1 rfl (Nat.le_of_ble_eq_true rfl) dL_register_151 ⟨by show _ ≤ 1236; omega, by show _ ≤ 6 * 1236; omega⟩ [.int u1.1] rfl (fun H locs hP hD hS => ?_)
          refine lv_istore (lv' := [(14, .int u1.1), (0, .ref k.1), (1, .int x1), (2, .int x2), (3, .int x3), (4, .int x4), (5, .int x5), (6, .int x6), (7, .int x7), (8, .ref q32), (9, .ref q38), (10, .ref q44), (11, .int x11), (12, .int x12), (13, .int x13)]) hx hb dL_register_154 hl (by decide) rfl (fun ls hl => ?_)
          refine lv_aload_n hx hb dL_register_156 rfl (lv_at hl 1 rfl) ?_
          refine lv_bipush (v := 31) hx hb dL_register_157 (by decide) ?_
          refine lv_iload hx hb dL_register_159 (lv_at hl 14 rfl) ?_
          obtain ⟨u2, hu2, hf⟩ := bn hf
          refine lk_S (As := [.ref k.1, .int 31, .int x13]) (rest := []) (wr := [(q32, .inl (E.2.1, 10, .inl a32)), (q38, .inl (E.2.1, 10, .inl a38)), (q44, .inl (E.2.1, 10, .inl a44))]) hx hb hml hown hg (c_K_call__ E l hst k u1.2 31 x13 u2 hu2) cs_L_call__ ml_L_171 ⟨⟨rfl, rfl⟩, Nat.le_of_ble_eq_true rfl, Nat.le_of_ble_eq_true rfl⟩ hK hE hN hP hD hS hA (W_Ka E k _ _) rfl hl.1 rfl (Nat.le_of_ble_eq_true rfl) dL_register_161 ⟨by show _ ≤ 1236; omega, by show _ ≤ 6 * 1236; omega⟩ [.int u2.1] rfl (fun H locs hP hD hS => ?_)
          refine lv_istore (lv' := [(15, .int u2.1), (14, .int u1.1), (0, .ref k.1), (1, .int x1), (2, .int x2), (3, .int x3), (4, .int x4), (5, .int x5), (6, .int x6), (7, .int x7), (8, .ref q32), (9, .ref q38), (10, .ref q44), (11, .int x11), (12, .int x12), (13, .int x13)]) hx hb dL_register_164 hl (by decide) rfl (fun ls hl => ?_)
          refine lv_aload_n hx hb dL_register_166 rfl (lv_at hl 2 rfl) ?_
          refine lv_bipush (v := 32) hx hb dL_register_167 (by decide) ?_
          refine lv_iload hx hb dL_register_169 (lv_at hl 15 rfl) ?_
          obtain ⟨u3, hu3, hf⟩ := bn hf
          refine lk_S (As := [.ref k.1, .int 32, .int x13]) (rest := []) (wr := [(q32, .inl (E.2.1, 10, .inl a32)), (q38, .inl (E.2.1, 10, .inl a38)), (q44, .inl (E.2.1, 10, .inl a44))]) hx hb hml hown hg (c_K_call__ E l hst k u2.2 32 x13 u3 hu3) cs_L_call__ ml_L_171 ⟨⟨rfl, rfl⟩, Nat.le_of_ble_eq_true rfl, Nat.le_of_ble_eq_true rfl⟩ hK hE hN hP hD hS hA (W_Ka E k _ _) rfl hl.1 rfl (Nat.le_of_ble_eq_true rfl) dL_register_171 ⟨by show _ ≤ 1236; omega, by show _ ≤ 6 * 1236; omega⟩ [.int u3.1] rfl (fun H locs hP hD hS => ?_)
          refine lv_istore (lv' := [(16, .int u3.1), (15, .int u2.1), (14, .int u1.1), (0, .ref k.1), (1, .int x1), (2, .int x2), (3, .int x3), (4, .int x4), (5, .int x5), (6, .int x6), (7, .int x7), (8, .ref q32), (9, .ref q38), (10, .ref q44), (11, .int x11), (12, .int x12), (13, .int x13)]) hx hb dL_register_174 hl (by decide) rfl (fun ls hl => ?_)
          refine lv_iload hx hb dL_register_176 (lv_at hl 2 rfl) ?_
          refine lv_iload hx hb dL_register_178 (lv_at hl 14 rfl) ?_
          refine lv_icmp_lt (tgt := 206) hx hb dL_register_180 (by decide) (fun cq => ?_) (fun cq => ?_)
          · have hf := it cq hf
            refine lv_iconst (v := 0) hx hb dL_register_206 (by decide) ?_
            exact jp_207 _ _ _ _ _ _ _ _ _ _ _ _ _ _ _ _ _ _ _ _ _ _ _ hf (by omega) hP hD hS (lv_sub hl [3, 4, 5, 6, 7, 8, 9, 10, 11, 12, 13, 16, 2, 1, 0] rfl)
          · have hf := ie cq hf
            refine lv_iload hx hb dL_register_183 (lv_at hl 2 rfl) ?_
            refine lv_iload hx hb dL_register_185 (lv_at hl 7 rfl) ?_
            refine lv_icmp_gt (tgt := 206) hx hb dL_register_187 (by decide) (fun cq => ?_) (fun cq => ?_)
            · have hf := it cq hf
              refine lv_iconst (v := 0) hx hb dL_register_206 (by decide) ?_
              exact jp_207 _ _ _ _ _ _ _ _ _ _ _ _ _ _ _ _ _ _ _ _ _ _ _ hf (by omega) hP hD hS (lv_sub hl [3, 4, 5, 6, 7, 8, 9, 10, 11, 12, 13, 16, 2, 1, 0] rfl)
            · have hf := ie cq hf
              refine lv_iload hx hb dL_register_190 (lv_at hl 0 rfl) ?_
              refine lv_iconst (v := 1) hx hb dL_register_192 (by decide) ?_
              refine lv_aload hx hb dL_register_193 (lv_at hl 11 rfl) ?_
              refine lv_iload hx hb dL_register_195 (lv_at hl 1 rfl) ?_
              obtain ⟨hi, hf⟩ := ck_o hf
              refine la_ld hx hb hK hP 0 rfl hi dL_register_197 ?_
              refine lv_isub hx hb dL_register_198 ?_
              refine lv_icmp_ne (tgt := 206) hx hb dL_register_199 (by decide) (fun cq => ?_) (fun cq => ?_)
              · have hf := ie cq hf
                refine lv_iconst (v := 0) hx hb dL_register_206 (by decide) ?_
                exact jp_207 _ _ _ _ _ _ _ _ _ _ _ _ _ _ _ _ _ _ _ _ _ _ _ hf (by omega) hP hD hS (lv_sub hl [3, 4, 5, 6, 7, 8, 9, 10, 11, 12, 13, 16, 2, 1, 0] rfl)
              · have hf := it cq hf
                refine lv_iconst (v := 1) hx hb dL_register_202 (by decide) ?_
                refine lv_goto (tgt := 207) hx hb dL_register_203 (by decide) ?_
                exact jp_207 _ _ _ _ _ _ _ _ _ _ _ _ _ _ _ _ _ _ _ _ _ _ _ hf (by omega) hP hD hS (lv_sub hl [3, 4, 5, 6, 7, 8, 9, 10, 11, 12, 13, 16, 2, 1, 0] rfl)
  have jp_129 : ∀ (x1 : Int32) (x2 : Int32) (x3 : Int32) (x4 : Int32) (x5 : Int32) (x6 : Int32) (x7 : Int32) (x11 : Int32) (a32 : Nat → Int32) (a38 : Nat → Int32) (a44 : Nat → Int32) (vK : KV) (q32 : Nat) (q38 : Nat) (q44 : Nat) (cs : Nat) (H : Heap) (locs : List Loc) (ls : Array Slot), J_K_register_129 x1 x2 x3 x4 x5 x6 x7 x11 a32 a38 a44 vK = some r → cs + 1218 ≤ 1236 → va_P E.1 vwCl (W_K E k vK ++ [(q32, .inl (E.2.1, 10, .inl a32)), (q38, .inl (E.2.1, 10, .inl a38)), (q44, .inl (E.2.1, 10, .inl a44))]) H → va_D A (W_K E k vK ++ [(q32, .inl (E.2.1, 10, .inl a32)), (q38, .inl (E.2.1, 10, .inl a38)), (q44, .inl (E.2.1, 10, .inl a44))]) → va_S A s.heap H locs → lv_has ls 19 [(0, .ref k.1), (1, .int x1), (2, .int x2), (3, .int x3), (4, .int x4), (5, .int x5), (6, .int x6), (7, .int x7), (8, .ref q32), (9, .ref q38), (10, .ref q44), (11, .int x11)] → W p l e rm_L_register s m ([.ref k.1] : List Value).toArray below meth c H locs cs (6 * cs) (vx_MQ below (QW E (some (.int r.1)) (W_K E k r.2) A) (fun _ _ _ => False) ([.ref k.1] : List Value).toArray s 1236 (6 * 1236) A) (F0 m 129 ls []) := by
    intro x1 x2 x3 x4 x5 x6 x7 x11 a32 a38 a44 vK q32 q38 q44 cs H locs ls hf hc hP hD hS hl
    unfold J_K_register_129 at hf
    refine lv_iconst (v := 0) hx hb dL_register_129 (by decide) ?_
    refine lv_istore (lv' := [(12, .int 0), (0, .ref k.1), (1, .int x1), (2, .int x2), (3, .int x3), (4, .int x4), (5, .int x5), (6, .int x6), (7, .int x7), (8, .ref q32), (9, .ref q38), (10, .ref q44), (11, .int x11)]) hx hb dL_register_130 hl (by decide) rfl (fun ls hl => ?_)
    refine lv_iconst (v := 0) hx hb dL_register_132 (by decide) ?_
    refine lv_istore (lv' := [(13, .int 0), (12, .int 0), (0, .ref k.1), (1, .int x1), (2, .int x2), (3, .int x3), (4, .int x4), (5, .int x5), (6, .int x6), (7, .int x7), (8, .ref q32), (9, .ref q38), (10, .ref q44), (11, .int x11)]) hx hb dL_register_133 hl (by decide) rfl (fun ls hl => ?_)
    exact lp_135 61 _ _ _ _ _ _ _ _ _ _ _ _ _ _ _ _ _ _ _ _ _ hf (by omega) hP hD hS (lv_sub hl [2, 3, 4, 5, 6, 7, 8, 9, 10, 11, 12, 13, 1, 0] rfl)
  unfold F_K_register at hf
  have hc : 0 ≤ 1236 := Nat.zero_le _
  have hP : va_P E.1 vwCl (W_K E k v0 ++ []) s.heap := by rw [List.append_nil]; exact hP
  have hD : va_D A (W_K E k v0 ++ []) := by rw [List.append_nil]; exact hD
  refine W.eqS (n := 6 * 0) rfl ?_
  refine lv_aload_n hx hb dL_register_0 rfl (lv_at hl 0 rfl) ?_
  obtain ⟨u1, hu1, hf⟩ := bn hf
  refine lk_V (As := []) (rest := []) (wr := []) hx hb hml hown hg (k_X8_guestCount E l k v0 u1 hu1) cy_X8_guestCount ml_L_243 ⟨⟨rfl, rfl⟩, Nat.le_of_ble_eq_true rfl, Nat.le_of_ble_eq_true rfl⟩ hK hE hP hD hS hA (W_Ka E k _ _) rfl rfl rfl hl.1 rfl (Nat.le_of_ble_eq_true rfl) dL_register_1 ⟨by show _ ≤ 1236; omega, by show _ ≤ 6 * 1236; omega⟩ [.int u1] rfl (fun H locs hP hD hS => ?_)
  refine lv_istore_n (lv' := [(1, .int u1), (0, .ref k.1)]) hx hb dL_register_4 rfl hl (by decide) rfl (fun ls hl => ?_)
  refine lv_aload_n hx hb dL_register_5 rfl (lv_at hl 1 rfl) ?_
  obtain ⟨u2, hu2, hf⟩ := bn hf
  refine lk_V (As := []) (rest := []) (wr := []) hx hb hml hown hg (k_X8_umbrellaCount E l k v0 u2 hu2) cy_X8_umbrellaCount ml_L_246 ⟨⟨rfl, rfl⟩, Nat.le_of_ble_eq_true rfl, Nat.le_of_ble_eq_true rfl⟩ hK hE hP hD hS hA (W_Ka E k _ _) rfl rfl rfl hl.1 rfl (Nat.le_of_ble_eq_true rfl) dL_register_6 ⟨by show _ ≤ 1236; omega, by show _ ≤ 6 * 1236; omega⟩ [.int u2] rfl (fun H locs hP hD hS => ?_)
  refine lv_istore_n (lv' := [(2, .int u2), (1, .int u1), (0, .ref k.1)]) hx hb dL_register_9 rfl hl (by decide) rfl (fun ls hl => ?_)
  refine lv_aload_n hx hb dL_register_10 rfl (lv_at hl 2 rfl) ?_
  obtain ⟨u3, hu3, hf⟩ := bn hf
  refine lk_V (As := []) (rest := []) (wr := []) hx hb hml hown hg (k_X8_entryCount E l k v0 u3 hu3) cy_X8_entryCount ml_L_249 ⟨⟨rfl, rfl⟩, Nat.le_of_ble_eq_true rfl, Nat.le_of_ble_eq_true rfl⟩ hK hE hP hD hS hA (W_Ka E k _ _) rfl rfl rfl hl.1 rfl (Nat.le_of_ble_eq_true rfl) dL_register_11 ⟨by show _ ≤ 1236; omega, by show _ ≤ 6 * 1236; omega⟩ [.int u3] rfl (fun H locs hP hD hS => ?_)
  refine lv_istore_n (lv' := [(3, .int u3), (2, .int u2), (1, .int u1), (0, .ref k.1)]) hx hb dL_register_14 rfl hl (by decide) rfl (fun ls hl => ?_)
  refine lv_aload_n hx hb dL_register_15 rfl (lv_at hl 3 rfl) ?_
  obtain ⟨u4, hu4, hf⟩ := bn hf
  refine lk_V (As := []) (rest := []) (wr := []) hx hb hml hown hg (k_X8_minute E l k v0 u4 hu4) cy_X8_minute ml_L_218 ⟨⟨rfl, rfl⟩, Nat.le_of_ble_eq_true rfl, Nat.le_of_ble_eq_true rfl⟩ hK hE hP hD hS hA (W_Ka E k _ _) rfl rfl rfl hl.1 rfl (Nat.le_of_ble_eq_true rfl) dL_register_16 ⟨by show _ ≤ 1236; omega, by show _ ≤ 6 * 1236; omega⟩ [.int u4] rfl (fun H locs hP hD hS => ?_)
  refine lv_istore (lv' := [(4, .int u4), (3, .int u3), (2, .int u2), (1, .int u1), (0, .ref k.1)]) hx hb dL_register_19 hl (by decide) rfl (fun ls hl => ?_)
  refine lv_iconst (v := 0) hx hb dL_register_21 (by decide) ?_
  refine lv_istore (lv' := [(5, .int 0), (4, .int u4), (3, .int u3), (2, .int u2), (1, .int u1), (0, .ref k.1)]) hx hb dL_register_22 hl (by decide) rfl (fun ls hl => ?_)
  refine lv_iconst (v := 0) hx hb dL_register_24 (by decide) ?_
  refine lv_istore (lv' := [(6, .int 0), (5, .int 0), (4, .int u4), (3, .int u3), (2, .int u2), (1, .int u1), (0, .ref k.1)]) hx hb dL_register_25 hl (by decide) rfl (fun ls hl => ?_)
  refine lv_iconst (v := 0) hx hb dL_register_27 (by decide) ?_
  refine lv_istore (lv' := [(7, .int 0), (6, .int 0), (5, .int 0), (4, .int u4), (3, .int u3), (2, .int u2), (1, .int u1), (0, .ref k.1)]) hx hb dL_register_28 hl (by decide) rfl (fun ls hl => ?_)
  refine lv_bipush (v := 10) hx hb dL_register_30 (by decide) ?_
  refine la_new (N := 10) (u := 2) hx hb hg hK hP hD hS hA (by decide) (by decide) (Nat.le_of_ble_eq_true rfl) (by decide) ⟨by show _ ≤ 1236; omega, by show _ ≤ 6 * 1236; omega⟩ dL_register_32 (fun q32 H hP hD hS => ?_)
  have hP : va_P E.1 vwCl (W_K E k v0 ++ [(q32, .inl (E.2.1, 10, .inl (fun _ => 0)))]) _ := hP
  have hD : va_D A (W_K E k v0 ++ [(q32, .inl (E.2.1, 10, .inl (fun _ => 0)))]) := hD
  refine lv_astore (lv' := [(8, .ref q32), (7, .int 0), (6, .int 0), (5, .int 0), (4, .int u4), (3, .int u3), (2, .int u2), (1, .int u1), (0, .ref k.1)]) hx hb dL_register_34 hl (by decide) rfl (fun ls hl => ?_)
  refine lv_bipush (v := 10) hx hb dL_register_36 (by decide) ?_
  refine la_new (N := 10) (u := 2) hx hb hg hK hP hD hS hA (by decide) (by decide) (Nat.le_of_ble_eq_true rfl) (by decide) ⟨by show _ ≤ 1236; omega, by show _ ≤ 6 * 1236; omega⟩ dL_register_38 (fun q38 H hP hD hS => ?_)
  have hP : va_P E.1 vwCl (W_K E k v0 ++ [(q32, .inl (E.2.1, 10, .inl (fun _ => 0))), (q38, .inl (E.2.1, 10, .inl (fun _ => 0)))]) _ := hP
  have hD : va_D A (W_K E k v0 ++ [(q32, .inl (E.2.1, 10, .inl (fun _ => 0))), (q38, .inl (E.2.1, 10, .inl (fun _ => 0)))]) := hD
  refine lv_astore (lv' := [(9, .ref q38), (8, .ref q32), (7, .int 0), (6, .int 0), (5, .int 0), (4, .int u4), (3, .int u3), (2, .int u2), (1, .int u1), (0, .ref k.1)]) hx hb dL_register_40 hl (by decide) rfl (fun ls hl => ?_)
  refine lv_bipush (v := 10) hx hb dL_register_42 (by decide) ?_
  refine la_new (N := 10) (u := 2) hx hb hg hK hP hD hS hA (by decide) (by decide) (Nat.le_of_ble_eq_true rfl) (by decide) ⟨by show _ ≤ 1236; omega, by show _ ≤ 6 * 1236; omega⟩ dL_register_44 (fun q44 H hP hD hS => ?_)
  have hP : va_P E.1 vwCl (W_K E k v0 ++ [(q32, .inl (E.2.1, 10, .inl (fun _ => 0))), (q38, .inl (E.2.1, 10, .inl (fun _ => 0))), (q44, .inl (E.2.1, 10, .inl (fun _ => 0)))]) _ := hP
  have hD : va_D A (W_K E k v0 ++ [(q32, .inl (E.2.1, 10, .inl (fun _ => 0))), (q38, .inl (E.2.1, 10, .inl (fun _ => 0))), (q44, .inl (E.2.1, 10, .inl (fun _ => 0)))]) := hD
  refine lv_astore (lv' := [(10, .ref q44), (9, .ref q38), (8, .ref q32), (7, .int 0), (6, .int 0), (5, .int 0), (4, .int u4), (3, .int u3), (2, .int u2), (1, .int u1), (0, .ref k.1)]) hx hb dL_register_46 hl (by decide) rfl (fun ls hl => ?_)
  refine lv_iconst (v := 0) hx hb dL_register_48 (by decide) ?_
  refine lv_istore (lv' := [(11, .int 0), (10, .ref q44), (9, .ref q38), (8, .ref q32), (7, .int 0), (6, .int 0), (5, .int 0), (4, .int u4), (3, .int u3), (2, .int u2), (1, .int u1), (0, .ref k.1)]) hx hb dL_register_49 hl (by decide) rfl (fun ls hl => ?_)
  refine lv_iload_n hx hb dL_register_51 rfl (lv_at hl 10 rfl) ?_
  refine lv_bipush (v := 10) hx hb dL_register_52 (by decide) ?_
  refine lv_icmp_gt (tgt := 129) hx hb dL_register_54 (by decide) (fun cq => ?_) (fun cq => ?_)
  · have hf := it cq hf
    exact jp_129 _ _ _ _ _ _ _ _ _ _ _ _ _ _ _ _ _ _ _ hf (by omega) hP hD hS (lv_sub hl [11, 10, 9, 8, 7, 6, 5, 4, 3, 2, 1, 0] rfl)
  · have hf := ie cq hf
    refine lv_iload_n hx hb dL_register_57 rfl (lv_at hl 9 rfl) ?_
    refine lv_bipush (v := 12) hx hb dL_register_58 (by decide) ?_
    refine lv_icmp_gt (tgt := 129) hx hb dL_register_60 (by decide) (fun cq => ?_) (fun cq => ?_)
    · have hf := it cq hf
      exact jp_129 _ _ _ _ _ _ _ _ _ _ _ _ _ _ _ _ _ _ _ hf (by omega) hP hD hS (lv_sub hl [11, 10, 9, 8, 7, 6, 5, 4, 3, 2, 1, 0] rfl)
    · have hf := ie cq hf
      refine lv_iload_n hx hb dL_register_63 rfl (lv_at hl 8 rfl) ?_
      refine lv_bipush (v := 60) hx hb dL_register_64 (by decide) ?_
      refine lv_icmp_gt (tgt := 129) hx hb dL_register_66 (by decide) (fun cq => ?_) (fun cq => ?_)
      · have hf := it cq hf
        exact jp_129 _ _ _ _ _ _ _ _ _ _ _ _ _ _ _ _ _ _ _ hf (by omega) hP hD hS (lv_sub hl [11, 10, 9, 8, 7, 6, 5, 4, 3, 2, 1, 0] rfl)
      · have hf := ie cq hf
        refine lv_iload hx hb dL_register_69 (lv_at hl 7 rfl) ?_
        refine lv_sipush (v := 720) hx hb dL_register_71 (by decide) ?_
        refine lv_icmp_gt (tgt := 129) hx hb dL_register_74 (by decide) (fun cq => ?_) (fun cq => ?_)
        · have hf := it cq hf
          exact jp_129 _ _ _ _ _ _ _ _ _ _ _ _ _ _ _ _ _ _ _ hf (by omega) hP hD hS (lv_sub hl [11, 10, 9, 8, 7, 6, 5, 4, 3, 2, 1, 0] rfl)
        · have hf := ie cq hf
          refine lv_aload_n hx hb dL_register_77 rfl (lv_at hl 11 rfl) ?_
          refine lv_bipush (v := 18) hx hb dL_register_78 (by decide) ?_
          refine lv_iload_n hx hb dL_register_80 rfl (lv_at hl 10 rfl) ?_
          obtain ⟨u5, hu5, hf⟩ := bn hf
          refine lk_S (As := [.ref k.1, .int 18, .int u1]) (rest := []) (wr := [(q32, .inl (E.2.1, 10, .inl (fun _ => 0))), (q38, .inl (E.2.1, 10, .inl (fun _ => 0))), (q44, .inl (E.2.1, 10, .inl (fun _ => 0)))]) hx hb hml hown hg (c_K_call__ E l hst k v0 18 u1 u5 hu5) cs_L_call__ ml_L_171 ⟨⟨rfl, rfl⟩, Nat.le_of_ble_eq_true rfl, Nat.le_of_ble_eq_true rfl⟩ hK hE hN hP hD hS hA (W_Ka E k _ _) rfl hl.1 rfl (Nat.le_of_ble_eq_true rfl) dL_register_81 ⟨by show _ ≤ 1236; omega, by show _ ≤ 6 * 1236; omega⟩ [.int u5.1] rfl (fun H locs hP hD hS => ?_)
          refine lv_bipush (v := (-104)) hx hb dL_register_84 (by decide) ?_
          refine lv_icmp_ne (tgt := 129) hx hb dL_register_86 (by decide) (fun cq => ?_) (fun cq => ?_)
          · have hf := ie cq hf
            exact jp_129 _ _ _ _ _ _ _ _ _ _ _ _ _ _ _ _ _ _ _ hf (by omega) hP hD hS (lv_sub hl [11, 10, 9, 8, 7, 6, 5, 4, 3, 2, 1, 0] rfl)
          · have hf := it cq hf
            refine lv_aload_n hx hb dL_register_89 rfl (lv_at hl 11 rfl) ?_
            refine lv_bipush (v := 25) hx hb dL_register_90 (by decide) ?_
            refine lv_iload_n hx hb dL_register_92 rfl (lv_at hl 9 rfl) ?_
            obtain ⟨u6, hu6, hf⟩ := bn hf
            refine lk_S (As := [.ref k.1, .int 25, .int u2]) (rest := []) (wr := [(q32, .inl (E.2.1, 10, .inl (fun _ => 0))), (q38, .inl (E.2.1, 10, .inl (fun _ => 0))), (q44, .inl (E.2.1, 10, .inl (fun _ => 0)))]) hx hb hml hown hg (c_K_call__ E l hst k u5.2 25 u2 u6 hu6) cs_L_call__ ml_L_171 ⟨⟨rfl, rfl⟩, Nat.le_of_ble_eq_true rfl, Nat.le_of_ble_eq_true rfl⟩ hK hE hN hP hD hS hA (W_Ka E k _ _) rfl hl.1 rfl (Nat.le_of_ble_eq_true rfl) dL_register_93 ⟨by show _ ≤ 1236; omega, by show _ ≤ 6 * 1236; omega⟩ [.int u6.1] rfl (fun H locs hP hD hS => ?_)
            refine lv_bipush (v := (-104)) hx hb dL_register_96 (by decide) ?_
            refine lv_icmp_ne (tgt := 129) hx hb dL_register_98 (by decide) (fun cq => ?_) (fun cq => ?_)
            · have hf := ie cq hf
              exact jp_129 _ _ _ _ _ _ _ _ _ _ _ _ _ _ _ _ _ _ _ hf (by omega) hP hD hS (lv_sub hl [11, 10, 9, 8, 7, 6, 5, 4, 3, 2, 1, 0] rfl)
            · have hf := it cq hf
              refine lv_aload_n hx hb dL_register_101 rfl (lv_at hl 11 rfl) ?_
              refine lv_bipush (v := 30) hx hb dL_register_102 (by decide) ?_
              refine lv_iload_n hx hb dL_register_104 rfl (lv_at hl 8 rfl) ?_
              obtain ⟨u7, hu7, hf⟩ := bn hf
              refine lk_S (As := [.ref k.1, .int 30, .int u3]) (rest := []) (wr := [(q32, .inl (E.2.1, 10, .inl (fun _ => 0))), (q38, .inl (E.2.1, 10, .inl (fun _ => 0))), (q44, .inl (E.2.1, 10, .inl (fun _ => 0)))]) hx hb hml hown hg (c_K_call__ E l hst k u6.2 30 u3 u7 hu7) cs_L_call__ ml_L_171 ⟨⟨rfl, rfl⟩, Nat.le_of_ble_eq_true rfl, Nat.le_of_ble_eq_true rfl⟩ hK hE hN hP hD hS hA (W_Ka E k _ _) rfl hl.1 rfl (Nat.le_of_ble_eq_true rfl) dL_register_105 ⟨by show _ ≤ 1236; omega, by show _ ≤ 6 * 1236; omega⟩ [.int u7.1] rfl (fun H locs hP hD hS => ?_)
              refine lv_bipush (v := (-104)) hx hb dL_register_108 (by decide) ?_
              refine lv_icmp_ne (tgt := 129) hx hb dL_register_110 (by decide) (fun cq => ?_) (fun cq => ?_)
              · have hf := ie cq hf
                exact jp_129 _ _ _ _ _ _ _ _ _ _ _ _ _ _ _ _ _ _ _ hf (by omega) hP hD hS (lv_sub hl [11, 10, 9, 8, 7, 6, 5, 4, 3, 2, 1, 0] rfl)
              · have hf := it cq hf
                refine lv_aload_n hx hb dL_register_113 rfl (lv_at hl 11 rfl) ?_
                refine lv_bipush (v := 42) hx hb dL_register_114 (by decide) ?_
                refine lv_iload_n hx hb dL_register_116 rfl (lv_at hl 10 rfl) ?_
                obtain ⟨u8, hu8, hf⟩ := bn hf
                refine lk_S (As := [.ref k.1, .int 42, .int u1]) (rest := []) (wr := [(q32, .inl (E.2.1, 10, .inl (fun _ => 0))), (q38, .inl (E.2.1, 10, .inl (fun _ => 0))), (q44, .inl (E.2.1, 10, .inl (fun _ => 0)))]) hx hb hml hown hg (c_K_call__ E l hst k u7.2 42 u1 u8 hu8) cs_L_call__ ml_L_171 ⟨⟨rfl, rfl⟩, Nat.le_of_ble_eq_true rfl, Nat.le_of_ble_eq_true rfl⟩ hK hE hN hP hD hS hA (W_Ka E k _ _) rfl hl.1 rfl (Nat.le_of_ble_eq_true rfl) dL_register_117 ⟨by show _ ≤ 1236; omega, by show _ ≤ 6 * 1236; omega⟩ [.int u8.1] rfl (fun H locs hP hD hS => ?_)
                refine lv_bipush (v := (-104)) hx hb dL_register_120 (by decide) ?_
                refine lv_icmp_ne (tgt := 129) hx hb dL_register_122 (by decide) (fun cq => ?_) (fun cq => ?_)
                · have hf := ie cq hf
                  exact jp_129 _ _ _ _ _ _ _ _ _ _ _ _ _ _ _ _ _ _ _ hf (by omega) hP hD hS (lv_sub hl [11, 10, 9, 8, 7, 6, 5, 4, 3, 2, 1, 0] rfl)
                · have hf := it cq hf
                  refine lv_iconst (v := 1) hx hb dL_register_125 (by decide) ?_
                  refine lv_goto (tgt := 130) hx hb dL_register_126 (by decide) ?_
                  refine lv_istore (lv' := [(12, .int 1), (11, .int 0), (10, .ref q44), (9, .ref q38), (8, .ref q32), (7, .int 0), (6, .int 0), (5, .int 0), (4, .int u4), (3, .int u3), (2, .int u2), (1, .int u1), (0, .ref k.1)]) hx hb dL_register_130 hl (by decide) rfl (fun ls hl => ?_)
                  refine lv_iconst (v := 0) hx hb dL_register_132 (by decide) ?_
                  refine lv_istore (lv' := [(13, .int 0), (12, .int 1), (11, .int 0), (10, .ref q44), (9, .ref q38), (8, .ref q32), (7, .int 0), (6, .int 0), (5, .int 0), (4, .int u4), (3, .int u3), (2, .int u2), (1, .int u1), (0, .ref k.1)]) hx hb dL_register_133 hl (by decide) rfl (fun ls hl => ?_)
                  exact lp_135 61 _ _ _ _ _ _ _ _ _ _ _ _ _ _ _ _ _ _ _ _ _ hf (by omega) hP hD hS (lv_sub hl [13, 12, 11, 10, 9, 8, 7, 6, 5, 4, 3, 2, 1, 0] rfl)
