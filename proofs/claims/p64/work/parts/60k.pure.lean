/-! single steps of the two pictures -/
def upD (D : Dn) (f k v : Nat) : Dn := fun a b => if a = f then (if b = k then v else D a b) else D a b
theorem upD_hit (D : Dn) (f k v : Nat) : upD D f k v f k = v := (if_pos rfl).trans (if_pos rfl)
theorem upD_miss (D : Dn) (f k v : Nat) {b : Nat} (h : b ≠ k) : upD D f k v f b = D f b := (if_pos rfl).trans (if_neg h)
theorem up_ne {w : Nat → Int32} {i j : Nat} {x : Int32} (h : j ≠ i) : upd w i x j = w j := if_neg h
theorem up_eq {w : Nat → Int32} {i : Nat} {x : Int32} : upd w i x i = x := if_pos rfl
theorem va_eq {α : Type} {w : Nat → α} {i : Nat} {x : α} : va_up w i x i = x := if_pos rfl
theorem M8.s_mi {vN : Nat → Int32} {vG vU vR : Nat → Nat → Int32} {D : Dn} (m : M8 vN vG vU vR D) {v : Nat} : M8 (va_up vN 0 (nI v)) vG vU vR (upD D 0 0 v) :=
  ⟨rfl,
  m.ra,
  m.li,
  m.no,
  m.co,
  m.pu,
  m.ti,
  m.G,
  m.U,
  m.R,
  m.lt,
  m.ln,
  m.gi,
  m.ba,
  m.si,
  m.so,
  m.wk,
  m.wa,
  m.ow,
  m.we,
  m.ca,
  m.ew,
  m.eg,
  m.el⟩
theorem M8.s_ra {vN : Nat → Int32} {vG vU vR : Nat → Nat → Int32} {D : Dn} (m : M8 vN vG vU vR D) {v : Nat} : M8 (va_up vN 1 (nI v)) vG vU vR (upD D 0 1 v) :=
  ⟨m.mi,
  rfl,
  m.li,
  m.no,
  m.co,
  m.pu,
  m.ti,
  m.G,
  m.U,
  m.R,
  m.lt,
  m.ln,
  m.gi,
  m.ba,
  m.si,
  m.so,
  m.wk,
  m.wa,
  m.ow,
  m.we,
  m.ca,
  m.ew,
  m.eg,
  m.el⟩
theorem M8.s_li {vN : Nat → Int32} {vG vU vR : Nat → Nat → Int32} {D : Dn} (m : M8 vN vG vU vR D) {v : Nat} : M8 (va_up vN 2 (nI v)) vG vU vR (upD D 0 2 v) :=
  ⟨m.mi,
  m.ra,
  rfl,
  m.no,
  m.co,
  m.pu,
  m.ti,
  m.G,
  m.U,
  m.R,
  m.lt,
  m.ln,
  m.gi,
  m.ba,
  m.si,
  m.so,
  m.wk,
  m.wa,
  m.ow,
  m.we,
  m.ca,
  m.ew,
  m.eg,
  m.el⟩
theorem M8.s_no {vN : Nat → Int32} {vG vU vR : Nat → Nat → Int32} {D : Dn} (m : M8 vN vG vU vR D) {v : Nat} : M8 (va_up vN 3 (nI v)) vG vU vR (upD D 0 3 v) :=
  ⟨m.mi,
  m.ra,
  m.li,
  rfl,
  m.co,
  m.pu,
  m.ti,
  m.G,
  m.U,
  m.R,
  m.lt,
  m.ln,
  m.gi,
  m.ba,
  m.si,
  m.so,
  m.wk,
  m.wa,
  m.ow,
  m.we,
  m.ca,
  m.ew,
  m.eg,
  m.el⟩
theorem M8.s_co {vN : Nat → Int32} {vG vU vR : Nat → Nat → Int32} {D : Dn} (m : M8 vN vG vU vR D) {v : Nat} : M8 (va_up vN 4 (nI v)) vG vU vR (upD D 0 4 v) :=
  ⟨m.mi,
  m.ra,
  m.li,
  m.no,
  rfl,
  m.pu,
  m.ti,
  m.G,
  m.U,
  m.R,
  m.lt,
  m.ln,
  m.gi,
  m.ba,
  m.si,
  m.so,
  m.wk,
  m.wa,
  m.ow,
  m.we,
  m.ca,
  m.ew,
  m.eg,
  m.el⟩
theorem M8.s_pu {vN : Nat → Int32} {vG vU vR : Nat → Nat → Int32} {D : Dn} (m : M8 vN vG vU vR D) {v : Nat} : M8 (va_up vN 5 (nI v)) vG vU vR (upD D 0 5 v) :=
  ⟨m.mi,
  m.ra,
  m.li,
  m.no,
  m.co,
  rfl,
  m.ti,
  m.G,
  m.U,
  m.R,
  m.lt,
  m.ln,
  m.gi,
  m.ba,
  m.si,
  m.so,
  m.wk,
  m.wa,
  m.ow,
  m.we,
  m.ca,
  m.ew,
  m.eg,
  m.el⟩
theorem M8.s_ti {vN : Nat → Int32} {vG vU vR : Nat → Nat → Int32} {D : Dn} (m : M8 vN vG vU vR D) {v : Nat} : M8 (va_up vN 6 (nI v)) vG vU vR (upD D 0 6 v) :=
  ⟨m.mi,
  m.ra,
  m.li,
  m.no,
  m.co,
  m.pu,
  rfl,
  m.G,
  m.U,
  m.R,
  m.lt,
  m.ln,
  m.gi,
  m.ba,
  m.si,
  m.so,
  m.wk,
  m.wa,
  m.ow,
  m.we,
  m.ca,
  m.ew,
  m.eg,
  m.el⟩
theorem M8.s_so {vN : Nat → Int32} {vG vU vR : Nat → Nat → Int32} {D : Dn} (m : M8 vN vG vU vR D) {g v : Nat} : M8 vN (va_up vG 6 (upd (vG 6) g (nI v))) vU vR (upD D 7 g v) :=
  ⟨m.mi,
  m.ra,
  m.li,
  m.no,
  m.co,
  m.pu,
  m.ti,
  m.G,
  m.U,
  m.R,
  m.lt,
  m.ln,
  m.gi,
  m.ba,
  m.si,
  fun k (hk : k < D.G) => by
    by_cases c : k = g
    · subst c
      exact (up_eq (w := vG 6)).trans (congrArg nI (upD_hit D 7 k v).symm)
    · exact (up_ne (w := vG 6) c).trans ((m.so k hk).trans (congrArg nI (upD_miss D 7 g v c).symm)),
  m.wk,
  m.wa,
  m.ow,
  m.we,
  m.ca,
  m.ew,
  m.eg,
  m.el⟩
theorem M8.s_we {vN : Nat → Int32} {vG vU vR : Nat → Nat → Int32} {D : Dn} (m : M8 vN vG vU vR D) {g v : Nat} : M8 vN vG (va_up vU 2 (upd (vU 2) g (nI v))) vR (upD D 11 g v) :=
  ⟨m.mi,
  m.ra,
  m.li,
  m.no,
  m.co,
  m.pu,
  m.ti,
  m.G,
  m.U,
  m.R,
  m.lt,
  m.ln,
  m.gi,
  m.ba,
  m.si,
  m.so,
  m.wk,
  m.wa,
  m.ow,
  fun k (hk : k < D.U) => by
    by_cases c : k = g
    · subst c
      exact (up_eq (w := vU 2)).trans (congrArg nI (upD_hit D 11 k v).symm)
    · exact (up_ne (w := vU 2) c).trans ((m.we k hk).trans (congrArg nI (upD_miss D 11 g v c).symm)),
  m.ca,
  m.ew,
  m.eg,
  m.el⟩
theorem M8.s_ca {vN : Nat → Int32} {vG vU vR : Nat → Nat → Int32} {D : Dn} (m : M8 vN vG vU vR D) {g v : Nat} : M8 vN vG (va_up vU 3 (upd (vU 3) g (nz v))) vR (upD D 12 g v) :=
  ⟨m.mi,
  m.ra,
  m.li,
  m.no,
  m.co,
  m.pu,
  m.ti,
  m.G,
  m.U,
  m.R,
  m.lt,
  m.ln,
  m.gi,
  m.ba,
  m.si,
  m.so,
  m.wk,
  m.wa,
  m.ow,
  m.we,
  fun k (hk : k < D.U) => by
    by_cases c : k = g
    · subst c
      exact (up_eq (w := vU 3)).trans (congrArg nz (upD_hit D 12 k v).symm)
    · exact (up_ne (w := vU 3) c).trans ((m.ca k hk).trans (congrArg nz (upD_miss D 12 g v c).symm)),
  m.ew,
  m.eg,
  m.el⟩
theorem M8.s_out {vN : Nat → Int32} {vG vU vR : Nat → Nat → Int32} {D : Dn} (m : M8 vN vG vU vR D) {g v : Nat} : M8 vN (va_up vG 5 (upd (vG 5) g (nI v))) vU vR (upD (upD D 5 g 1) 6 g v) :=
  ⟨m.mi,
  m.ra,
  m.li,
  m.no,
  m.co,
  m.pu,
  m.ti,
  m.G,
  m.U,
  m.R,
  m.lt,
  m.ln,
  m.gi,
  m.ba,
  fun k (hk : k < D.G) => by
    show upd (vG 5) g (nI v) k = if upD D 5 g 1 5 k = 0 then m1 else nI (upD (upD D 5 g 1) 6 g v 6 k)
    by_cases c : k = g
    · subst c
      rw [up_eq, upD_hit, upD_hit, if_neg (by decide)]
    · rw [up_ne c, upD_miss _ _ _ _ c, upD_miss _ _ _ _ c]
      exact m.si k hk,
  m.so,
  m.wk,
  m.wa,
  m.ow,
  m.we,
  m.ca,
  m.ew,
  m.eg,
  m.el⟩
theorem M8.s_in {vN : Nat → Int32} {vG vU vR : Nat → Nat → Int32} {D : Dn} (m : M8 vN vG vU vR D) {g : Nat} : M8 vN (va_up vG 5 (upd (vG 5) g m1)) vU vR (upD D 5 g 0) :=
  ⟨m.mi,
  m.ra,
  m.li,
  m.no,
  m.co,
  m.pu,
  m.ti,
  m.G,
  m.U,
  m.R,
  m.lt,
  m.ln,
  m.gi,
  m.ba,
  fun k (hk : k < D.G) => by
    show upd (vG 5) g m1 k = if upD D 5 g 0 5 k = 0 then m1 else nI (D.si k)
    by_cases c : k = g
    · subst c
      rw [up_eq, upD_hit, if_pos rfl]
    · rw [up_ne c, upD_miss _ _ _ _ c]
      exact m.si k hk,
  m.so,
  m.wk,
  m.wa,
  m.ow,
  m.we,
  m.ca,
  m.ew,
  m.eg,
  m.el⟩
theorem M8.s_walk {vN : Nat → Int32} {vG vU vR : Nat → Nat → Int32} {D : Dn} (m : M8 vN vG vU vR D) {g a b : Nat} : M8 vN (va_up (va_up vG 7 (upd (vG 7) g (nI b))) 8 (upd (vG 8) g (nI a))) vU vR (upD (upD D 9 g a) 8 g b) :=
  ⟨m.mi,
  m.ra,
  m.li,
  m.no,
  m.co,
  m.pu,
  m.ti,
  m.G,
  m.U,
  m.R,
  m.lt,
  m.ln,
  m.gi,
  m.ba,
  m.si,
  m.so,
  fun k (hk : k < D.G) => by
    show upd (vG 7) g (nI b) k = nI (upD (upD D 9 g a) 8 g b 8 k)
    by_cases c : k = g
    · subst c
      rw [up_eq, upD_hit]
    · rw [up_ne c, upD_miss _ _ _ _ c]
      exact m.wk k hk,
  fun k (hk : k < D.G) h0 => by
    show upd (vG 8) g (nI a) k = nI (upD D 9 g a 9 k)
    by_cases c : k = g
    · subst c
      rw [up_eq, upD_hit]
    · rw [up_ne c, upD_miss _ _ _ _ c]
      refine m.wa k hk ?_
      have h1 : upD (upD D 9 g a) 8 g b 8 k ≠ 0 := h0
      rw [upD_miss _ _ _ _ c] at h1
      exact h1,
  m.ow,
  m.we,
  m.ca,
  m.ew,
  m.eg,
  m.el⟩
theorem M8.s_ent {vN : Nat → Int32} {vG vU vR : Nat → Nat → Int32} {D : Dn} (m : M8 vN vG vU vR D) {a b c : Nat} : M8 vN vG vU (va_up (va_up (va_up (va_up vR 1 (upd (vR 1) D.R (nI a))) 2 (upd (vR 2) D.R (nI b))) 3 (upd (vR 3) D.R (if c = 0 then nI 43 else nI 45))) 0 (fun _ => nI (D.R + 1))) (upD (upD (upD (upD D 13 D.R a) 14 D.R b) 15 D.R c) 0 9 (D.R + 1)) :=
  ⟨m.mi,
  m.ra,
  m.li,
  m.no,
  m.co,
  m.pu,
  m.ti,
  m.G,
  m.U,
  rfl,
  m.lt,
  m.ln,
  m.gi,
  m.ba,
  m.si,
  m.so,
  m.wk,
  m.wa,
  m.ow,
  m.we,
  m.ca,
  fun k (hk : k < D.R + 1) => by
    show upd (vR 1) D.R (nI a) k = nI (upD D 13 D.R a 13 k)
    by_cases e : k = D.R
    · rw [e, upD_hit, up_eq]
    · rw [upD_miss _ _ _ _ e, up_ne e]
      exact m.ew k (by omega),
  fun k (hk : k < D.R + 1) => by
    show upd (vR 2) D.R (nI b) k = nI (upD D 14 D.R b 14 k)
    by_cases e : k = D.R
    · rw [e, upD_hit, up_eq]
    · rw [upD_miss _ _ _ _ e, up_ne e]
      exact m.eg k (by omega),
  fun k (hk : k < D.R + 1) => by
    show upd (vR 3) D.R (if c = 0 then nI 43 else nI 45) k = if (upD D 15 D.R c 15 k) = 0 then nI 43 else nI 45
    by_cases e : k = D.R
    · rw [e, upD_hit, up_eq]
    · rw [upD_miss _ _ _ _ e, up_ne e]
      exact m.el k (by omega)⟩
theorem M8.s_umb {vN : Nat → Int32} {vG vU vR : Nat → Nat → Int32} {D : Dn} (m : M8 vN vG vU vR D) {a b : Nat} : M8 vN vG (va_up (va_up (va_up (va_up vU 1 (upd (vU 1) D.U (nI a))) 2 (upd (vU 2) D.U (nI b))) 3 (upd (vU 3) D.U m1)) 0 (fun _ => nI (D.U + 1))) vR (upD (upD (upD (upD D 10 D.U a) 11 D.U b) 12 D.U 0) 0 8 (D.U + 1)) :=
  ⟨m.mi,
  m.ra,
  m.li,
  m.no,
  m.co,
  m.pu,
  m.ti,
  m.G,
  rfl,
  m.R,
  m.lt,
  m.ln,
  m.gi,
  m.ba,
  m.si,
  m.so,
  m.wk,
  m.wa,
  fun k (hk : k < D.U + 1) => by
    show upd (vU 1) D.U (nI a) k = nI (upD D 10 D.U a 10 k)
    by_cases e : k = D.U
    · rw [e, upD_hit, up_eq]
    · rw [upD_miss _ _ _ _ e, up_ne e]
      exact m.ow k (by omega),
  fun k (hk : k < D.U + 1) => by
    show upd (vU 2) D.U (nI b) k = nI (upD D 11 D.U b 11 k)
    by_cases e : k = D.U
    · rw [e, upD_hit, up_eq]
    · rw [upD_miss _ _ _ _ e, up_ne e]
      exact m.we k (by omega),
  fun k (hk : k < D.U + 1) => by
    show upd (vU 3) D.U (m1) k = nz (upD D 12 D.U 0 12 k)
    by_cases e : k = D.U
    · rw [e, upD_hit, up_eq] ; rfl
    · rw [upD_miss _ _ _ _ e, up_ne e]
      exact m.ca k (by omega),
  m.ew,
  m.eg,
  m.el⟩

