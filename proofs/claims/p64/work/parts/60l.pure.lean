/-! a minute passes -/
theorem dn_ext {D E : Dn} (h : ∀ a b, D a b = E a b) : D = E := funext fun a => funext fun b => h a b
theorem upD_id (D : Dn) (f k : Nat) : upD D f k (D f k) = D := dn_ext fun a b => by
  unfold upD
  by_cases ha : a = f
  · by_cases hb : b = k
    · simp [ha, hb]
    · simp [ha, hb]
  · simp [ha]
theorem m8_id {vN : Nat → Int32} {vG vU vR : Nat → Nat → Int32} {D : Dn} {f k v : Nat} (m : M8 vN vG vU vR D) (h : D f k = v) : M8 vN vG vU vR (upD D f k v) := by
  subst h
  rw [upD_id]
  exact m
def newWe (D : Dn) (u : Nat) : Nat := if D.ca u = 0 then D.we u - 1 else if D.we u + D.ra ≤ 99 then D.we u + D.ra else 99
def drp (D : Dn) (u : Nat) : Nat := if D.ca u = 0 then (if D.we u = 0 then 0 else 1) else 0
def p2 (D : Dn) (k : Nat) : Dn := fun a b => if a = 11 then (if b < k then newWe D b else D a b) else if a = 0 then (if b = 5 then D.pu + smF (drp D) k else D a b) else D a b
def p2v (D : Dn) (k : Nat) : Dn := fun a b => if a = 11 then (if b < k then newWe D b else D a b) else D a b
theorem newWe_le {T : Nat} {D : Dn} (o : OkD T D) {u : Nat} (hu : u < D.U) : newWe D u ≤ 99 := by
  have := o.we u hu
  unfold newWe
  split
  · omega
  · split <;> omega
theorem drp_sm (D : Dn) (n : Nat) : smF (drp D) n ≤ n := by
  have := smF_le (f := drp D) (c := 1) (n := n) fun k _ => by
    unfold drp
    split
    · split <;> omega
    · omega
  omega
theorem p2v_s (D : Dn) (k : Nat) : p2v D (k + 1) = upD (p2v D k) 11 k (newWe D k) := dn_ext fun a b => by
  by_cases ha : a = 11
  · by_cases hb : b = k
    · simp [p2v, upD, ha, hb]
    · by_cases hc : b < k
      · have hd : b < k + 1 := by omega
        simp [p2v, upD, ha, hb, hc, hd]
      · have hd : ¬ b < k + 1 := by omega
        simp [p2v, upD, ha, hb, hc, hd]
  · simp [p2v, upD, ha]
theorem p2_v (D : Dn) (k : Nat) : p2 D k = upD (p2v D k) 0 5 (D.pu + smF (drp D) k) := dn_ext fun a b => by
  by_cases ha : a = 11
  · simp [p2, p2v, upD, ha]
  · by_cases hb : a = 0
    · simp [p2, p2v, upD, hb]
    · simp [p2, p2v, upD, ha, hb]
theorem p2_s (D : Dn) (k : Nat) : p2 D (k + 1) = upD (upD (p2 D k) 11 k (newWe D k)) 0 5 (D.pu + smF (drp D) (k + 1)) := dn_ext fun a b => by
  by_cases ha : a = 11
  · by_cases hb : b = k
    · simp [p2, upD, ha, hb]
    · by_cases hc : b < k
      · have hd : b < k + 1 := by omega
        simp [p2, upD, ha, hb, hc, hd]
      · have hd : ¬ b < k + 1 := by omega
        simp [p2, upD, ha, hb, hc, hd]
  · by_cases hz : a = 0
    · by_cases hb : b = 5
      · simp [p2, upD, hz, hb]
      · simp [p2, upD, hz, hb]
    · simp [p2, upD, ha, hz]
theorem p2_0 (D : Dn) : p2 D 0 = D := dn_ext fun a b => by
  by_cases ha : a = 11
  · simp [p2, ha]
  · by_cases hz : a = 0
    · by_cases hb : b = 5
      · simp [p2, hz, hb, smF, Dn.pu]
      · simp [p2, hz, hb]
    · simp [p2, ha, hz]
theorem p2v_0 (D : Dn) : p2v D 0 = D := dn_ext fun a b => by
  by_cases ha : a = 11
  · simp [p2v, ha]
  · simp [p2v, ha]
def carr (D : Dn) (g : Nat) : Nat := fstF (fun u => decide (D.ca u = g + 1)) D.U 0
def newSo (D : Dn) (g : Nat) : Nat := if D.ou g = 0 then D.so g else if carr D g = 0 then (if D.so g + D.ra ≤ 999 then D.so g + D.ra else 999) else D.so g
def nsD (D : Dn) (t g : Nat) : Nat := if barksD D g t = true then D.ba g else 0
def p3 (D : Dn) (t k : Nat) : Dn := fun a b => if a = 7 then (if b < k then newSo D b else D a b) else if a = 0 then (if b = 3 then D.no + smF (nsD D t) k else D a b) else D a b
def p3v (D : Dn) (k : Nat) : Dn := fun a b => if a = 7 then (if b < k then newSo D b else D a b) else D a b
theorem newSo_le {T : Nat} {D : Dn} (o : OkD T D) {g : Nat} (hg : g < D.G) : newSo D g ≤ 999 := by
  have := o.so g hg
  unfold newSo
  split
  · omega
  · split
    · split <;> omega
    · omega
theorem ns_sm {T : Nat} {D : Dn} (o : OkD T D) (t : Nat) {n : Nat} (hn : n ≤ D.G) : smF (nsD D t) n ≤ 9 * n :=
  smF_le fun k hk => by
    have := o.ba k (by omega)
    unfold nsD
    split <;> omega
theorem carr_le (D : Dn) (g : Nat) : carr D g ≤ D.U := by
  rcases fstF_ok (fun u => decide (D.ca u = g + 1)) D.U _ 0 rfl with e | ⟨_, h2, _⟩
  · unfold carr; omega
  · exact h2
theorem p3v_s (D : Dn) (k : Nat) : p3v D (k + 1) = upD (p3v D k) 7 k (newSo D k) := dn_ext fun a b => by
  by_cases ha : a = 7
  · by_cases hb : b = k
    · simp [p3v, upD, ha, hb]
    · by_cases hc : b < k
      · have hd : b < k + 1 := by omega
        simp [p3v, upD, ha, hb, hc, hd]
      · have hd : ¬ b < k + 1 := by omega
        simp [p3v, upD, ha, hb, hc, hd]
  · simp [p3v, upD, ha]
theorem p3_v (D : Dn) (t k : Nat) : p3 D t k = upD (p3v D k) 0 3 (D.no + smF (nsD D t) k) := dn_ext fun a b => by
  by_cases ha : a = 7
  · simp [p3, p3v, upD, ha]
  · by_cases hb : a = 0
    · simp [p3, p3v, upD, hb]
    · simp [p3, p3v, upD, ha, hb]
theorem p3_s (D : Dn) (t k : Nat) : p3 D t (k + 1) = upD (upD (p3 D t k) 7 k (newSo D k)) 0 3 (D.no + smF (nsD D t) (k + 1)) := dn_ext fun a b => by
  by_cases ha : a = 7
  · by_cases hb : b = k
    · simp [p3, upD, ha, hb]
    · by_cases hc : b < k
      · have hd : b < k + 1 := by omega
        simp [p3, upD, ha, hb, hc, hd]
      · have hd : ¬ b < k + 1 := by omega
        simp [p3, upD, ha, hb, hc, hd]
  · by_cases hz : a = 0
    · by_cases hb : b = 3
      · simp [p3, upD, hz, hb]
      · simp [p3, upD, hz, hb]
    · simp [p3, upD, ha, hz]
theorem p3_0 (D : Dn) (t : Nat) : p3 D t 0 = D := dn_ext fun a b => by
  by_cases ha : a = 7
  · simp [p3, ha]
  · by_cases hz : a = 0
    · by_cases hb : b = 3
      · simp [p3, hz, hb, smF, Dn.no]
      · simp [p3, hz, hb]
    · simp [p3, ha, hz]
theorem p3v_0 (D : Dn) : p3v D 0 = D := dn_ext fun a b => by
  by_cases ha : a = 7
  · simp [p3v, ha]
  · simp [p3v, ha]
theorem OkD.s_so {T : Nat} {D : Dn} (o : OkD T D) {g v : Nat} (hv : v ≤ 999) : OkD T (upD D 7 g v) :=
  ⟨o.tT,
  o.mi,
  o.ra,
  o.li,
  o.no,
  o.co,
  o.pu,
  o.ti,
  o.G,
  o.U,
  o.R,
  o.ln,
  o.lt,
  o.gi,
  o.ba,
  o.ou,
  o.si,
  fun k hk => by
    show upD D 7 g v 7 k ≤ 999
    by_cases c : k = g
    · subst c; rw [upD_hit]; exact hv
    · rw [upD_miss _ _ _ _ c]; exact o.so k hk,
  o.wk,
  o.wa,
  o.ow,
  o.we,
  o.ca,
  o.eg,
  o.el,
  o.ew,
  o.up⟩
theorem ok_q2 {T : Nat} {D : Dn} (o : OkD T D) (hm : D.mi < 960) {n : Nat} (hn : n ≤ D.U) : OkD T (p2 (upD D 0 0 (D.mi + 1)) n) :=
  ⟨o.tT,
  hm,
  o.ra,
  o.li,
  by have := o.no; show D.no ≤ 90 * (D.mi + 1); omega,
  by have := o.co; show D.co ≤ D.mi + 1; omega,
  by have := o.pu; have h := drp_sm D n; have := o.U; show D.pu + smF (drp D) n ≤ 12 * (D.mi + 1); omega,
  o.ti,
  o.G,
  o.U,
  o.R,
  o.ln,
  o.lt,
  o.gi,
  o.ba,
  o.ou,
  fun k hk => Nat.le_succ_of_le (o.si k hk),
  o.so,
  o.wk,
  fun k hk h => Nat.le_succ_of_le (o.wa k hk h),
  o.ow,
  fun k hk => by
    show (if k < n then newWe D k else D.we k) ≤ 99
    split
    · exact newWe_le o hk
    · exact o.we k hk,
  o.ca,
  o.eg,
  o.el,
  fun k hk => Nat.le_succ_of_le (o.ew k hk),
  o.up⟩
theorem ok_p3 {T : Nat} {D : Dn} (o : OkD T D) {t n : Nat} (hno : D.no + 90 ≤ 90 * D.mi) (hn : n ≤ D.G) : OkD T (p3 D t n) :=
  ⟨o.tT,
  o.mi,
  o.ra,
  o.li,
  by have h := ns_sm o t hn; have := o.G; show D.no + smF (nsD D t) n ≤ 90 * D.mi; omega,
  o.co,
  o.pu,
  o.ti,
  o.G,
  o.U,
  o.R,
  o.ln,
  o.lt,
  o.gi,
  o.ba,
  o.ou,
  o.si,
  fun k hk => by
    show (if k < n then newSo D k else D.so k) ≤ 999
    split
    · exact newSo_le o hk
    · exact o.so k hk,
  o.wk,
  o.wa,
  o.ow,
  o.we,
  o.ca,
  o.eg,
  o.el,
  o.ew,
  o.up⟩
theorem ok_p3v {T : Nat} {D : Dn} (o : OkD T D) {n : Nat} : OkD T (p3v D n) :=
  ⟨o.tT,
  o.mi,
  o.ra,
  o.li,
  o.no,
  o.co,
  o.pu,
  o.ti,
  o.G,
  o.U,
  o.R,
  o.ln,
  o.lt,
  o.gi,
  o.ba,
  o.ou,
  o.si,
  fun k hk => by
    show (if k < n then newSo D k else D.so k) ≤ 999
    split
    · exact newSo_le o hk
    · exact o.so k hk,
  o.wk,
  o.wa,
  o.ow,
  o.we,
  o.ca,
  o.eg,
  o.el,
  o.ew,
  o.up⟩
theorem OkD.s_no {T : Nat} {D : Dn} (o : OkD T D) {v : Nat} (hv : v ≤ 90 * D.mi) : OkD T (upD D 0 3 v) :=
  ⟨o.tT,
  o.mi,
  o.ra,
  o.li,
  hv,
  o.co,
  o.pu,
  o.ti,
  o.G,
  o.U,
  o.R,
  o.ln,
  o.lt,
  o.gi,
  o.ba,
  o.ou,
  o.si,
  o.so,
  o.wk,
  o.wa,
  o.ow,
  o.we,
  o.ca,
  o.eg,
  o.el,
  o.ew,
  o.up⟩
theorem OkD.s_co {T : Nat} {D : Dn} (o : OkD T D) {v : Nat} (hv : v ≤ D.mi) : OkD T (upD D 0 4 v) :=
  ⟨o.tT,
  o.mi,
  o.ra,
  o.li,
  o.no,
  hv,
  o.pu,
  o.ti,
  o.G,
  o.U,
  o.R,
  o.ln,
  o.lt,
  o.gi,
  o.ba,
  o.ou,
  o.si,
  o.so,
  o.wk,
  o.wa,
  o.ow,
  o.we,
  o.ca,
  o.eg,
  o.el,
  o.ew,
  o.up⟩
theorem OkD.s_ra {T : Nat} {D : Dn} (o : OkD T D) {v : Nat} (hv : v ≤ 9) : OkD T (upD D 0 1 v) :=
  ⟨o.tT,
  o.mi,
  hv,
  o.li,
  o.no,
  o.co,
  o.pu,
  o.ti,
  o.G,
  o.U,
  o.R,
  o.ln,
  o.lt,
  o.gi,
  o.ba,
  o.ou,
  o.si,
  o.so,
  o.wk,
  o.wa,
  o.ow,
  o.we,
  o.ca,
  o.eg,
  o.el,
  o.ew,
  o.up⟩
theorem OkD.s_li {T : Nat} {D : Dn} (o : OkD T D) {v : Nat} (hv : v ≤ 999) : OkD T (upD D 0 2 v) :=
  ⟨o.tT,
  o.mi,
  o.ra,
  hv,
  o.no,
  o.co,
  o.pu,
  o.ti,
  o.G,
  o.U,
  o.R,
  o.ln,
  o.lt,
  o.gi,
  o.ba,
  o.ou,
  o.si,
  o.so,
  o.wk,
  o.wa,
  o.ow,
  o.we,
  o.ca,
  o.eg,
  o.el,
  o.ew,
  o.up⟩
theorem ok_p2v {T : Nat} {D : Dn} (o : OkD T D) {n : Nat} : OkD T (p2v D n) :=
  ⟨o.tT,
  o.mi,
  o.ra,
  o.li,
  o.no,
  o.co,
  o.pu,
  o.ti,
  o.G,
  o.U,
  o.R,
  o.ln,
  o.lt,
  o.gi,
  o.ba,
  o.ou,
  o.si,
  o.so,
  o.wk,
  o.wa,
  o.ow,
  fun k hk => by
    show (if k < n then newWe D k else D.we k) ≤ 99
    split
    · exact newWe_le o hk
    · exact o.we k hk,
  o.ca,
  o.eg,
  o.el,
  o.ew,
  o.up⟩
def p4 (D : Dn) : Dn := if D.mi % 60 = 0 then upD (upD D 0 4 (if D.no ≤ D.li then D.co else D.co + 1)) 0 3 0 else D
def q2 (D : Dn) : Dn := p2 (upD D 0 0 (D.mi + 1)) D.U
def passD (D : Dn) : Dn := p4 (p3 (q2 D) (D.mi + 1) D.G)
theorem ok_p4 {T : Nat} {D : Dn} (o : OkD T D) (h : D.co + 1 ≤ D.mi) : OkD T (p4 D) := by
  unfold p4
  split
  · refine OkD.s_no (OkD.s_co o ?_) (Nat.zero_le _)
    split <;> omega
  · exact o
theorem ok_pass {T : Nat} {D : Dn} (o : OkD T D) (hm : D.mi < 960) : OkD T (passD D) := by
  have h1 := o.no
  have h2 := o.co
  have oq := ok_q2 o hm (Nat.le_refl D.U)
  have op := ok_p3 (t := D.mi + 1) (n := D.G) oq (show D.no + 90 ≤ 90 * (D.mi + 1) by omega) (Nat.le_refl D.G)
  exact ok_p4 op (show D.co + 1 ≤ D.mi + 1 by omega)
theorem q_min {x c : Nat} (hx : x < 2147483648) (hc : c < 2147483648) {i : Decidable (nI x < nI c)} : @ite _ (nI x < nI c) i (nI x) (nI c) = nI (if x ≤ c then x else c) := by
  by_cases h : x < c
  · rw [if_pos (by rw [q_lt hx hc]; exact h), if_pos (by omega)]
  · rw [if_neg (by rw [q_lt hx hc]; exact h)]
    split
    · exact congrArg nI (by omega)
    · rfl
theorem u_pIn {vN : Nat → Int32} {vG vU vR : Nat → Nat → Int32} {D : Dn} {T : Nat} (m : M8 vN vG vU vR D) (o : OkD T D) : ∃ r, F_X7_passOneIn vU (nI D.ra) = some r ∧ r.1 = nI (smF (drp D) D.U) ∧ M8 vN vG r.2 vR (p2v D D.U) := by
  have hG := o.G
  have hU := o.U
  have hra := o.ra
  refine lp_inv (L := fun n k (x : Int32 × (Nat → Nat → Int32)) => L_X7_passOneIn_4 (nI D.ra) n x.1 k x.2) (I := fun k x => x.1 = nI (smF (drp D) k) ∧ M8 vN vG x.2 vR (p2v D k)) (Q := fun r => r.1 = nI (smF (drp D) D.U) ∧ M8 vN vG r.2 vR (p2v D D.U)) (U := D.U) (fun n k x hk hI => ?_) (fun n x hI => ?_) FU 0 (0, vU) (Nat.zero_le _) (by unfold FU; omega) ⟨rfl, by rw [p2v_0]; exact m⟩
  · obtain ⟨i1, i2⟩ := hI
    have hc : x.2 0 0 = nI D.U := i2.U
    have hca : x.2 3 k = if D.ca k = 0 then m1 else nI (D.ca k - 1) := i2.ca k hk
    have e1 : (p2v D k).we k = D.we k := if_neg (Nat.lt_irrefl k)
    have hwe : x.2 2 k = nI (D.we k) := by rw [i2.we k hk, e1]
    have b2 := o.we k hk
    have b3 := o.ca k hk
    have h8 : ¬ D.U ≤ k := by omega
    have hs := drp_sm D k
    by_cases c : D.ca k = 0
    · by_cases z : D.we k = 0
      · have n1 : newWe D k = D.we k := by unfold newWe; rw [if_pos c, z]
        have n2 : drp D k = 0 := by unfold drp; rw [if_pos c, if_pos z]
        refine ⟨x, ⟨by rw [i1]; simp only [smF, n2, Nat.add_zero], by rw [p2v_s]; exact m8_id i2 (e1.trans n1.symm)⟩, ?_⟩
        simp (disch := omega) only [L_X7_passOneIn_4, B_X7_passOneIn_4, F_X7_stands, q_lit, q_neg, nI_add, q_ck, q_cl, q_sb, hc, hca, hwe, c, z, h8, q_le, q_eq, e10, eq_self, if_true, if_false, Nat.le_refl]
      · have n1 : newWe D k = D.we k - 1 := by unfold newWe; rw [if_pos c]
        have n2 : drp D k = 1 := by unfold drp; rw [if_pos c, if_neg z]
        have hz : ¬ D.we k ≤ 0 := by omega
        refine ⟨(nI (smF (drp D) k + 1), va_up x.2 2 (upd (x.2 2) k (nI (newWe D k)))), ⟨by simp only [smF, n2], by rw [p2v_s]; exact i2.s_we⟩, ?_⟩
        rw [n1]
        simp (disch := omega) only [L_X7_passOneIn_4, B_X7_passOneIn_4, F_X7_stands, q_lit, q_neg, nI_add, q_ck, q_cl, q_sb, q_lt0, hc, hca, hwe, c, hz, h8, q_le, q_eq, e10, eq_self, if_true, if_false, i1, q_sub]
    · have n1 : newWe D k = if D.we k + D.ra ≤ 99 then D.we k + D.ra else 99 := by unfold newWe; rw [if_neg c]
      have n2 : drp D k = 0 := by unfold drp; rw [if_neg c]
      refine ⟨(x.1, va_up x.2 2 (upd (x.2 2) k (nI (newWe D k)))), ⟨by rw [i1]; simp only [smF, n2, Nat.add_zero], by rw [p2v_s]; exact i2.s_we⟩, ?_⟩
      rw [n1]
      simp (disch := omega) only [L_X7_passOneIn_4, B_X7_passOneIn_4, F_X7_stands, q_lit, q_neg, nI_add, q_ck, q_cl, q_sb, q_lt0, hc, hca, hwe, c, h8, q_le, eq_self, if_true, if_false, q_m1e, q_min]
  · obtain ⟨i1, i2⟩ := hI
    have hc : x.2 0 0 = nI D.U := i2.U
    refine ⟨x, ?_, i1, i2⟩
    simp (disch := omega) only [L_X7_passOneIn_4, B_X7_passOneIn_4, hc, q_le, Nat.le_refl, if_true]
theorem u_noise {vN : Nat → Int32} {vG vU vR : Nat → Nat → Int32} {D : Dn} {T t : Nat} (m : M8 vN vG vU vR D) (o : OkD T D) (ht : t ≤ 1000) (hm : D.mi ≤ t) : F_X1_noiseAt vG (nI t) = some (nI (smF (nsD D t) D.G)) := by
  have hG := o.G
  refine lp_acc (L := fun n k (a : Int32) => L_X1_noiseAt_4 vG (nI t) n a k) (a := fun k => nI (smF (nsD D t) k)) (U := D.G) (fun n k hk => ?_) (fun n => ?_) FU 0 (Nat.zero_le _) (by unfold FU; omega)
  · have h1 := u_barks m o hk ht hm
    have h2 := o.ba k hk
    have h8 : ¬ D.G ≤ k := by omega
    cases hb : barksD D k t
    · rw [hb] at h1
      have n1 : nsD D t k = 0 := by unfold nsD; rw [hb]; rfl
      simp (disch := omega) only [L_X1_noiseAt_4, B_X1_noiseAt_4, q_lit, nI_add, m.G, q_le, h8, if_false, h1, q_sb, Bool.toNat_false, eq_self, if_true, smF, n1, Nat.add_zero]
    · rw [hb] at h1
      have n1 : nsD D t k = D.ba k := by unfold nsD; rw [hb]; rfl
      simp (disch := omega) only [L_X1_noiseAt_4, B_X1_noiseAt_4, q_lit, nI_add, q_ck, q_cl, m.G, m.ba, q_le, h8, if_false, h1, q_sb, Bool.toNat_true, q_eq, e10, smF, n1]
  · simp (disch := omega) only [L_X1_noiseAt_4, B_X1_noiseAt_4, m.G, q_le, Nat.le_refl, if_true]
theorem u_soak {vN : Nat → Int32} {vG vU vR : Nat → Nat → Int32} {D : Dn} {T : Nat} (m : M8 vN vG vU vR D) (o : OkD T D) : ∃ r, F_X3_soakGuests vN vG vU = some r ∧ M8 vN r vU vR (p3v D D.G) := by
  have hG := o.G
  have hU := o.U
  refine lp_inv (L := fun n k (x : Nat → Nat → Int32) => L_X3_soakGuests_2 vN vU n k x) (I := fun k x => M8 vN x vU vR (p3v D k)) (Q := fun r => M8 vN r vU vR (p3v D D.G)) (U := D.G) (fun n k x hk hI => ?_) (fun n x hI => ?_) FU 0 vG (Nat.zero_le _) (by unfold FU; omega) (by rw [p3v_0]; exact m)
  · have ok := ok_p3v (n := k) o
    have hc : x 0 0 = nI D.G := hI.G
    have h1 : F_X1_isAway x (nI k) = some (nI (D.ou k)) := u_isAway hI ok hk
    have h2 : F_X7_carriedBy vU (nI k) = some (nz (carr D k)) := (u_carried hI ok hk).trans (congrArg some (fst1_nz _ _ _ _ rfl))
    have h3 := carr_le D k
    have e1 : (p3v D k).so k = D.so k := if_neg (Nat.lt_irrefl k)
    have hso : x 6 k = nI (D.so k) := by rw [hI.so k hk, e1]
    have b1 := o.ra
    have b2 := o.so k hk
    have b3 := o.ou k hk
    have hra : vN 1 = nI D.ra := m.ra
    have h8 : ¬ D.G ≤ k := by omega
    rw [p3v_s]
    by_cases c : D.ou k = 0
    · have n1 : newSo D k = D.so k := by unfold newSo; rw [if_pos c]
      refine ⟨x, m8_id hI (e1.trans n1.symm), ?_⟩
      rw [c] at h1
      simp (disch := omega) only [L_X3_soakGuests_2, B_X3_soakGuests_2, q_lit, nI_add, hc, q_le, h8, h1, q_sb, eq_self, if_true, if_false]
    · have c1 : D.ou k = 1 := by omega
      rw [c1] at h1
      by_cases z : carr D k = 0
      · have n1 : newSo D k = if D.so k + D.ra ≤ 999 then D.so k + D.ra else 999 := by unfold newSo; rw [if_neg c, if_pos z]
        refine ⟨va_up x 6 (upd (x 6) k (nI (newSo D k))), hI.s_so, ?_⟩
        rw [n1]
        rw [z, nz_0] at h2
        simp (disch := omega) only [L_X3_soakGuests_2, B_X3_soakGuests_2, F_X1_soakBy, q_lit, q_neg, nI_add, q_ck, q_cl, hc, q_le, h8, h1, h2, hso, hra, q_sb, q_lt0, eq_self, if_true, if_false, q_eq, e10, q_min]
      · have n1 : newSo D k = D.so k := by unfold newSo; rw [if_neg c, if_neg z]
        refine ⟨x, m8_id hI (e1.trans n1.symm), ?_⟩
        simp (disch := omega) only [L_X3_soakGuests_2, B_X3_soakGuests_2, q_lit, q_neg, nI_add, hc, q_le, h8, h1, h2, q_sb, if_false, q_eq, e10, q_nzm, z]
  · have hc : x 0 0 = nI D.G := hI.G
    refine ⟨x, ?_, hI⟩
    simp (disch := omega) only [L_X3_soakGuests_2, B_X3_soakGuests_2, hc, q_le, Nat.le_refl, if_true]
theorem u_passOne {vN : Nat → Int32} {vG vU vR : Nat → Nat → Int32} {D : Dn} {T : Nat} (m : M8 vN vG vU vR D) (o : OkD T D) (hm : D.mi < 960) : ∃ r, F_X3_passOne vN vG vU = some r ∧ M8 r.1 r.2.1 r.2.2 vR (passD D) := by
  have hno := o.no
  have hco := o.co
  have hpu := o.pu
  have hli := o.li
  have hG := o.G
  have hU := o.U
  have o1 : OkD T (upD D 0 0 (D.mi + 1)) := by
    have := ok_q2 (n := 0) o hm (Nat.zero_le _)
    rw [p2_0] at this
    exact this
  have m1 := m.s_mi (v := D.mi + 1)
  obtain ⟨r1, f1, g1, m2⟩ := u_pIn m1 o1
  have hs := drp_sm D D.U
  have m3 := m2.s_pu (v := D.pu + smF (drp D) D.U)
  rw [show upD (p2v (upD D 0 0 (D.mi + 1)) (upD D 0 0 (D.mi + 1)).U) 0 5 (D.pu + smF (drp D) D.U) = q2 D from (p2_v (upD D 0 0 (D.mi + 1)) D.U).symm] at m3
  have o3 : OkD T (q2 D) := ok_q2 o hm (Nat.le_refl _)
  obtain ⟨vG', f2, m4⟩ := u_soak m3 o3
  have o4 := ok_p3v (n := D.G) o3
  have f3' := u_noise (t := D.mi + 1) m4 o4 (by omega) (Nat.le_refl (D.mi + 1))
  have f3 : F_X1_noiseAt vG' (nI (D.mi + 1)) = some (nI (smF (nsD (q2 D) (D.mi + 1)) D.G)) := f3'
  have hn := ns_sm o3 (D.mi + 1) (n := D.G) (Nat.le_refl D.G)
  have m5 := m4.s_no (v := D.no + smF (nsD (q2 D) (D.mi + 1)) D.G)
  rw [show upD (p3v (q2 D) (q2 D).G) 0 3 (D.no + smF (nsD (q2 D) (D.mi + 1)) D.G) = p3 (q2 D) (D.mi + 1) D.G from (p3_v (q2 D) (D.mi + 1) D.G).symm] at m5
  have hd : (D.mi + 1) / 60 * 60 ≤ D.mi + 1 := Nat.div_mul_le_self _ _
  have e0 : vN 0 = nI D.mi := m.mi
  have e1 : va_up vN 0 (nI (D.mi + 1)) 1 = nI D.ra := m.ra
  have e2 : va_up vN 0 (nI (D.mi + 1)) 5 = nI D.pu := m.pu
  have e3 : va_up (va_up vN 0 (nI (D.mi + 1))) 5 (nI (D.pu + smF (drp D) D.U)) 0 = nI (D.mi + 1) := rfl
  have e4 : va_up (va_up vN 0 (nI (D.mi + 1))) 5 (nI (D.pu + smF (drp D) D.U)) 3 = nI D.no := m.no
  have g1' : r1.1 = nI (smF (drp D) D.U) := g1
  have f1' : F_X7_passOneIn vU (nI D.ra) = some r1 := f1
  by_cases c : (D.mi + 1) % 60 = 0
  · have c' : D.mi + 1 - (D.mi + 1) / 60 * 60 = 0 := by omega
    by_cases z : D.no + smF (nsD (q2 D) (D.mi + 1)) D.G ≤ D.li
    · refine ⟨(va_up (va_up (va_up (va_up vN 0 (nI (D.mi + 1))) 5 (nI (D.pu + smF (drp D) D.U))) 3 (nI (D.no + smF (nsD (q2 D) (D.mi + 1)) D.G))) 3 (nI 0), vG', r1.2), ?_, ?_⟩
      rotate_left
      · unfold passD p4
        rw [show (p3 (q2 D) (D.mi + 1) D.G).mi = D.mi + 1 from rfl, if_pos c, show (p3 (q2 D) (D.mi + 1) D.G).no = D.no + smF (nsD (q2 D) (D.mi + 1)) D.G from rfl, show (p3 (q2 D) (D.mi + 1) D.G).li = D.li from rfl, if_pos z]
        have m6 := m8_id (f := 0) (k := 4) (v := D.co) m5 rfl
        exact m6.s_no
      · have e5 : va_up (va_up (va_up vN 0 (nI (D.mi + 1))) 5 (nI (D.pu + smF (drp D) D.U))) 3 (nI (D.no + smF (nsD (q2 D) (D.mi + 1)) D.G)) 2 = nI D.li := m.li
        have e6 : va_up (va_up (va_up vN 0 (nI (D.mi + 1))) 5 (nI (D.pu + smF (drp D) D.U))) 3 (nI (D.no + smF (nsD (q2 D) (D.mi + 1)) D.G)) 0 = nI (D.mi + 1) := rfl
        simp (disch := omega) only [F_X3_passOne, q_lit, nI_add, q_lt0, e0, e1, e2, e3, e4, e5, e6, f1', g1', f2, f3, q_sb, va_eq, q_div, pk_mul, q_sub, c', eq_self, if_true, q_le, z]
    · refine ⟨(va_up (va_up (va_up (va_up (va_up vN 0 (nI (D.mi + 1))) 5 (nI (D.pu + smF (drp D) D.U))) 3 (nI (D.no + smF (nsD (q2 D) (D.mi + 1)) D.G))) 4 (nI (D.co + 1))) 3 (nI 0), vG', r1.2), ?_, ?_⟩
      rotate_left
      · unfold passD p4
        rw [show (p3 (q2 D) (D.mi + 1) D.G).mi = D.mi + 1 from rfl, if_pos c, show (p3 (q2 D) (D.mi + 1) D.G).no = D.no + smF (nsD (q2 D) (D.mi + 1)) D.G from rfl, show (p3 (q2 D) (D.mi + 1) D.G).li = D.li from rfl, if_neg z]
        exact m5.s_co.s_no
      · have e5 : va_up (va_up (va_up vN 0 (nI (D.mi + 1))) 5 (nI (D.pu + smF (drp D) D.U))) 3 (nI (D.no + smF (nsD (q2 D) (D.mi + 1)) D.G)) 2 = nI D.li := m.li
        have e6 : va_up (va_up (va_up vN 0 (nI (D.mi + 1))) 5 (nI (D.pu + smF (drp D) D.U))) 3 (nI (D.no + smF (nsD (q2 D) (D.mi + 1)) D.G)) 0 = nI (D.mi + 1) := rfl
        have e7 : va_up (va_up (va_up vN 0 (nI (D.mi + 1))) 5 (nI (D.pu + smF (drp D) D.U))) 3 (nI (D.no + smF (nsD (q2 D) (D.mi + 1)) D.G)) 4 = nI D.co := m.co
        simp (disch := omega) only [F_X3_passOne, q_lit, nI_add, q_lt0, e0, e1, e2, e3, e4, e5, e6, e7, f1', g1', f2, f3, q_sb, va_eq, q_div, pk_mul, q_sub, c', eq_self, if_true, if_false, q_le, z]
  · have c' : ¬ D.mi + 1 - (D.mi + 1) / 60 * 60 = 0 := by omega
    refine ⟨((va_up (va_up (va_up vN 0 (nI (D.mi + 1))) 5 (nI (D.pu + smF (drp D) D.U))) 3 (nI (D.no + smF (nsD (q2 D) (D.mi + 1)) D.G))), vG', r1.2), ?_, ?_⟩
    rotate_left
    · unfold passD p4
      rw [show (p3 (q2 D) (D.mi + 1) D.G).mi = D.mi + 1 from rfl, if_neg c]
      exact m5
    · have e6 : va_up (va_up (va_up vN 0 (nI (D.mi + 1))) 5 (nI (D.pu + smF (drp D) D.U))) 3 (nI (D.no + smF (nsD (q2 D) (D.mi + 1)) D.G)) 0 = nI (D.mi + 1) := rfl
      simp (disch := omega) only [F_X3_passOne, q_lit, nI_add, q_lt0, e0, e1, e2, e3, e4, e6, f1', g1', f2, f3, q_sb, va_eq, q_div, pk_mul, q_sub, c', if_false, q_eq]

