/-! the law's methods -/
theorem W.eqS {p : Program} {l : Launch} {e : Env} {R : Room} {s : State} {m : MethodId} {args : Array Value} {below : List Frame} {meth : Method} {c : Code} {H : Heap} {locs : List Loc} {cells slots n : Nat} {Q : State → Prop} {g : JFrame} (h : slots = n) (k : W p l e R s m args below meth c H locs cells n Q g) : W p l e R s m args below meth c H locs cells slots Q g := h ▸ k
theorem sw_out {x : Int32} {n : Nat} (h : ∀ j : Nat, j < n → x ≠ nI j) (hn : n < 1000 := by decide) : x.toInt < 0 ∨ ((n : Int) - 1) < x.toInt := by
  refine Decidable.byContradiction fun h9 => ?_
  have h1 : 0 ≤ x.toInt ∧ x.toInt ≤ (n : Int) - 1 := by omega
  refine h x.toInt.toNat (by omega) (Int32.toInt_inj.mp ?_)
  rw [nI_toInt (by omega)]
  omega
set_option maxRecDepth 100000 in
theorem cs_L_call_ : CS yL_call_ RL cL_call_ 4 (some .int) 4 := ⟨GA_of (tb6 (List.mem_of_getElem? (i := 88) rfl)) (by decide +kernel), GA_of (tb6 (List.mem_of_getElem? (i := 87) (by decide +kernel))) (by decide +kernel), ini_L, rfl, by decide +kernel⟩
set_option maxRecDepth 100000 in
theorem cs_L_call__ : CS yL_call__ RL cL_call__ 3 (some .int) 3 := ⟨GA_of (tb2 (List.mem_of_getElem? (i := 229) rfl)) (by decide +kernel), GA_of (tb2 (List.mem_of_getElem? (i := 228) (by decide +kernel))) (by decide +kernel), ini_L, rfl, by decide +kernel⟩
set_option maxRecDepth 100000 in
theorem cs_L_state : CS yL_state RL cL_state 5 (some .long) 1 := ⟨GA_of (tb6 (List.mem_of_getElem? (i := 51) rfl)) (by decide +kernel), GA_of (tb6 (List.mem_of_getElem? (i := 50) (by decide +kernel))) (by decide +kernel), ini_L, rfl, by decide +kernel⟩
set_option maxRecDepth 100000 in
theorem cs_L_does : CS yL_does RL cL_does 7 (some .boolean) 3 := ⟨GA_of (tb6 (List.mem_of_getElem? (i := 136) rfl)) (by decide +kernel), GA_of (tb6 (List.mem_of_getElem? (i := 135) (by decide +kernel))) (by decide +kernel), ini_L, rfl, by decide +kernel⟩
set_option maxRecDepth 100000 in
theorem cs_L_register : CS yL_register RL cL_register 19 (some .boolean) 1 := ⟨GA_of (tb6 (List.mem_of_getElem? (i := 85) rfl)) (by decide +kernel), GA_of (tb6 (List.mem_of_getElem? (i := 84) (by decide +kernel))) (by decide +kernel), ini_L, rfl, by decide +kernel⟩
set_option maxRecDepth 100000 in
theorem cs_L_alibis : CS yL_alibis RL cL_alibis 16 (some .boolean) 3 := ⟨GA_of (tb6 (List.mem_of_getElem? (i := 126) rfl)) (by decide +kernel), GA_of (tb6 (List.mem_of_getElem? (i := 125) (by decide +kernel))) (by decide +kernel), ini_L, rfl, by decide +kernel⟩
set_option maxRecDepth 100000 in
theorem cs_L_goes : CS yL_goes RL cL_goes 13 (some .boolean) 1 := ⟨GA_of (tb6 (List.mem_of_getElem? (i := 130) rfl)) (by decide +kernel), GA_of (tb6 (List.mem_of_getElem? (i := 129) (by decide +kernel))) (by decide +kernel), ini_L, rfl, by decide +kernel⟩
set_option maxRecDepth 100000 in
theorem cs_L_passes : CS yL_passes RL cL_passes 17 (some .boolean) 2 := ⟨GA_of (tb6 (List.mem_of_getElem? (i := 133) rfl)) (by decide +kernel), GA_of (tb6 (List.mem_of_getElem? (i := 132) (by decide +kernel))) (by decide +kernel), ini_L, rfl, by decide +kernel⟩
set_option maxRecDepth 100000 in
theorem cs_L_feeds : CS yL_feeds RL cL_feeds 5 (some .boolean) 2 := ⟨GA_of (tb5 (List.mem_of_getElem? (i := 28) rfl)) (by decide +kernel), GA_of (tb5 (List.mem_of_getElem? (i := 27) (by decide +kernel))) (by decide +kernel), ini_L, rfl, by decide +kernel⟩
set_option maxRecDepth 100000 in
theorem cs_L_night : CS yL_night RL cL_night 7 (some (.object "java/lang/String")) 2 := ⟨GA_of (tb5 (List.mem_of_getElem? (i := 33) rfl)) (by decide +kernel), GA_of (tb5 (List.mem_of_getElem? (i := 32) (by decide +kernel))) (by decide +kernel), ini_L, rfl, by decide +kernel⟩
