set_option maxHeartbeats 4000000 in
set_option maxRecDepth 100000 in
theorem k_first (l : Launch) (dC : Nat → ClassId) (dI : Nat → Nat → Nat) (g k : Nat → Nat) (tl : List (ClassId × FieldType)) (u : jU) (r a : Int32) (hr8 : inN r 8) : jMet l y_H_firstOf (.code y_H_firstOf c_H_firstOf 3 (some .int)) ({ frames := 0, cells := 0, slots := 0, locals := 0 }) (dC, dI) jcl (ctys k tl) jTs [.ref (g 0), .int r, .int a] (cw g k u) 0 0 (jRet (some (.int (pFst u r a))) (cw g k u)) := by
  refine jMet.of (by decide) (Nat.le_of_ble_eq_true rfl) ?_
  intro p e s m below meth c A hC hex hr hnm htr
  show jJ p l e ({ frames := 0, cells := 0, slots := 0, locals := 0 }) s m [.ref (g 0), .int r, .int a].toArray below meth c 3 (dC, dI) jcl A (hxQ below (jQ (dC, dI) jcl (jRet (some (.int (pFst u r a))) (cw g k u)) A) [.ref (g 0), .int r, .int a].toArray s 0 0 A) 0 0 (cw g k u) [(0, .ref (g 0)), (1, .int r), (2, .int a)] [] 0
  refine j_aload_n hC d_H_firstOf_0 rfl 0 rfl ?_
  refine j_get hC hin_H (0) (cw_house g k u) rfl 0 (by decide) (hC.2.2.2.2.1 _ wf_H_11) (fun _ h9 => h9) rfl d_H_firstOf_1 ?_
  refine j_iload_n hC d_H_firstOf_4 rfl 1 rfl ?_
  refine j_ialdN hC (1) 0 (cw_places g k u) rfl (n := tn r) (hr8.1) (hr8.2) (by decide) d_H_firstOf_5 ?_
  refine j_iconst (v := 1) hC d_H_firstOf_6 (by decide) ?_
  refine j_icmp_lt (tgt := 14) hC d_H_firstOf_7 (by decide) (fun h7 => ?_) (fun h7 => ?_)
  · refine j_iconst (v := 0) hC d_H_firstOf_14 (by decide) ?_
    exact j_iret hC hr ⟨rfl, congrArg (fun z => some (Value.int z)) ((if_pos h7).symm), rfl⟩ d_H_firstOf_15
  · refine j_iload_n hC d_H_firstOf_10 rfl 2 rfl ?_
    refine j_goto (tgt := 15) hC d_H_firstOf_11 (by decide) ?_
    exact j_iret hC hr ⟨rfl, congrArg (fun z => some (Value.int z)) ((if_neg h7).symm), rfl⟩ d_H_firstOf_15

set_option maxHeartbeats 4000000 in
set_option maxRecDepth 100000 in
theorem k_second (l : Launch) (dC : Nat → ClassId) (dI : Nat → Nat → Nat) (g k : Nat → Nat) (tl : List (ClassId × FieldType)) (u : jU) (r b : Int32) (hr8 : inN r 8) : jMet l y_H_secondOf (.code y_H_secondOf c_H_secondOf 3 (some .int)) ({ frames := 0, cells := 0, slots := 0, locals := 0 }) (dC, dI) jcl (ctys k tl) jTs [.ref (g 0), .int r, .int b] (cw g k u) 0 0 (jRet (some (.int (pSnd u r b))) (cw g k u)) := by
  refine jMet.of (by decide) (Nat.le_of_ble_eq_true rfl) ?_
  intro p e s m below meth c A hC hex hr hnm htr
  show jJ p l e ({ frames := 0, cells := 0, slots := 0, locals := 0 }) s m [.ref (g 0), .int r, .int b].toArray below meth c 3 (dC, dI) jcl A (hxQ below (jQ (dC, dI) jcl (jRet (some (.int (pSnd u r b))) (cw g k u)) A) [.ref (g 0), .int r, .int b].toArray s 0 0 A) 0 0 (cw g k u) [(0, .ref (g 0)), (1, .int r), (2, .int b)] [] 0
  refine j_aload_n hC d_H_secondOf_0 rfl 0 rfl ?_
  refine j_get hC hin_H (0) (cw_house g k u) rfl 0 (by decide) (hC.2.2.2.2.1 _ wf_H_11) (fun _ h9 => h9) rfl d_H_secondOf_1 ?_
  refine j_iload_n hC d_H_secondOf_4 rfl 1 rfl ?_
  refine j_ialdN hC (1) 0 (cw_places g k u) rfl (n := tn r) (hr8.1) (hr8.2) (by decide) d_H_secondOf_5 ?_
  refine j_iconst (v := 2) hC d_H_secondOf_6 (by decide) ?_
  refine j_icmp_lt (tgt := 14) hC d_H_secondOf_7 (by decide) (fun h7 => ?_) (fun h7 => ?_)
  · refine j_iconst (v := 0) hC d_H_secondOf_14 (by decide) ?_
    exact j_iret hC hr ⟨rfl, congrArg (fun z => some (Value.int z)) ((if_pos h7).symm), rfl⟩ d_H_secondOf_15
  · refine j_iload_n hC d_H_secondOf_10 rfl 2 rfl ?_
    refine j_goto (tgt := 15) hC d_H_secondOf_11 (by decide) ?_
    exact j_iret hC hr ⟨rfl, congrArg (fun z => some (Value.int z)) ((if_neg h7).symm), rfl⟩ d_H_secondOf_15

set_option maxHeartbeats 4000000 in
set_option maxRecDepth 100000 in
theorem k_con (l : Launch) (dC : Nat → ClassId) (dI : Nat → Nat → Nat) (g k : Nat → Nat) (tl : List (ClassId × FieldType)) (u : jU) (x : Int32) : jMet l y_H_isConstant (.code y_H_isConstant c_H_isConstant 1 (some .boolean)) ({ frames := 0, cells := 0, slots := 0, locals := 0 }) (dC, dI) jcl (ctys k tl) jTs [.int x] (cw g k u) 0 0 (jRet (some (.int (b2i (pCon x)))) (cw g k u)) := by
  refine jMet.of (by decide) (Nat.le_of_ble_eq_true rfl) ?_
  intro p e s m below meth c A hC hex hr hnm htr
  show jJ p l e ({ frames := 0, cells := 0, slots := 0, locals := 0 }) s m [.int x].toArray below meth c 1 (dC, dI) jcl A (hxQ below (jQ (dC, dI) jcl (jRet (some (.int (b2i (pCon x)))) (cw g k u)) A) [.int x].toArray s 0 0 A) 0 0 (cw g k u) [(0, .int x)] [] 0
  refine j_iload_n hC d_H_isConstant_0 rfl 0 rfl ?_
  refine j_if_lt (tgt := 14) hC d_H_isConstant_1 (by decide) (fun h1 => ?_) (fun h1 => ?_)
  · refine j_iconst (v := 0) hC d_H_isConstant_14 (by decide) ?_
    exact j_zret hC hr (rfl) ⟨rfl, congrArg (fun z => some (Value.int z)) (by simp [pCon, b2i, h1]), rfl⟩ d_H_isConstant_15
  · refine j_iload_n hC d_H_isConstant_4 rfl 0 rfl ?_
    refine j_bipush (v := 12) hC d_H_isConstant_5 (by decide) ?_
    refine j_icmp_ge (tgt := 14) hC d_H_isConstant_7 (by decide) (fun h7 => ?_) (fun h7 => ?_)
    · refine j_iconst (v := 0) hC d_H_isConstant_14 (by decide) ?_
      exact j_zret hC hr (rfl) ⟨rfl, congrArg (fun z => some (Value.int z)) (by simp [pCon, b2i, h1, h7]), rfl⟩ d_H_isConstant_15
    · refine j_iconst (v := 1) hC d_H_isConstant_10 (by decide) ?_
      refine j_goto (tgt := 15) hC d_H_isConstant_11 (by decide) ?_
      exact j_zret hC hr (rfl) ⟨rfl, congrArg (fun z => some (Value.int z)) (by simp [pCon, b2i, h1, h7]), rfl⟩ d_H_isConstant_15

set_option maxHeartbeats 4000000 in
set_option maxRecDepth 100000 in
theorem k_term (l : Launch) (dC : Nat → ClassId) (dI : Nat → Nat → Nat) (g k : Nat → Nat) (tl : List (ClassId × FieldType)) (u : jU) (x : Int32) : jMet l y_H_isTerm (.code y_H_isTerm c_H_isTerm 1 (some .boolean)) ({ frames := 1, cells := 0, slots := 0, locals := 20 }) (dC, dI) jcl (ctys k tl) jTs [.int x] (cw g k u) 0 0 (jRet (some (.int (b2i (pTerm x)))) (cw g k u)) := by
  refine jMet.of (by decide) (Nat.le_of_ble_eq_true rfl) ?_
  intro p e s m below meth c A hC hex hr hnm htr
  show jJ p l e ({ frames := 1, cells := 0, slots := 0, locals := 20 }) s m [.int x].toArray below meth c 1 (dC, dI) jcl A (hxQ below (jQ (dC, dI) jcl (jRet (some (.int (b2i (pTerm x)))) (cw g k u)) A) [.int x].toArray s 0 0 A) 0 0 (cw g k u) [(0, .int x)] [] 0
  refine j_iload_n hC d_H_isTerm_0 rfl 0 rfl ?_
  refine j_callSr (As := [.int x]) (rest := []) (st1 := [.int (b2i (pCon x))]) hC (k_con l dC dI g k tl u x) rfl rfl ww_H_156 yn_H_isConstant rfl d_H_isTerm_1 (Nat.le_of_ble_eq_true rfl) (by decide) ⟨Nat.zero_le _, Nat.zero_le _⟩ rfl ?_
  refine j_if_ne (tgt := 19) hC d_H_isTerm_4 (by decide) (fun h4 => ?_) (fun h4 => ?_)
  · refine j_iconst (v := 1) hC d_H_isTerm_19 (by decide) ?_
    refine j_goto (tgt := 24) hC d_H_isTerm_20 (by decide) ?_
    exact j_zret hC hr (rfl) ⟨rfl, congrArg (fun z => some (Value.int z)) (by have e9 : pTerm x = true := (by unfold pTerm; simp only [decide_eq_true_eq, decide_eq_false_iff_not]; first | exact Or.inl h4 | (have := h4; simp_all)); rw [e9]; rfl), rfl⟩ d_H_isTerm_24
  · refine j_iload_n hC d_H_isTerm_7 rfl 0 rfl ?_
    refine j_bipush (v := 20) hC d_H_isTerm_8 (by decide) ?_
    refine j_icmp_lt (tgt := 23) hC d_H_isTerm_10 (by decide) (fun h10 => ?_) (fun h10 => ?_)
    · refine j_iconst (v := 0) hC d_H_isTerm_23 (by decide) ?_
      exact j_zret hC hr (rfl) ⟨rfl, congrArg (fun z => some (Value.int z)) (by have e9 : pTerm x = false := (by unfold pTerm; simp only [decide_eq_true_eq, decide_eq_false_iff_not]; first | exact Or.inl h4 | (have := h10; simp_all)); rw [e9]; rfl), rfl⟩ d_H_isTerm_24
    · refine j_iload_n hC d_H_isTerm_13 rfl 0 rfl ?_
      refine j_bipush (v := 24) hC d_H_isTerm_14 (by decide) ?_
      refine j_icmp_ge (tgt := 23) hC d_H_isTerm_16 (by decide) (fun h16 => ?_) (fun h16 => ?_)
      · refine j_iconst (v := 0) hC d_H_isTerm_23 (by decide) ?_
        exact j_zret hC hr (rfl) ⟨rfl, congrArg (fun z => some (Value.int z)) (by have e9 : pTerm x = false := (by unfold pTerm; simp only [decide_eq_true_eq, decide_eq_false_iff_not]; first | exact Or.inl h4 | (have := h16; simp_all)); rw [e9]; rfl), rfl⟩ d_H_isTerm_24
      · refine j_iconst (v := 1) hC d_H_isTerm_19 (by decide) ?_
        refine j_goto (tgt := 24) hC d_H_isTerm_20 (by decide) ?_
        exact j_zret hC hr (rfl) ⟨rfl, congrArg (fun z => some (Value.int z)) (by have e9 : pTerm x = true := (by unfold pTerm; simp only [decide_eq_true_eq, decide_eq_false_iff_not]; first | exact Or.inl h4 | (have := h16; simp_all)); rw [e9]; rfl), rfl⟩ d_H_isTerm_24

set_option maxHeartbeats 4000000 in
set_option maxRecDepth 100000 in
theorem k_factAt (l : Launch) (dC : Nat → ClassId) (dI : Nat → Nat → Nat) (g k : Nat → Nat) (tl : List (ClassId × FieldType)) (u : jU) (r a b : Int32) : jMet l y_H_factAt (.code y_H_factAt c_H_factAt 3 (some .int)) ({ frames := 1, cells := 0, slots := 0, locals := 21 }) (dC, dI) jcl (ctys k tl) jTs [.int r, .int a, .int b] (cw g k u) 0 0 (jRet (some (.int ((r * 12 + a) * 12 + b))) (cw g k u)) := by
  refine jMet.of (by decide) (Nat.le_of_ble_eq_true rfl) ?_
  intro p e s m below meth c A hC hex hr hnm htr
  show jJ p l e ({ frames := 1, cells := 0, slots := 0, locals := 21 }) s m [.int r, .int a, .int b].toArray below meth c 3 (dC, dI) jcl A (hxQ below (jQ (dC, dI) jcl (jRet (some (.int ((r * 12 + a) * 12 + b))) (cw g k u)) A) [.int r, .int a, .int b].toArray s 0 0 A) 0 0 (cw g k u) [(0, .int r), (1, .int a), (2, .int b)] [] 0
  refine j_iload_n hC d_H_factAt_0 rfl 0 rfl ?_
  refine j_iload_n hC d_H_factAt_1 rfl 1 rfl ?_
  refine j_callSr (As := [.int r, .int a]) (rest := []) (st1 := [.int (r * 12 + a)]) hC (k_rowAt l dC dI g k tl u r a) rfl rfl ww_H_174 yn_H_rowAt rfl d_H_factAt_2 (Nat.le_of_ble_eq_true rfl) (by decide) ⟨Nat.zero_le _, Nat.zero_le _⟩ rfl ?_
  refine j_bipush (v := 12) hC d_H_factAt_5 (by decide) ?_
  refine j_imul hC d_H_factAt_7 ?_
  refine j_iload_n hC d_H_factAt_8 rfl 2 rfl ?_
  refine j_iadd hC d_H_factAt_9 ?_
  exact j_iret hC hr ⟨rfl, rfl, rfl⟩ d_H_factAt_10

set_option maxHeartbeats 4000000 in
set_option maxRecDepth 100000 in
theorem k_stale (l : Launch) (dC : Nat → ClassId) (dI : Nat → Nat → Nat) (g k : Nat → Nat) (tl : List (ClassId × FieldType)) (u : jU)  : jMet l y_H_rulesChanged (.code y_H_rulesChanged c_H_rulesChanged 1 none) ({ frames := 0, cells := 0, slots := 0, locals := 0 }) (dC, dI) jcl (ctys k tl) jTs [.ref (g 0)] (cw g k u) 0 0 (jRet none (cw g k (pStale u))) := by
  refine jMet.of (by decide) (Nat.le_of_ble_eq_true rfl) ?_
  intro p e s m below meth c A hC hex hr hnm htr
  show jJ p l e ({ frames := 0, cells := 0, slots := 0, locals := 0 }) s m [.ref (g 0)].toArray below meth c 1 (dC, dI) jcl A (hxQ below (jQ (dC, dI) jcl (jRet none (cw g k (pStale u))) A) [.ref (g 0)].toArray s 0 0 A) 0 0 (cw g k u) [(0, .ref (g 0))] [] 0
  refine j_aload_n hC d_H_rulesChanged_0 rfl 0 rfl ?_
  refine j_iconst (v := 0) hC d_H_rulesChanged_1 (by decide) ?_
  refine j_put (ty := .boolean) (ws' := cw g k (up u 0 3 0)) hC hin_H tyX4 tyX4_ok nmX4 (0) (cw_house g k u) rfl 10 (by decide) (hC.2.2.2.2.1 _ wf_H_177) (fun _ h9 => h9) rfl (by decide +kernel) (rfl) (rfl) (Nat.le_of_ble_eq_true rfl) (cw_set_judged g k u 0) d_H_rulesChanged_2 ?_
  refine j_aload_n hC d_H_rulesChanged_5 rfl 0 rfl ?_
  refine j_iconst (v := 0) hC d_H_rulesChanged_6 (by decide) ?_
  refine j_put (ty := .boolean) (ws' := cw g k (up (up u 0 3 0) 0 4 0)) hC hin_H tyX4 tyX4_ok nmX4 (0) (cw_house g k (up u 0 3 0)) rfl 11 (by decide) (hC.2.2.2.2.1 _ wf_H_181) (fun _ h9 => h9) rfl (by decide +kernel) (rfl) (rfl) (Nat.le_of_ble_eq_true rfl) (cw_set_settled g k (up u 0 3 0) 0) d_H_rulesChanged_7 ?_
  exact j_vret hC hr ⟨rfl, rfl, rfl⟩ d_H_rulesChanged_10

set_option maxHeartbeats 4000000 in
set_option maxRecDepth 100000 in
theorem k_unsafe (l : Launch) (dC : Nat → ClassId) (dI : Nat → Nat → Nat) (g k : Nat → Nat) (tl : List (ClassId × FieldType)) (u : jU) (hH : wfH u) : jMet l y_H_firstUnsafe (.code y_H_firstUnsafe c_H_firstUnsafe 2 (some .int)) ({ frames := 1, cells := 0, slots := 0, locals := 20 }) (dC, dI) jcl (ctys k tl) jTs [.ref (g 0)] (cw g k u) 0 0 (jRet (some (.int (pUns u (tn (u 0 1)) 0))) (cw g k u)) := by
  refine jMet.of (by decide) (Nat.le_of_ble_eq_true rfl) ?_
  intro p e s m below meth c A hC hex hr hnm htr
  show jJ p l e ({ frames := 1, cells := 0, slots := 0, locals := 20 }) s m [.ref (g 0)].toArray below meth c 2 (dC, dI) jcl A (hxQ below (jQ (dC, dI) jcl (jRet (some (.int (pUns u (tn (u 0 1)) 0))) (cw g k u)) A) [.ref (g 0)].toArray s 0 0 A) 0 0 (cw g k u) [(0, .ref (g 0))] [] 0
  have hk17 := hH.2.2
  have hk := hk17.2
  have loop : ∀ (n i : Nat), i ≤ tn (u 0 1) → tn (u 0 1) < i + n → pUns u (tn (u 0 1) - i) i = pUns u (tn (u 0 1)) 0 → jJ p l e ({ frames := 1, cells := 0, slots := 0, locals := 20 }) s m [.ref (g 0)].toArray below meth c 2 (dC, dI) jcl A (hxQ below (jQ (dC, dI) jcl (jRet (some (.int (pUns u (tn (u 0 1)) 0))) (cw g k u)) A) [.ref (g 0)].toArray s 0 0 A) 0 0 (cw g k u) [(0, .ref (g 0)), (1, .int (nI i))] [] 2 := by
    intro n
    induction n with
    | zero => intro i h1 h2; exact absurd h2 (by omega)
    | succ n ih =>
      intro i hi hn hinv
      refine j_iload_n hC d_H_firstUnsafe_2 rfl 1 rfl ?_
      refine j_aload_n hC d_H_firstUnsafe_3 rfl 0 rfl ?_
      refine j_get hC hin_H (0) (cw_house g k u) rfl 4 (by decide) (hC.2.2.2.2.1 _ wf_H_54) (fun _ h9 => h9) rfl d_H_firstUnsafe_4 ?_
      refine j_icmp_ge (tgt := 30) hC d_H_firstUnsafe_7 (by decide) (fun h7 => ?_) (fun h7 => ?_)
      · have hge : tn (u 0 1) ≤ i := (inN_leN hk17 (by decide) (by omega)).mp h7
        have hie : tn (u 0 1) - i = 0 := by omega
        refine j_iconst (v := -1) hC d_H_firstUnsafe_30 (by decide) ?_
        exact j_iret hC hr ⟨rfl, congrArg (fun z => some (Value.int z)) (by rw [← hinv, hie]; rfl), rfl⟩ d_H_firstUnsafe_31
      · have hlt : i < tn (u 0 1) := Nat.not_le.mp (fun z => h7 ((inN_leN hk17 (by decide) (by omega)).mpr z))
        have hi16 : i < 16 := by omega
        have e12 : pUns u (tn (u 0 1) - i) i = pUns u ((tn (u 0 1) - (i + 1)) + 1) i := by rw [show tn (u 0 1) - i = (tn (u 0 1) - (i + 1)) + 1 by omega]
        refine j_aload_n hC d_H_firstUnsafe_10 rfl 0 rfl ?_
        refine j_get hC hin_H (0) (cw_house g k u) rfl 2 (by decide) (hC.2.2.2.2.1 _ wf_H_20) (fun _ h9 => h9) rfl d_H_firstUnsafe_11 ?_
        refine j_iload_n hC d_H_firstUnsafe_14 rfl 1 rfl ?_
        refine j_aaldN (v := g (15 + i)) hC (3) 2 (cw_rules g k u) rfl (n := i) (rfl) (hi16) (by decide) (if_pos (hi16)) d_H_firstUnsafe_15 ?_
        refine j_callNr (As := []) (rest := []) (st1 := [.int (b2i (pSafe u i))]) hC (k_safe l dC dI g k tl u (i := i) hi16) rfl rfl ww_H_195 yn_R_isSafe (cw_rule g k u (by omega)) rfl rfl d_H_firstUnsafe_16 (Nat.le_of_ble_eq_true rfl) (by decide) ⟨Nat.zero_le _, Nat.zero_le _⟩ rfl ?_
        refine j_if_ne (tgt := 24) hC d_H_firstUnsafe_19 (by decide) (fun h19 => ?_) (fun h19 => ?_)
        · refine j_iinc (lv' := [(0, .ref (g 0)), (1, .int (nI (i + 1)))]) hC d_H_firstUnsafe_24 1 rfl (nI_1 _) (by decide) rfl rfl ?_
          refine j_goto (tgt := 2) hC d_H_firstUnsafe_27 (by decide) ?_
          exact ih (i + 1) (by omega) (by omega) (by rw [← hinv, e12, pUns, if_neg h19])
        · refine j_iload_n hC d_H_firstUnsafe_22 rfl 1 rfl ?_
          exact j_iret hC hr ⟨rfl, congrArg (fun z => some (Value.int z)) (by rw [← hinv, e12, pUns, if_pos h19]), rfl⟩ d_H_firstUnsafe_23
  refine j_iconst (v := 0) hC d_H_firstUnsafe_0 (by decide) ?_
  refine j_istore_n (lv' := [(0, .ref (g 0)), (1, .int 0)]) hC d_H_firstUnsafe_1 rfl (by decide) rfl rfl ?_
  exact loop 18 0 (by omega) (by omega) rfl

set_option maxHeartbeats 4000000 in
set_option maxRecDepth 100000 in
theorem k_raise (l : Launch) (dC : Nat → ClassId) (dI : Nat → Nat → Nat) (g k : Nat → Nat) (tl : List (ClassId × FieldType)) (u : jU) (hH : wfH u) : jMet l y_H_raiseLayers (.code y_H_raiseLayers c_H_raiseLayers 5 (some .boolean)) ({ frames := 2, cells := 0, slots := 0, locals := 37 }) (dC, dI) jcl (ctys k tl) jTs [.ref (g 0)] (cw g k u) 0 0 (jRet (some (.int ((pRs u (tn (u 0 1))).1))) (cw g k ((pRs u (tn (u 0 1))).2))) := by
  refine jMet.of (by decide) (Nat.le_of_ble_eq_true rfl) ?_
  intro p e s m below meth c A hC hex hr hnm htr
  show jJ p l e ({ frames := 2, cells := 0, slots := 0, locals := 37 }) s m [.ref (g 0)].toArray below meth c 5 (dC, dI) jcl A (hxQ below (jQ (dC, dI) jcl (jRet (some (.int ((pRs u (tn (u 0 1))).1))) (cw g k ((pRs u (tn (u 0 1))).2))) A) [.ref (g 0)].toArray s 0 0 A) 0 0 (cw g k u) [(0, .ref (g 0))] [] 0
  have hk17 := hH.2.2
  have hk := hk17.2
  have loop : ∀ (n i : Nat), i ≤ tn (u 0 1) → tn (u 0 1) < i + n → jJ p l e ({ frames := 2, cells := 0, slots := 0, locals := 37 }) s m [.ref (g 0)].toArray below meth c 5 (dC, dI) jcl A (hxQ below (jQ (dC, dI) jcl (jRet (some (.int ((pRs u (tn (u 0 1))).1))) (cw g k ((pRs u (tn (u 0 1))).2))) A) [.ref (g 0)].toArray s 0 0 A) 0 0 (cw g k (pRs u i).2) [(0, .ref (g 0)), (1, .int ((pRs u i).1)), (2, .int (nI i))] [] 4 := by
    intro n
    induction n with
    | zero => intro i h1 h2; exact absurd h2 (by omega)
    | succ n ih =>
      intro i hi hn
      have hks := pRs_kp u i
      have hHs : wfH (pRs u i).2 := hH.kp hks (by decide) (wfV_of hH.1.2.2 (hks 6 (by decide)))
      have hMs := hHs.1
      have hk0 : (pRs u i).2 0 1 = u 0 1 := by rw [hks 0 (by decide)]
      refine j_iload_n hC d_H_raiseLayers_4 rfl 2 rfl ?_
      refine j_aload_n hC d_H_raiseLayers_5 rfl 0 rfl ?_
      refine j_get hC hin_H (0) (cw_house g k ((pRs u i).2)) rfl 4 (by decide) (hC.2.2.2.2.1 _ wf_H_54) (fun _ h9 => h9) rfl d_H_raiseLayers_6 ?_
      refine j_icmp_ge (tgt := 67) hC d_H_raiseLayers_9 (by decide) (fun h9 => ?_) (fun h9 => ?_)
      · have hge : tn (u 0 1) ≤ i := (inN_leN hk17 (by decide) (by omega)).mp (by rw [← hk0]; exact h9)
        have hie : i = tn (u 0 1) := by omega
        refine j_iload_n hC d_H_raiseLayers_67 rfl 1 rfl ?_
        exact j_zret hC hr (z01_n (pRs_01 u i)) (by rw [hie]; exact ⟨rfl, rfl, rfl⟩) d_H_raiseLayers_68
      · have hlt : i < tn (u 0 1) := Nat.not_le.mp (fun z => h9 (by rw [hk0]; exact (inN_leN hk17 (by decide) (by omega)).mpr z))
        have hi16 : i < 16 := by omega
        refine j_aload_n hC d_H_raiseLayers_12 rfl 0 rfl ?_
        refine j_get hC hin_H (0) (cw_house g k ((pRs u i).2)) rfl 2 (by decide) (hC.2.2.2.2.1 _ wf_H_20) (fun _ h9 => h9) rfl d_H_raiseLayers_13 ?_
        refine j_iload_n hC d_H_raiseLayers_16 rfl 2 rfl ?_
        refine j_aaldN (v := g (15 + i)) hC (3) 2 (cw_rules g k ((pRs u i).2)) rfl (n := i) (rfl) (hi16) (by decide) (if_pos (hi16)) d_H_raiseLayers_17 ?_
        refine j_getN hC hin_R (15 + i) (cw_rule g k ((pRs u i).2) (by omega)) rfl 0 (by decide) (hC.2.2.2.2.1 _ wf_H_201) (fun _ h9 => h9) rfl d_H_raiseLayers_18 ?_
        refine j_getN hC hin_A (47 + (5 * i)) (cw_atom g k ((pRs u i).2) (j := 5 * i) (by omega)) rfl 0 (by decide) (hC.2.2.2.2.1 _ wf_H_205) (fun _ h9 => h9) rfl d_H_raiseLayers_21 ?_
        refine j_istore_n (lv' := [(0, .ref (g 0)), (1, .int ((pRs u i).1)), (2, .int (nI i)), (3, .int (((pRs u i).2) 16 (5 * i)))]) hC d_H_raiseLayers_24 rfl (by decide) rfl rfl ?_
        refine j_aload_n hC d_H_raiseLayers_25 rfl 0 rfl ?_
        refine j_get hC hin_H (0) (cw_house g k ((pRs u i).2)) rfl 2 (by decide) (hC.2.2.2.2.1 _ wf_H_20) (fun _ h9 => h9) rfl d_H_raiseLayers_26 ?_
        refine j_iload_n hC d_H_raiseLayers_29 rfl 2 rfl ?_
        refine j_aaldN (v := g (15 + i)) hC (3) 2 (cw_rules g k ((pRs u i).2)) rfl (n := i) (rfl) (hi16) (by decide) (if_pos (hi16)) d_H_raiseLayers_30 ?_
        refine j_aload_n hC d_H_raiseLayers_31 rfl 0 rfl ?_
        refine j_get hC hin_H (0) (cw_house g k ((pRs u i).2)) rfl 5 (by decide) (hC.2.2.2.2.1 _ wf_H_24) (fun _ h9 => h9) rfl d_H_raiseLayers_32 ?_
        refine j_callNr (As := [.ref (g 4)]) (rest := []) (st1 := [.int (pLeast ((pRs u i).2) i (tn (((pRs u i).2) 12 i)))]) hC (k_least l dC dI g k tl ((pRs u i).2) (i := i) hi16 hMs) rfl rfl ww_H_210 yn_R_leastLayer (cw_rule g k ((pRs u i).2) (by omega)) rfl rfl d_H_raiseLayers_35 (Nat.le_of_ble_eq_true rfl) (by decide) ⟨Nat.zero_le _, Nat.zero_le _⟩ rfl ?_
        refine j_istore (lv' := [(0, .ref (g 0)), (1, .int ((pRs u i).1)), (2, .int (nI i)), (3, .int (((pRs u i).2) 16 (5 * i))), (4, .int (pLeast ((pRs u i).2) i (tn (((pRs u i).2) 12 i))))]) hC d_H_raiseLayers_38 (by decide) rfl rfl ?_
        refine j_aload_n hC d_H_raiseLayers_40 rfl 0 rfl ?_
        refine j_get hC hin_H (0) (cw_house g k ((pRs u i).2)) rfl 5 (by decide) (hC.2.2.2.2.1 _ wf_H_24) (fun _ h9 => h9) rfl d_H_raiseLayers_41 ?_
        refine j_iload_n hC d_H_raiseLayers_44 rfl 3 rfl ?_
        refine j_ialdN hC (4) 0 (cw_layers g k ((pRs u i).2)) rfl (n := tn ((pRs u i).2 16 (5 * i))) ((hMs.2.1 (5 * i) (by omega)).1.1) ((hMs.2.1 (5 * i) (by omega)).1.2) (by decide) d_H_raiseLayers_45 ?_
        refine j_iload hC d_H_raiseLayers_46 4 rfl ?_
        refine j_icmp_ge (tgt := 61) hC d_H_raiseLayers_48 (by decide) (fun h48 => ?_) (fun h48 => ?_)
        · refine j_iinc (lv' := [(0, .ref (g 0)), (1, .int ((pRs u i).1)), (2, .int (nI (i + 1))), (3, .int (((pRs u i).2) 16 (5 * i))), (4, .int (pLeast ((pRs u i).2) i (tn (((pRs u i).2) 12 i))))]) hC d_H_raiseLayers_61 2 rfl (nI_1 _) (by decide) rfl rfl ?_
          refine j_goto (tgt := 4) hC d_H_raiseLayers_64 (by decide) ?_
          have e9 : pRs u (i + 1) = (pRs u i) := if_pos h48
          have k9 := ih (i + 1) (by omega) (by omega)
          rw [e9] at k9
          exact j_locals [0, 1, 2] rfl k9
        · refine j_aload_n hC d_H_raiseLayers_51 rfl 0 rfl ?_
          refine j_get hC hin_H (0) (cw_house g k ((pRs u i).2)) rfl 5 (by decide) (hC.2.2.2.2.1 _ wf_H_24) (fun _ h9 => h9) rfl d_H_raiseLayers_52 ?_
          refine j_iload_n hC d_H_raiseLayers_55 rfl 3 rfl ?_
          refine j_iload hC d_H_raiseLayers_56 4 rfl ?_
          refine j_iastN (ws' := cw g k (up ((pRs u i).2) 3 (tn ((pRs u i).2 16 (5 * i))) (pLeast ((pRs u i).2) i (tn (((pRs u i).2) 12 i))))) hC (4) 0 (cw_layers g k ((pRs u i).2)) rfl (n := tn ((pRs u i).2 16 (5 * i))) ((hMs.2.1 (5 * i) (by omega)).1.1) ((hMs.2.1 (5 * i) (by omega)).1.2) (by decide) (cw_set_layers g k ((pRs u i).2) (tn ((pRs u i).2 16 (5 * i))) (pLeast ((pRs u i).2) i (tn (((pRs u i).2) 12 i)))) d_H_raiseLayers_58 ?_
          refine j_iconst (v := 1) hC d_H_raiseLayers_59 (by decide) ?_
          refine j_istore_n (lv' := [(0, .ref (g 0)), (1, .int 1), (2, .int (nI i)), (3, .int (((pRs u i).2) 16 (5 * i))), (4, .int (pLeast ((pRs u i).2) i (tn (((pRs u i).2) 12 i))))]) hC d_H_raiseLayers_60 rfl (by decide) rfl rfl ?_
          refine j_iinc (lv' := [(0, .ref (g 0)), (1, .int 1), (2, .int (nI (i + 1))), (3, .int (((pRs u i).2) 16 (5 * i))), (4, .int (pLeast ((pRs u i).2) i (tn (((pRs u i).2) 12 i))))]) hC d_H_raiseLayers_61 2 rfl (nI_1 _) (by decide) rfl rfl ?_
          refine j_goto (tgt := 4) hC d_H_raiseLayers_64 (by decide) ?_
          have e9 : pRs u (i + 1) = (1, up ((pRs u i).2) 3 (tn ((pRs u i).2 16 (5 * i))) (pLeast ((pRs u i).2) i (tn (((pRs u i).2) 12 i)))) := if_neg h48
          have k9 := ih (i + 1) (by omega) (by omega)
          rw [e9] at k9
          exact j_locals [0, 1, 2] rfl k9
  refine j_iconst (v := 0) hC d_H_raiseLayers_0 (by decide) ?_
  refine j_istore_n (lv' := [(0, .ref (g 0)), (1, .int 0)]) hC d_H_raiseLayers_1 rfl (by decide) rfl rfl ?_
  refine j_iconst (v := 0) hC d_H_raiseLayers_2 (by decide) ?_
  refine j_istore_n (lv' := [(0, .ref (g 0)), (1, .int 0), (2, .int 0)]) hC d_H_raiseLayers_3 rfl (by decide) rfl rfl ?_
  exact loop 18 0 (by omega) (by omega)

set_option maxHeartbeats 4000000 in
set_option maxRecDepth 100000 in
theorem k_layers (l : Launch) (dC : Nat → ClassId) (dI : Nat → Nat → Nat) (g k : Nat → Nat) (tl : List (ClassId × FieldType)) (u : jU) (hH : wfH u) : jMet l y_H_findLayers (.code y_H_findLayers c_H_findLayers 2 (some .boolean)) ({ frames := 3, cells := 0, slots := 0, locals := 61 }) (dC, dI) jcl (ctys k tl) jTs [.ref (g 0)] (cw g k u) 0 0 (jRet (some (.int (b2i (pLayers u).1))) (cw g k ((pLayers u).2))) := by
  refine jMet.of (by decide) (Nat.le_of_ble_eq_true rfl) ?_
  intro p e s m below meth c A hC hex hr hnm htr
  show jJ p l e ({ frames := 3, cells := 0, slots := 0, locals := 61 }) s m [.ref (g 0)].toArray below meth c 2 (dC, dI) jcl A (hxQ below (jQ (dC, dI) jcl (jRet (some (.int (b2i (pLayers u).1))) (cw g k ((pLayers u).2))) A) [.ref (g 0)].toArray s 0 0 A) 0 0 (cw g k u) [(0, .ref (g 0))] [] 0
  have loop : ∀ (n q : Nat) (v : jU), q ≤ 8 → 8 < q + n → kp [3] u v → pFL (8 - q) v = pFL 8 (pFill u 3 8) → jJ p l e ({ frames := 3, cells := 0, slots := 0, locals := 61 }) s m [.ref (g 0)].toArray below meth c 2 (dC, dI) jcl A (hxQ below (jQ (dC, dI) jcl (jRet (some (.int (b2i (pLayers u).1))) (cw g k ((pLayers u).2))) A) [.ref (g 0)].toArray s 0 0 A) 0 0 (cw g k v) [(0, .ref (g 0)), (1, .int (nI q))] [] 10 := by
    intro n
    induction n with
    | zero => intro q v h1 h2; exact absurd h2 (by omega)
    | succ n ih =>
      intro q v hq hn hkv hinv
      refine j_iload_n hC d_H_findLayers_10 rfl 1 rfl ?_
      refine j_bipush (v := 8) hC d_H_findLayers_11 (by decide) ?_
      refine j_icmp_ge (tgt := 31) hC d_H_findLayers_13 (by decide) (fun h13 => ?_) (fun h13 => ?_)
      · have hge : 8 ≤ q := (nI_leI (a := 8) (by decide) (by omega)).mp h13
        have hqe : 8 - q = 0 := by omega
        refine j_iconst (v := 0) hC d_H_findLayers_31 (by decide) ?_
        exact j_zret hC hr (rfl) (by rw [pLayers, ← hinv, hqe]; exact ⟨rfl, rfl, rfl⟩) d_H_findLayers_32
      · have hlt : q < 8 := Nat.not_le.mp (fun z => h13 ((nI_leI (a := 8) (by decide) (by omega)).mpr z))
        have e12 : pFL (8 - q) v = pFL ((8 - (q + 1)) + 1) v := by rw [show 8 - q = (8 - (q + 1)) + 1 by omega]
        refine j_aload_n hC d_H_findLayers_16 rfl 0 rfl ?_
        refine j_callVr (As := []) (rest := []) (st1 := [.int ((pRs v (tn (v 0 1))).1)]) hC (k_raise l dC dI g k tl v (hH.kp hkv (by decide) (wfV_of hH.1.2.2 (hkv 6 (by decide))))) rfl rfl ww_H_198 yn_H_raiseLayers (cw_house g k v) rfl rfl d_H_findLayers_17 (Nat.le_of_ble_eq_true rfl) (by decide) ⟨Nat.zero_le _, Nat.zero_le _⟩ rfl ?_
        refine j_if_ne (tgt := 25) hC d_H_findLayers_20 (by decide) (fun h20 => ?_) (fun h20 => ?_)
        · refine j_iinc (lv' := [(0, .ref (g 0)), (1, .int (nI (q + 1)))]) hC d_H_findLayers_25 1 rfl (nI_1 _) (by decide) rfl rfl ?_
          refine j_goto (tgt := 10) hC d_H_findLayers_28 (by decide) ?_
          exact ih (q + 1) (pRs v (tn (v 0 1))).2 (by omega) (by omega) (hkv.tr (pRs_kp v _)) (by rw [← hinv, e12, pFL, if_neg h20])
        · refine j_iconst (v := 1) hC d_H_findLayers_23 (by decide) ?_
          exact j_zret hC hr (rfl) (by rw [pLayers, ← hinv, e12, pFL, if_pos h20]; exact ⟨rfl, rfl, rfl⟩) d_H_findLayers_24
  refine j_aload_n hC d_H_findLayers_0 rfl 0 rfl ?_
  refine j_get hC hin_H (0) (cw_house g k u) rfl 5 (by decide) (hC.2.2.2.2.1 _ wf_H_24) (fun _ h9 => h9) rfl d_H_findLayers_1 ?_
  refine j_iconst (v := 0) hC d_H_findLayers_4 (by decide) ?_
  refine j_callSr (As := [.ref (g 4), .int 0]) (rest := []) (st1 := []) hC (k_fill_layers l dC dI g k tl u) rfl rfl ww_H_45 yn_Arrays_fill rfl d_H_findLayers_5 (Nat.le_of_ble_eq_true rfl) (by decide) ⟨Nat.zero_le _, Nat.zero_le _⟩ rfl ?_
  refine j_iconst (v := 0) hC d_H_findLayers_8 (by decide) ?_
  refine j_istore_n (lv' := [(0, .ref (g 0)), (1, .int 0)]) hC d_H_findLayers_9 rfl (by decide) rfl rfl ?_
  exact loop 9 0 (pFill u 3 8) (by omega) (by omega) (kp_fill u 8 (by decide)) rfl

set_option maxHeartbeats 4000000 in
set_option maxRecDepth 100000 in
theorem k_judge (l : Launch) (dC : Nat → ClassId) (dI : Nat → Nat → Nat) (g k : Nat → Nat) (tl : List (ClassId × FieldType)) (u : jU) (hH : wfH u) : jMet l y_H_judge (.code y_H_judge c_H_judge 1 none) ({ frames := 4, cells := 0, slots := 0, locals := 82 }) (dC, dI) jcl (ctys k tl) jTs [.ref (g 0)] (cw g k u) 0 0 (jRet none (cw g k (pJudge u))) := by
  refine jMet.of (by decide) (Nat.le_of_ble_eq_true rfl) ?_
  intro p e s m below meth c A hC hex hr hnm htr
  show jJ p l e ({ frames := 4, cells := 0, slots := 0, locals := 82 }) s m [.ref (g 0)].toArray below meth c 1 (dC, dI) jcl A (hxQ below (jQ (dC, dI) jcl (jRet none (cw g k (pJudge u))) A) [.ref (g 0)].toArray s 0 0 A) 0 0 (cw g k u) [(0, .ref (g 0))] [] 0
  have hH1 : wfH (pJudge1 u) := ⟨hH.1.ofc rfl rfl rfl rfl rfl hH.1.2.2, hH.2.1, hH.2.2⟩
  refine j_aload_n hC d_H_judge_0 rfl 0 rfl ?_
  refine j_get hC hin_H (0) (cw_house g k u) rfl 10 (by decide) (hC.2.2.2.2.1 _ wf_H_177) (fun _ h9 => h9) rfl d_H_judge_1 ?_
  refine j_if_eq (tgt := 8) hC d_H_judge_4 (by decide) (fun h4 => ?_) (fun h4 => ?_)
  · refine j_aload_n hC d_H_judge_8 rfl 0 rfl ?_
    refine j_aload_n hC d_H_judge_9 rfl 0 rfl ?_
    refine j_callVr (As := []) (rest := [.ref (g 0)]) (st1 := [.int (pUns u (tn (u 0 1)) 0), .ref (g 0)]) hC (k_unsafe l dC dI g k tl u hH) rfl rfl ww_H_188 yn_H_firstUnsafe (cw_house g k u) rfl rfl d_H_judge_10 (Nat.le_of_ble_eq_true rfl) (by decide) ⟨Nat.zero_le _, Nat.zero_le _⟩ rfl ?_
    refine j_put (ty := .int) (ws' := cw g k (up u 0 2 (pUns u (tn (u 0 1)) 0))) hC hin_H tyX4 tyX4_ok nmX4 (0) (cw_house g k u) rfl 9 (by decide) (hC.2.2.2.2.1 _ wf_H_40) (fun _ h9 => h9) rfl (by decide +kernel) (rfl) (rfl) (Nat.le_of_ble_eq_true rfl) (cw_set_faultFound g k u (pUns u (tn (u 0 1)) 0)) d_H_judge_13 ?_
    refine j_aload_n hC d_H_judge_16 rfl 0 rfl ?_
    refine j_get hC hin_H (0) (cw_house g k (pJudge1 u)) rfl 9 (by decide) (hC.2.2.2.2.1 _ wf_H_40) (fun _ h9 => h9) rfl d_H_judge_17 ?_
    refine j_iconst (v := -1) hC d_H_judge_20 (by decide) ?_
    refine j_icmp_ne (tgt := 37) hC d_H_judge_21 (by decide) (fun h21 => ?_) (fun h21 => ?_)
    · refine j_aload_n hC d_H_judge_37 rfl 0 rfl ?_
      refine j_iconst (v := 1) hC d_H_judge_38 (by decide) ?_
      refine j_put (ty := .boolean) (ws' := cw g k (up (pJudge1 u) 0 3 1)) hC hin_H tyX4 tyX4_ok nmX4 (0) (cw_house g k (pJudge1 u)) rfl 10 (by decide) (hC.2.2.2.2.1 _ wf_H_177) (fun _ h9 => h9) rfl (by decide +kernel) (rfl) (rfl) (Nat.le_of_ble_eq_true rfl) (cw_set_judged g k (pJudge1 u) 1) d_H_judge_39 ?_
      exact j_vret hC hr ⟨rfl, rfl, congrArg (cw g k) (by rw [pJudge, if_pos h4, if_neg h21] <;> rfl)⟩ d_H_judge_42
    · refine j_aload_n hC d_H_judge_24 rfl 0 rfl ?_
      refine j_callVr (As := []) (rest := []) (st1 := [.int (b2i (pLayers (pJudge1 u)).1)]) hC (k_layers l dC dI g k tl (pJudge1 u) hH1) rfl rfl ww_H_192 yn_H_findLayers (cw_house g k (pJudge1 u)) rfl rfl d_H_judge_25 (Nat.le_of_ble_eq_true rfl) (by decide) ⟨Nat.zero_le _, Nat.zero_le _⟩ rfl ?_
      refine j_if_ne (tgt := 37) hC d_H_judge_28 (by decide) (fun h28 => ?_) (fun h28 => ?_)
      · refine j_aload_n hC d_H_judge_37 rfl 0 rfl ?_
        refine j_iconst (v := 1) hC d_H_judge_38 (by decide) ?_
        refine j_put (ty := .boolean) (ws' := cw g k (up ((pLayers (pJudge1 u)).2) 0 3 1)) hC hin_H tyX4 tyX4_ok nmX4 (0) (cw_house g k ((pLayers (pJudge1 u)).2)) rfl 10 (by decide) (hC.2.2.2.2.1 _ wf_H_177) (fun _ h9 => h9) rfl (by decide +kernel) (rfl) (rfl) (Nat.le_of_ble_eq_true rfl) (cw_set_judged g k ((pLayers (pJudge1 u)).2) 1) d_H_judge_39 ?_
        exact j_vret hC hr ⟨rfl, rfl, congrArg (cw g k) (by rw [pJudge, if_pos h4, if_pos h21, if_neg h28] <;> rfl)⟩ d_H_judge_42
      · refine j_aload_n hC d_H_judge_31 rfl 0 rfl ?_
        refine j_bipush (v := 100) hC d_H_judge_32 (by decide) ?_
        refine j_put (ty := .int) (ws' := cw g k (up ((pLayers (pJudge1 u)).2) 0 2 100)) hC hin_H tyX4 tyX4_ok nmX4 (0) (cw_house g k ((pLayers (pJudge1 u)).2)) rfl 9 (by decide) (hC.2.2.2.2.1 _ wf_H_40) (fun _ h9 => h9) rfl (by decide +kernel) (rfl) (rfl) (Nat.le_of_ble_eq_true rfl) (cw_set_faultFound g k ((pLayers (pJudge1 u)).2) 100) d_H_judge_34 ?_
        refine j_aload_n hC d_H_judge_37 rfl 0 rfl ?_
        refine j_iconst (v := 1) hC d_H_judge_38 (by decide) ?_
        refine j_put (ty := .boolean) (ws' := cw g k (up (up ((pLayers (pJudge1 u)).2) 0 2 100) 0 3 1)) hC hin_H tyX4 tyX4_ok nmX4 (0) (cw_house g k (up ((pLayers (pJudge1 u)).2) 0 2 100)) rfl 10 (by decide) (hC.2.2.2.2.1 _ wf_H_177) (fun _ h9 => h9) rfl (by decide +kernel) (rfl) (rfl) (Nat.le_of_ble_eq_true rfl) (cw_set_judged g k (up ((pLayers (pJudge1 u)).2) 0 2 100) 1) d_H_judge_39 ?_
        exact j_vret hC hr ⟨rfl, rfl, congrArg (cw g k) (by rw [pJudge, if_pos h4, if_pos h21, if_pos h28] <;> rfl)⟩ d_H_judge_42
  · exact j_vret hC hr ⟨rfl, rfl, congrArg (cw g k) (if_neg h4).symm⟩ d_H_judge_7

set_option maxHeartbeats 4000000 in
set_option maxRecDepth 100000 in
theorem k_top (l : Launch) (dC : Nat → ClassId) (dI : Nat → Nat → Nat) (g k : Nat → Nat) (tl : List (ClassId × FieldType)) (u : jU) (hH : wfH u) : jMet l y_H_topLayer (.code y_H_topLayer c_H_topLayer 3 (some .int)) ({ frames := 1, cells := 0, slots := 0, locals := 13 }) (dC, dI) jcl (ctys k tl) jTs [.ref (g 0)] (cw g k u) 0 0 (jRet (some (.int (pTop u (tn (u 0 0))))) (cw g k u)) := by
  refine jMet.of (by decide) (Nat.le_of_ble_eq_true rfl) ?_
  intro p e s m below meth c A hC hex hr hnm htr
  show jJ p l e ({ frames := 1, cells := 0, slots := 0, locals := 13 }) s m [.ref (g 0)].toArray below meth c 3 (dC, dI) jcl A (hxQ below (jQ (dC, dI) jcl (jRet (some (.int (pTop u (tn (u 0 0))))) (cw g k u)) A) [.ref (g 0)].toArray s 0 0 A) 0 0 (cw g k u) [(0, .ref (g 0))] [] 0
  have hk9 := hH.2.1
  have hk := hk9.2
  have loop : ∀ (n i : Nat), i ≤ tn (u 0 0) → tn (u 0 0) < i + n → jJ p l e ({ frames := 1, cells := 0, slots := 0, locals := 13 }) s m [.ref (g 0)].toArray below meth c 3 (dC, dI) jcl A (hxQ below (jQ (dC, dI) jcl (jRet (some (.int (pTop u (tn (u 0 0))))) (cw g k u)) A) [.ref (g 0)].toArray s 0 0 A) 0 0 (cw g k u) [(0, .ref (g 0)), (1, .int (pTop u i)), (2, .int (nI i))] [] 4 := by
    intro n
    induction n with
    | zero => intro i h1 h2; exact absurd h2 (by omega)
    | succ n ih =>
      intro i hi hn
      refine j_iload_n hC d_H_topLayer_4 rfl 2 rfl ?_
      refine j_aload_n hC d_H_topLayer_5 rfl 0 rfl ?_
      refine j_get hC hin_H (0) (cw_house g k u) rfl 3 (by decide) (hC.2.2.2.2.1 _ wf_H_51) (fun _ h9 => h9) rfl d_H_topLayer_6 ?_
      refine j_icmp_ge (tgt := 29) hC d_H_topLayer_9 (by decide) (fun h9 => ?_) (fun h9 => ?_)
      · have hge : tn (u 0 0) ≤ i := (inN_leN hk9 (by decide) (by omega)).mp h9
        have hie : i = tn (u 0 0) := by omega
        refine j_iload_n hC d_H_topLayer_29 rfl 1 rfl ?_
        exact j_iret hC hr ⟨rfl, congrArg (fun z => some (Value.int z)) (by rw [hie]), rfl⟩ d_H_topLayer_30
      · have hlt : i < tn (u 0 0) := Nat.not_le.mp (fun z => h9 ((inN_leN hk9 (by decide) (by omega)).mpr z))
        refine j_iload_n hC d_H_topLayer_12 rfl 1 rfl ?_
        refine j_aload_n hC d_H_topLayer_13 rfl 0 rfl ?_
        refine j_get hC hin_H (0) (cw_house g k u) rfl 5 (by decide) (hC.2.2.2.2.1 _ wf_H_24) (fun _ h9 => h9) rfl d_H_topLayer_14 ?_
        refine j_iload_n hC d_H_topLayer_17 rfl 2 rfl ?_
        refine j_ialdN hC (4) 0 (cw_layers g k u) rfl (n := i) (rfl) (by omega) (by decide) d_H_topLayer_18 ?_
        refine j_mmax hC wm_H d_H_topLayer_19 (by decide) (Nat.le_of_ble_eq_true rfl) ⟨Nat.zero_le _, Nat.zero_le _⟩ ?_
        refine j_istore_n (lv' := [(0, .ref (g 0)), (1, .int (if pTop u i < u 3 i then u 3 i else pTop u i)), (2, .int (nI i))]) hC d_H_topLayer_22 rfl (by decide) rfl rfl ?_
        refine j_iinc (lv' := [(0, .ref (g 0)), (1, .int (if pTop u i < u 3 i then u 3 i else pTop u i)), (2, .int (nI (i + 1)))]) hC d_H_topLayer_23 2 rfl (nI_1 _) (by decide) rfl rfl ?_
        refine j_goto (tgt := 4) hC d_H_topLayer_26 (by decide) ?_
        exact ih (i + 1) (by omega) (by omega)
  refine j_iconst (v := 0) hC d_H_topLayer_0 (by decide) ?_
  refine j_istore_n (lv' := [(0, .ref (g 0)), (1, .int 0)]) hC d_H_topLayer_1 rfl (by decide) rfl rfl ?_
  refine j_iconst (v := 0) hC d_H_topLayer_2 (by decide) ?_
  refine j_istore_n (lv' := [(0, .ref (g 0)), (1, .int 0), (2, .int 0)]) hC d_H_topLayer_3 rfl (by decide) rfl rfl ?_
  exact loop 10 0 (by omega) (by omega)
