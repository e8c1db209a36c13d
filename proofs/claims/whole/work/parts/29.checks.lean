set_option maxHeartbeats 4000000 in
set_option maxRecDepth 100000 in
theorem k_checkRel (l : Launch) (hl : l.stackTraces = false) (dC : Nat → ClassId) (dI : Nat → Nat → Nat) (g k : Nat → Nat) (tl : List (ClassId × FieldType)) (u : jU) (r : Int32) : jMet l y_H_checkRelation (.code y_H_checkRelation c_H_checkRelation 2 none) ({ frames := 6, cells := 1, slots := 6, locals := 90 }) (dC, dI) jcl (ctys k tl) jTs [.ref (g 0), .int r] (cw g k u) 1 6 (jE (pcRel u r) none (cw g k u)) := by
  refine jMet.of (by decide) (Nat.le_of_ble_eq_true rfl) ?_
  intro p e s m below meth c A hC hex hr hnm htr0
  have htr : e.platform.stackTraces = false := htr0.trans hl
  show jJ p l e ({ frames := 6, cells := 1, slots := 6, locals := 90 }) s m [.ref (g 0), .int r].toArray below meth c 2 (dC, dI) jcl A (hxQ below (jQ (dC, dI) jcl (jE (pcRel u r) none (cw g k u)) A) [.ref (g 0), .int r].toArray s 1 6 A) 0 0 (cw g k u) [(0, .ref (g 0)), (1, .int r)] [] 0
  refine j_iload_n hC d_H_checkRelation_0 rfl 1 rfl ?_
  refine j_if_lt (tgt := 12) hC d_H_checkRelation_1 (by decide) (fun h1 => ?_) (fun h1 => ?_)
  · exact j_throwE (tx := _) (names := up2) hC hex htr (by decide +kernel) (by decide +kernel) (by decide +kernel) (by decide +kernel) d_H_checkRelation_12 d_H_checkRelation_15 d_H_checkRelation_16 d_H_checkRelation_18 d_H_checkRelation_21 (by decide +kernel) up2_fit wt_60_154 wo_64 (by decide) (Nat.le_of_ble_eq_true rfl) (by decide) (by decide) (by rw [pcRel, if_pos h1] <;> rfl) (rfl)
  · refine j_iload_n hC d_H_checkRelation_4 rfl 1 rfl ?_
    refine j_aload_n hC d_H_checkRelation_5 rfl 0 rfl ?_
    refine j_get hC hin_H (0) (cw_house g k u) rfl 3 (by decide) (hC.2.2.2.2.1 _ wf_H_51) (fun _ h9 => h9) rfl d_H_checkRelation_6 ?_
    refine j_icmp_lt (tgt := 22) hC d_H_checkRelation_9 (by decide) (fun h9 => ?_) (fun h9 => ?_)
    · refine j_widen (cells' := 1) (slots' := 6) (by decide) (by decide) ?_
      exact j_vret hC hr ⟨(by rw [pcRel, if_neg h1, if_pos h9]), fun _ => rfl, rfl⟩ d_H_checkRelation_22
    · exact j_throwE (tx := _) (names := up2) hC hex htr (by decide +kernel) (by decide +kernel) (by decide +kernel) (by decide +kernel) d_H_checkRelation_12 d_H_checkRelation_15 d_H_checkRelation_16 d_H_checkRelation_18 d_H_checkRelation_21 (by decide +kernel) up2_fit wt_60_154 wo_64 (by decide) (Nat.le_of_ble_eq_true rfl) (by decide) (by decide) (by rw [pcRel, if_neg h1, if_neg h9] <;> rfl) (rfl)

set_option maxHeartbeats 4000000 in
set_option maxRecDepth 100000 in
theorem k_checkFact (l : Launch) (hl : l.stackTraces = false) (dC : Nat → ClassId) (dI : Nat → Nat → Nat) (g k : Nat → Nat) (tl : List (ClassId × FieldType)) (u : jU) (hH : wfH u) (r a b : Int32) : jMet l y_H_checkFact (.code y_H_checkFact c_H_checkFact 4 none) ({ frames := 7, cells := 2, slots := 12, locals := 111 }) (dC, dI) jcl (ctys k tl) jTs [.ref (g 0), .int r, .int a, .int b] (cw g k u) 2 12 (jE (pcFact u r a b) none (cw g k u)) := by
  refine jMet.of (by decide) (Nat.le_of_ble_eq_true rfl) ?_
  intro p e s m below meth c A hC hex hr hnm htr0
  have htr : e.platform.stackTraces = false := htr0.trans hl
  show jJ p l e ({ frames := 7, cells := 2, slots := 12, locals := 111 }) s m [.ref (g 0), .int r, .int a, .int b].toArray below meth c 4 (dC, dI) jcl A (hxQ below (jQ (dC, dI) jcl (jE (pcFact u r a b) none (cw g k u)) A) [.ref (g 0), .int r, .int a, .int b].toArray s 2 12 A) 0 0 (cw g k u) [(0, .ref (g 0)), (1, .int r), (2, .int a), (3, .int b)] [] 0
  refine j_aload_n hC d_H_checkFact_0 rfl 0 rfl ?_
  refine j_iload_n hC d_H_checkFact_1 rfl 1 rfl ?_
  refine j_callVx (As := [.int r]) (rest := []) (st1 := []) hC hex (k_checkRel l hl dC dI g k tl u r) rfl rfl ww_H_114 yn_H_checkRelation (cw_house g k u) rfl rfl d_H_checkFact_2 (Nat.le_of_ble_eq_true rfl) (by decide) (by decide) (by decide) rfl (fun cn h => ⟨by rw [pcFact, if_neg (by rw [h]; exact Option.some_ne_none _), pcRel_some h], rfl⟩) (fun hc2 => ?_)
  refine j_aload_n hC d_H_checkFact_5 rfl 0 rfl ?_
  refine j_iload_n hC d_H_checkFact_6 rfl 1 rfl ?_
  refine j_iload_n hC d_H_checkFact_7 rfl 2 rfl ?_
  refine j_callVr (As := [.int r, .int a]) (rest := []) (st1 := [.int (pFst u r a)]) hC (k_first l dC dI g k tl u r a (rel_in hH hc2)) rfl rfl ww_H_85 yn_H_firstOf (cw_house g k u) rfl rfl d_H_checkFact_8 (Nat.le_of_ble_eq_true rfl) (by decide) (by decide) rfl ?_
  refine j_callSr (As := [.int (pFst u r a)]) (rest := []) (st1 := [.int (b2i (pCon (pFst u r a)))]) hC (k_con l dC dI g k tl u (pFst u r a)) rfl rfl ww_H_156 yn_H_isConstant rfl d_H_checkFact_11 (Nat.le_of_ble_eq_true rfl) (by decide) (by decide) rfl ?_
  refine j_if_eq (tgt := 29) hC d_H_checkFact_14 (by decide) (fun h14 => ?_) (fun h14 => ?_)
  · exact j_throwE (tx := _) (names := up2) hC hex htr (by decide +kernel) (by decide +kernel) (by decide +kernel) (by decide +kernel) d_H_checkFact_29 d_H_checkFact_32 d_H_checkFact_33 d_H_checkFact_35 d_H_checkFact_38 (by decide +kernel) up2_fit wt_60_160 wo_64 (by decide) (Nat.le_of_ble_eq_true rfl) (by decide) (by decide) (by rw [pcFact, if_pos hc2, if_pos h14] <;> rfl) (rfl)
  · refine j_aload_n hC d_H_checkFact_17 rfl 0 rfl ?_
    refine j_iload_n hC d_H_checkFact_18 rfl 1 rfl ?_
    refine j_iload_n hC d_H_checkFact_19 rfl 3 rfl ?_
    refine j_callVr (As := [.int r, .int b]) (rest := []) (st1 := [.int (pSnd u r b)]) hC (k_second l dC dI g k tl u r b (rel_in hH hc2)) rfl rfl ww_H_89 yn_H_secondOf (cw_house g k u) rfl rfl d_H_checkFact_20 (Nat.le_of_ble_eq_true rfl) (by decide) (by decide) rfl ?_
    refine j_callSr (As := [.int (pSnd u r b)]) (rest := []) (st1 := [.int (b2i (pCon (pSnd u r b)))]) hC (k_con l dC dI g k tl u (pSnd u r b)) rfl rfl ww_H_156 yn_H_isConstant rfl d_H_checkFact_23 (Nat.le_of_ble_eq_true rfl) (by decide) (by decide) rfl ?_
    refine j_if_ne (tgt := 39) hC d_H_checkFact_26 (by decide) (fun h26 => ?_) (fun h26 => ?_)
    · refine j_widen (cells' := 2) (slots' := 12) (by decide) (by decide) ?_
      exact j_vret hC hr ⟨(by rw [pcFact, if_pos hc2, if_neg h14, if_neg h26]), fun _ => rfl, rfl⟩ d_H_checkFact_39
    · exact j_throwE (tx := _) (names := up2) hC hex htr (by decide +kernel) (by decide +kernel) (by decide +kernel) (by decide +kernel) d_H_checkFact_29 d_H_checkFact_32 d_H_checkFact_33 d_H_checkFact_35 d_H_checkFact_38 (by decide +kernel) up2_fit wt_60_160 wo_64 (by decide) (Nat.le_of_ble_eq_true rfl) (by decide) (by decide) (by rw [pcFact, if_pos hc2, if_neg h14, if_pos h26] <;> rfl) (rfl)

set_option maxHeartbeats 4000000 in
set_option maxRecDepth 100000 in
theorem k_checkTerms (l : Launch) (hl : l.stackTraces = false) (dC : Nat → ClassId) (dI : Nat → Nat → Nat) (g k : Nat → Nat) (tl : List (ClassId × FieldType)) (u : jU) (hH : wfH u) (r a b : Int32) : jMet l y_H_checkTerms (.code y_H_checkTerms c_H_checkTerms 4 none) ({ frames := 7, cells := 2, slots := 12, locals := 111 }) (dC, dI) jcl (ctys k tl) jTs [.ref (g 0), .int r, .int a, .int b] (cw g k u) 2 12 (jE (pcTerms u r a b) none (cw g k u)) := by
  refine jMet.of (by decide) (Nat.le_of_ble_eq_true rfl) ?_
  intro p e s m below meth c A hC hex hr hnm htr0
  have htr : e.platform.stackTraces = false := htr0.trans hl
  show jJ p l e ({ frames := 7, cells := 2, slots := 12, locals := 111 }) s m [.ref (g 0), .int r, .int a, .int b].toArray below meth c 4 (dC, dI) jcl A (hxQ below (jQ (dC, dI) jcl (jE (pcTerms u r a b) none (cw g k u)) A) [.ref (g 0), .int r, .int a, .int b].toArray s 2 12 A) 0 0 (cw g k u) [(0, .ref (g 0)), (1, .int r), (2, .int a), (3, .int b)] [] 0
  refine j_aload_n hC d_H_checkTerms_0 rfl 0 rfl ?_
  refine j_iload_n hC d_H_checkTerms_1 rfl 1 rfl ?_
  refine j_callVx (As := [.int r]) (rest := []) (st1 := []) hC hex (k_checkRel l hl dC dI g k tl u r) rfl rfl ww_H_114 yn_H_checkRelation (cw_house g k u) rfl rfl d_H_checkTerms_2 (Nat.le_of_ble_eq_true rfl) (by decide) (by decide) (by decide) rfl (fun cn h => ⟨by rw [pcTerms, if_neg (by rw [h]; exact Option.some_ne_none _), pcRel_some h], rfl⟩) (fun hc2 => ?_)
  refine j_aload_n hC d_H_checkTerms_5 rfl 0 rfl ?_
  refine j_iload_n hC d_H_checkTerms_6 rfl 1 rfl ?_
  refine j_iload_n hC d_H_checkTerms_7 rfl 2 rfl ?_
  refine j_callVr (As := [.int r, .int a]) (rest := []) (st1 := [.int (pFst u r a)]) hC (k_first l dC dI g k tl u r a (rel_in hH hc2)) rfl rfl ww_H_85 yn_H_firstOf (cw_house g k u) rfl rfl d_H_checkTerms_8 (Nat.le_of_ble_eq_true rfl) (by decide) (by decide) rfl ?_
  refine j_callSr (As := [.int (pFst u r a)]) (rest := []) (st1 := [.int (b2i (pTerm (pFst u r a)))]) hC (k_term l dC dI g k tl u (pFst u r a)) rfl rfl ww_H_162 yn_H_isTerm rfl d_H_checkTerms_11 (Nat.le_of_ble_eq_true rfl) (by decide) (by decide) rfl ?_
  refine j_if_eq (tgt := 29) hC d_H_checkTerms_14 (by decide) (fun h14 => ?_) (fun h14 => ?_)
  · exact j_throwE (tx := _) (names := up2) hC hex htr (by decide +kernel) (by decide +kernel) (by decide +kernel) (by decide +kernel) d_H_checkTerms_29 d_H_checkTerms_32 d_H_checkTerms_33 d_H_checkTerms_35 d_H_checkTerms_38 (by decide +kernel) up2_fit wt_60_165 wo_64 (by decide) (Nat.le_of_ble_eq_true rfl) (by decide) (by decide) (by rw [pcTerms, if_pos hc2, if_pos h14] <;> rfl) (rfl)
  · refine j_aload_n hC d_H_checkTerms_17 rfl 0 rfl ?_
    refine j_iload_n hC d_H_checkTerms_18 rfl 1 rfl ?_
    refine j_iload_n hC d_H_checkTerms_19 rfl 3 rfl ?_
    refine j_callVr (As := [.int r, .int b]) (rest := []) (st1 := [.int (pSnd u r b)]) hC (k_second l dC dI g k tl u r b (rel_in hH hc2)) rfl rfl ww_H_89 yn_H_secondOf (cw_house g k u) rfl rfl d_H_checkTerms_20 (Nat.le_of_ble_eq_true rfl) (by decide) (by decide) rfl ?_
    refine j_callSr (As := [.int (pSnd u r b)]) (rest := []) (st1 := [.int (b2i (pTerm (pSnd u r b)))]) hC (k_term l dC dI g k tl u (pSnd u r b)) rfl rfl ww_H_162 yn_H_isTerm rfl d_H_checkTerms_23 (Nat.le_of_ble_eq_true rfl) (by decide) (by decide) rfl ?_
    refine j_if_ne (tgt := 39) hC d_H_checkTerms_26 (by decide) (fun h26 => ?_) (fun h26 => ?_)
    · refine j_widen (cells' := 2) (slots' := 12) (by decide) (by decide) ?_
      exact j_vret hC hr ⟨(by rw [pcTerms, if_pos hc2, if_neg h14, if_neg h26]), fun _ => rfl, rfl⟩ d_H_checkTerms_39
    · exact j_throwE (tx := _) (names := up2) hC hex htr (by decide +kernel) (by decide +kernel) (by decide +kernel) (by decide +kernel) d_H_checkTerms_29 d_H_checkTerms_32 d_H_checkTerms_33 d_H_checkTerms_35 d_H_checkTerms_38 (by decide +kernel) up2_fit wt_60_165 wo_64 (by decide) (Nat.le_of_ble_eq_true rfl) (by decide) (by decide) (by rw [pcTerms, if_pos hc2, if_neg h14, if_pos h26] <;> rfl) (rfl)

set_option maxHeartbeats 4000000 in
set_option maxRecDepth 100000 in
theorem k_checkRule (l : Launch) (hl : l.stackTraces = false) (dC : Nat → ClassId) (dI : Nat → Nat → Nat) (g k : Nat → Nat) (tl : List (ClassId × FieldType)) (u : jU)  : jMet l y_H_checkSomeRule (.code y_H_checkSomeRule c_H_checkSomeRule 1 none) ({ frames := 6, cells := 1, slots := 6, locals := 90 }) (dC, dI) jcl (ctys k tl) jTs [.ref (g 0)] (cw g k u) 1 6 (jE (pcRule u) none (cw g k u)) := by
  refine jMet.of (by decide) (Nat.le_of_ble_eq_true rfl) ?_
  intro p e s m below meth c A hC hex hr hnm htr0
  have htr : e.platform.stackTraces = false := htr0.trans hl
  show jJ p l e ({ frames := 6, cells := 1, slots := 6, locals := 90 }) s m [.ref (g 0)].toArray below meth c 1 (dC, dI) jcl A (hxQ below (jQ (dC, dI) jcl (jE (pcRule u) none (cw g k u)) A) [.ref (g 0)].toArray s 1 6 A) 0 0 (cw g k u) [(0, .ref (g 0))] [] 0
  refine j_aload_n hC d_H_checkSomeRule_0 rfl 0 rfl ?_
  refine j_get hC hin_H (0) (cw_house g k u) rfl 4 (by decide) (hC.2.2.2.2.1 _ wf_H_54) (fun _ h9 => h9) rfl d_H_checkSomeRule_1 ?_
  refine j_if_ne (tgt := 17) hC d_H_checkSomeRule_4 (by decide) (fun h4 => ?_) (fun h4 => ?_)
  · refine j_widen (cells' := 1) (slots' := 6) (by decide) (by decide) ?_
    exact j_vret hC hr ⟨(by rw [pcRule, if_neg h4]), fun _ => rfl, rfl⟩ d_H_checkSomeRule_17
  · exact j_throwE (tx := _) (names := up2) hC hex htr (by decide +kernel) (by decide +kernel) (by decide +kernel) (by decide +kernel) d_H_checkSomeRule_7 d_H_checkSomeRule_10 d_H_checkSomeRule_11 d_H_checkSomeRule_13 d_H_checkSomeRule_16 (by decide +kernel) up2_fit wt_167_169 wo_171 (by decide) (Nat.le_of_ble_eq_true rfl) (by decide) (by decide) (by rw [pcRule, if_pos h4] <;> rfl) (rfl)

set_option maxHeartbeats 4000000 in
set_option maxRecDepth 100000 in
theorem k_checkFault (l : Launch) (hl : l.stackTraces = false) (dC : Nat → ClassId) (dI : Nat → Nat → Nat) (g k : Nat → Nat) (tl : List (ClassId × FieldType)) (u : jU) (hH : wfH u) : jMet l y_H_checkNoFault (.code y_H_checkNoFault c_H_checkNoFault 1 none) ({ frames := 6, cells := 1, slots := 6, locals := 102 }) (dC, dI) jcl (ctys k tl) jTs [.ref (g 0)] (cw g k u) 1 6 (jE (pcFault u) none (cw g k (pJudge u))) := by
  refine jMet.of (by decide) (Nat.le_of_ble_eq_true rfl) ?_
  intro p e s m below meth c A hC hex hr hnm htr0
  have htr : e.platform.stackTraces = false := htr0.trans hl
  show jJ p l e ({ frames := 6, cells := 1, slots := 6, locals := 102 }) s m [.ref (g 0)].toArray below meth c 1 (dC, dI) jcl A (hxQ below (jQ (dC, dI) jcl (jE (pcFault u) none (cw g k (pJudge u))) A) [.ref (g 0)].toArray s 1 6 A) 0 0 (cw g k u) [(0, .ref (g 0))] [] 0
  refine j_aload_n hC d_H_checkNoFault_0 rfl 0 rfl ?_
  refine j_callVr (As := []) (rest := []) (st1 := []) hC (k_judge l dC dI g k tl u hH) rfl rfl ww_H_111 yn_H_judge (cw_house g k u) rfl rfl d_H_checkNoFault_1 (Nat.le_of_ble_eq_true rfl) (by decide) (by decide) rfl ?_
  refine j_aload_n hC d_H_checkNoFault_4 rfl 0 rfl ?_
  refine j_get hC hin_H (0) (cw_house g k (pJudge u)) rfl 9 (by decide) (hC.2.2.2.2.1 _ wf_H_40) (fun _ h9 => h9) rfl d_H_checkNoFault_5 ?_
  refine j_iconst (v := -1) hC d_H_checkNoFault_8 (by decide) ?_
  refine j_icmp_eq (tgt := 22) hC d_H_checkNoFault_9 (by decide) (fun h9 => ?_) (fun h9 => ?_)
  · refine j_widen (cells' := 1) (slots' := 6) (by decide) (by decide) ?_
    exact j_vret hC hr ⟨(by rw [pcFault, if_pos h9]), fun _ => rfl, rfl⟩ d_H_checkNoFault_22
  · exact j_throwE (tx := _) (names := up2) hC hex htr (by decide +kernel) (by decide +kernel) (by decide +kernel) (by decide +kernel) d_H_checkNoFault_12 d_H_checkNoFault_15 d_H_checkNoFault_16 d_H_checkNoFault_18 d_H_checkNoFault_21 (by decide +kernel) up2_fit wt_167_172 wo_171 (by decide) (Nat.le_of_ble_eq_true rfl) (by decide) (by decide) (by rw [pcFault, if_neg h9] <;> rfl) (rfl)

set_option maxHeartbeats 4000000 in
set_option maxRecDepth 100000 in
theorem k_setGiven (l : Launch) (dC : Nat → ClassId) (dI : Nat → Nat → Nat) (g k : Nat → Nat) (tl : List (ClassId × FieldType)) (u : jU) (r a b z : Int32) (hr8 : inN r 8) (hf : inN (pFst u r a) 12) : jMet l y_H_setGiven (.code y_H_setGiven c_H_setGiven 7 (some .boolean)) ({ frames := 1, cells := 0, slots := 0, locals := 22 }) (dC, dI) jcl (ctys k tl) jTs [.ref (g 0), .int r, .int a, .int b, .int z] (cw g k u) 0 0 (jRet (some (.int ((pSG u r a b z).1))) (cw g k ((pSG u r a b z).2))) := by
  refine jMet.of (by decide) (Nat.le_of_ble_eq_true rfl) ?_
  intro p e s m below meth c A hC hex hr hnm htr
  show jJ p l e ({ frames := 1, cells := 0, slots := 0, locals := 22 }) s m [.ref (g 0), .int r, .int a, .int b, .int z].toArray below meth c 7 (dC, dI) jcl A (hxQ below (jQ (dC, dI) jcl (jRet (some (.int ((pSG u r a b z).1))) (cw g k ((pSG u r a b z).2))) A) [.ref (g 0), .int r, .int a, .int b, .int z].toArray s 0 0 A) 0 0 (cw g k u) [(0, .ref (g 0)), (1, .int r), (2, .int a), (3, .int b), (4, .int z)] [] 0
  refine j_iload_n hC d_H_setGiven_0 rfl 1 rfl ?_
  refine j_aload_n hC d_H_setGiven_1 rfl 0 rfl ?_
  refine j_iload_n hC d_H_setGiven_2 rfl 1 rfl ?_
  refine j_iload_n hC d_H_setGiven_3 rfl 2 rfl ?_
  refine j_callVr (As := [.int r, .int a]) (rest := [.int r]) (st1 := [.int (pFst u r a), .int r]) hC (k_first l dC dI g k tl u r a hr8) rfl rfl ww_H_85 yn_H_firstOf (cw_house g k u) rfl rfl d_H_setGiven_4 (Nat.le_of_ble_eq_true rfl) (by decide) ⟨Nat.zero_le _, Nat.zero_le _⟩ rfl ?_
  refine j_callSr (As := [.int r, .int (pFst u r a)]) (rest := []) (st1 := [.int (r * 12 + pFst u r a)]) hC (k_rowAt l dC dI g k tl u r (pFst u r a)) rfl rfl ww_H_174 yn_H_rowAt rfl d_H_setGiven_7 (Nat.le_of_ble_eq_true rfl) (by decide) ⟨Nat.zero_le _, Nat.zero_le _⟩ rfl ?_
  refine j_istore (lv' := [(0, .ref (g 0)), (1, .int r), (2, .int a), (3, .int b), (4, .int z), (5, .int (r * 12 + pFst u r a))]) hC d_H_setGiven_10 (by decide) rfl rfl ?_
  refine j_aload_n hC d_H_setGiven_12 rfl 0 rfl ?_
  refine j_iload_n hC d_H_setGiven_13 rfl 1 rfl ?_
  refine j_iload_n hC d_H_setGiven_14 rfl 3 rfl ?_
  refine j_callVr (As := [.int r, .int b]) (rest := []) (st1 := [.int (pSnd u r b)]) hC (k_second l dC dI g k tl u r b hr8) rfl rfl ww_H_89 yn_H_secondOf (cw_house g k u) rfl rfl d_H_setGiven_15 (Nat.le_of_ble_eq_true rfl) (by decide) ⟨Nat.zero_le _, Nat.zero_le _⟩ rfl ?_
  refine j_istore (lv' := [(0, .ref (g 0)), (1, .int r), (2, .int a), (3, .int b), (4, .int z), (5, .int (r * 12 + pFst u r a)), (6, .int (pSnd u r b))]) hC d_H_setGiven_18 (by decide) rfl rfl ?_
  refine j_aload_n hC d_H_setGiven_20 rfl 0 rfl ?_
  refine j_get hC hin_H (0) (cw_house g k u) rfl 1 (by decide) (hC.2.2.2.2.1 _ wf_H_15) (fun _ h9 => h9) rfl d_H_setGiven_21 ?_
  refine j_iload hC d_H_setGiven_24 5 rfl ?_
  refine j_ialdN hC (2) 0 (cw_given g k u) rfl (n := pGRow u r a) (in_row hr8 hf) (row_lt hr8 hf) (by decide) d_H_setGiven_26 ?_
  refine j_iload hC d_H_setGiven_27 6 rfl ?_
  refine j_callSr (As := [.int (u 2 (pGRow u r a)), .int (pSnd u r b)]) (rest := []) (st1 := [.int (b2i (hb (u 2 (pGRow u r a)) (pSnd u r b)))]) hC (k_hasBit l dC dI g k tl u (u 2 (pGRow u r a)) (pSnd u r b)) rfl rfl ww_H_184 yn_H_hasBit rfl d_H_setGiven_29 (Nat.le_of_ble_eq_true rfl) (by decide) ⟨Nat.zero_le _, Nat.zero_le _⟩ rfl ?_
  refine j_iload hC d_H_setGiven_32 4 rfl ?_
  refine j_icmp_ne (tgt := 39) hC d_H_setGiven_34 (by decide) (fun h34 => ?_) (fun h34 => ?_)
  · refine j_aload_n hC d_H_setGiven_39 rfl 0 rfl ?_
    refine j_get hC hin_H (0) (cw_house g k u) rfl 1 (by decide) (hC.2.2.2.2.1 _ wf_H_15) (fun _ h9 => h9) rfl d_H_setGiven_40 ?_
    refine j_iload hC d_H_setGiven_43 5 rfl ?_
    refine j_dup2_11 hC d_H_setGiven_45 rfl rfl ?_
    refine j_ialdN hC (2) 0 (cw_given g k u) rfl (n := pGRow u r a) (in_row hr8 hf) (row_lt hr8 hf) (by decide) d_H_setGiven_46 ?_
    refine j_iconst (v := 1) hC d_H_setGiven_47 (by decide) ?_
    refine j_iload hC d_H_setGiven_48 6 rfl ?_
    refine j_ishl hC d_H_setGiven_50 ?_
    refine j_ixor hC d_H_setGiven_51 ?_
    refine j_iastN (ws' := cw g k (up u 2 (pGRow u r a) ((u 2 (pGRow u r a)) ^^^ (1 <<< ((pSnd u r b) &&& 31))))) hC (2) 0 (cw_given g k u) rfl (n := pGRow u r a) (in_row hr8 hf) (row_lt hr8 hf) (by decide) (cw_set_given g k u (pGRow u r a) ((u 2 (pGRow u r a)) ^^^ (1 <<< ((pSnd u r b) &&& 31)))) d_H_setGiven_52 ?_
    refine j_aload_n hC d_H_setGiven_53 rfl 0 rfl ?_
    refine j_iconst (v := 0) hC d_H_setGiven_54 (by decide) ?_
    refine j_put (ty := .boolean) (ws' := cw g k (up (up u 2 (pGRow u r a) ((u 2 (pGRow u r a)) ^^^ (1 <<< ((pSnd u r b) &&& 31)))) 0 4 0)) hC hin_H tyX4 tyX4_ok nmX4 (0) (cw_house g k (up u 2 (pGRow u r a) ((u 2 (pGRow u r a)) ^^^ (1 <<< ((pSnd u r b) &&& 31))))) rfl 11 (by decide) (hC.2.2.2.2.1 _ wf_H_181) (fun _ h9 => h9) rfl (by decide +kernel) (rfl) (rfl) (Nat.le_of_ble_eq_true rfl) (cw_set_settled g k (up u 2 (pGRow u r a) ((u 2 (pGRow u r a)) ^^^ (1 <<< ((pSnd u r b) &&& 31)))) 0) d_H_setGiven_55 ?_
    refine j_iconst (v := 1) hC d_H_setGiven_58 (by decide) ?_
    exact j_zret hC hr (rfl) (by rw [pSG, if_neg h34]; exact ⟨rfl, rfl, rfl⟩) d_H_setGiven_59
  · refine j_iconst (v := 0) hC d_H_setGiven_37 (by decide) ?_
    exact j_zret hC hr (rfl) (by rw [pSG, if_pos h34]; exact ⟨rfl, rfl, rfl⟩) d_H_setGiven_38

set_option maxHeartbeats 4000000 in
set_option maxRecDepth 100000 in
theorem k_clear (l : Launch) (dC : Nat → ClassId) (dI : Nat → Nat → Nat) (g k : Nat → Nat) (tl : List (ClassId × FieldType)) (u : jU)  : jMet l y_H_clear (.code y_H_clear c_H_clear 1 none) ({ frames := 1, cells := 0, slots := 0, locals := 23 }) (dC, dI) jcl (ctys k tl) jTs [.ref (g 0)] (cw g k u) 0 0 (jRet none (cw g k (pClear u))) := by
  refine jMet.of (by decide) (Nat.le_of_ble_eq_true rfl) ?_
  intro p e s m below meth c A hC hex hr hnm htr
  show jJ p l e ({ frames := 1, cells := 0, slots := 0, locals := 23 }) s m [.ref (g 0)].toArray below meth c 1 (dC, dI) jcl A (hxQ below (jQ (dC, dI) jcl (jRet none (cw g k (pClear u))) A) [.ref (g 0)].toArray s 0 0 A) 0 0 (cw g k u) [(0, .ref (g 0))] [] 0
  refine j_aload_n hC d_H_clear_0 rfl 0 rfl ?_
  refine j_get hC hin_H (0) (cw_house g k u) rfl 1 (by decide) (hC.2.2.2.2.1 _ wf_H_15) (fun _ h9 => h9) rfl d_H_clear_1 ?_
  refine j_iconst (v := 0) hC d_H_clear_4 (by decide) ?_
  refine j_callSr (As := [.ref (g 2), .int 0]) (rest := []) (st1 := []) hC (k_fill_given l dC dI g k tl u) rfl rfl ww_H_45 yn_Arrays_fill rfl d_H_clear_5 (Nat.le_of_ble_eq_true rfl) (by decide) ⟨Nat.zero_le _, Nat.zero_le _⟩ rfl ?_
  refine j_aload_n hC d_H_clear_8 rfl 0 rfl ?_
  refine j_iconst (v := 0) hC d_H_clear_9 (by decide) ?_
  refine j_put (ty := .int) (ws' := cw g k (up (pFill u 2 96) 0 0 0)) hC hin_H tyX4 tyX4_ok nmX4 (0) (cw_house g k (pFill u 2 96)) rfl 3 (by decide) (hC.2.2.2.2.1 _ wf_H_51) (fun _ h9 => h9) rfl (by decide +kernel) (rfl) (rfl) (Nat.le_of_ble_eq_true rfl) (cw_set_relationCount g k (pFill u 2 96) 0) d_H_clear_10 ?_
  refine j_aload_n hC d_H_clear_13 rfl 0 rfl ?_
  refine j_iconst (v := 0) hC d_H_clear_14 (by decide) ?_
  refine j_put (ty := .int) (ws' := cw g k (up (up (pFill u 2 96) 0 0 0) 0 1 0)) hC hin_H tyX4 tyX4_ok nmX4 (0) (cw_house g k (up (pFill u 2 96) 0 0 0)) rfl 4 (by decide) (hC.2.2.2.2.1 _ wf_H_54) (fun _ h9 => h9) rfl (by decide +kernel) (rfl) (rfl) (Nat.le_of_ble_eq_true rfl) (cw_set_ruleCount g k (up (pFill u 2 96) 0 0 0) 0) d_H_clear_15 ?_
  refine j_aload_n hC d_H_clear_18 rfl 0 rfl ?_
  refine j_callVr (As := []) (rest := []) (st1 := []) hC (k_stale l dC dI g k tl (up (up (pFill u 2 96) 0 0 0) 0 1 0)) rfl rfl ww_H_57 yn_H_rulesChanged (cw_house g k (up (up (pFill u 2 96) 0 0 0) 0 1 0)) rfl rfl d_H_clear_19 (Nat.le_of_ble_eq_true rfl) (by decide) ⟨Nat.zero_le _, Nat.zero_le _⟩ rfl ?_
  exact j_vret hC hr ⟨rfl, rfl, rfl⟩ d_H_clear_22

set_option maxHeartbeats 4000000 in
set_option maxRecDepth 100000 in
theorem k_fault (l : Launch) (dC : Nat → ClassId) (dI : Nat → Nat → Nat) (g k : Nat → Nat) (tl : List (ClassId × FieldType)) (u : jU) (hH : wfH u) : jMet l y_H_fault (.code y_H_fault c_H_fault 1 (some .int)) ({ frames := 5, cells := 0, slots := 0, locals := 102 }) (dC, dI) jcl (ctys k tl) jTs [.ref (g 0)] (cw g k u) 0 0 (jRet (some (.int (pJudge u 0 2))) (cw g k (pJudge u))) := by
  refine jMet.of (by decide) (Nat.le_of_ble_eq_true rfl) ?_
  intro p e s m below meth c A hC hex hr hnm htr
  show jJ p l e ({ frames := 5, cells := 0, slots := 0, locals := 102 }) s m [.ref (g 0)].toArray below meth c 1 (dC, dI) jcl A (hxQ below (jQ (dC, dI) jcl (jRet (some (.int (pJudge u 0 2))) (cw g k (pJudge u))) A) [.ref (g 0)].toArray s 0 0 A) 0 0 (cw g k u) [(0, .ref (g 0))] [] 0
  refine j_aload_n hC d_H_fault_0 rfl 0 rfl ?_
  refine j_callVr (As := []) (rest := []) (st1 := []) hC (k_judge l dC dI g k tl u hH) rfl rfl ww_H_111 yn_H_judge (cw_house g k u) rfl rfl d_H_fault_1 (Nat.le_of_ble_eq_true rfl) (by decide) ⟨Nat.zero_le _, Nat.zero_le _⟩ rfl ?_
  refine j_aload_n hC d_H_fault_4 rfl 0 rfl ?_
  refine j_get hC hin_H (0) (cw_house g k (pJudge u)) rfl 9 (by decide) (hC.2.2.2.2.1 _ wf_H_40) (fun _ h9 => h9) rfl d_H_fault_5 ?_
  exact j_iret hC hr ⟨rfl, rfl, rfl⟩ d_H_fault_8
