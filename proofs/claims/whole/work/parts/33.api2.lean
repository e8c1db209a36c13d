set_option maxHeartbeats 4000000 in
set_option maxRecDepth 100000 in
theorem k_layer (l : Launch) (hl : l.stackTraces = false) (dC : Nat → ClassId) (dI : Nat → Nat → Nat) (g k : Nat → Nat) (tl : List (ClassId × FieldType)) (u : jU) (hH : wfH u) (r : Int32) : jMet l y_H_layer (.code y_H_layer c_H_layer 2 (some .int)) ({ frames := 7, cells := 2, slots := 12, locals := 122 }) (dC, dI) jcl (ctys k tl) jTs [.ref (g 0), .int r] (cw g k u) 2 12 (jE (pcAsk (pcRel u r) u) (some (.int (pJudge u 3 (tn r)))) (cw g k (pAskJ (pcRel u r) u))) := by
  refine jMet.of (by decide) (Nat.le_of_ble_eq_true rfl) ?_
  intro p e s m below meth c A hC hex hr hnm htr0
  have htr : e.platform.stackTraces = false := htr0.trans hl
  show jJ p l e ({ frames := 7, cells := 2, slots := 12, locals := 122 }) s m [.ref (g 0), .int r].toArray below meth c 2 (dC, dI) jcl A (hxQ below (jQ (dC, dI) jcl (jE (pcAsk (pcRel u r) u) (some (.int (pJudge u 3 (tn r)))) (cw g k (pAskJ (pcRel u r) u))) A) [.ref (g 0), .int r].toArray s 2 12 A) 0 0 (cw g k u) [(0, .ref (g 0)), (1, .int r)] [] 0
  refine j_aload_n hC d_H_layer_0 rfl 0 rfl ?_
  refine j_iload_n hC d_H_layer_1 rfl 1 rfl ?_
  refine j_callVx (As := [.int r]) (rest := []) (st1 := []) hC hex (k_checkRel l hl dC dI g k tl u r) rfl rfl ww_H_114 yn_H_checkRelation (cw_house g k u) rfl rfl d_H_layer_2 (Nat.le_of_ble_eq_true rfl) (by decide) (by decide) (by decide) rfl (fun cn h => ⟨by rw [pcAsk, if_neg (by rw [h]; exact Option.some_ne_none _)]; exact h, congrArg (cw g k) (by rw [pAskJ, if_neg (by rw [h]; exact Option.some_ne_none _)])⟩) (fun hc2 => ?_)
  refine j_aload_n hC d_H_layer_5 rfl 0 rfl ?_
  refine j_callVx (As := []) (rest := []) (st1 := []) hC hex (k_checkFault l hl dC dI g k tl u hH) rfl rfl ww_H_118 yn_H_checkNoFault (cw_house g k u) rfl rfl d_H_layer_6 (Nat.le_of_ble_eq_true rfl) (by decide) (by decide) (by decide) rfl (fun cn h => ⟨by rw [pcAsk, if_pos hc2]; exact h, congrArg (cw g k) (by rw [pAskJ, if_pos hc2])⟩) (fun hc6 => ?_)
  refine j_aload_n hC d_H_layer_9 rfl 0 rfl ?_
  refine j_get hC hin_H (0) (cw_house g k (pJudge u)) rfl 5 (by decide) (hC.2.2.2.2.1 _ wf_H_24) (fun _ h9 => h9) rfl d_H_layer_10 ?_
  refine j_iload_n hC d_H_layer_13 rfl 1 rfl ?_
  refine j_ialdN hC (4) 0 (cw_layers g k (pJudge u)) rfl (n := tn r) ((rel_in hH hc2).1) ((rel_in hH hc2).2) (by decide) d_H_layer_14 ?_
  refine j_widen (cells' := 2) (slots' := 12) (by decide) (by decide) ?_
  exact j_iret hC hr ⟨(by rw [pcAsk, if_pos hc2]; exact hc6.symm), fun _ => rfl, congrArg (cw g k) (by rw [pAskJ, if_pos hc2])⟩ d_H_layer_15

set_option maxHeartbeats 4000000 in
set_option maxRecDepth 100000 in
theorem k_countR (l : Launch) (hl : l.stackTraces = false) (dC : Nat → ClassId) (dI : Nat → Nat → Nat) (g k : Nat → Nat) (tl : List (ClassId × FieldType)) (u : jU) (hH : wfH u) (hT : pcFault u = none → wfT (pJudge u)) (r : Int32) : jMet l y_H_count (.code y_H_count c_H_count 5 (some .int)) ({ frames := 11, cells := 2, slots := 12, locals := 453 }) (dC, dI) jcl (ctys k tl) jTs [.ref (g 0), .int r] (cw g k u) 2 12 (jE (pcAsk (pcRel u r) u) (some (.int (pCn (pJS u) (144 * tn r) 144))) (cw g k (pAskS (pcRel u r) u))) := by
  refine jMet.of (by decide) (Nat.le_of_ble_eq_true rfl) ?_
  intro p e s m below meth c A hC hex hr hnm htr0
  have htr : e.platform.stackTraces = false := htr0.trans hl
  show jJ p l e ({ frames := 11, cells := 2, slots := 12, locals := 453 }) s m [.ref (g 0), .int r].toArray below meth c 5 (dC, dI) jcl A (hxQ below (jQ (dC, dI) jcl (jE (pcAsk (pcRel u r) u) (some (.int (pCn (pJS u) (144 * tn r) 144))) (cw g k (pAskS (pcRel u r) u))) A) [.ref (g 0), .int r].toArray s 2 12 A) 0 0 (cw g k u) [(0, .ref (g 0)), (1, .int r)] [] 0
  have loop : pcRel u r = none → pcFault u = none → ∀ (mm n : Nat), n ≤ 144 → 144 < n + mm → jJ p l e ({ frames := 11, cells := 2, slots := 12, locals := 453 }) s m [.ref (g 0), .int r].toArray below meth c 5 (dC, dI) jcl A (hxQ below (jQ (dC, dI) jcl (jE (pcAsk (pcRel u r) u) (some (.int (pCn (pJS u) (144 * tn r) 144))) (cw g k (pAskS (pcRel u r) u))) A) [.ref (g 0), .int r].toArray s 2 12 A) 2 12 (cw g k (pJS u)) [(0, .ref (g 0)), (1, .int r), (2, .int (pCn (pJS u) (144 * tn r) n)), (3, .int (nI (144 * tn r + 144))), (4, .int (nI (144 * tn r + n)))] [] 31 := by
    intro hc2 hc6 mm
    have hr8 := (rel_in hH hc2).2
    induction mm with
    | zero => intro n h1 h2; exact absurd h2 (by omega)
    | succ mm ih =>
      intro n hn hm
      refine j_iload hC d_H_count_31 4 rfl ?_
      refine j_iload_n hC d_H_count_33 rfl 3 rfl ?_
      refine j_icmp_ge (tgt := 57) hC d_H_count_34 (by decide) (fun h34 => ?_) (fun h34 => ?_)
      · have hge : 144 * tn r + 144 ≤ 144 * tn r + n := (nI_leI (by omega) (by omega)).mp h34
        have hne : n = 144 := by omega
        subst hne
        refine j_iload_n hC d_H_count_57 rfl 2 rfl ?_
        refine j_widen (cells' := 2) (slots' := 12) (by decide) (by decide) ?_
        exact j_iret hC hr ⟨(by rw [pcAsk, if_pos hc2]; exact hc6.symm), fun _ => rfl, congrArg (cw g k) (by rw [pAskS, if_pos hc2, if_pos hc6])⟩ d_H_count_58
      · have hlt : 144 * tn r + n < 144 * tn r + 144 := Nat.not_le.mp (fun z => h34 ((nI_leI (by omega) (by omega)).mpr z))
        refine j_aload_n hC d_H_count_37 rfl 0 rfl ?_
        refine j_get hC hin_H (0) (cw_house g k (pJS u)) rfl 6 (by decide) (hC.2.2.2.2.1 _ wf_H_27) (fun _ h9 => h9) rfl d_H_count_38 ?_
        refine j_iload hC d_H_count_41 4 rfl ?_
        refine j_ialdN hC (5) 0 (cw_ranks g k (pJS u)) rfl (n := 144 * tn r + n) (rfl) (by omega) (by decide) d_H_count_43 ?_
        refine j_iconst (v := -1) hC d_H_count_44 (by decide) ?_
        refine j_icmp_eq (tgt := 51) hC d_H_count_45 (by decide) (fun h45 => ?_) (fun h45 => ?_)
        · refine j_iinc (lv' := [(0, .ref (g 0)), (1, .int r), (2, .int (pCn (pJS u) (144 * tn r) n)), (3, .int (nI (144 * tn r + 144))), (4, .int (nI (144 * tn r + n + 1)))]) hC d_H_count_51 4 rfl (nI_1 _) (by decide) rfl rfl ?_
          refine j_goto (tgt := 31) hC d_H_count_54 (by decide) ?_
          have e9 : pCn (pJS u) (144 * tn r) (n + 1) = pCn (pJS u) (144 * tn r) n := if_pos h45
          have k9 := ih (n + 1) (by omega) (by omega)
          rw [e9] at k9
          exact k9
        · refine j_iinc (lv' := [(0, .ref (g 0)), (1, .int r), (2, .int ((pCn (pJS u) (144 * tn r) n) + 1)), (3, .int (nI (144 * tn r + 144))), (4, .int (nI (144 * tn r + n)))]) hC d_H_count_48 2 rfl rfl (by decide) rfl rfl ?_
          refine j_iinc (lv' := [(0, .ref (g 0)), (1, .int r), (2, .int ((pCn (pJS u) (144 * tn r) n) + 1)), (3, .int (nI (144 * tn r + 144))), (4, .int (nI (144 * tn r + n + 1)))]) hC d_H_count_51 4 rfl (nI_1 _) (by decide) rfl rfl ?_
          refine j_goto (tgt := 31) hC d_H_count_54 (by decide) ?_
          have e9 : pCn (pJS u) (144 * tn r) (n + 1) = (pCn (pJS u) (144 * tn r) n) + 1 := if_neg h45
          have k9 := ih (n + 1) (by omega) (by omega)
          rw [e9] at k9
          exact k9
  refine j_aload_n hC d_H_count_0 rfl 0 rfl ?_
  refine j_iload_n hC d_H_count_1 rfl 1 rfl ?_
  refine j_callVx (As := [.int r]) (rest := []) (st1 := []) hC hex (k_checkRel l hl dC dI g k tl u r) rfl rfl ww_H_114 yn_H_checkRelation (cw_house g k u) rfl rfl d_H_count_2 (Nat.le_of_ble_eq_true rfl) (by decide) (by decide) (by decide) rfl (fun cn h => ⟨by rw [pcAsk, if_neg (by rw [h]; exact Option.some_ne_none _)]; exact h, congrArg (cw g k) (by rw [pAskS, if_neg (by rw [h]; exact Option.some_ne_none _)])⟩) (fun hc2 => ?_)
  refine j_aload_n hC d_H_count_5 rfl 0 rfl ?_
  refine j_callVx (As := []) (rest := []) (st1 := []) hC hex (k_checkFault l hl dC dI g k tl u hH) rfl rfl ww_H_118 yn_H_checkNoFault (cw_house g k u) rfl rfl d_H_count_6 (Nat.le_of_ble_eq_true rfl) (by decide) (by decide) (by decide) rfl (fun cn h => ⟨by rw [pcAsk, if_pos hc2]; exact h, congrArg (cw g k) (by rw [pAskS, if_pos hc2, if_neg (by rw [h]; exact Option.some_ne_none _)])⟩) (fun hc6 => ?_)
  refine j_aload_n hC d_H_count_9 rfl 0 rfl ?_
  refine j_callVr (As := []) (rest := []) (st1 := []) hC (k_settle l dC dI g k tl (pJudge u) (pJudge_wf hH) (hT hc6)) rfl rfl ww_H_121 yn_H_settle (cw_house g k (pJudge u)) rfl rfl d_H_count_10 (Nat.le_of_ble_eq_true rfl) (by decide) (by decide) rfl ?_
  refine j_iconst (v := 0) hC d_H_count_13 (by decide) ?_
  refine j_istore_n (lv' := [(0, .ref (g 0)), (1, .int r), (2, .int 0)]) hC d_H_count_14 rfl (by decide) rfl rfl ?_
  refine j_iload_n hC d_H_count_15 rfl 1 rfl ?_
  refine j_bipush (v := 12) hC d_H_count_16 (by decide) ?_
  refine j_iconst (v := 0) hC d_H_count_18 (by decide) ?_
  refine j_callSr (As := [.int r, .int 12, .int 0]) (rest := []) (st1 := [.int ((r * 12 + 12) * 12 + 0)]) hC (k_factAt l dC dI g k tl (pJS u) r 12 0) rfl rfl ww_H_124 yn_H_factAt rfl d_H_count_19 (Nat.le_of_ble_eq_true rfl) (by decide) (by decide) rfl ?_
  rw [show (r * 12 + 12) * 12 + 0 = nI (144 * tn r + 144) from (in_fact (rel_in hH hc2) 12 0).trans (congrArg nI (by omega))]
  refine j_istore_n (lv' := [(0, .ref (g 0)), (1, .int r), (2, .int 0), (3, .int (nI (144 * tn r + 144)))]) hC d_H_count_22 rfl (by decide) rfl rfl ?_
  refine j_iload_n hC d_H_count_23 rfl 1 rfl ?_
  refine j_iconst (v := 0) hC d_H_count_24 (by decide) ?_
  refine j_iconst (v := 0) hC d_H_count_25 (by decide) ?_
  refine j_callSr (As := [.int r, .int 0, .int 0]) (rest := []) (st1 := [.int ((r * 12 + 0) * 12 + 0)]) hC (k_factAt l dC dI g k tl (pJS u) r 0 0) rfl rfl ww_H_124 yn_H_factAt rfl d_H_count_26 (Nat.le_of_ble_eq_true rfl) (by decide) (by decide) rfl ?_
  rw [show (r * 12 + 0) * 12 + 0 = nI (144 * tn r + 0) from (in_fact (rel_in hH hc2) 0 0).trans (congrArg nI (by omega))]
  refine j_istore (lv' := [(0, .ref (g 0)), (1, .int r), (2, .int 0), (3, .int (nI (144 * tn r + 144))), (4, .int (nI (144 * tn r + 0)))]) hC d_H_count_29 (by decide) rfl rfl ?_
  exact loop hc2 hc6 145 0 (by omega) (by omega)

set_option maxHeartbeats 4000000 in
set_option maxRecDepth 100000 in
theorem k_rank (l : Launch) (hl : l.stackTraces = false) (dC : Nat → ClassId) (dI : Nat → Nat → Nat) (g k : Nat → Nat) (tl : List (ClassId × FieldType)) (u : jU) (hH : wfH u) (hT : pcFault u = none → wfT (pJudge u)) (r a b : Int32) : jMet l y_H_rank (.code y_H_rank c_H_rank 4 (some .int)) ({ frames := 11, cells := 3, slots := 18, locals := 453 }) (dC, dI) jcl (ctys k tl) jTs [.ref (g 0), .int r, .int a, .int b] (cw g k u) 3 18 (jE (pcAsk (pcFact u r a b) u) (some (.int (pJS u 4 (pFx u r a b)))) (cw g k (pAskS (pcFact u r a b) u))) := by
  refine jMet.of (by decide) (Nat.le_of_ble_eq_true rfl) ?_
  intro p e s m below meth c A hC hex hr hnm htr0
  have htr : e.platform.stackTraces = false := htr0.trans hl
  show jJ p l e ({ frames := 11, cells := 3, slots := 18, locals := 453 }) s m [.ref (g 0), .int r, .int a, .int b].toArray below meth c 4 (dC, dI) jcl A (hxQ below (jQ (dC, dI) jcl (jE (pcAsk (pcFact u r a b) u) (some (.int (pJS u 4 (pFx u r a b)))) (cw g k (pAskS (pcFact u r a b) u))) A) [.ref (g 0), .int r, .int a, .int b].toArray s 3 18 A) 0 0 (cw g k u) [(0, .ref (g 0)), (1, .int r), (2, .int a), (3, .int b)] [] 0
  refine j_aload_n hC d_H_rank_0 rfl 0 rfl ?_
  refine j_iload_n hC d_H_rank_1 rfl 1 rfl ?_
  refine j_iload_n hC d_H_rank_2 rfl 2 rfl ?_
  refine j_iload_n hC d_H_rank_3 rfl 3 rfl ?_
  refine j_callVx (As := [.int r, .int a, .int b]) (rest := []) (st1 := []) hC hex (k_checkFact l hl dC dI g k tl u hH r a b) rfl rfl ww_H_72 yn_H_checkFact (cw_house g k u) rfl rfl d_H_rank_4 (Nat.le_of_ble_eq_true rfl) (by decide) (by decide) (by decide) rfl (fun cn h => ⟨by rw [pcAsk, if_neg (by rw [h]; exact Option.some_ne_none _)]; exact h, congrArg (cw g k) (by rw [pAskS, if_neg (by rw [h]; exact Option.some_ne_none _)])⟩) (fun hc4 => ?_)
  refine j_aload_n hC d_H_rank_7 rfl 0 rfl ?_
  refine j_callVx (As := []) (rest := []) (st1 := []) hC hex (k_checkFault l hl dC dI g k tl u hH) rfl rfl ww_H_118 yn_H_checkNoFault (cw_house g k u) rfl rfl d_H_rank_8 (Nat.le_of_ble_eq_true rfl) (by decide) (by decide) (by decide) rfl (fun cn h => ⟨by rw [pcAsk, if_pos hc4]; exact h, congrArg (cw g k) (by rw [pAskS, if_pos hc4, if_neg (by rw [h]; exact Option.some_ne_none _)])⟩) (fun hc8 => ?_)
  refine j_aload_n hC d_H_rank_11 rfl 0 rfl ?_
  refine j_callVr (As := []) (rest := []) (st1 := []) hC (k_settle l dC dI g k tl (pJudge u) (pJudge_wf hH) (hT hc8)) rfl rfl ww_H_121 yn_H_settle (cw_house g k (pJudge u)) rfl rfl d_H_rank_12 (Nat.le_of_ble_eq_true rfl) (by decide) (by decide) rfl ?_
  refine j_aload_n hC d_H_rank_15 rfl 0 rfl ?_
  refine j_get hC hin_H (0) (cw_house g k (pJS u)) rfl 6 (by decide) (hC.2.2.2.2.1 _ wf_H_27) (fun _ h9 => h9) rfl d_H_rank_16 ?_
  refine j_iload_n hC d_H_rank_19 rfl 1 rfl ?_
  refine j_aload_n hC d_H_rank_20 rfl 0 rfl ?_
  refine j_iload_n hC d_H_rank_21 rfl 1 rfl ?_
  refine j_iload_n hC d_H_rank_22 rfl 2 rfl ?_
  refine j_callVr (As := [.int r, .int a]) (rest := [.int r, .ref (g 5)]) (st1 := [.int (pFst (pJS u) r a), .int r, .ref (g 5)]) hC (k_first l dC dI g k tl (pJS u) r a (rel_in hH (fact_rel hc4))) rfl rfl ww_H_85 yn_H_firstOf (cw_house g k (pJS u)) rfl rfl d_H_rank_23 (Nat.le_of_ble_eq_true rfl) (by decide) (by decide) rfl ?_
  refine j_aload_n hC d_H_rank_26 rfl 0 rfl ?_
  refine j_iload_n hC d_H_rank_27 rfl 1 rfl ?_
  refine j_iload_n hC d_H_rank_28 rfl 3 rfl ?_
  refine j_callVr (As := [.int r, .int b]) (rest := [.int (pFst (pJS u) r a), .int r, .ref (g 5)]) (st1 := [.int (pSnd (pJS u) r b), .int (pFst (pJS u) r a), .int r, .ref (g 5)]) hC (k_second l dC dI g k tl (pJS u) r b (rel_in hH (fact_rel hc4))) rfl rfl ww_H_89 yn_H_secondOf (cw_house g k (pJS u)) rfl rfl d_H_rank_29 (Nat.le_of_ble_eq_true rfl) (by decide) (by decide) rfl ?_
  rw [pFst_eq (pJS_1 hH) r a, pSnd_eq (pJS_1 hH) r b]
  refine j_callSr (As := [.int r, .int (pFst u r a), .int (pSnd u r b)]) (rest := [.ref (g 5)]) (st1 := [.int ((r * 12 + pFst u r a) * 12 + pSnd u r b), .ref (g 5)]) hC (k_factAt l dC dI g k tl (pJS u) r (pFst u r a) (pSnd u r b)) rfl rfl ww_H_124 yn_H_factAt rfl d_H_rank_32 (Nat.le_of_ble_eq_true rfl) (by decide) (by decide) rfl ?_
  refine j_ialdN hC (5) 0 (cw_ranks g k (pJS u)) rfl (n := pFx u r a b) (in_fact2 (rel_in hH (fact_rel hc4)) (fact_fst hc4) (fact_snd hc4)) (fact2_lt (rel_in hH (fact_rel hc4)) (fact_fst hc4) (fact_snd hc4)) (by decide) d_H_rank_35 ?_
  refine j_widen (cells' := 3) (slots' := 18) (by decide) (by decide) ?_
  exact j_iret hC hr ⟨(by rw [pcAsk, if_pos hc4]; exact hc8.symm), fun _ => rfl, congrArg (cw g k) (by rw [pAskS, if_pos hc4, if_pos hc8])⟩ d_H_rank_36

set_option maxHeartbeats 4000000 in
set_option maxRecDepth 100000 in
theorem k_ways (l : Launch) (hl : l.stackTraces = false) (dC : Nat → ClassId) (dI : Nat → Nat → Nat) (g k : Nat → Nat) (tl : List (ClassId × FieldType)) (u : jU) (hH : wfH u) (hT : pcFault u = none → wfT (pJudge u)) (r a b : Int32) : jMet l y_H_ways (.code y_H_ways c_H_ways 6 (some .int)) ({ frames := 11, cells := 3, slots := 18, locals := 453 }) (dC, dI) jcl (ctys k tl) jTs [.ref (g 0), .int r, .int a, .int b] (cw g k u) 3 18 (jE (pcAsk (pcFact u r a b) u) (some (.int ((pWy u r a b).1))) (cw g k (pAskW u r a b))) := by
  refine jMet.of (by decide) (Nat.le_of_ble_eq_true rfl) ?_
  intro p e s m below meth c A hC hex hr hnm htr0
  have htr : e.platform.stackTraces = false := htr0.trans hl
  show jJ p l e ({ frames := 11, cells := 3, slots := 18, locals := 453 }) s m [.ref (g 0), .int r, .int a, .int b].toArray below meth c 6 (dC, dI) jcl A (hxQ below (jQ (dC, dI) jcl (jE (pcAsk (pcFact u r a b) u) (some (.int ((pWy u r a b).1))) (cw g k (pAskW u r a b))) A) [.ref (g 0), .int r, .int a, .int b].toArray s 3 18 A) 0 0 (cw g k u) [(0, .ref (g 0)), (1, .int r), (2, .int a), (3, .int b)] [] 0
  have hLk : wfH (pLook (pJS u 3 (tn r)) 2147483647 (pJS u)) := (pLook_ok (u := pJS u) _ _ ⟨kp.rf _ _, (pJS_wf hH).1.2.2⟩).wfH (pJS_wf hH)
  have hL1 : (pLook (pJS u 3 (tn r)) 2147483647 (pJS u)) 1 = u 1 := (pLook_kp _ _ _ 1 (by decide)).trans (pJS_1 hH)
  have hL0 : (pLook (pJS u 3 (tn r)) 2147483647 (pJS u)) 0 1 = u 0 1 := (by rw [pLook_kp _ _ _ 0 (by decide)]; exact pJS_01 hH)
  have hk17 := hH.2.2
  have hk := hk17.2
  have loop : pcFact u r a b = none → pcFault u = none → ∀ (n i : Nat) (z : Int32) (v : jU), i ≤ tn (u 0 1) → tn (u 0 1) < i + n → pR (pLook (pJS u 3 (tn r)) 2147483647 (pJS u)) v → pWays r (pFst u r a) (pSnd u r b) (tn (u 0 1) - i) i z v = pWays r (pFst u r a) (pSnd u r b) (tn (u 0 1)) 0 0 (pLook (pJS u 3 (tn r)) 2147483647 (pJS u)) → jJ p l e ({ frames := 11, cells := 3, slots := 18, locals := 453 }) s m [.ref (g 0), .int r, .int a, .int b].toArray below meth c 6 (dC, dI) jcl A (hxQ below (jQ (dC, dI) jcl (jE (pcAsk (pcFact u r a b) u) (some (.int ((pWy u r a b).1))) (cw g k (pAskW u r a b))) A) [.ref (g 0), .int r, .int a, .int b].toArray s 3 18 A) 3 18 (cw g k v) [(0, .ref (g 0)), (1, .int r), (2, .int a), (3, .int b), (4, .int z), (5, .int (nI i))] [] 33 := by
    intro hc4 hc8 n
    induction n with
    | zero => intro i z v h1 h2; exact absurd h2 (by omega)
    | succ n ih =>
      intro i z v hi hn hR hinv
      have hMv : wfM v := hR.wfM hLk.1
      have hv1 : v 1 = u 1 := (hR.1 1 (by decide)).trans hL1
      have hk0 : v 0 1 = u 0 1 := (by rw [hR.1 0 (by decide)]; exact hL0)
      have hmo := pMeets_ok (u := v) i r (pFst u r a) (pSnd u r b) (fact_fst hc4) (fact_snd hc4)
      refine j_iload hC d_H_ways_33 5 rfl ?_
      refine j_aload_n hC d_H_ways_35 rfl 0 rfl ?_
      refine j_get hC hin_H (0) (cw_house g k v) rfl 4 (by decide) (hC.2.2.2.2.1 _ wf_H_54) (fun _ h9 => h9) rfl d_H_ways_36 ?_
      refine j_icmp_ge (tgt := 99) hC d_H_ways_39 (by decide) (fun h39 => ?_) (fun h39 => ?_)
      · have hge : tn (u 0 1) ≤ i := (inN_leN hk17 (by decide) (by omega)).mp (by rw [← hk0]; exact h39)
        have hie : tn (u 0 1) - i = 0 := by omega
        rw [hie] at hinv
        refine j_iload hC d_H_ways_99 4 rfl ?_
        refine j_widen (cells' := 3) (slots' := 18) (by decide) (by decide) ?_
        exact j_iret hC hr ⟨(by rw [pcAsk, if_pos hc4]; exact hc8.symm), (fun _ => by rw [pWy, ← hinv] <;> rfl), congrArg (cw g k) (by rw [pAskW, if_pos hc4, if_pos hc8, pWy, ← hinv] <;> rfl)⟩ d_H_ways_101
      · have hlt : i < tn (u 0 1) := Nat.not_le.mp (fun z => h39 (by rw [hk0]; exact (inN_leN hk17 (by decide) (by omega)).mpr z))
        have hi16 : i < 16 := by omega
        have e12 : pWays r (pFst u r a) (pSnd u r b) (tn (u 0 1) - i) i z v = pWays r (pFst u r a) (pSnd u r b) ((tn (u 0 1) - (i + 1)) + 1) i z v := by rw [show tn (u 0 1) - i = (tn (u 0 1) - (i + 1)) + 1 by omega]
        refine j_aload_n hC d_H_ways_42 rfl 0 rfl ?_
        refine j_get hC hin_H (0) (cw_house g k v) rfl 8 (by decide) (hC.2.2.2.2.1 _ wf_H_36) (fun _ h9 => h9) rfl d_H_ways_43 ?_
        refine j_aload_n hC d_H_ways_46 rfl 0 rfl ?_
        refine j_get hC hin_H (0) (cw_house g k v) rfl 2 (by decide) (hC.2.2.2.2.1 _ wf_H_20) (fun _ h9 => h9) rfl d_H_ways_47 ?_
        refine j_iload hC d_H_ways_50 5 rfl ?_
        refine j_aaldN (v := g (15 + i)) hC (3) 2 (cw_rules g k v) rfl (n := i) (rfl) (hi16) (by decide) (if_pos (hi16)) d_H_ways_52 ?_
        refine j_iload_n hC d_H_ways_53 rfl 1 rfl ?_
        refine j_aload_n hC d_H_ways_54 rfl 0 rfl ?_
        refine j_iload_n hC d_H_ways_55 rfl 1 rfl ?_
        refine j_iload_n hC d_H_ways_56 rfl 2 rfl ?_
        refine j_callVr (As := [.int r, .int a]) (rest := [.int r, .ref (g (15 + i)), .ref (g 7)]) (st1 := [.int (pFst v r a), .int r, .ref (g (15 + i)), .ref (g 7)]) hC (k_first l dC dI g k tl v r a (rel_in hH (fact_rel hc4))) rfl rfl ww_H_85 yn_H_firstOf (cw_house g k v) rfl rfl d_H_ways_57 (Nat.le_of_ble_eq_true rfl) (by decide) (by decide) rfl ?_
        refine j_aload_n hC d_H_ways_60 rfl 0 rfl ?_
        refine j_iload_n hC d_H_ways_61 rfl 1 rfl ?_
        refine j_iload_n hC d_H_ways_62 rfl 3 rfl ?_
        refine j_callVr (As := [.int r, .int b]) (rest := [.int (pFst v r a), .int r, .ref (g (15 + i)), .ref (g 7)]) (st1 := [.int (pSnd v r b), .int (pFst v r a), .int r, .ref (g (15 + i)), .ref (g 7)]) hC (k_second l dC dI g k tl v r b (rel_in hH (fact_rel hc4))) rfl rfl ww_H_89 yn_H_secondOf (cw_house g k v) rfl rfl d_H_ways_63 (Nat.le_of_ble_eq_true rfl) (by decide) (by decide) rfl ?_
        rw [pFst_eq hv1 r a, pSnd_eq hv1 r b]
        refine j_callNr (As := [.ref (g (15 + i)), .int r, .int (pFst u r a), .int (pSnd u r b)]) (rest := []) (st1 := [.int (b2i (pMeets v i r (pFst u r a) (pSnd u r b)).1)]) hC (k_meets l dC dI g k tl v (i := i) hi16 hMv r (pFst u r a) (pSnd u r b) (fact_fst hc4) (fact_snd hc4)) rfl rfl ww_H_133 yn_M_meets (cw_match g k v) rfl rfl d_H_ways_66 (Nat.le_of_ble_eq_true rfl) (by decide) (by decide) rfl ?_
        refine j_if_eq (tgt := 93) hC d_H_ways_69 (by decide) (fun h69 => ?_) (fun h69 => ?_)
        · have hR1 : pR (pLook (pJS u 3 (tn r)) 2147483647 (pJS u)) (pMeets v i r (pFst u r a) (pSnd u r b)).2 := ⟨hR.1.tr (hmo.1.kp (by decide)), hmo.2 hR.2⟩
          refine j_iinc (lv' := [(0, .ref (g 0)), (1, .int r), (2, .int a), (3, .int b), (4, .int z), (5, .int (nI (i + 1)))]) hC d_H_ways_93 5 rfl (nI_1 _) (by decide) rfl rfl ?_
          refine j_goto (tgt := 33) hC d_H_ways_96 (by decide) ?_
          exact ih (i + 1) z (pMeets v i r (pFst u r a) (pSnd u r b)).2 (by omega) (by omega) hR1 (by rw [← hinv, e12, pWays, if_pos h69])
        · have hR1 : pR (pLook (pJS u 3 (tn r)) 2147483647 (pJS u)) (pMeets v i r (pFst u r a) (pSnd u r b)).2 := ⟨hR.1.tr (hmo.1.kp (by decide)), hmo.2 hR.2⟩
          have hco := pCount_frame i 5 20 (pMeets v i r (pFst u r a) (pSnd u r b)).2
          refine j_iload hC d_H_ways_72 4 rfl ?_
          refine j_aload_n hC d_H_ways_74 rfl 0 rfl ?_
          refine j_get hC hin_H (0) (cw_house g k ((pMeets v i r (pFst u r a) (pSnd u r b)).2)) rfl 8 (by decide) (hC.2.2.2.2.1 _ wf_H_36) (fun _ h9 => h9) rfl d_H_ways_75 ?_
          refine j_aload_n hC d_H_ways_78 rfl 0 rfl ?_
          refine j_get hC hin_H (0) (cw_house g k ((pMeets v i r (pFst u r a) (pSnd u r b)).2)) rfl 2 (by decide) (hC.2.2.2.2.1 _ wf_H_20) (fun _ h9 => h9) rfl d_H_ways_79 ?_
          refine j_iload hC d_H_ways_82 5 rfl ?_
          refine j_aaldN (v := g (15 + i)) hC (3) 2 (cw_rules g k ((pMeets v i r (pFst u r a) (pSnd u r b)).2)) rfl (n := i) (rfl) (hi16) (by decide) (if_pos (hi16)) d_H_ways_84 ?_
          refine j_bipush (v := 20) hC d_H_ways_85 (by decide) ?_
          refine j_callNr (As := [.ref (g (15 + i)), .int 20]) (rest := [.int z]) (st1 := [.int ((pCount i 5 20 (pMeets v i r (pFst u r a) (pSnd u r b)).2).1), .int z]) hC (k_count l dC dI g k tl hi16 5 (pMeets v i r (pFst u r a) (pSnd u r b)).2 20 (by decide) (by decide) (hMv.of hmo.1 (hmo.2 hR.2))) rfl rfl ww_H_137 yn_M_countInstances (cw_match g k ((pMeets v i r (pFst u r a) (pSnd u r b)).2)) rfl rfl d_H_ways_87 (Nat.le_of_ble_eq_true rfl) (by decide) (by decide) rfl ?_
          refine j_iadd hC d_H_ways_90 ?_
          refine j_istore (lv' := [(0, .ref (g 0)), (1, .int r), (2, .int a), (3, .int b), (4, .int (z + ((pCount i 5 20 (pMeets v i r (pFst u r a) (pSnd u r b)).2).1))), (5, .int (nI i))]) hC d_H_ways_91 (by decide) rfl rfl ?_
          refine j_iinc (lv' := [(0, .ref (g 0)), (1, .int r), (2, .int a), (3, .int b), (4, .int (z + ((pCount i 5 20 (pMeets v i r (pFst u r a) (pSnd u r b)).2).1))), (5, .int (nI (i + 1)))]) hC d_H_ways_93 5 rfl (nI_1 _) (by decide) rfl rfl ?_
          refine j_goto (tgt := 33) hC d_H_ways_96 (by decide) ?_
          exact ih (i + 1) _ (pCount i 5 20 (pMeets v i r (pFst u r a) (pSnd u r b)).2).2 (by omega) (by omega) ⟨hR1.1.tr (hco.1.kp (by decide)), hco.2 hR1.2⟩ (by rw [← hinv, e12, pWays, if_neg h69])
  refine j_aload_n hC d_H_ways_0 rfl 0 rfl ?_
  refine j_iload_n hC d_H_ways_1 rfl 1 rfl ?_
  refine j_iload_n hC d_H_ways_2 rfl 2 rfl ?_
  refine j_iload_n hC d_H_ways_3 rfl 3 rfl ?_
  refine j_callVx (As := [.int r, .int a, .int b]) (rest := []) (st1 := []) hC hex (k_checkFact l hl dC dI g k tl u hH r a b) rfl rfl ww_H_72 yn_H_checkFact (cw_house g k u) rfl rfl d_H_ways_4 (Nat.le_of_ble_eq_true rfl) (by decide) (by decide) (by decide) rfl (fun cn h => ⟨by rw [pcAsk, if_neg (by rw [h]; exact Option.some_ne_none _)]; exact h, congrArg (cw g k) (by rw [pAskW, if_neg (by rw [h]; exact Option.some_ne_none _)])⟩) (fun hc4 => ?_)
  refine j_aload_n hC d_H_ways_7 rfl 0 rfl ?_
  refine j_callVx (As := []) (rest := []) (st1 := []) hC hex (k_checkFault l hl dC dI g k tl u hH) rfl rfl ww_H_118 yn_H_checkNoFault (cw_house g k u) rfl rfl d_H_ways_8 (Nat.le_of_ble_eq_true rfl) (by decide) (by decide) (by decide) rfl (fun cn h => ⟨by rw [pcAsk, if_pos hc4]; exact h, congrArg (cw g k) (by rw [pAskW, if_pos hc4, if_neg (by rw [h]; exact Option.some_ne_none _)])⟩) (fun hc8 => ?_)
  refine j_aload_n hC d_H_ways_11 rfl 0 rfl ?_
  refine j_callVr (As := []) (rest := []) (st1 := []) hC (k_settle l dC dI g k tl (pJudge u) (pJudge_wf hH) (hT hc8)) rfl rfl ww_H_121 yn_H_settle (cw_house g k (pJudge u)) rfl rfl d_H_ways_12 (Nat.le_of_ble_eq_true rfl) (by decide) (by decide) rfl ?_
  refine j_aload_n hC d_H_ways_15 rfl 0 rfl ?_
  refine j_aload_n hC d_H_ways_16 rfl 0 rfl ?_
  refine j_get hC hin_H (0) (cw_house g k (pJS u)) rfl 5 (by decide) (hC.2.2.2.2.1 _ wf_H_24) (fun _ h9 => h9) rfl d_H_ways_17 ?_
  refine j_iload_n hC d_H_ways_20 rfl 1 rfl ?_
  refine j_ialdN hC (4) 0 (cw_layers g k (pJS u)) rfl (n := tn r) ((rel_in hH (fact_rel hc4)).1) ((rel_in hH (fact_rel hc4)).2) (by decide) d_H_ways_21 ?_
  refine j_ldc (v := 2147483647) hC (hC.2.2.2.2.1 _ wc_H_128) d_H_ways_22 ?_
  refine j_callVr (As := [.int ((pJS u) 3 (tn r)), .int 2147483647]) (rest := []) (st1 := []) hC (k_look l dC dI g k tl (pJS u) (pJS_wf hH) (pJS u 3 (tn r)) 2147483647) rfl rfl ww_H_129 yn_H_look (cw_house g k (pJS u)) rfl rfl d_H_ways_24 (Nat.le_of_ble_eq_true rfl) (by decide) (by decide) rfl ?_
  refine j_iconst (v := 0) hC d_H_ways_27 (by decide) ?_
  refine j_istore (lv' := [(0, .ref (g 0)), (1, .int r), (2, .int a), (3, .int b), (4, .int 0)]) hC d_H_ways_28 (by decide) rfl rfl ?_
  refine j_iconst (v := 0) hC d_H_ways_30 (by decide) ?_
  refine j_istore (lv' := [(0, .ref (g 0)), (1, .int r), (2, .int a), (3, .int b), (4, .int 0), (5, .int 0)]) hC d_H_ways_31 (by decide) rfl rfl ?_
  exact loop hc4 hc8 18 0 0 _ (by omega) (by omega) ⟨kp.rf _ _, hLk.1.2.2⟩ rfl

set_option maxHeartbeats 4000000 in
set_option maxRecDepth 100000 in
theorem k_proof (l : Launch) (hl : l.stackTraces = false) (dC : Nat → ClassId) (dI : Nat → Nat → Nat) (g k : Nat → Nat) (tl : List (ClassId × FieldType)) (u : jU) (hH : wfH u) (hT : pcFault u = none → wfT (pJudge u)) (r a b t : Int32) : jMet l y_H_proof (.code y_H_proof c_H_proof 9 (some .int)) ({ frames := 11, cells := 4, slots := 24, locals := 453 }) (dC, dI) jcl (ctys k tl) jTs [.ref (g 0), .int r, .int a, .int b, .int t] (cw g k u) 4 24 (jE ((pPf u r a b t).1) (some (.int ((pPf u r a b t).2.1))) (cw g k ((pPf u r a b t).2.2))) := by
  refine jMet.of (by decide) (Nat.le_of_ble_eq_true rfl) ?_
  intro p e s m below meth c A hC hex hr hnm htr0
  have htr : e.platform.stackTraces = false := htr0.trans hl
  show jJ p l e ({ frames := 11, cells := 4, slots := 24, locals := 453 }) s m [.ref (g 0), .int r, .int a, .int b, .int t].toArray below meth c 9 (dC, dI) jcl A (hxQ below (jQ (dC, dI) jcl (jE ((pPf u r a b t).1) (some (.int ((pPf u r a b t).2.1))) (cw g k ((pPf u r a b t).2.2))) A) [.ref (g 0), .int r, .int a, .int b, .int t].toArray s 4 24 A) 0 0 (cw g k u) [(0, .ref (g 0)), (1, .int r), (2, .int a), (3, .int b), (4, .int t)] [] 0
  have hLk : wfH (pLook (pJS u 3 (tn r)) (pJS u 4 (pFx u r a b)) (pJS u)) := (pLook_ok (u := pJS u) _ _ ⟨kp.rf _ _, (pJS_wf hH).1.2.2⟩).wfH (pJS_wf hH)
  have hL0 : (pLook (pJS u 3 (tn r)) (pJS u 4 (pFx u r a b)) (pJS u)) 0 1 = u 0 1 := (by rw [pLook_kp _ _ _ 0 (by decide)]; exact pJS_01 hH)
  refine j_aload_n hC d_H_proof_0 rfl 0 rfl ?_
  refine j_iload_n hC d_H_proof_1 rfl 1 rfl ?_
  refine j_iload_n hC d_H_proof_2 rfl 2 rfl ?_
  refine j_iload_n hC d_H_proof_3 rfl 3 rfl ?_
  refine j_callVx (As := [.int r, .int a, .int b]) (rest := []) (st1 := []) hC hex (k_checkFact l hl dC dI g k tl u hH r a b) rfl rfl ww_H_72 yn_H_checkFact (cw_house g k u) rfl rfl d_H_proof_4 (Nat.le_of_ble_eq_true rfl) (by decide) (by decide) (by decide) rfl (fun cn h => ⟨by rw [pPf, if_neg (by rw [h]; exact Option.some_ne_none _), pcFact_some h], congrArg (cw g k) (by rw [pPf, if_neg (by rw [h]; exact Option.some_ne_none _)])⟩) (fun hc4 => ?_)
  refine j_iload hC d_H_proof_7 4 rfl ?_
  refine j_if_lt (tgt := 18) hC d_H_proof_9 (by decide) (fun h9 => ?_) (fun h9 => ?_)
  · exact j_throwE (tx := _) (names := up2) hC hex htr (by decide +kernel) (by decide +kernel) (by decide +kernel) (by decide +kernel) d_H_proof_18 d_H_proof_21 d_H_proof_22 d_H_proof_24 d_H_proof_27 (by decide +kernel) up2_fit wt_60_141 wo_64 (by decide) (Nat.le_of_ble_eq_true rfl) (by decide) (by decide) (by rw [pPf, if_pos hc4, if_pos h9] <;> rfl) (congrArg (cw g k) (by rw [pPf, if_pos hc4, if_pos h9]))
  · refine j_iload hC d_H_proof_12 4 rfl ?_
    refine j_iconst (v := 4) hC d_H_proof_14 (by decide) ?_
    refine j_icmp_le (tgt := 28) hC d_H_proof_15 (by decide) (fun h15 => ?_) (fun h15 => ?_)
    · refine j_aload_n hC d_H_proof_28 rfl 0 rfl ?_
      have ht5 : inN t 5 := what_in h9 h15
      refine j_callVx (As := []) (rest := []) (st1 := []) hC hex (k_checkFault l hl dC dI g k tl u hH) rfl rfl ww_H_118 yn_H_checkNoFault (cw_house g k u) rfl rfl d_H_proof_29 (Nat.le_of_ble_eq_true rfl) (by decide) (by decide) (by decide) rfl (fun cn h => ⟨by rw [pPf, if_pos hc4, if_neg h9, if_pos h15, if_neg (by rw [h]; exact Option.some_ne_none _), pcFault_some h], congrArg (cw g k) (by rw [pPf, if_pos hc4, if_neg h9, if_pos h15, if_neg (by rw [h]; exact Option.some_ne_none _)])⟩) (fun hc29 => ?_)
      refine j_aload_n hC d_H_proof_32 rfl 0 rfl ?_
      refine j_callVr (As := []) (rest := []) (st1 := []) hC (k_settle l dC dI g k tl (pJudge u) (pJudge_wf hH) (hT hc29)) rfl rfl ww_H_121 yn_H_settle (cw_house g k (pJudge u)) rfl rfl d_H_proof_33 (Nat.le_of_ble_eq_true rfl) (by decide) (by decide) rfl ?_
      refine j_aload_n hC d_H_proof_36 rfl 0 rfl ?_
      refine j_iload_n hC d_H_proof_37 rfl 1 rfl ?_
      refine j_iload_n hC d_H_proof_38 rfl 2 rfl ?_
      refine j_callVr (As := [.int r, .int a]) (rest := []) (st1 := [.int (pFst (pJS u) r a)]) hC (k_first l dC dI g k tl (pJS u) r a (rel_in hH (fact_rel hc4))) rfl rfl ww_H_85 yn_H_firstOf (cw_house g k (pJS u)) rfl rfl d_H_proof_39 (Nat.le_of_ble_eq_true rfl) (by decide) (by decide) rfl ?_
      rw [pFst_eq (pJS_1 hH) r a]
      refine j_istore (lv' := [(0, .ref (g 0)), (1, .int r), (2, .int a), (3, .int b), (4, .int t), (5, .int (pFst u r a))]) hC d_H_proof_42 (by decide) rfl rfl ?_
      refine j_aload_n hC d_H_proof_44 rfl 0 rfl ?_
      refine j_iload_n hC d_H_proof_45 rfl 1 rfl ?_
      refine j_iload_n hC d_H_proof_46 rfl 3 rfl ?_
      refine j_callVr (As := [.int r, .int b]) (rest := []) (st1 := [.int (pSnd (pJS u) r b)]) hC (k_second l dC dI g k tl (pJS u) r b (rel_in hH (fact_rel hc4))) rfl rfl ww_H_89 yn_H_secondOf (cw_house g k (pJS u)) rfl rfl d_H_proof_47 (Nat.le_of_ble_eq_true rfl) (by decide) (by decide) rfl ?_
      rw [pSnd_eq (pJS_1 hH) r b]
      refine j_istore (lv' := [(0, .ref (g 0)), (1, .int r), (2, .int a), (3, .int b), (4, .int t), (5, .int (pFst u r a)), (6, .int (pSnd u r b))]) hC d_H_proof_50 (by decide) rfl rfl ?_
      refine j_aload_n hC d_H_proof_52 rfl 0 rfl ?_
      refine j_get hC hin_H (0) (cw_house g k (pJS u)) rfl 6 (by decide) (hC.2.2.2.2.1 _ wf_H_27) (fun _ h9 => h9) rfl d_H_proof_53 ?_
      refine j_iload_n hC d_H_proof_56 rfl 1 rfl ?_
      refine j_iload hC d_H_proof_57 5 rfl ?_
      refine j_iload hC d_H_proof_59 6 rfl ?_
      refine j_callSr (As := [.int r, .int (pFst u r a), .int (pSnd u r b)]) (rest := [.ref (g 5)]) (st1 := [.int ((r * 12 + pFst u r a) * 12 + pSnd u r b), .ref (g 5)]) hC (k_factAt l dC dI g k tl (pJS u) r (pFst u r a) (pSnd u r b)) rfl rfl ww_H_124 yn_H_factAt rfl d_H_proof_61 (Nat.le_of_ble_eq_true rfl) (by decide) (by decide) rfl ?_
      refine j_ialdN hC (5) 0 (cw_ranks g k (pJS u)) rfl (n := pFx u r a b) (in_fact2 (rel_in hH (fact_rel hc4)) (fact_fst hc4) (fact_snd hc4)) (fact2_lt (rel_in hH (fact_rel hc4)) (fact_fst hc4) (fact_snd hc4)) (by decide) d_H_proof_64 ?_
      refine j_istore (lv' := [(0, .ref (g 0)), (1, .int r), (2, .int a), (3, .int b), (4, .int t), (5, .int (pFst u r a)), (6, .int (pSnd u r b)), (7, .int ((pJS u) 4 (pFx u r a b)))]) hC d_H_proof_65 (by decide) rfl rfl ?_
      refine j_iload hC d_H_proof_67 7 rfl ?_
      refine j_iconst (v := -1) hC d_H_proof_69 (by decide) ?_
      refine j_icmp_eq (tgt := 78) hC d_H_proof_70 (by decide) (fun h70 => ?_) (fun h70 => ?_)
      · exact j_throwE (tx := _) (names := up2) hC hex htr (by decide +kernel) (by decide +kernel) (by decide +kernel) (by decide +kernel) d_H_proof_78 d_H_proof_81 d_H_proof_82 d_H_proof_84 d_H_proof_87 (by decide +kernel) up2_fit wt_143_145 wo_147 (by decide) (Nat.le_of_ble_eq_true rfl) (by decide) (by decide) (by rw [pPf, if_pos hc4, if_neg h9, if_pos h15, if_pos hc29, if_pos h70] <;> rfl) (congrArg (cw g k) (by rw [pPf, if_pos hc4, if_neg h9, if_pos h15, if_pos hc29, if_pos h70]))
      · refine j_iload hC d_H_proof_73 7 rfl ?_
        refine j_if_ne (tgt := 88) hC d_H_proof_75 (by decide) (fun h75 => ?_) (fun h75 => ?_)
        · refine j_aload_n hC d_H_proof_88 rfl 0 rfl ?_
          refine j_aload_n hC d_H_proof_89 rfl 0 rfl ?_
          refine j_get hC hin_H (0) (cw_house g k (pJS u)) rfl 5 (by decide) (hC.2.2.2.2.1 _ wf_H_24) (fun _ h9 => h9) rfl d_H_proof_90 ?_
          refine j_iload_n hC d_H_proof_93 rfl 1 rfl ?_
          refine j_ialdN hC (4) 0 (cw_layers g k (pJS u)) rfl (n := tn r) ((rel_in hH (fact_rel hc4)).1) ((rel_in hH (fact_rel hc4)).2) (by decide) d_H_proof_94 ?_
          refine j_iload hC d_H_proof_95 7 rfl ?_
          refine j_callVr (As := [.int ((pJS u) 3 (tn r)), .int ((pJS u) 4 (pFx u r a b))]) (rest := []) (st1 := []) hC (k_look l dC dI g k tl (pJS u) (pJS_wf hH) (pJS u 3 (tn r)) (pJS u 4 (pFx u r a b))) rfl rfl ww_H_129 yn_H_look (cw_house g k (pJS u)) rfl rfl d_H_proof_97 (Nat.le_of_ble_eq_true rfl) (by decide) (by decide) rfl ?_
          refine j_aload_n hC d_H_proof_100 rfl 0 rfl ?_
          refine j_iload_n hC d_H_proof_101 rfl 1 rfl ?_
          refine j_iload hC d_H_proof_102 5 rfl ?_
          refine j_iload hC d_H_proof_104 6 rfl ?_
          refine j_callVr (As := [.int r, .int (pFst u r a), .int (pSnd u r b)]) (rest := []) (st1 := [.int ((pLR r (pFst u r a) (pSnd u r b) (tn ((pLook (pJS u 3 (tn r)) (pJS u 4 (pFx u r a b)) (pJS u)) 0 1)) 0 (pLook (pJS u 3 (tn r)) (pJS u 4 (pFx u r a b)) (pJS u))).1)]) hC (k_leastRule l dC dI g k tl (pLook (pJS u 3 (tn r)) (pJS u 4 (pFx u r a b)) (pJS u)) hLk r (pFst u r a) (pSnd u r b) (fact_fst hc4) (fact_snd hc4)) rfl rfl ww_H_148 yn_H_leastRule (cw_house g k (pLook (pJS u 3 (tn r)) (pJS u 4 (pFx u r a b)) (pJS u))) rfl rfl d_H_proof_106 (Nat.le_of_ble_eq_true rfl) (by decide) (by decide) rfl ?_
          rw [hL0]
          refine j_istore (lv' := [(0, .ref (g 0)), (1, .int r), (2, .int a), (3, .int b), (4, .int t), (5, .int (pFst u r a)), (6, .int (pSnd u r b)), (7, .int ((pJS u) 4 (pFx u r a b))), (8, .int ((pPr u r a b).1))]) hC d_H_proof_109 (by decide) rfl rfl ?_
          refine j_iload hC d_H_proof_111 4 rfl ?_
          refine j_if_ne (tgt := 121) hC d_H_proof_113 (by decide) (fun h113 => ?_) (fun h113 => ?_)
          · refine j_aload_n hC d_H_proof_121 rfl 0 rfl ?_
            refine j_get hC hin_H (0) (cw_house g k ((pPr u r a b).2)) rfl 8 (by decide) (hC.2.2.2.2.1 _ wf_H_36) (fun _ h9 => h9) rfl d_H_proof_122 ?_
            refine j_getN hC hin_M (7) (cw_match g k ((pPr u r a b).2)) rfl 1 (by decide) (hC.2.2.2.2.1 _ wf_H_151) (fun _ h9 => h9) rfl d_H_proof_125 ?_
            refine j_bipush (v := 20) hC d_H_proof_128 (by decide) ?_
            refine j_iload hC d_H_proof_130 4 rfl ?_
            refine j_iadd hC d_H_proof_132 ?_
            refine j_iconst (v := 1) hC d_H_proof_133 (by decide) ?_
            refine j_isub hC d_H_proof_134 ?_
            refine j_ialdN hC (9) 0 (cw_values g k ((pPr u r a b).2)) rfl (n := 19 + tn t) (what_ix ht5 h113) (what_lt ht5) (by decide) d_H_proof_135 ?_
            refine j_widen (cells' := 4) (slots' := 24) (by decide) (by decide) ?_
            exact j_iret hC hr ⟨(by rw [pPf, if_pos hc4, if_neg h9, if_pos h15, if_pos hc29, if_neg h70, if_neg h75, if_neg h113]), (fun _ => by rw [pPf, if_pos hc4, if_neg h9, if_pos h15, if_pos hc29, if_neg h70, if_neg h75, if_neg h113] <;> rfl), congrArg (cw g k) (by rw [pPf, if_pos hc4, if_neg h9, if_pos h15, if_pos hc29, if_neg h70, if_neg h75, if_neg h113] <;> rfl)⟩ d_H_proof_136
          · refine j_iload hC d_H_proof_116 8 rfl ?_
            refine j_goto (tgt := 136) hC d_H_proof_118 (by decide) ?_
            refine j_widen (cells' := 4) (slots' := 24) (by decide) (by decide) ?_
            exact j_iret hC hr ⟨(by rw [pPf, if_pos hc4, if_neg h9, if_pos h15, if_pos hc29, if_neg h70, if_neg h75, if_pos h113]), (fun _ => by rw [pPf, if_pos hc4, if_neg h9, if_pos h15, if_pos hc29, if_neg h70, if_neg h75, if_pos h113] <;> rfl), congrArg (cw g k) (by rw [pPf, if_pos hc4, if_neg h9, if_pos h15, if_pos hc29, if_neg h70, if_neg h75, if_pos h113] <;> rfl)⟩ d_H_proof_136
        · exact j_throwE (tx := _) (names := up2) hC hex htr (by decide +kernel) (by decide +kernel) (by decide +kernel) (by decide +kernel) d_H_proof_78 d_H_proof_81 d_H_proof_82 d_H_proof_84 d_H_proof_87 (by decide +kernel) up2_fit wt_143_145 wo_147 (by decide) (Nat.le_of_ble_eq_true rfl) (by decide) (by decide) (by rw [pPf, if_pos hc4, if_neg h9, if_pos h15, if_pos hc29, if_neg h70, if_pos h75] <;> rfl) (congrArg (cw g k) (by rw [pPf, if_pos hc4, if_neg h9, if_pos h15, if_pos hc29, if_neg h70, if_pos h75]))
    · exact j_throwE (tx := _) (names := up2) hC hex htr (by decide +kernel) (by decide +kernel) (by decide +kernel) (by decide +kernel) d_H_proof_18 d_H_proof_21 d_H_proof_22 d_H_proof_24 d_H_proof_27 (by decide +kernel) up2_fit wt_60_141 wo_64 (by decide) (Nat.le_of_ble_eq_true rfl) (by decide) (by decide) (by rw [pPf, if_pos hc4, if_neg h9, if_neg h15] <;> rfl) (congrArg (cw g k) (by rw [pPf, if_pos hc4, if_neg h9, if_neg h15]))
