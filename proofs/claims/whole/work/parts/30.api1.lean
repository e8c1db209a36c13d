set_option maxHeartbeats 4000000 in
set_option maxRecDepth 100000 in
theorem k_relation (l : Launch) (hl : l.stackTraces = false) (dC : Nat → ClassId) (dI : Nat → Nat → Nat) (g k : Nat → Nat) (tl : List (ClassId × FieldType)) (u : jU) (hH : wfH u) (n : Int32) : jMet l y_H_relation (.code y_H_relation c_H_relation 2 (some .int)) ({ frames := 6, cells := 1, slots := 6, locals := 90 }) (dC, dI) jcl (ctys k tl) jTs [.ref (g 0), .int n] (cw g k u) 1 6 (jE (pcRelation u n) (some (.int (pRelation2 u n 0 0 - 1))) (cw g k (pRelation u n))) := by
  refine jMet.of (by decide) (Nat.le_of_ble_eq_true rfl) ?_
  intro p e s m below meth c A hC hex hr hnm htr0
  have htr : e.platform.stackTraces = false := htr0.trans hl
  show jJ p l e ({ frames := 6, cells := 1, slots := 6, locals := 90 }) s m [.ref (g 0), .int n].toArray below meth c 2 (dC, dI) jcl A (hxQ below (jQ (dC, dI) jcl (jE (pcRelation u n) (some (.int (pRelation2 u n 0 0 - 1))) (cw g k (pRelation u n))) A) [.ref (g 0), .int n].toArray s 1 6 A) 0 0 (cw g k u) [(0, .ref (g 0)), (1, .int n)] [] 0
  refine j_iload_n hC d_H_relation_0 rfl 1 rfl ?_
  refine j_if_lt (tgt := 9) hC d_H_relation_1 (by decide) (fun h1 => ?_) (fun h1 => ?_)
  · exact j_throwE (tx := _) (names := up2) hC hex htr (by decide +kernel) (by decide +kernel) (by decide +kernel) (by decide +kernel) d_H_relation_9 d_H_relation_12 d_H_relation_13 d_H_relation_15 d_H_relation_18 (by decide +kernel) up2_fit wt_60_62 wo_64 (by decide) (Nat.le_of_ble_eq_true rfl) (by decide) (by decide) (by rw [pcRelation, if_pos h1] <;> rfl) (congrArg (cw g k) (if_so (by rw [pcRelation, if_pos h1] <;> rfl : pcRelation u n = some xIA) _ _).symm)
  · refine j_iload_n hC d_H_relation_4 rfl 1 rfl ?_
    refine j_iconst (v := 2) hC d_H_relation_5 (by decide) ?_
    refine j_icmp_le (tgt := 19) hC d_H_relation_6 (by decide) (fun h6 => ?_) (fun h6 => ?_)
    · refine j_aload_n hC d_H_relation_19 rfl 0 rfl ?_
      refine j_get hC hin_H (0) (cw_house g k u) rfl 3 (by decide) (hC.2.2.2.2.1 _ wf_H_51) (fun _ h9 => h9) rfl d_H_relation_20 ?_
      refine j_bipush (v := 8) hC d_H_relation_23 (by decide) ?_
      refine j_icmp_lt (tgt := 38) hC d_H_relation_25 (by decide) (fun h25 => ?_) (fun h25 => ?_)
      · have h8 : tn (u 0 0) < 8 := (inN_ltN hH.2.1 (by decide) (n := 8) (by decide)).mp h25
        refine j_aload_n hC d_H_relation_38 rfl 0 rfl ?_
        refine j_get hC hin_H (0) (cw_house g k u) rfl 0 (by decide) (hC.2.2.2.2.1 _ wf_H_11) (fun _ h9 => h9) rfl d_H_relation_39 ?_
        refine j_aload_n hC d_H_relation_42 rfl 0 rfl ?_
        refine j_get hC hin_H (0) (cw_house g k u) rfl 3 (by decide) (hC.2.2.2.2.1 _ wf_H_51) (fun _ h9 => h9) rfl d_H_relation_43 ?_
        refine j_iload_n hC d_H_relation_46 rfl 1 rfl ?_
        refine j_iastN (ws' := cw g k (up u 1 (tn (u 0 0)) n)) hC (1) 0 (cw_places g k u) rfl (n := tn (u 0 0)) (hH.2.1.1) (h8) (by decide) (cw_set_places g k u (tn (u 0 0)) n) d_H_relation_47 ?_
        refine j_aload_n hC d_H_relation_48 rfl 0 rfl ?_
        refine j_dup hC d_H_relation_49 rfl ?_
        refine j_get hC hin_H (0) (cw_house g k (pRelation1 u n)) rfl 3 (by decide) (hC.2.2.2.2.1 _ wf_H_51) (fun _ h9 => h9) rfl d_H_relation_50 ?_
        refine j_iconst (v := 1) hC d_H_relation_53 (by decide) ?_
        refine j_iadd hC d_H_relation_54 ?_
        refine j_put (ty := .int) (ws' := cw g k (up (pRelation1 u n) 0 0 (((pRelation1 u n) 0 0) + 1))) hC hin_H tyX4 tyX4_ok nmX4 (0) (cw_house g k (pRelation1 u n)) rfl 3 (by decide) (hC.2.2.2.2.1 _ wf_H_51) (fun _ h9 => h9) rfl (by decide +kernel) (rfl) (rfl) (Nat.le_of_ble_eq_true rfl) (cw_set_relationCount g k (pRelation1 u n) (((pRelation1 u n) 0 0) + 1)) d_H_relation_55 ?_
        refine j_aload_n hC d_H_relation_58 rfl 0 rfl ?_
        refine j_callVr (As := []) (rest := []) (st1 := []) hC (k_stale l dC dI g k tl (up (pRelation1 u n) 0 0 (((pRelation1 u n) 0 0) + 1))) rfl rfl ww_H_57 yn_H_rulesChanged (cw_house g k (up (pRelation1 u n) 0 0 (((pRelation1 u n) 0 0) + 1))) rfl rfl d_H_relation_59 (Nat.le_of_ble_eq_true rfl) (by decide) (by decide) rfl ?_
        refine j_aload_n hC d_H_relation_62 rfl 0 rfl ?_
        refine j_get hC hin_H (0) (cw_house g k (pRelation2 u n)) rfl 3 (by decide) (hC.2.2.2.2.1 _ wf_H_51) (fun _ h9 => h9) rfl d_H_relation_63 ?_
        refine j_iconst (v := 1) hC d_H_relation_66 (by decide) ?_
        refine j_isub hC d_H_relation_67 ?_
        refine j_widen (cells' := 1) (slots' := 6) (by decide) (by decide) ?_
        exact j_iret hC hr (by have h9 : pcRelation u n = none := (by rw [pcRelation, if_neg h1, if_pos h6, if_pos h25]); exact ⟨h9.symm, fun _ => rfl, congrArg (cw g k) (if_no h9 _ _).symm⟩) d_H_relation_68
      · exact j_throwE (tx := _) (names := up2) hC hex htr (by decide +kernel) (by decide +kernel) (by decide +kernel) (by decide +kernel) d_H_relation_28 d_H_relation_31 d_H_relation_32 d_H_relation_34 d_H_relation_37 (by decide +kernel) up2_fit wt_67_69 wo_71 (by decide) (Nat.le_of_ble_eq_true rfl) (by decide) (by decide) (by rw [pcRelation, if_neg h1, if_pos h6, if_neg h25] <;> rfl) (congrArg (cw g k) (if_so (by rw [pcRelation, if_neg h1, if_pos h6, if_neg h25] <;> rfl : pcRelation u n = some xUO) _ _).symm)
    · exact j_throwE (tx := _) (names := up2) hC hex htr (by decide +kernel) (by decide +kernel) (by decide +kernel) (by decide +kernel) d_H_relation_9 d_H_relation_12 d_H_relation_13 d_H_relation_15 d_H_relation_18 (by decide +kernel) up2_fit wt_60_62 wo_64 (by decide) (Nat.le_of_ble_eq_true rfl) (by decide) (by decide) (by rw [pcRelation, if_neg h1, if_neg h6] <;> rfl) (congrArg (cw g k) (if_so (by rw [pcRelation, if_neg h1, if_neg h6] <;> rfl : pcRelation u n = some xIA) _ _).symm)

set_option maxHeartbeats 4000000 in
set_option maxRecDepth 100000 in
theorem k_give (l : Launch) (hl : l.stackTraces = false) (dC : Nat → ClassId) (dI : Nat → Nat → Nat) (g k : Nat → Nat) (tl : List (ClassId × FieldType)) (u : jU) (hH : wfH u) (r a b : Int32) : jMet l y_H_give (.code y_H_give c_H_give 4 (some .boolean)) ({ frames := 8, cells := 2, slots := 12, locals := 134 }) (dC, dI) jcl (ctys k tl) jTs [.ref (g 0), .int r, .int a, .int b] (cw g k u) 2 12 (jE (pcFact u r a b) (some (.int ((pSG u r a b 1).1))) (cw g k (pGive u r a b 1))) := by
  refine jMet.of (by decide) (Nat.le_of_ble_eq_true rfl) ?_
  intro p e s m below meth c A hC hex hr hnm htr0
  have htr : e.platform.stackTraces = false := htr0.trans hl
  show jJ p l e ({ frames := 8, cells := 2, slots := 12, locals := 134 }) s m [.ref (g 0), .int r, .int a, .int b].toArray below meth c 4 (dC, dI) jcl A (hxQ below (jQ (dC, dI) jcl (jE (pcFact u r a b) (some (.int ((pSG u r a b 1).1))) (cw g k (pGive u r a b 1))) A) [.ref (g 0), .int r, .int a, .int b].toArray s 2 12 A) 0 0 (cw g k u) [(0, .ref (g 0)), (1, .int r), (2, .int a), (3, .int b)] [] 0
  refine j_aload_n hC d_H_give_0 rfl 0 rfl ?_
  refine j_iload_n hC d_H_give_1 rfl 1 rfl ?_
  refine j_iload_n hC d_H_give_2 rfl 2 rfl ?_
  refine j_iload_n hC d_H_give_3 rfl 3 rfl ?_
  refine j_callVx (As := [.int r, .int a, .int b]) (rest := []) (st1 := []) hC hex (k_checkFact l hl dC dI g k tl u hH r a b) rfl rfl ww_H_72 yn_H_checkFact (cw_house g k u) rfl rfl d_H_give_4 (Nat.le_of_ble_eq_true rfl) (by decide) (by decide) (by decide) rfl (fun cn h => ⟨h, congrArg (cw g k) (if_so h _ _).symm⟩) (fun hc4 => ?_)
  refine j_aload_n hC d_H_give_7 rfl 0 rfl ?_
  refine j_iload_n hC d_H_give_8 rfl 1 rfl ?_
  refine j_iload_n hC d_H_give_9 rfl 2 rfl ?_
  refine j_iload_n hC d_H_give_10 rfl 3 rfl ?_
  refine j_iconst (v := 1) hC d_H_give_11 (by decide) ?_
  refine j_callVr (As := [.int r, .int a, .int b, .int 1]) (rest := []) (st1 := [.int ((pSG u r a b 1).1)]) hC (k_setGiven l dC dI g k tl u r a b 1 (rel_in hH (fact_rel hc4)) (fact_fst hc4)) rfl rfl ww_H_76 yn_H_setGiven (cw_house g k u) rfl rfl d_H_give_12 (Nat.le_of_ble_eq_true rfl) (by decide) (by decide) rfl ?_
  refine j_widen (cells' := 2) (slots' := 12) (by decide) (by decide) ?_
  exact j_zret hC hr (z01_n (pSG_01 u r a b 1)) ⟨hc4.symm, fun _ => rfl, congrArg (cw g k) (if_no hc4 _ _).symm⟩ d_H_give_15

set_option maxHeartbeats 4000000 in
set_option maxRecDepth 100000 in
theorem k_take (l : Launch) (hl : l.stackTraces = false) (dC : Nat → ClassId) (dI : Nat → Nat → Nat) (g k : Nat → Nat) (tl : List (ClassId × FieldType)) (u : jU) (hH : wfH u) (r a b : Int32) : jMet l y_H_take (.code y_H_take c_H_take 4 (some .boolean)) ({ frames := 8, cells := 2, slots := 12, locals := 134 }) (dC, dI) jcl (ctys k tl) jTs [.ref (g 0), .int r, .int a, .int b] (cw g k u) 2 12 (jE (pcFact u r a b) (some (.int ((pSG u r a b 0).1))) (cw g k (pGive u r a b 0))) := by
  refine jMet.of (by decide) (Nat.le_of_ble_eq_true rfl) ?_
  intro p e s m below meth c A hC hex hr hnm htr0
  have htr : e.platform.stackTraces = false := htr0.trans hl
  show jJ p l e ({ frames := 8, cells := 2, slots := 12, locals := 134 }) s m [.ref (g 0), .int r, .int a, .int b].toArray below meth c 4 (dC, dI) jcl A (hxQ below (jQ (dC, dI) jcl (jE (pcFact u r a b) (some (.int ((pSG u r a b 0).1))) (cw g k (pGive u r a b 0))) A) [.ref (g 0), .int r, .int a, .int b].toArray s 2 12 A) 0 0 (cw g k u) [(0, .ref (g 0)), (1, .int r), (2, .int a), (3, .int b)] [] 0
  refine j_aload_n hC d_H_take_0 rfl 0 rfl ?_
  refine j_iload_n hC d_H_take_1 rfl 1 rfl ?_
  refine j_iload_n hC d_H_take_2 rfl 2 rfl ?_
  refine j_iload_n hC d_H_take_3 rfl 3 rfl ?_
  refine j_callVx (As := [.int r, .int a, .int b]) (rest := []) (st1 := []) hC hex (k_checkFact l hl dC dI g k tl u hH r a b) rfl rfl ww_H_72 yn_H_checkFact (cw_house g k u) rfl rfl d_H_take_4 (Nat.le_of_ble_eq_true rfl) (by decide) (by decide) (by decide) rfl (fun cn h => ⟨h, congrArg (cw g k) (if_so h _ _).symm⟩) (fun hc4 => ?_)
  refine j_aload_n hC d_H_take_7 rfl 0 rfl ?_
  refine j_iload_n hC d_H_take_8 rfl 1 rfl ?_
  refine j_iload_n hC d_H_take_9 rfl 2 rfl ?_
  refine j_iload_n hC d_H_take_10 rfl 3 rfl ?_
  refine j_iconst (v := 0) hC d_H_take_11 (by decide) ?_
  refine j_callVr (As := [.int r, .int a, .int b, .int 0]) (rest := []) (st1 := [.int ((pSG u r a b 0).1)]) hC (k_setGiven l dC dI g k tl u r a b 0 (rel_in hH (fact_rel hc4)) (fact_fst hc4)) rfl rfl ww_H_76 yn_H_setGiven (cw_house g k u) rfl rfl d_H_take_12 (Nat.le_of_ble_eq_true rfl) (by decide) (by decide) rfl ?_
  refine j_widen (cells' := 2) (slots' := 12) (by decide) (by decide) ?_
  exact j_zret hC hr (z01_n (pSG_01 u r a b 0)) ⟨hc4.symm, fun _ => rfl, congrArg (cw g k) (if_no hc4 _ _).symm⟩ d_H_take_15

set_option maxHeartbeats 4000000 in
set_option maxRecDepth 100000 in
theorem k_unrule (l : Launch) (hl : l.stackTraces = false) (dC : Nat → ClassId) (dI : Nat → Nat → Nat) (g k : Nat → Nat) (tl : List (ClassId × FieldType)) (u : jU)  : jMet l y_H_unrule (.code y_H_unrule c_H_unrule 1 none) ({ frames := 7, cells := 1, slots := 6, locals := 110 }) (dC, dI) jcl (ctys k tl) jTs [.ref (g 0)] (cw g k u) 1 6 (jE (pcRule u) none (cw g k (pUnrule u))) := by
  refine jMet.of (by decide) (Nat.le_of_ble_eq_true rfl) ?_
  intro p e s m below meth c A hC hex hr hnm htr0
  have htr : e.platform.stackTraces = false := htr0.trans hl
  show jJ p l e ({ frames := 7, cells := 1, slots := 6, locals := 110 }) s m [.ref (g 0)].toArray below meth c 1 (dC, dI) jcl A (hxQ below (jQ (dC, dI) jcl (jE (pcRule u) none (cw g k (pUnrule u))) A) [.ref (g 0)].toArray s 1 6 A) 0 0 (cw g k u) [(0, .ref (g 0))] [] 0
  refine j_aload_n hC d_H_unrule_0 rfl 0 rfl ?_
  refine j_callVx (As := []) (rest := []) (st1 := []) hC hex (k_checkRule l hl dC dI g k tl u) rfl rfl ww_H_95 yn_H_checkSomeRule (cw_house g k u) rfl rfl d_H_unrule_1 (Nat.le_of_ble_eq_true rfl) (by decide) (by decide) (by decide) rfl (fun cn h => ⟨h, congrArg (cw g k) (if_so h _ _).symm⟩) (fun hc1 => ?_)
  refine j_aload_n hC d_H_unrule_4 rfl 0 rfl ?_
  refine j_dup hC d_H_unrule_5 rfl ?_
  refine j_get hC hin_H (0) (cw_house g k u) rfl 4 (by decide) (hC.2.2.2.2.1 _ wf_H_54) (fun _ h9 => h9) rfl d_H_unrule_6 ?_
  refine j_iconst (v := 1) hC d_H_unrule_9 (by decide) ?_
  refine j_isub hC d_H_unrule_10 ?_
  refine j_put (ty := .int) (ws' := cw g k (up u 0 1 ((u 0 1) - 1))) hC hin_H tyX4 tyX4_ok nmX4 (0) (cw_house g k u) rfl 4 (by decide) (hC.2.2.2.2.1 _ wf_H_54) (fun _ h9 => h9) rfl (by decide +kernel) (rfl) (rfl) (Nat.le_of_ble_eq_true rfl) (cw_set_ruleCount g k u ((u 0 1) - 1)) d_H_unrule_11 ?_
  refine j_aload_n hC d_H_unrule_14 rfl 0 rfl ?_
  refine j_callVr (As := []) (rest := []) (st1 := []) hC (k_stale l dC dI g k tl (up u 0 1 ((u 0 1) - 1))) rfl rfl ww_H_57 yn_H_rulesChanged (cw_house g k (up u 0 1 ((u 0 1) - 1))) rfl rfl d_H_unrule_15 (Nat.le_of_ble_eq_true rfl) (by decide) (by decide) rfl ?_
  refine j_widen (cells' := 1) (slots' := 6) (by decide) (by decide) ?_
  exact j_vret hC hr ⟨hc1.symm, fun _ => rfl, congrArg (cw g k) (if_no hc1 _ _).symm⟩ d_H_unrule_18

set_option maxHeartbeats 4000000 in
set_option maxRecDepth 100000 in
theorem k_rule (l : Launch) (hl : l.stackTraces = false) (dC : Nat → ClassId) (dI : Nat → Nat → Nat) (g k : Nat → Nat) (tl : List (ClassId × FieldType)) (u : jU) (hH : wfH u) (r a b : Int32) : jMet l y_H_rule (.code y_H_rule c_H_rule 4 (some .int)) ({ frames := 8, cells := 3, slots := 18, locals := 134 }) (dC, dI) jcl (ctys k tl) jTs [.ref (g 0), .int r, .int a, .int b] (cw g k u) 3 18 (jE (pcRuleC u r a b) (some (.int (pRule2 u r a b 0 1 - 1))) (cw g k (pRuleC u r a b))) := by
  refine jMet.of (by decide) (Nat.le_of_ble_eq_true rfl) ?_
  intro p e s m below meth c A hC hex hr hnm htr0
  have htr : e.platform.stackTraces = false := htr0.trans hl
  show jJ p l e ({ frames := 8, cells := 3, slots := 18, locals := 134 }) s m [.ref (g 0), .int r, .int a, .int b].toArray below meth c 4 (dC, dI) jcl A (hxQ below (jQ (dC, dI) jcl (jE (pcRuleC u r a b) (some (.int (pRule2 u r a b 0 1 - 1))) (cw g k (pRuleC u r a b))) A) [.ref (g 0), .int r, .int a, .int b].toArray s 3 18 A) 0 0 (cw g k u) [(0, .ref (g 0)), (1, .int r), (2, .int a), (3, .int b)] [] 0
  refine j_aload_n hC d_H_rule_0 rfl 0 rfl ?_
  refine j_iload_n hC d_H_rule_1 rfl 1 rfl ?_
  refine j_iload_n hC d_H_rule_2 rfl 2 rfl ?_
  refine j_iload_n hC d_H_rule_3 rfl 3 rfl ?_
  refine j_callVx (As := [.int r, .int a, .int b]) (rest := []) (st1 := []) hC hex (k_checkTerms l hl dC dI g k tl u hH r a b) rfl rfl ww_H_80 yn_H_checkTerms (cw_house g k u) rfl rfl d_H_rule_4 (Nat.le_of_ble_eq_true rfl) (by decide) (by decide) (by decide) rfl (fun cn h => (by have h9 : pcRuleC u r a b = some cn := (by rw [pcRuleC, if_neg (by rw [h]; exact Option.some_ne_none _), pcTerms_some h]); exact ⟨h9, congrArg (cw g k) (if_so h9 _ _).symm⟩)) (fun hc4 => ?_)
  refine j_aload_n hC d_H_rule_7 rfl 0 rfl ?_
  refine j_get hC hin_H (0) (cw_house g k u) rfl 4 (by decide) (hC.2.2.2.2.1 _ wf_H_54) (fun _ h9 => h9) rfl d_H_rule_8 ?_
  refine j_bipush (v := 16) hC d_H_rule_11 (by decide) ?_
  refine j_icmp_lt (tgt := 26) hC d_H_rule_13 (by decide) (fun h13 => ?_) (fun h13 => ?_)
  · have h16 : tn (u 0 1) < 16 := (inN_ltN hH.2.2 (by decide) (n := 16) (by decide)).mp h13
    refine j_aload_n hC d_H_rule_26 rfl 0 rfl ?_
    refine j_get hC hin_H (0) (cw_house g k u) rfl 2 (by decide) (hC.2.2.2.2.1 _ wf_H_20) (fun _ h9 => h9) rfl d_H_rule_27 ?_
    refine j_aload_n hC d_H_rule_30 rfl 0 rfl ?_
    refine j_get hC hin_H (0) (cw_house g k u) rfl 4 (by decide) (hC.2.2.2.2.1 _ wf_H_54) (fun _ h9 => h9) rfl d_H_rule_31 ?_
    refine j_aaldN (v := g (15 + tn (u 0 1))) hC (3) 2 (cw_rules g k u) rfl (n := tn (u 0 1)) (hH.2.2.1) (h16) (by decide) (if_pos (h16)) d_H_rule_34 ?_
    refine j_iload_n hC d_H_rule_35 rfl 1 rfl ?_
    refine j_aload_n hC d_H_rule_36 rfl 0 rfl ?_
    refine j_iload_n hC d_H_rule_37 rfl 1 rfl ?_
    refine j_iload_n hC d_H_rule_38 rfl 2 rfl ?_
    refine j_callVr (As := [.int r, .int a]) (rest := [.int r, .ref (g (15 + tn (u 0 1)))]) (st1 := [.int (pFst u r a), .int r, .ref (g (15 + tn (u 0 1)))]) hC (k_first l dC dI g k tl u r a (rel_in hH (terms_rel hc4))) rfl rfl ww_H_85 yn_H_firstOf (cw_house g k u) rfl rfl d_H_rule_39 (Nat.le_of_ble_eq_true rfl) (by decide) (by decide) rfl ?_
    refine j_aload_n hC d_H_rule_42 rfl 0 rfl ?_
    refine j_iload_n hC d_H_rule_43 rfl 1 rfl ?_
    refine j_iload_n hC d_H_rule_44 rfl 3 rfl ?_
    refine j_callVr (As := [.int r, .int b]) (rest := [.int (pFst u r a), .int r, .ref (g (15 + tn (u 0 1)))]) (st1 := [.int (pSnd u r b), .int (pFst u r a), .int r, .ref (g (15 + tn (u 0 1)))]) hC (k_second l dC dI g k tl u r b (rel_in hH (terms_rel hc4))) rfl rfl ww_H_89 yn_H_secondOf (cw_house g k u) rfl rfl d_H_rule_45 (Nat.le_of_ble_eq_true rfl) (by decide) (by decide) rfl ?_
    refine j_callNr (As := [.int r, .int (pFst u r a), .int (pSnd u r b)]) (rest := []) (st1 := []) hC (k_begin l dC dI g k tl u (i := tn (u 0 1)) h16 r (pFst u r a) (pSnd u r b)) rfl rfl ww_H_92 yn_R_begin (cw_rule g k u (by omega)) rfl rfl d_H_rule_48 (Nat.le_of_ble_eq_true rfl) (by decide) (by decide) rfl ?_
    refine j_aload_n hC d_H_rule_51 rfl 0 rfl ?_
    refine j_dup hC d_H_rule_52 rfl ?_
    refine j_get hC hin_H (0) (cw_house g k (pRule1 u r a b)) rfl 4 (by decide) (hC.2.2.2.2.1 _ wf_H_54) (fun _ h9 => h9) rfl d_H_rule_53 ?_
    refine j_iconst (v := 1) hC d_H_rule_56 (by decide) ?_
    refine j_iadd hC d_H_rule_57 ?_
    refine j_put (ty := .int) (ws' := cw g k (up (pRule1 u r a b) 0 1 (((pRule1 u r a b) 0 1) + 1))) hC hin_H tyX4 tyX4_ok nmX4 (0) (cw_house g k (pRule1 u r a b)) rfl 4 (by decide) (hC.2.2.2.2.1 _ wf_H_54) (fun _ h9 => h9) rfl (by decide +kernel) (rfl) (rfl) (Nat.le_of_ble_eq_true rfl) (cw_set_ruleCount g k (pRule1 u r a b) (((pRule1 u r a b) 0 1) + 1)) d_H_rule_58 ?_
    refine j_aload_n hC d_H_rule_61 rfl 0 rfl ?_
    refine j_callVr (As := []) (rest := []) (st1 := []) hC (k_stale l dC dI g k tl (up (pRule1 u r a b) 0 1 (((pRule1 u r a b) 0 1) + 1))) rfl rfl ww_H_57 yn_H_rulesChanged (cw_house g k (up (pRule1 u r a b) 0 1 (((pRule1 u r a b) 0 1) + 1))) rfl rfl d_H_rule_62 (Nat.le_of_ble_eq_true rfl) (by decide) (by decide) rfl ?_
    refine j_aload_n hC d_H_rule_65 rfl 0 rfl ?_
    refine j_get hC hin_H (0) (cw_house g k (pRule2 u r a b)) rfl 4 (by decide) (hC.2.2.2.2.1 _ wf_H_54) (fun _ h9 => h9) rfl d_H_rule_66 ?_
    refine j_iconst (v := 1) hC d_H_rule_69 (by decide) ?_
    refine j_isub hC d_H_rule_70 ?_
    refine j_widen (cells' := 3) (slots' := 18) (by decide) (by decide) ?_
    exact j_iret hC hr (by have h9 : pcRuleC u r a b = none := (by rw [pcRuleC, if_pos hc4, if_pos h13]); exact ⟨h9.symm, fun _ => rfl, congrArg (cw g k) (if_no h9 _ _).symm⟩) d_H_rule_71
  · exact j_throwE (tx := _) (names := up2) hC hex htr (by decide +kernel) (by decide +kernel) (by decide +kernel) (by decide +kernel) d_H_rule_16 d_H_rule_19 d_H_rule_20 d_H_rule_22 d_H_rule_25 (by decide +kernel) up2_fit wt_67_83 wo_71 (by decide) (Nat.le_of_ble_eq_true rfl) (by decide) (by decide) (by rw [pcRuleC, if_pos hc4, if_neg h13] <;> rfl) (congrArg (cw g k) (if_so (by rw [pcRuleC, if_pos hc4, if_neg h13] <;> rfl : pcRuleC u r a b = some xUO) _ _).symm)

set_option maxHeartbeats 4000000 in
set_option maxRecDepth 100000 in
theorem k_literal (l : Launch) (hl : l.stackTraces = false) (dC : Nat → ClassId) (dI : Nat → Nat → Nat) (g k : Nat → Nat) (tl : List (ClassId × FieldType)) (u : jU) (hH : wfH u) (r a b z : Int32) (hz : z = 0 ∨ z = 1) : jMet l y_H_literal (.code y_H_literal c_H_literal 6 (some .int)) ({ frames := 8, cells := 4, slots := 24, locals := 134 }) (dC, dI) jcl (ctys k tl) jTs [.ref (g 0), .int r, .int a, .int b, .int z] (cw g k u) 4 24 (jE (pcLit u r a b) (some (.int (pLit1 u r a b z 12 ((tn (u 0 1) - 1))))) (cw g k (pLit u r a b z))) := by
  refine jMet.of (by decide) (Nat.le_of_ble_eq_true rfl) ?_
  intro p e s m below meth c A hC hex hr hnm htr0
  have htr : e.platform.stackTraces = false := htr0.trans hl
  show jJ p l e ({ frames := 8, cells := 4, slots := 24, locals := 134 }) s m [.ref (g 0), .int r, .int a, .int b, .int z].toArray below meth c 6 (dC, dI) jcl A (hxQ below (jQ (dC, dI) jcl (jE (pcLit u r a b) (some (.int (pLit1 u r a b z 12 ((tn (u 0 1) - 1))))) (cw g k (pLit u r a b z))) A) [.ref (g 0), .int r, .int a, .int b, .int z].toArray s 4 24 A) 0 0 (cw g k u) [(0, .ref (g 0)), (1, .int r), (2, .int a), (3, .int b), (4, .int z)] [] 0
  refine j_aload_n hC d_H_literal_0 rfl 0 rfl ?_
  refine j_callVx (As := []) (rest := []) (st1 := []) hC hex (k_checkRule l hl dC dI g k tl u) rfl rfl ww_H_95 yn_H_checkSomeRule (cw_house g k u) rfl rfl d_H_literal_1 (Nat.le_of_ble_eq_true rfl) (by decide) (by decide) (by decide) rfl (fun cn h => (by have h9 : pcLit u r a b = some cn := (by rw [pcLit, if_neg (by rw [h]; exact Option.some_ne_none _), pcRule_some h]); exact ⟨h9, congrArg (cw g k) (if_so h9 _ _).symm⟩)) (fun hc1 => ?_)
  refine j_aload_n hC d_H_literal_4 rfl 0 rfl ?_
  refine j_iload_n hC d_H_literal_5 rfl 1 rfl ?_
  refine j_iload_n hC d_H_literal_6 rfl 2 rfl ?_
  refine j_iload_n hC d_H_literal_7 rfl 3 rfl ?_
  refine j_callVx (As := [.int r, .int a, .int b]) (rest := []) (st1 := []) hC hex (k_checkTerms l hl dC dI g k tl u hH r a b) rfl rfl ww_H_80 yn_H_checkTerms (cw_house g k u) rfl rfl d_H_literal_8 (Nat.le_of_ble_eq_true rfl) (by decide) (by decide) (by decide) rfl (fun cn h => (by have h9 : pcLit u r a b = some cn := (by rw [pcLit, if_pos hc1, if_neg (by rw [h]; exact Option.some_ne_none _), pcTerms_some h]); exact ⟨h9, congrArg (cw g k) (if_so h9 _ _).symm⟩)) (fun hc8 => ?_)
  refine j_aload_n hC d_H_literal_11 rfl 0 rfl ?_
  refine j_get hC hin_H (0) (cw_house g k u) rfl 2 (by decide) (hC.2.2.2.2.1 _ wf_H_20) (fun _ h9 => h9) rfl d_H_literal_12 ?_
  refine j_aload_n hC d_H_literal_15 rfl 0 rfl ?_
  refine j_get hC hin_H (0) (cw_house g k u) rfl 4 (by decide) (hC.2.2.2.2.1 _ wf_H_54) (fun _ h9 => h9) rfl d_H_literal_16 ?_
  refine j_iconst (v := 1) hC d_H_literal_19 (by decide) ?_
  refine j_isub hC d_H_literal_20 ?_
  have hi16 : (tn (u 0 1) - 1) < 16 := rule_lt hH hc1
  refine j_aaldN (v := g (15 + (tn (u 0 1) - 1))) hC (3) 2 (cw_rules g k u) rfl (n := (tn (u 0 1) - 1)) (rule_ix hH hc1) (rule_lt hH hc1) (by decide) (if_pos (rule_lt hH hc1)) d_H_literal_21 ?_
  refine j_astore (lv' := [(0, .ref (g 0)), (1, .int r), (2, .int a), (3, .int b), (4, .int z), (5, .ref (g (15 + (tn (u 0 1) - 1))))]) hC d_H_literal_22 (by decide) rfl rfl ?_
  refine j_aload hC d_H_literal_24 5 rfl ?_
  refine j_callNr (As := []) (rest := []) (st1 := [.int (b2i (pFull u ((tn (u 0 1) - 1))))]) hC (k_full l dC dI g k tl u (i := (tn (u 0 1) - 1)) hi16) rfl rfl ww_H_98 yn_R_isFull (cw_rule g k u (by omega)) rfl rfl d_H_literal_26 (Nat.le_of_ble_eq_true rfl) (by decide) (by decide) rfl ?_
  refine j_if_eq (tgt := 42) hC d_H_literal_29 (by decide) (fun h29 => ?_) (fun h29 => ?_)
  · refine j_aload hC d_H_literal_42 5 rfl ?_
    refine j_iload_n hC d_H_literal_44 rfl 1 rfl ?_
    refine j_aload_n hC d_H_literal_45 rfl 0 rfl ?_
    refine j_iload_n hC d_H_literal_46 rfl 1 rfl ?_
    refine j_iload_n hC d_H_literal_47 rfl 2 rfl ?_
    refine j_callVr (As := [.int r, .int a]) (rest := [.int r, .ref (g (15 + (tn (u 0 1) - 1)))]) (st1 := [.int (pFst u r a), .int r, .ref (g (15 + (tn (u 0 1) - 1)))]) hC (k_first l dC dI g k tl u r a (rel_in hH (terms_rel hc8))) rfl rfl ww_H_85 yn_H_firstOf (cw_house g k u) rfl rfl d_H_literal_48 (Nat.le_of_ble_eq_true rfl) (by decide) (by decide) rfl ?_
    refine j_aload_n hC d_H_literal_51 rfl 0 rfl ?_
    refine j_iload_n hC d_H_literal_52 rfl 1 rfl ?_
    refine j_iload_n hC d_H_literal_53 rfl 3 rfl ?_
    refine j_callVr (As := [.int r, .int b]) (rest := [.int (pFst u r a), .int r, .ref (g (15 + (tn (u 0 1) - 1)))]) (st1 := [.int (pSnd u r b), .int (pFst u r a), .int r, .ref (g (15 + (tn (u 0 1) - 1)))]) hC (k_second l dC dI g k tl u r b (rel_in hH (terms_rel hc8))) rfl rfl ww_H_89 yn_H_secondOf (cw_house g k u) rfl rfl d_H_literal_54 (Nat.le_of_ble_eq_true rfl) (by decide) (by decide) rfl ?_
    refine j_iload hC d_H_literal_57 4 rfl ?_
    refine j_callNr (As := [.int r, .int (pFst u r a), .int (pSnd u r b), .int z]) (rest := []) (st1 := []) hC (k_add l dC dI g k tl u (i := (tn (u 0 1) - 1)) hi16 (hH.1.1 _ hi16) r (pFst u r a) (pSnd u r b) z hz) rfl rfl ww_H_104 yn_R_add (cw_rule g k u (by omega)) rfl rfl d_H_literal_59 (Nat.le_of_ble_eq_true rfl) (by decide) (by decide) rfl ?_
    refine j_aload_n hC d_H_literal_62 rfl 0 rfl ?_
    refine j_callVr (As := []) (rest := []) (st1 := []) hC (k_stale l dC dI g k tl (pAdd u ((tn (u 0 1) - 1)) r (pFst u r a) (pSnd u r b) z)) rfl rfl ww_H_57 yn_H_rulesChanged (cw_house g k (pAdd u ((tn (u 0 1) - 1)) r (pFst u r a) (pSnd u r b) z)) rfl rfl d_H_literal_63 (Nat.le_of_ble_eq_true rfl) (by decide) (by decide) rfl ?_
    refine j_aload hC d_H_literal_66 5 rfl ?_
    refine j_getN hC hin_R (15 + (tn (u 0 1) - 1)) (cw_rule g k (pLit1 u r a b z) (by omega)) rfl 2 (by decide) (hC.2.2.2.2.1 _ wf_H_108) (fun _ h9 => h9) rfl d_H_literal_68 ?_
    refine j_widen (cells' := 4) (slots' := 24) (by decide) (by decide) ?_
    exact j_iret hC hr (by have h9 : pcLit u r a b = none := (by rw [pcLit, if_pos hc1, if_pos hc8, if_pos h29]); exact ⟨h9.symm, fun _ => rfl, congrArg (cw g k) (if_no h9 _ _).symm⟩) d_H_literal_71
  · exact j_throwE (tx := _) (names := up2) hC hex htr (by decide +kernel) (by decide +kernel) (by decide +kernel) (by decide +kernel) d_H_literal_32 d_H_literal_35 d_H_literal_36 d_H_literal_38 d_H_literal_41 (by decide +kernel) up2_fit wt_67_102 wo_71 (by decide) (Nat.le_of_ble_eq_true rfl) (by decide) (by decide) (by rw [pcLit, if_pos hc1, if_pos hc8, if_neg h29] <;> rfl) (congrArg (cw g k) (if_so (by rw [pcLit, if_pos hc1, if_pos hc8, if_neg h29] <;> rfl : pcLit u r a b = some xUO) _ _).symm)
