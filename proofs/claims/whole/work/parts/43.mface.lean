def m_fault (u : jU) : Int32 × jU := ((mFind (up u 0 4 0)) 0 2, mFind (up u 0 4 0))
def m_layer (u : jU) (r : Int32) : Int32 × jU := (if ((m_refuse (mFind u) (if (m_in r 0 ((mFind u) 0 0 - 1)) = 0 then (1 : Int32) else (0 : Int32)) (if (m_in r 0 ((mFind u) 0 0 - 1)) = 0 then (0 : Int32) else (if ((mFind u) 0 2) < 0 then (0 : Int32) else (1 : Int32))) 0).1) = 0 then (((m_refuse (mFind u) (if (m_in r 0 ((mFind u) 0 0 - 1)) = 0 then (1 : Int32) else (0 : Int32)) (if (m_in r 0 ((mFind u) 0 0 - 1)) = 0 then (0 : Int32) else (if ((mFind u) 0 2) < 0 then (0 : Int32) else (1 : Int32))) 0).2) 3 (tn r)) else (0 : Int32), (m_refuse (mFind u) (if (m_in r 0 ((mFind u) 0 0 - 1)) = 0 then (1 : Int32) else (0 : Int32)) (if (m_in r 0 ((mFind u) 0 0 - 1)) = 0 then (0 : Int32) else (if ((mFind u) 0 2) < 0 then (0 : Int32) else (1 : Int32))) 0).2)
def m_rank (u : jU) (r a b : Int32) : Int32 × jU := (if ((m_refuse (mFind u) (if (m_isFact (mFind u) r a b) = 0 then (1 : Int32) else (0 : Int32)) (if (m_isFact (mFind u) r a b) = 0 then (0 : Int32) else (if ((mFind u) 0 2) < 0 then (0 : Int32) else (1 : Int32))) 0).1) = 0 then (((m_refuse (mFind u) (if (m_isFact (mFind u) r a b) = 0 then (1 : Int32) else (0 : Int32)) (if (m_isFact (mFind u) r a b) = 0 then (0 : Int32) else (if ((mFind u) 0 2) < 0 then (0 : Int32) else (1 : Int32))) 0).2) 4 (mFx (mFind u) r a b)) else (0 : Int32), (m_refuse (mFind u) (if (m_isFact (mFind u) r a b) = 0 then (1 : Int32) else (0 : Int32)) (if (m_isFact (mFind u) r a b) = 0 then (0 : Int32) else (if ((mFind u) 0 2) < 0 then (0 : Int32) else (1 : Int32))) 0).2)
def m_count (u : jU) (r : Int32) : Int32 × jU := if (m_refuse (mFind u) (if m_in r 0 ((mFind u) 0 0 - 1) = 0 then (1 : Int32) else 0) (if m_in r 0 ((mFind u) 0 0 - 1) = 0 then (0 : Int32) else (if (mFind u) 0 2 < 0 then 0 else 1)) 0).1 = 0 then (mCn (up (mFind u) 0 4 0) (144 * tn r) 144, up (mFind u) 0 4 0) else (0, (m_refuse (mFind u) (if m_in r 0 ((mFind u) 0 0 - 1) = 0 then (1 : Int32) else 0) (if m_in r 0 ((mFind u) 0 0 - 1) = 0 then (0 : Int32) else (if (mFind u) 0 2 < 0 then 0 else 1)) 0).2)
def m_ways (u : jU) (r a b : Int32) : Int32 × jU := if (m_refuse (mFind u) (if m_isFact (mFind u) r a b = 0 then (1 : Int32) else 0) (if m_isFact (mFind u) r a b = 0 then (0 : Int32) else (if (mFind u) 0 2 < 0 then 0 else 1)) 0).1 = 0 then mWy (mFind u) r a b else (0, (m_refuse (mFind u) (if m_isFact (mFind u) r a b = 0 then (1 : Int32) else 0) (if m_isFact (mFind u) r a b = 0 then (0 : Int32) else (if (mFind u) 0 2 < 0 then 0 else 1)) 0).2)
def m_proof (u : jU) (r a b t : Int32) : Int32 × jU := if (m_refuse (mFind u) (if mIs (mFind u) r a b t = 0 then (1 : Int32) else 0) (if mIs (mFind u) r a b t = 0 then (0 : Int32) else (if (mFind u) 0 2 < 0 then 0 else 1)) (if mFine (mFind u) r a b t = 0 then (0 : Int32) else (if 0 < (mFind u) 4 (mFx (mFind u) r a b) then 0 else 1))).1 = 0 then mPk r (mFx (mFind u) r a b) t (tn ((mFind u) 0 1)) 0 (up (mFind u) 0 4 0) else (0, (m_refuse (mFind u) (if mIs (mFind u) r a b t = 0 then (1 : Int32) else 0) (if mIs (mFind u) r a b t = 0 then (0 : Int32) else (if (mFind u) 0 2 < 0 then 0 else 1)) (if mFine (mFind u) r a b t = 0 then (0 : Int32) else (if 0 < (mFind u) 4 (mFx (mFind u) r a b) then 0 else 1))).2)
set_option maxHeartbeats 4000000 in
set_option maxRecDepth 100000 in
theorem r_fault (l : Launch) (dC : Nat → ClassId) (dI : Nat → Nat → Nat) (g k : Nat → Nat) (tl : List (ClassId × FieldType)) (u : jU) (hD : wfD u) (hE : mEnds (up u 0 4 0)) : jMet l y_D_fault (.code y_D_fault c_D_fault 1 (some .int)) ({ frames := 5, cells := 0, slots := 0, locals := 121 }) (dC, dI) jcl (mtys k tl) jTs [.ref (g 0)] (mw g k u) 0 0 (jRet (some (.int ((m_fault u).1))) (mw g k ((m_fault u).2))) := by
  refine jMet.of (by decide) (Nat.le_of_ble_eq_true rfl) ?_
  intro p e s m below meth c A hC hex hr hnm htr
  show jJ p l e ({ frames := 5, cells := 0, slots := 0, locals := 121 }) s m [.ref (g 0)].toArray below meth c 1 (dC, dI) jcl A (hxQ below (jQ (dC, dI) jcl (jRet (some (.int ((m_fault u).1))) (mw g k ((m_fault u).2))) A) [.ref (g 0)].toArray s 0 0 A) 0 0 (mw g k u) [(0, .ref (g 0))] [] 0
  refine j_aload_n hC d_D_fault_0 rfl 0 rfl ?_
  refine j_iconst (v := 0) hC d_D_fault_1 (by decide) ?_
  refine j_put (ty := .int) (ws' := mw g k (up u 0 4 0)) hC hin_D tyX5 tyX5_ok nmX5 (0) (mw_obj g k u) rfl 0 (by decide) (hC.2.2.2.2.1 _ wf_D_44) (fun _ h9 => h9) rfl (by decide +kernel) (rfl) (rfl) (Nat.le_of_ble_eq_true rfl) (mw_set_thrown g k u 0) d_D_fault_2 ?_
  refine j_aload_n hC d_D_fault_5 rfl 0 rfl ?_
  refine j_callVr (As := []) (rest := []) (st1 := []) hC (r_find l dC dI g k tl (up u 0 4 0) (wfD_up0 hD (by decide) 0) hE) rfl rfl ww_D_127 yn_D_find (mw_obj g k (up u 0 4 0)) rfl rfl d_D_fault_6 (Nat.le_of_ble_eq_true rfl) (by decide) ⟨Nat.zero_le _, Nat.zero_le _⟩ rfl ?_
  refine j_aload_n hC d_D_fault_9 rfl 0 rfl ?_
  refine j_get hC hin_D (0) (mw_obj g k (mFind (up u 0 4 0))) rfl 13 (by decide) (hC.2.2.2.2.1 _ wf_D_121) (fun _ h9 => h9) rfl d_D_fault_10 ?_
  exact j_iret hC hr ⟨rfl, by rw [m_fault] <;> rfl, congrArg (mw g k) (by rw [m_fault] <;> rfl)⟩ d_D_fault_13

set_option maxHeartbeats 4000000 in
set_option maxRecDepth 100000 in
theorem r_layer (l : Launch) (dC : Nat → ClassId) (dI : Nat → Nat → Nat) (g k : Nat → Nat) (tl : List (ClassId × FieldType)) (u : jU) (hD : wfD u) (hE : mEnds u) (r : Int32) : jMet l y_D_layer (.code y_D_layer c_D_layer 3 (some .int)) ({ frames := 5, cells := 0, slots := 0, locals := 121 }) (dC, dI) jcl (mtys k tl) jTs [.ref (g 0), .int r] (mw g k u) 0 0 (jRet (some (.int ((m_layer u r).1))) (mw g k ((m_layer u r).2))) := by
  refine jMet.of (by decide) (Nat.le_of_ble_eq_true rfl) ?_
  intro p e s m below meth c A hC hex hr hnm htr
  show jJ p l e ({ frames := 5, cells := 0, slots := 0, locals := 121 }) s m [.ref (g 0), .int r].toArray below meth c 3 (dC, dI) jcl A (hxQ below (jQ (dC, dI) jcl (jRet (some (.int ((m_layer u r).1))) (mw g k ((m_layer u r).2))) A) [.ref (g 0), .int r].toArray s 0 0 A) 0 0 (mw g k u) [(0, .ref (g 0)), (1, .int r)] [] 0
  have hDF := mFind_wf hD
  refine j_aload_n hC d_D_layer_0 rfl 0 rfl ?_
  refine j_callVr (As := []) (rest := []) (st1 := []) hC (r_find l dC dI g k tl u hD hE) rfl rfl ww_D_127 yn_D_find (mw_obj g k u) rfl rfl d_D_layer_1 (Nat.le_of_ble_eq_true rfl) (by decide) ⟨Nat.zero_le _, Nat.zero_le _⟩ rfl ?_
  refine j_iload_n hC d_D_layer_4 rfl 1 rfl ?_
  refine j_iconst (v := 0) hC d_D_layer_5 (by decide) ?_
  refine j_aload_n hC d_D_layer_6 rfl 0 rfl ?_
  refine j_get hC hin_D (0) (mw_obj g k (mFind u)) rfl 1 (by decide) (hC.2.2.2.2.1 _ wf_D_48) (fun _ h9 => h9) rfl d_D_layer_7 ?_
  refine j_iconst (v := 1) hC d_D_layer_10 (by decide) ?_
  refine j_isub hC d_D_layer_11 ?_
  refine j_callSr (As := [.int r, .int 0, .int (((mFind u) 0 0) - 1)]) (rest := []) (st1 := [.int (m_in r 0 ((mFind u) 0 0 - 1))]) hC (r_in l dC dI g k tl (mFind u) r 0 ((mFind u) 0 0 - 1)) rfl rfl ww_D_58 yn_D_in rfl d_D_layer_12 (Nat.le_of_ble_eq_true rfl) (by decide) ⟨Nat.zero_le _, Nat.zero_le _⟩ rfl ?_
  refine j_istore_n (lv' := [(0, .ref (g 0)), (1, .int r), (2, .int (m_in r 0 ((mFind u) 0 0 - 1)))]) hC d_D_layer_15 rfl (by decide) rfl rfl ?_
  refine j_aload_n hC d_D_layer_16 rfl 0 rfl ?_
  refine j_iload_n hC d_D_layer_17 rfl 2 rfl ?_
  suffices hk18 : jJ p l e ({ frames := 5, cells := 0, slots := 0, locals := 121 }) s m [.ref (g 0), .int r].toArray below meth c 3 (dC, dI) jcl A (hxQ below (jQ (dC, dI) jcl (jRet (some (.int ((m_layer u r).1))) (mw g k ((m_layer u r).2))) A) [.ref (g 0), .int r].toArray s 0 0 A) 0 0 (mw g k (mFind u)) [(0, .ref (g 0)), (1, .int r), (2, .int (m_in r 0 ((mFind u) 0 0 - 1)))] [.int (if (m_in r 0 ((mFind u) 0 0 - 1)) = 0 then (1 : Int32) else (0 : Int32)), .ref (g 0)] 26 by
    refine j_if_ne (tgt := 25) hC d_D_layer_18 (by decide) (fun h18 => ?_) (fun h18 => ?_)
    · refine j_iconst (v := 0) hC d_D_layer_25 (by decide) ?_
      exact j_top ((if_neg h18)) hk18
    · refine j_iconst (v := 1) hC d_D_layer_21 (by decide) ?_
      refine j_goto (tgt := 26) hC d_D_layer_22 (by decide) ?_
      exact j_top ((if_pos h18)) hk18
  refine j_iload_n hC d_D_layer_26 rfl 2 rfl ?_
  suffices hk27 : jJ p l e ({ frames := 5, cells := 0, slots := 0, locals := 121 }) s m [.ref (g 0), .int r].toArray below meth c 3 (dC, dI) jcl A (hxQ below (jQ (dC, dI) jcl (jRet (some (.int ((m_layer u r).1))) (mw g k ((m_layer u r).2))) A) [.ref (g 0), .int r].toArray s 0 0 A) 0 0 (mw g k (mFind u)) [(0, .ref (g 0)), (1, .int r), (2, .int (m_in r 0 ((mFind u) 0 0 - 1)))] [.int (if (m_in r 0 ((mFind u) 0 0 - 1)) = 0 then (0 : Int32) else (if ((mFind u) 0 2) < 0 then (0 : Int32) else (1 : Int32))), .int (if (m_in r 0 ((mFind u) 0 0 - 1)) = 0 then (1 : Int32) else (0 : Int32)), .ref (g 0)] 42 by
    refine j_if_eq (tgt := 41) hC d_D_layer_27 (by decide) (fun h27 => ?_) (fun h27 => ?_)
    · refine j_iconst (v := 0) hC d_D_layer_41 (by decide) ?_
      exact j_top ((if_pos h27)) hk27
    · refine j_aload_n hC d_D_layer_30 rfl 0 rfl ?_
      refine j_get hC hin_D (0) (mw_obj g k (mFind u)) rfl 13 (by decide) (hC.2.2.2.2.1 _ wf_D_121) (fun _ h9 => h9) rfl d_D_layer_31 ?_
      suffices hk34 : jJ p l e ({ frames := 5, cells := 0, slots := 0, locals := 121 }) s m [.ref (g 0), .int r].toArray below meth c 3 (dC, dI) jcl A (hxQ below (jQ (dC, dI) jcl (jRet (some (.int ((m_layer u r).1))) (mw g k ((m_layer u r).2))) A) [.ref (g 0), .int r].toArray s 0 0 A) 0 0 (mw g k (mFind u)) [(0, .ref (g 0)), (1, .int r), (2, .int (m_in r 0 ((mFind u) 0 0 - 1)))] [.int (if ((mFind u) 0 2) < 0 then (0 : Int32) else (1 : Int32)), .int (if (m_in r 0 ((mFind u) 0 0 - 1)) = 0 then (1 : Int32) else (0 : Int32)), .ref (g 0)] 42 by
        refine j_if_lt (tgt := 41) hC d_D_layer_34 (by decide) (fun h34 => ?_) (fun h34 => ?_)
        · refine j_iconst (v := 0) hC d_D_layer_41 (by decide) ?_
          exact j_top ((if_pos h34)) hk34
        · refine j_iconst (v := 1) hC d_D_layer_37 (by decide) ?_
          refine j_goto (tgt := 42) hC d_D_layer_38 (by decide) ?_
          exact j_top ((if_neg h34)) hk34
      exact j_top ((if_neg h27)) hk27
  refine j_iconst (v := 0) hC d_D_layer_42 (by decide) ?_
  refine j_callVr (As := [.int (if (m_in r 0 ((mFind u) 0 0 - 1)) = 0 then (1 : Int32) else (0 : Int32)), .int (if (m_in r 0 ((mFind u) 0 0 - 1)) = 0 then (0 : Int32) else (if ((mFind u) 0 2) < 0 then (0 : Int32) else (1 : Int32))), .int 0]) (rest := []) (st1 := [.int ((m_refuse (mFind u) (if (m_in r 0 ((mFind u) 0 0 - 1)) = 0 then (1 : Int32) else (0 : Int32)) (if (m_in r 0 ((mFind u) 0 0 - 1)) = 0 then (0 : Int32) else (if ((mFind u) 0 2) < 0 then (0 : Int32) else (1 : Int32))) 0).1)]) hC (r_refuse l dC dI g k tl (mFind u) (if (m_in r 0 ((mFind u) 0 0 - 1)) = 0 then (1 : Int32) else (0 : Int32)) (if (m_in r 0 ((mFind u) 0 0 - 1)) = 0 then (0 : Int32) else (if ((mFind u) 0 2) < 0 then (0 : Int32) else (1 : Int32))) 0) rfl rfl ww_D_62 yn_D_refuse (mw_obj g k (mFind u)) rfl rfl d_D_layer_43 (Nat.le_of_ble_eq_true rfl) (by decide) ⟨Nat.zero_le _, Nat.zero_le _⟩ rfl ?_
  suffices hk46 : jJ p l e ({ frames := 5, cells := 0, slots := 0, locals := 121 }) s m [.ref (g 0), .int r].toArray below meth c 3 (dC, dI) jcl A (hxQ below (jQ (dC, dI) jcl (jRet (some (.int ((m_layer u r).1))) (mw g k ((m_layer u r).2))) A) [.ref (g 0), .int r].toArray s 0 0 A) 0 0 (mw g k ((m_refuse (mFind u) (if (m_in r 0 ((mFind u) 0 0 - 1)) = 0 then (1 : Int32) else (0 : Int32)) (if (m_in r 0 ((mFind u) 0 0 - 1)) = 0 then (0 : Int32) else (if ((mFind u) 0 2) < 0 then (0 : Int32) else (1 : Int32))) 0).2)) [(0, .ref (g 0)), (1, .int r), (2, .int (m_in r 0 ((mFind u) 0 0 - 1)))] [.int (if ((m_refuse (mFind u) (if (m_in r 0 ((mFind u) 0 0 - 1)) = 0 then (1 : Int32) else (0 : Int32)) (if (m_in r 0 ((mFind u) 0 0 - 1)) = 0 then (0 : Int32) else (if ((mFind u) 0 2) < 0 then (0 : Int32) else (1 : Int32))) 0).1) = 0 then (((m_refuse (mFind u) (if (m_in r 0 ((mFind u) 0 0 - 1)) = 0 then (1 : Int32) else (0 : Int32)) (if (m_in r 0 ((mFind u) 0 0 - 1)) = 0 then (0 : Int32) else (if ((mFind u) 0 2) < 0 then (0 : Int32) else (1 : Int32))) 0).2) 3 (tn r)) else (0 : Int32))] 59 by
    refine j_if_eq (tgt := 53) hC d_D_layer_46 (by decide) (fun h46 => ?_) (fun h46 => ?_)
    · refine j_aload_n hC d_D_layer_53 rfl 0 rfl ?_
      refine j_get hC hin_D (0) (mw_obj g k ((m_refuse (mFind u) (if (m_in r 0 ((mFind u) 0 0 - 1)) = 0 then (1 : Int32) else (0 : Int32)) (if (m_in r 0 ((mFind u) 0 0 - 1)) = 0 then (0 : Int32) else (if ((mFind u) 0 2) < 0 then (0 : Int32) else (1 : Int32))) 0).2)) rfl 11 (by decide) (hC.2.2.2.2.1 _ wf_D_35) (fun _ h9 => h9) rfl d_D_layer_54 ?_
      refine j_iload_n hC d_D_layer_57 rfl 1 rfl ?_
      refine j_ialdN hC (9) 0 (mw_layers g k ((m_refuse (mFind u) (if (m_in r 0 ((mFind u) 0 0 - 1)) = 0 then (1 : Int32) else (0 : Int32)) (if (m_in r 0 ((mFind u) 0 0 - 1)) = 0 then (0 : Int32) else (if ((mFind u) 0 2) < 0 then (0 : Int32) else (1 : Int32))) 0).2)) rfl (n := tn r) ((in_rel hDF (ref_is h46)).1) (rel8 hDF (in_rel hDF (ref_is h46))) (by decide) d_D_layer_58 ?_
      exact j_top ((if_pos h46)) hk46
    · refine j_iconst (v := 0) hC d_D_layer_49 (by decide) ?_
      refine j_goto (tgt := 59) hC d_D_layer_50 (by decide) ?_
      exact j_top ((if_neg h46)) hk46
  exact j_iret hC hr ⟨rfl, by rw [m_layer] <;> rfl, congrArg (mw g k) (by rw [m_layer] <;> rfl)⟩ d_D_layer_59

set_option maxHeartbeats 4000000 in
set_option maxRecDepth 100000 in
theorem r_rank (l : Launch) (dC : Nat → ClassId) (dI : Nat → Nat → Nat) (g k : Nat → Nat) (tl : List (ClassId × FieldType)) (u : jU) (hD : wfD u) (hE : mEnds u) (r a b : Int32) : jMet l y_D_rank (.code y_D_rank c_D_rank 5 (some .int)) ({ frames := 5, cells := 0, slots := 0, locals := 121 }) (dC, dI) jcl (mtys k tl) jTs [.ref (g 0), .int r, .int a, .int b] (mw g k u) 0 0 (jRet (some (.int ((m_rank u r a b).1))) (mw g k ((m_rank u r a b).2))) := by
  refine jMet.of (by decide) (Nat.le_of_ble_eq_true rfl) ?_
  intro p e s m below meth c A hC hex hr hnm htr
  show jJ p l e ({ frames := 5, cells := 0, slots := 0, locals := 121 }) s m [.ref (g 0), .int r, .int a, .int b].toArray below meth c 5 (dC, dI) jcl A (hxQ below (jQ (dC, dI) jcl (jRet (some (.int ((m_rank u r a b).1))) (mw g k ((m_rank u r a b).2))) A) [.ref (g 0), .int r, .int a, .int b].toArray s 0 0 A) 0 0 (mw g k u) [(0, .ref (g 0)), (1, .int r), (2, .int a), (3, .int b)] [] 0
  have hDF := mFind_wf hD
  refine j_aload_n hC d_D_rank_0 rfl 0 rfl ?_
  refine j_callVr (As := []) (rest := []) (st1 := []) hC (r_find l dC dI g k tl u hD hE) rfl rfl ww_D_127 yn_D_find (mw_obj g k u) rfl rfl d_D_rank_1 (Nat.le_of_ble_eq_true rfl) (by decide) ⟨Nat.zero_le _, Nat.zero_le _⟩ rfl ?_
  refine j_aload_n hC d_D_rank_4 rfl 0 rfl ?_
  refine j_iload_n hC d_D_rank_5 rfl 1 rfl ?_
  refine j_iload_n hC d_D_rank_6 rfl 2 rfl ?_
  refine j_iload_n hC d_D_rank_7 rfl 3 rfl ?_
  refine j_callVr (As := [.int r, .int a, .int b]) (rest := []) (st1 := [.int (m_isFact (mFind u) r a b)]) hC (r_isFact l dC dI g k tl (mFind u) hDF r a b) rfl rfl ww_D_66 yn_D_isFact (mw_obj g k (mFind u)) rfl rfl d_D_rank_8 (Nat.le_of_ble_eq_true rfl) (by decide) ⟨Nat.zero_le _, Nat.zero_le _⟩ rfl ?_
  refine j_istore (lv' := [(0, .ref (g 0)), (1, .int r), (2, .int a), (3, .int b), (4, .int (m_isFact (mFind u) r a b))]) hC d_D_rank_11 (by decide) rfl rfl ?_
  refine j_aload_n hC d_D_rank_13 rfl 0 rfl ?_
  refine j_iload hC d_D_rank_14 4 rfl ?_
  suffices hk16 : jJ p l e ({ frames := 5, cells := 0, slots := 0, locals := 121 }) s m [.ref (g 0), .int r, .int a, .int b].toArray below meth c 5 (dC, dI) jcl A (hxQ below (jQ (dC, dI) jcl (jRet (some (.int ((m_rank u r a b).1))) (mw g k ((m_rank u r a b).2))) A) [.ref (g 0), .int r, .int a, .int b].toArray s 0 0 A) 0 0 (mw g k (mFind u)) [(0, .ref (g 0)), (1, .int r), (2, .int a), (3, .int b), (4, .int (m_isFact (mFind u) r a b))] [.int (if (m_isFact (mFind u) r a b) = 0 then (1 : Int32) else (0 : Int32)), .ref (g 0)] 24 by
    refine j_if_ne (tgt := 23) hC d_D_rank_16 (by decide) (fun h16 => ?_) (fun h16 => ?_)
    · refine j_iconst (v := 0) hC d_D_rank_23 (by decide) ?_
      exact j_top ((if_neg h16)) hk16
    · refine j_iconst (v := 1) hC d_D_rank_19 (by decide) ?_
      refine j_goto (tgt := 24) hC d_D_rank_20 (by decide) ?_
      exact j_top ((if_pos h16)) hk16
  refine j_iload hC d_D_rank_24 4 rfl ?_
  suffices hk26 : jJ p l e ({ frames := 5, cells := 0, slots := 0, locals := 121 }) s m [.ref (g 0), .int r, .int a, .int b].toArray below meth c 5 (dC, dI) jcl A (hxQ below (jQ (dC, dI) jcl (jRet (some (.int ((m_rank u r a b).1))) (mw g k ((m_rank u r a b).2))) A) [.ref (g 0), .int r, .int a, .int b].toArray s 0 0 A) 0 0 (mw g k (mFind u)) [(0, .ref (g 0)), (1, .int r), (2, .int a), (3, .int b), (4, .int (m_isFact (mFind u) r a b))] [.int (if (m_isFact (mFind u) r a b) = 0 then (0 : Int32) else (if ((mFind u) 0 2) < 0 then (0 : Int32) else (1 : Int32))), .int (if (m_isFact (mFind u) r a b) = 0 then (1 : Int32) else (0 : Int32)), .ref (g 0)] 41 by
    refine j_if_eq (tgt := 40) hC d_D_rank_26 (by decide) (fun h26 => ?_) (fun h26 => ?_)
    · refine j_iconst (v := 0) hC d_D_rank_40 (by decide) ?_
      exact j_top ((if_pos h26)) hk26
    · refine j_aload_n hC d_D_rank_29 rfl 0 rfl ?_
      refine j_get hC hin_D (0) (mw_obj g k (mFind u)) rfl 13 (by decide) (hC.2.2.2.2.1 _ wf_D_121) (fun _ h9 => h9) rfl d_D_rank_30 ?_
      suffices hk33 : jJ p l e ({ frames := 5, cells := 0, slots := 0, locals := 121 }) s m [.ref (g 0), .int r, .int a, .int b].toArray below meth c 5 (dC, dI) jcl A (hxQ below (jQ (dC, dI) jcl (jRet (some (.int ((m_rank u r a b).1))) (mw g k ((m_rank u r a b).2))) A) [.ref (g 0), .int r, .int a, .int b].toArray s 0 0 A) 0 0 (mw g k (mFind u)) [(0, .ref (g 0)), (1, .int r), (2, .int a), (3, .int b), (4, .int (m_isFact (mFind u) r a b))] [.int (if ((mFind u) 0 2) < 0 then (0 : Int32) else (1 : Int32)), .int (if (m_isFact (mFind u) r a b) = 0 then (1 : Int32) else (0 : Int32)), .ref (g 0)] 41 by
        refine j_if_lt (tgt := 40) hC d_D_rank_33 (by decide) (fun h33 => ?_) (fun h33 => ?_)
        · refine j_iconst (v := 0) hC d_D_rank_40 (by decide) ?_
          exact j_top ((if_pos h33)) hk33
        · refine j_iconst (v := 1) hC d_D_rank_36 (by decide) ?_
          refine j_goto (tgt := 41) hC d_D_rank_37 (by decide) ?_
          exact j_top ((if_neg h33)) hk33
      exact j_top ((if_neg h26)) hk26
  refine j_iconst (v := 0) hC d_D_rank_41 (by decide) ?_
  refine j_callVr (As := [.int (if (m_isFact (mFind u) r a b) = 0 then (1 : Int32) else (0 : Int32)), .int (if (m_isFact (mFind u) r a b) = 0 then (0 : Int32) else (if ((mFind u) 0 2) < 0 then (0 : Int32) else (1 : Int32))), .int 0]) (rest := []) (st1 := [.int ((m_refuse (mFind u) (if (m_isFact (mFind u) r a b) = 0 then (1 : Int32) else (0 : Int32)) (if (m_isFact (mFind u) r a b) = 0 then (0 : Int32) else (if ((mFind u) 0 2) < 0 then (0 : Int32) else (1 : Int32))) 0).1)]) hC (r_refuse l dC dI g k tl (mFind u) (if (m_isFact (mFind u) r a b) = 0 then (1 : Int32) else (0 : Int32)) (if (m_isFact (mFind u) r a b) = 0 then (0 : Int32) else (if ((mFind u) 0 2) < 0 then (0 : Int32) else (1 : Int32))) 0) rfl rfl ww_D_62 yn_D_refuse (mw_obj g k (mFind u)) rfl rfl d_D_rank_42 (Nat.le_of_ble_eq_true rfl) (by decide) ⟨Nat.zero_le _, Nat.zero_le _⟩ rfl ?_
  suffices hk45 : jJ p l e ({ frames := 5, cells := 0, slots := 0, locals := 121 }) s m [.ref (g 0), .int r, .int a, .int b].toArray below meth c 5 (dC, dI) jcl A (hxQ below (jQ (dC, dI) jcl (jRet (some (.int ((m_rank u r a b).1))) (mw g k ((m_rank u r a b).2))) A) [.ref (g 0), .int r, .int a, .int b].toArray s 0 0 A) 0 0 (mw g k ((m_refuse (mFind u) (if (m_isFact (mFind u) r a b) = 0 then (1 : Int32) else (0 : Int32)) (if (m_isFact (mFind u) r a b) = 0 then (0 : Int32) else (if ((mFind u) 0 2) < 0 then (0 : Int32) else (1 : Int32))) 0).2)) [(0, .ref (g 0)), (1, .int r), (2, .int a), (3, .int b), (4, .int (m_isFact (mFind u) r a b))] [.int (if ((m_refuse (mFind u) (if (m_isFact (mFind u) r a b) = 0 then (1 : Int32) else (0 : Int32)) (if (m_isFact (mFind u) r a b) = 0 then (0 : Int32) else (if ((mFind u) 0 2) < 0 then (0 : Int32) else (1 : Int32))) 0).1) = 0 then (((m_refuse (mFind u) (if (m_isFact (mFind u) r a b) = 0 then (1 : Int32) else (0 : Int32)) (if (m_isFact (mFind u) r a b) = 0 then (0 : Int32) else (if ((mFind u) 0 2) < 0 then (0 : Int32) else (1 : Int32))) 0).2) 4 (mFx (mFind u) r a b)) else (0 : Int32))] 64 by
    refine j_if_eq (tgt := 52) hC d_D_rank_45 (by decide) (fun h45 => ?_) (fun h45 => ?_)
    · refine j_aload_n hC d_D_rank_52 rfl 0 rfl ?_
      refine j_get hC hin_D (0) (mw_obj g k ((m_refuse (mFind u) (if (m_isFact (mFind u) r a b) = 0 then (1 : Int32) else (0 : Int32)) (if (m_isFact (mFind u) r a b) = 0 then (0 : Int32) else (if ((mFind u) 0 2) < 0 then (0 : Int32) else (1 : Int32))) 0).2)) rfl 4 (by decide) (hC.2.2.2.2.1 _ wf_D_17) (fun _ h9 => h9) rfl d_D_rank_53 ?_
      refine j_aload_n hC d_D_rank_56 rfl 0 rfl ?_
      refine j_iload_n hC d_D_rank_57 rfl 1 rfl ?_
      refine j_iload_n hC d_D_rank_58 rfl 2 rfl ?_
      refine j_iload_n hC d_D_rank_59 rfl 3 rfl ?_
      refine j_callVr (As := [.int r, .int a, .int b]) (rest := [.ref (g 3)]) (st1 := [.int (m_factAt ((m_refuse (mFind u) (if (m_isFact (mFind u) r a b) = 0 then (1 : Int32) else (0 : Int32)) (if (m_isFact (mFind u) r a b) = 0 then (0 : Int32) else (if ((mFind u) 0 2) < 0 then (0 : Int32) else (1 : Int32))) 0).2) r a b), .ref (g 3)]) hC (r_factAt l dC dI g k tl ((m_refuse (mFind u) (if (m_isFact (mFind u) r a b) = 0 then (1 : Int32) else (0 : Int32)) (if (m_isFact (mFind u) r a b) = 0 then (0 : Int32) else (if ((mFind u) 0 2) < 0 then (0 : Int32) else (1 : Int32))) 0).2) r a b (isFact_rel hDF (ref_is h45))) rfl rfl ww_D_69 yn_D_factAt (mw_obj g k ((m_refuse (mFind u) (if (m_isFact (mFind u) r a b) = 0 then (1 : Int32) else (0 : Int32)) (if (m_isFact (mFind u) r a b) = 0 then (0 : Int32) else (if ((mFind u) 0 2) < 0 then (0 : Int32) else (1 : Int32))) 0).2)) rfl rfl d_D_rank_60 (Nat.le_of_ble_eq_true rfl) (by decide) ⟨Nat.zero_le _, Nat.zero_le _⟩ rfl ?_
      refine j_ialdN hC (3) 0 (mw_ranks g k ((m_refuse (mFind u) (if (m_isFact (mFind u) r a b) = 0 then (1 : Int32) else (0 : Int32)) (if (m_isFact (mFind u) r a b) = 0 then (0 : Int32) else (if ((mFind u) 0 2) < 0 then (0 : Int32) else (1 : Int32))) 0).2)) rfl (n := mFx (mFind u) r a b) ((fact_ix hDF (ref_is h45)).1) ((fact_ix hDF (ref_is h45)).2) (by decide) d_D_rank_63 ?_
      exact j_top ((if_pos h45)) hk45
    · refine j_iconst (v := 0) hC d_D_rank_48 (by decide) ?_
      refine j_goto (tgt := 64) hC d_D_rank_49 (by decide) ?_
      exact j_top ((if_neg h45)) hk45
  exact j_iret hC hr ⟨rfl, by rw [m_rank] <;> rfl, congrArg (mw g k) (by rw [m_rank] <;> rfl)⟩ d_D_rank_64

set_option maxHeartbeats 4000000 in
set_option maxRecDepth 100000 in
theorem r_count (l : Launch) (dC : Nat → ClassId) (dI : Nat → Nat → Nat) (g k : Nat → Nat) (tl : List (ClassId × FieldType)) (u : jU) (hD : wfD u) (hE : mEnds u) (r : Int32) : jMet l y_D_count (.code y_D_count c_D_count 5 (some .int)) ({ frames := 5, cells := 0, slots := 0, locals := 121 }) (dC, dI) jcl (mtys k tl) jTs [.ref (g 0), .int r] (mw g k u) 0 0 (jRet (some (.int ((m_count u r).1))) (mw g k ((m_count u r).2))) := by
  refine jMet.of (by decide) (Nat.le_of_ble_eq_true rfl) ?_
  intro p e s m below meth c A hC hex hr hnm htr
  show jJ p l e ({ frames := 5, cells := 0, slots := 0, locals := 121 }) s m [.ref (g 0), .int r].toArray below meth c 5 (dC, dI) jcl A (hxQ below (jQ (dC, dI) jcl (jRet (some (.int ((m_count u r).1))) (mw g k ((m_count u r).2))) A) [.ref (g 0), .int r].toArray s 0 0 A) 0 0 (mw g k u) [(0, .ref (g 0)), (1, .int r)] [] 0
  have hDF := mFind_wf hD
  have loop : (m_refuse (mFind u) (if m_in r 0 ((mFind u) 0 0 - 1) = 0 then (1 : Int32) else 0) (if m_in r 0 ((mFind u) 0 0 - 1) = 0 then (0 : Int32) else (if (mFind u) 0 2 < 0 then 0 else 1)) 0).1 = 0 → ∀ (mm n : Nat), n ≤ 144 → 144 < n + mm → jJ p l e ({ frames := 5, cells := 0, slots := 0, locals := 121 }) s m [.ref (g 0), .int r].toArray below meth c 5 (dC, dI) jcl A (hxQ below (jQ (dC, dI) jcl (jRet (some (.int ((m_count u r).1))) (mw g k ((m_count u r).2))) A) [.ref (g 0), .int r].toArray s 0 0 A) 0 0 (mw g k (up (mFind u) 0 4 0)) [(0, .ref (g 0)), (1, .int r), (2, .int (m_in r 0 ((mFind u) 0 0 - 1))), (3, .int (mCn (up (mFind u) 0 4 0) (144 * tn r) n)), (4, .int (nI (144 * tn r + n)))] [] 60 := by
    intro h46 mm
    have hr8 : inN r 8 := (in_rel hDF (ref_is h46)).mono (by have := hDF.1.2; omega)
    have hr9 := hr8.2
    induction mm with
    | zero => intro n h1 h2; exact absurd h2 (by omega)
    | succ mm ih =>
      intro n hn hm
      refine j_iload hC d_D_count_60 4 rfl ?_
      refine j_sipush (v := 144) hC d_D_count_62 (by decide) ?_
      refine j_iload_n hC d_D_count_65 rfl 1 rfl ?_
      refine j_imul hC d_D_count_66 ?_
      refine j_sipush (v := 144) hC d_D_count_67 (by decide) ?_
      refine j_iadd hC d_D_count_70 ?_
      rw [show (144 * r) + 144 = nI (144 * tn r + 144) from in_144 hr8 144]
      refine j_icmp_ge (tgt := 97) hC d_D_count_71 (by decide) (fun h71 => ?_) (fun h71 => ?_)
      · have hge : 144 * tn r + 144 ≤ 144 * tn r + n := (nI_leI (by omega) (by omega)).mp h71
        have hne : n = 144 := by omega
        refine j_iload_n hC d_D_count_97 rfl 3 rfl ?_
        exact j_iret hC hr ⟨rfl, by rw [m_count, if_pos h46, hne] <;> rfl, congrArg (mw g k) (by rw [m_count, if_pos h46] <;> rfl)⟩ d_D_count_98
      · have hlt : 144 * tn r + n < 144 * tn r + 144 := Nat.not_le.mp (fun z => h71 ((nI_leI (by omega) (by omega)).mpr z))
        refine j_aload_n hC d_D_count_74 rfl 0 rfl ?_
        refine j_iload hC d_D_count_75 4 rfl ?_
        refine j_callVr (As := [.int (nI (144 * tn r + n))]) (rest := []) (st1 := [.int (m_holds (up (mFind u) 0 4 0) (144 * tn r + n))]) hC (r_holds l dC dI g k tl (up (mFind u) 0 4 0) (f := 144 * tn r + n) (by omega)) rfl rfl ww_D_103 yn_D_holds (mw_obj g k (up (mFind u) 0 4 0)) rfl rfl d_D_count_77 (Nat.le_of_ble_eq_true rfl) (by decide) ⟨Nat.zero_le _, Nat.zero_le _⟩ rfl ?_
        suffices hk80 : jJ p l e ({ frames := 5, cells := 0, slots := 0, locals := 121 }) s m [.ref (g 0), .int r].toArray below meth c 5 (dC, dI) jcl A (hxQ below (jQ (dC, dI) jcl (jRet (some (.int ((m_count u r).1))) (mw g k ((m_count u r).2))) A) [.ref (g 0), .int r].toArray s 0 0 A) 0 0 (mw g k (up (mFind u) 0 4 0)) [(0, .ref (g 0)), (1, .int r), (2, .int (m_in r 0 ((mFind u) 0 0 - 1))), (3, .int (mCn (up (mFind u) 0 4 0) (144 * tn r) n)), (4, .int (nI (144 * tn r + n)))] [.int (if (m_holds (up (mFind u) 0 4 0) (144 * tn r + n)) = 0 then (mCn (up (mFind u) 0 4 0) (144 * tn r) n) else ((mCn (up (mFind u) 0 4 0) (144 * tn r) n) + 1))] 90 by
          refine j_if_eq (tgt := 89) hC d_D_count_80 (by decide) (fun h80 => ?_) (fun h80 => ?_)
          · refine j_iload_n hC d_D_count_89 rfl 3 rfl ?_
            exact j_top ((if_pos h80)) hk80
          · refine j_iload_n hC d_D_count_83 rfl 3 rfl ?_
            refine j_iconst (v := 1) hC d_D_count_84 (by decide) ?_
            refine j_iadd hC d_D_count_85 ?_
            refine j_goto (tgt := 90) hC d_D_count_86 (by decide) ?_
            exact j_top ((if_neg h80)) hk80
        refine j_istore_n (lv' := [(0, .ref (g 0)), (1, .int r), (2, .int (m_in r 0 ((mFind u) 0 0 - 1))), (3, .int (if (m_holds (up (mFind u) 0 4 0) (144 * tn r + n)) = 0 then (mCn (up (mFind u) 0 4 0) (144 * tn r) n) else ((mCn (up (mFind u) 0 4 0) (144 * tn r) n) + 1))), (4, .int (nI (144 * tn r + n)))]) hC d_D_count_90 rfl (by decide) rfl rfl ?_
        refine j_iinc (lv' := [(0, .ref (g 0)), (1, .int r), (2, .int (m_in r 0 ((mFind u) 0 0 - 1))), (3, .int (if (m_holds (up (mFind u) 0 4 0) (144 * tn r + n)) = 0 then (mCn (up (mFind u) 0 4 0) (144 * tn r) n) else ((mCn (up (mFind u) 0 4 0) (144 * tn r) n) + 1))), (4, .int (nI (144 * tn r + n + 1)))]) hC d_D_count_91 4 rfl (nI_1 _) (by decide) rfl rfl ?_
        refine j_goto (tgt := 60) hC d_D_count_94 (by decide) ?_
        exact ih (n + 1) (by omega) (by omega)
  refine j_aload_n hC d_D_count_0 rfl 0 rfl ?_
  refine j_callVr (As := []) (rest := []) (st1 := []) hC (r_find l dC dI g k tl u hD hE) rfl rfl ww_D_127 yn_D_find (mw_obj g k u) rfl rfl d_D_count_1 (Nat.le_of_ble_eq_true rfl) (by decide) ⟨Nat.zero_le _, Nat.zero_le _⟩ rfl ?_
  refine j_iload_n hC d_D_count_4 rfl 1 rfl ?_
  refine j_iconst (v := 0) hC d_D_count_5 (by decide) ?_
  refine j_aload_n hC d_D_count_6 rfl 0 rfl ?_
  refine j_get hC hin_D (0) (mw_obj g k (mFind u)) rfl 1 (by decide) (hC.2.2.2.2.1 _ wf_D_48) (fun _ h9 => h9) rfl d_D_count_7 ?_
  refine j_iconst (v := 1) hC d_D_count_10 (by decide) ?_
  refine j_isub hC d_D_count_11 ?_
  refine j_callSr (As := [.int r, .int 0, .int (((mFind u) 0 0) - 1)]) (rest := []) (st1 := [.int (m_in r 0 ((mFind u) 0 0 - 1))]) hC (r_in l dC dI g k tl (mFind u) r 0 ((mFind u) 0 0 - 1)) rfl rfl ww_D_58 yn_D_in rfl d_D_count_12 (Nat.le_of_ble_eq_true rfl) (by decide) ⟨Nat.zero_le _, Nat.zero_le _⟩ rfl ?_
  refine j_istore_n (lv' := [(0, .ref (g 0)), (1, .int r), (2, .int (m_in r 0 ((mFind u) 0 0 - 1)))]) hC d_D_count_15 rfl (by decide) rfl rfl ?_
  refine j_aload_n hC d_D_count_16 rfl 0 rfl ?_
  refine j_iload_n hC d_D_count_17 rfl 2 rfl ?_
  suffices hk18 : jJ p l e ({ frames := 5, cells := 0, slots := 0, locals := 121 }) s m [.ref (g 0), .int r].toArray below meth c 5 (dC, dI) jcl A (hxQ below (jQ (dC, dI) jcl (jRet (some (.int ((m_count u r).1))) (mw g k ((m_count u r).2))) A) [.ref (g 0), .int r].toArray s 0 0 A) 0 0 (mw g k (mFind u)) [(0, .ref (g 0)), (1, .int r), (2, .int (m_in r 0 ((mFind u) 0 0 - 1)))] [.int (if (m_in r 0 ((mFind u) 0 0 - 1)) = 0 then (1 : Int32) else (0 : Int32)), .ref (g 0)] 26 by
    refine j_if_ne (tgt := 25) hC d_D_count_18 (by decide) (fun h18 => ?_) (fun h18 => ?_)
    · refine j_iconst (v := 0) hC d_D_count_25 (by decide) ?_
      exact j_top ((if_neg h18)) hk18
    · refine j_iconst (v := 1) hC d_D_count_21 (by decide) ?_
      refine j_goto (tgt := 26) hC d_D_count_22 (by decide) ?_
      exact j_top ((if_pos h18)) hk18
  refine j_iload_n hC d_D_count_26 rfl 2 rfl ?_
  suffices hk27 : jJ p l e ({ frames := 5, cells := 0, slots := 0, locals := 121 }) s m [.ref (g 0), .int r].toArray below meth c 5 (dC, dI) jcl A (hxQ below (jQ (dC, dI) jcl (jRet (some (.int ((m_count u r).1))) (mw g k ((m_count u r).2))) A) [.ref (g 0), .int r].toArray s 0 0 A) 0 0 (mw g k (mFind u)) [(0, .ref (g 0)), (1, .int r), (2, .int (m_in r 0 ((mFind u) 0 0 - 1)))] [.int (if (m_in r 0 ((mFind u) 0 0 - 1)) = 0 then (0 : Int32) else (if ((mFind u) 0 2) < 0 then (0 : Int32) else (1 : Int32))), .int (if (m_in r 0 ((mFind u) 0 0 - 1)) = 0 then (1 : Int32) else (0 : Int32)), .ref (g 0)] 42 by
    refine j_if_eq (tgt := 41) hC d_D_count_27 (by decide) (fun h27 => ?_) (fun h27 => ?_)
    · refine j_iconst (v := 0) hC d_D_count_41 (by decide) ?_
      exact j_top ((if_pos h27)) hk27
    · refine j_aload_n hC d_D_count_30 rfl 0 rfl ?_
      refine j_get hC hin_D (0) (mw_obj g k (mFind u)) rfl 13 (by decide) (hC.2.2.2.2.1 _ wf_D_121) (fun _ h9 => h9) rfl d_D_count_31 ?_
      suffices hk34 : jJ p l e ({ frames := 5, cells := 0, slots := 0, locals := 121 }) s m [.ref (g 0), .int r].toArray below meth c 5 (dC, dI) jcl A (hxQ below (jQ (dC, dI) jcl (jRet (some (.int ((m_count u r).1))) (mw g k ((m_count u r).2))) A) [.ref (g 0), .int r].toArray s 0 0 A) 0 0 (mw g k (mFind u)) [(0, .ref (g 0)), (1, .int r), (2, .int (m_in r 0 ((mFind u) 0 0 - 1)))] [.int (if ((mFind u) 0 2) < 0 then (0 : Int32) else (1 : Int32)), .int (if (m_in r 0 ((mFind u) 0 0 - 1)) = 0 then (1 : Int32) else (0 : Int32)), .ref (g 0)] 42 by
        refine j_if_lt (tgt := 41) hC d_D_count_34 (by decide) (fun h34 => ?_) (fun h34 => ?_)
        · refine j_iconst (v := 0) hC d_D_count_41 (by decide) ?_
          exact j_top ((if_pos h34)) hk34
        · refine j_iconst (v := 1) hC d_D_count_37 (by decide) ?_
          refine j_goto (tgt := 42) hC d_D_count_38 (by decide) ?_
          exact j_top ((if_neg h34)) hk34
      exact j_top ((if_neg h27)) hk27
  refine j_iconst (v := 0) hC d_D_count_42 (by decide) ?_
  refine j_callVr (As := [.int (if (m_in r 0 ((mFind u) 0 0 - 1)) = 0 then (1 : Int32) else (0 : Int32)), .int (if (m_in r 0 ((mFind u) 0 0 - 1)) = 0 then (0 : Int32) else (if ((mFind u) 0 2) < 0 then (0 : Int32) else (1 : Int32))), .int 0]) (rest := []) (st1 := [.int ((m_refuse (mFind u) (if (m_in r 0 ((mFind u) 0 0 - 1)) = 0 then (1 : Int32) else (0 : Int32)) (if (m_in r 0 ((mFind u) 0 0 - 1)) = 0 then (0 : Int32) else (if ((mFind u) 0 2) < 0 then (0 : Int32) else (1 : Int32))) 0).1)]) hC (r_refuse l dC dI g k tl (mFind u) (if (m_in r 0 ((mFind u) 0 0 - 1)) = 0 then (1 : Int32) else (0 : Int32)) (if (m_in r 0 ((mFind u) 0 0 - 1)) = 0 then (0 : Int32) else (if ((mFind u) 0 2) < 0 then (0 : Int32) else (1 : Int32))) 0) rfl rfl ww_D_62 yn_D_refuse (mw_obj g k (mFind u)) rfl rfl d_D_count_43 (Nat.le_of_ble_eq_true rfl) (by decide) ⟨Nat.zero_le _, Nat.zero_le _⟩ rfl ?_
  refine j_if_eq (tgt := 51) hC d_D_count_46 (by decide) (fun h46 => ?_) (fun h46 => ?_)
  · have hr8 : inN r 8 := (in_rel hDF (ref_is h46)).mono (by have := hDF.1.2; omega)
    rw [ref_st h46]
    refine j_iconst (v := 0) hC d_D_count_51 (by decide) ?_
    refine j_istore_n (lv' := [(0, .ref (g 0)), (1, .int r), (2, .int (m_in r 0 ((mFind u) 0 0 - 1))), (3, .int 0)]) hC d_D_count_52 rfl (by decide) rfl rfl ?_
    refine j_sipush (v := 144) hC d_D_count_53 (by decide) ?_
    refine j_iload_n hC d_D_count_56 rfl 1 rfl ?_
    refine j_imul hC d_D_count_57 ?_
    rw [show 144 * r = nI (144 * tn r + 0) from in_144z hr8]
    refine j_istore (lv' := [(0, .ref (g 0)), (1, .int r), (2, .int (m_in r 0 ((mFind u) 0 0 - 1))), (3, .int 0), (4, .int (nI (144 * tn r + 0)))]) hC d_D_count_58 (by decide) rfl rfl ?_
    exact loop h46 145 0 (by omega) (by omega)
  · refine j_iconst (v := 0) hC d_D_count_49 (by decide) ?_
    exact j_iret hC hr ⟨rfl, by rw [m_count, if_neg h46] <;> rfl, congrArg (mw g k) (by rw [m_count, if_neg h46] <;> rfl)⟩ d_D_count_50

set_option maxHeartbeats 4000000 in
set_option maxRecDepth 100000 in
theorem r_ways (l : Launch) (dC : Nat → ClassId) (dI : Nat → Nat → Nat) (g k : Nat → Nat) (tl : List (ClassId × FieldType)) (u : jU) (hD : wfD u) (hE : mEnds u) (r a b : Int32) : jMet l y_D_ways (.code y_D_ways c_D_ways 9 (some .int)) ({ frames := 5, cells := 0, slots := 0, locals := 121 }) (dC, dI) jcl (mtys k tl) jTs [.ref (g 0), .int r, .int a, .int b] (mw g k u) 0 0 (jRet (some (.int ((m_ways u r a b).1))) (mw g k ((m_ways u r a b).2))) := by
  refine jMet.of (by decide) (Nat.le_of_ble_eq_true rfl) ?_
  intro p e s m below meth c A hC hex hr hnm htr
  show jJ p l e ({ frames := 5, cells := 0, slots := 0, locals := 121 }) s m [.ref (g 0), .int r, .int a, .int b].toArray below meth c 9 (dC, dI) jcl A (hxQ below (jQ (dC, dI) jcl (jRet (some (.int ((m_ways u r a b).1))) (mw g k ((m_ways u r a b).2))) A) [.ref (g 0), .int r, .int a, .int b].toArray s 0 0 A) 0 0 (mw g k u) [(0, .ref (g 0)), (1, .int r), (2, .int a), (3, .int b)] [] 0
  have hDF := mFind_wf hD
  have hDG : wfD (up (mFind u) 0 4 0) := wfD_up0 hDF (by decide) 0
  have hK := hDF.2.1
  have hK2 := hK.2
  have inst : ∀ (i : Nat), i < 16 → ∀ (X : Int32 × jU), jJ p l e ({ frames := 5, cells := 0, slots := 0, locals := 121 }) s m [.ref (g 0), .int r, .int a, .int b].toArray below meth c 9 (dC, dI) jcl A (hxQ below (jQ (dC, dI) jcl (jRet (some (.int ((m_ways u r a b).1))) (mw g k ((m_ways u r a b).2))) A) [.ref (g 0), .int r, .int a, .int b].toArray s 0 0 A) 0 0 (mw g k X.2) [(0, .ref (g 0)), (1, .int r), (2, .int a), (3, .int b), (4, .int (m_isFact (mFind u) r a b)), (5, .int (nI (mFx (mFind u) r a b))), (6, .int X.1), (7, .int (nI i))] [] 147 → ∀ (f n : Nat) (z : Int32) (v : jU), mE (up (mFind u) 0 4 0) v → 20736 < n + f → 1 ≤ f → n ≤ 41472 → mWn r (mFx (mFind u) r a b) i f n z v = X → jJ p l e ({ frames := 5, cells := 0, slots := 0, locals := 121 }) s m [.ref (g 0), .int r, .int a, .int b].toArray below meth c 9 (dC, dI) jcl A (hxQ below (jQ (dC, dI) jcl (jRet (some (.int ((m_ways u r a b).1))) (mw g k ((m_ways u r a b).2))) A) [.ref (g 0), .int r, .int a, .int b].toArray s 0 0 A) 0 0 (mw g k v) [(0, .ref (g 0)), (1, .int r), (2, .int a), (3, .int b), (4, .int (m_isFact (mFind u) r a b)), (5, .int (nI (mFx (mFind u) r a b))), (6, .int z), (7, .int (nI i)), (8, .int (nI n))] [] 77 := by
    intro i hi X hk f
    induction f with
    | zero => intro n z v _ h1 h2; exact absurd h2 (by omega)
    | succ f ih =>
      intro n z v hv hn hf1 hn2 hinv
      have hDv := hv.wf hDG
      refine j_aload_n hC d_D_ways_77 rfl 0 rfl ?_
      refine j_get hC hin_D (0) (mw_obj g k v) rfl 7 (by decide) (hC.2.2.2.2.1 _ wf_D_23) (fun _ h9 => h9) rfl d_D_ways_78 ?_
      refine j_iconst (v := 5) hC d_D_ways_81 (by decide) ?_
      refine j_iload hC d_D_ways_82 7 rfl ?_
      refine j_imul hC d_D_ways_84 ?_
      refine j_top (v := nI (5 * i)) (pk_mul 5 i).symm ?_
      refine j_ialdN hC (5) 0 (mw_of g k v) rfl (n := 5 * i) (rfl) (by omega) (by decide) d_D_ways_85 ?_
      refine j_iload_n hC d_D_ways_86 rfl 1 rfl ?_
      refine j_icmp_ne (tgt := 147) hC d_D_ways_87 (by decide) (fun h87 => ?_) (fun h87 => ?_)
      · rw [mWn, if_neg h87] at hinv
        subst hinv
        exact j_locals [0, 1, 2, 3, 4, 5, 6, 7] rfl hk
      · refine j_aload_n hC d_D_ways_90 rfl 0 rfl ?_
        refine j_iload hC d_D_ways_91 7 rfl ?_
        refine j_iload hC d_D_ways_93 8 rfl ?_
        refine j_callVr (As := [.int (nI i), .int (nI n)]) (rest := []) (st1 := [.int ((mInst v i n).1)]) hC (r_inst l dC dI g k tl v (i := i) hi (hDv.2.2.1 i hi) (n := n) (by omega)) rfl rfl ww_D_106 yn_D_instance (mw_obj g k v) rfl rfl d_D_ways_95 (Nat.le_of_ble_eq_true rfl) (by decide) ⟨Nat.zero_le _, Nat.zero_le _⟩ rfl ?_
        refine j_if_eq (tgt := 147) hC d_D_ways_98 (by decide) (fun h98 => ?_) (fun h98 => ?_)
        · rw [mWn, if_pos h87, if_pos h98] at hinv
          subst hinv
          exact j_locals [0, 1, 2, 3, 4, 5, 6, 7] rfl hk
        · have hn9 : n < 20736 := mInst_end (by omega) h98
          have hEw := hv.inst i n
          have hDw := hEw.wf hDG
          have hBw := hDw.2.2.2.1 (5 * i) (by omega)
          have hbb := mBeh_b ((mInst v i n).2) i n
          refine j_aload_n hC d_D_ways_101 rfl 0 rfl ?_
          refine j_iconst (v := 5) hC d_D_ways_102 (by decide) ?_
          refine j_iload hC d_D_ways_103 7 rfl ?_
          refine j_imul hC d_D_ways_105 ?_
          refine j_top (v := nI (5 * i)) (pk_mul 5 i).symm ?_
          refine j_callVr (As := [.int (nI (5 * i))]) (rest := []) (st1 := [.int (nI (mFact ((mInst v i n).2) (5 * i)))]) hC (r_factOf l dC dI g k tl ((mInst v i n).2) (j := 5 * i) (by omega) hBw hDw.2.2.2.2.1) rfl rfl ww_D_100 yn_D_factOf (mw_obj g k ((mInst v i n).2)) rfl rfl d_D_ways_106 (Nat.le_of_ble_eq_true rfl) (by decide) ⟨Nat.zero_le _, Nat.zero_le _⟩ rfl ?_
          refine j_iload hC d_D_ways_109 5 rfl ?_
          suffices hk111 : jJ p l e ({ frames := 5, cells := 0, slots := 0, locals := 121 }) s m [.ref (g 0), .int r, .int a, .int b].toArray below meth c 9 (dC, dI) jcl A (hxQ below (jQ (dC, dI) jcl (jRet (some (.int ((m_ways u r a b).1))) (mw g k ((m_ways u r a b).2))) A) [.ref (g 0), .int r, .int a, .int b].toArray s 0 0 A) 0 0 (mw g k ((mInst v i n).2)) [(0, .ref (g 0)), (1, .int r), (2, .int a), (3, .int b), (4, .int (m_isFact (mFind u) r a b)), (5, .int (nI (mFx (mFind u) r a b))), (6, .int z), (7, .int (nI i)), (8, .int (nI n))] [.int (if (nI (mFact ((mInst v i n).2) (5 * i))) = (nI (mFx (mFind u) r a b)) then (if (mMet ((mInst v i n).2) i) = 0 then z else (z + 1)) else z)] 132 by
            refine j_icmp_ne (tgt := 130) hC d_D_ways_111 (by decide) (fun h111 => ?_) (fun h111 => ?_)
            · refine j_iload hC d_D_ways_130 6 rfl ?_
              exact j_top ((if_neg h111)) hk111
            · refine j_aload_n hC d_D_ways_114 rfl 0 rfl ?_
              refine j_iload hC d_D_ways_115 7 rfl ?_
              refine j_callVr (As := [.int (nI i)]) (rest := []) (st1 := [.int (mMet ((mInst v i n).2) i)]) hC (r_met l dC dI g k tl ((mInst v i n).2) (i := i) hi hDw) rfl rfl ww_D_110 yn_D_isMet (mw_obj g k ((mInst v i n).2)) rfl rfl d_D_ways_117 (Nat.le_of_ble_eq_true rfl) (by decide) ⟨Nat.zero_le _, Nat.zero_le _⟩ rfl ?_
              suffices hk120 : jJ p l e ({ frames := 5, cells := 0, slots := 0, locals := 121 }) s m [.ref (g 0), .int r, .int a, .int b].toArray below meth c 9 (dC, dI) jcl A (hxQ below (jQ (dC, dI) jcl (jRet (some (.int ((m_ways u r a b).1))) (mw g k ((m_ways u r a b).2))) A) [.ref (g 0), .int r, .int a, .int b].toArray s 0 0 A) 0 0 (mw g k ((mInst v i n).2)) [(0, .ref (g 0)), (1, .int r), (2, .int a), (3, .int b), (4, .int (m_isFact (mFind u) r a b)), (5, .int (nI (mFx (mFind u) r a b))), (6, .int z), (7, .int (nI i)), (8, .int (nI n))] [.int (if (mMet ((mInst v i n).2) i) = 0 then z else (z + 1))] 132 by
                refine j_if_eq (tgt := 130) hC d_D_ways_120 (by decide) (fun h120 => ?_) (fun h120 => ?_)
                · refine j_iload hC d_D_ways_130 6 rfl ?_
                  exact j_top ((if_pos h120)) hk120
                · refine j_iload hC d_D_ways_123 6 rfl ?_
                  refine j_iconst (v := 1) hC d_D_ways_125 (by decide) ?_
                  refine j_iadd hC d_D_ways_126 ?_
                  refine j_goto (tgt := 132) hC d_D_ways_127 (by decide) ?_
                  exact j_top ((if_neg h120)) hk120
              exact j_top ((if_pos h111)) hk111
          refine j_istore (lv' := [(0, .ref (g 0)), (1, .int r), (2, .int a), (3, .int b), (4, .int (m_isFact (mFind u) r a b)), (5, .int (nI (mFx (mFind u) r a b))), (6, .int (if (nI (mFact ((mInst v i n).2) (5 * i))) = (nI (mFx (mFind u) r a b)) then (if (mMet ((mInst v i n).2) i) = 0 then z else (z + 1)) else z)), (7, .int (nI i)), (8, .int (nI n))]) hC d_D_ways_132 (by decide) rfl rfl ?_
          refine j_aload_n hC d_D_ways_134 rfl 0 rfl ?_
          refine j_iload hC d_D_ways_135 7 rfl ?_
          refine j_iload hC d_D_ways_137 8 rfl ?_
          refine j_callVr (As := [.int (nI i), .int (nI n)]) (rest := []) (st1 := [.int (nI (mBeh ((mInst v i n).2) i n))]) hC (r_behind l dC dI g k tl ((mInst v i n).2) (i := i) hi hDw (n := n) (by omega)) rfl rfl ww_D_113 yn_D_behind (mw_obj g k ((mInst v i n).2)) rfl rfl d_D_ways_139 (Nat.le_of_ble_eq_true rfl) (by decide) ⟨Nat.zero_le _, Nat.zero_le _⟩ rfl ?_
          refine j_istore (lv' := [(0, .ref (g 0)), (1, .int r), (2, .int a), (3, .int b), (4, .int (m_isFact (mFind u) r a b)), (5, .int (nI (mFx (mFind u) r a b))), (6, .int (if (nI (mFact ((mInst v i n).2) (5 * i))) = (nI (mFx (mFind u) r a b)) then (if (mMet ((mInst v i n).2) i) = 0 then z else (z + 1)) else z)), (7, .int (nI i)), (8, .int (nI (mBeh ((mInst v i n).2) i n)))]) hC d_D_ways_142 (by decide) rfl rfl ?_
          refine j_goto (tgt := 77) hC d_D_ways_144 (by decide) ?_
          exact ih (mBeh ((mInst v i n).2) i n) _ ((mInst v i n).2) hEw (by omega) (by omega) (by omega) (by rw [← hinv, mWn, if_pos h87, if_neg h98])
  have rules : jJ p l e ({ frames := 5, cells := 0, slots := 0, locals := 121 }) s m [.ref (g 0), .int r, .int a, .int b].toArray below meth c 9 (dC, dI) jcl A (hxQ below (jQ (dC, dI) jcl (jRet (some (.int ((m_ways u r a b).1))) (mw g k ((m_ways u r a b).2))) A) [.ref (g 0), .int r, .int a, .int b].toArray s 0 0 A) 0 0 (mw g k (itG (mWk r (mFx (mFind u) r a b)) (tn ((mFind u) 0 1)) (0, up (mFind u) 0 4 0)).2) [(0, .ref (g 0)), (1, .int r), (2, .int a), (3, .int b), (4, .int (m_isFact (mFind u) r a b)), (5, .int (nI (mFx (mFind u) r a b))), (6, .int ((itG (mWk r (mFx (mFind u) r a b)) (tn ((mFind u) 0 1)) (0, up (mFind u) 0 4 0)).1))] [] 153 → ∀ (n i : Nat), i ≤ tn ((mFind u) 0 1) → tn ((mFind u) 0 1) < i + n → jJ p l e ({ frames := 5, cells := 0, slots := 0, locals := 121 }) s m [.ref (g 0), .int r, .int a, .int b].toArray below meth c 9 (dC, dI) jcl A (hxQ below (jQ (dC, dI) jcl (jRet (some (.int ((m_ways u r a b).1))) (mw g k ((m_ways u r a b).2))) A) [.ref (g 0), .int r, .int a, .int b].toArray s 0 0 A) 0 0 (mw g k (itG (mWk r (mFx (mFind u) r a b)) i (0, up (mFind u) 0 4 0)).2) [(0, .ref (g 0)), (1, .int r), (2, .int a), (3, .int b), (4, .int (m_isFact (mFind u) r a b)), (5, .int (nI (mFx (mFind u) r a b))), (6, .int ((itG (mWk r (mFx (mFind u) r a b)) i (0, up (mFind u) 0 4 0)).1)), (7, .int (nI i))] [] 65 := by
    intro hk n
    induction n with
    | zero => intro i h1 h2; exact absurd h2 (by omega)
    | succ n ih =>
      intro i hi9 hn
      have hEz : mE (up (mFind u) 0 4 0) (itG (mWk r (mFx (mFind u) r a b)) i (0, up (mFind u) 0 4 0)).2 := itG_inv (P := fun x : Int32 × jU => mE (up (mFind u) 0 4 0) x.2) (mE.rf hDG.2.2.2.2.1) i (fun q x _ hx => mE.wn r (mFx (mFind u) r a b) q _ _ _ _ hx)
      have hz0 : (itG (mWk r (mFx (mFind u) r a b)) i (0, up (mFind u) 0 4 0)).2 0 1 = (mFind u) 0 1 := by rw [hEz.1 0 (by decide)]; rfl
      refine j_iload hC d_D_ways_65 7 rfl ?_
      refine j_aload_n hC d_D_ways_67 rfl 0 rfl ?_
      refine j_get hC hin_D (0) (mw_obj g k ((itG (mWk r (mFx (mFind u) r a b)) i (0, up (mFind u) 0 4 0)).2)) rfl 5 (by decide) (hC.2.2.2.2.1 _ wf_D_51) (fun _ h9 => h9) rfl d_D_ways_68 ?_
      refine j_icmp_ge (tgt := 153) hC d_D_ways_71 (by decide) (fun h71 => ?_) (fun h71 => ?_)
      · have hge : tn ((mFind u) 0 1) ≤ i := (inN_leN hK (by decide) (by omega)).mp (by rw [← hz0]; exact h71)
        have hie : i = tn ((mFind u) 0 1) := by omega
        subst hie
        exact j_locals [0, 1, 2, 3, 4, 5, 6] rfl hk
      · have hlt : i < tn ((mFind u) 0 1) := Nat.not_le.mp (fun z => h71 (by rw [hz0]; exact (inN_leN hK (by decide) (by omega)).mpr z))
        have hi : i < 16 := by omega
        refine j_iconst (v := 0) hC d_D_ways_74 (by decide) ?_
        refine j_istore (lv' := [(0, .ref (g 0)), (1, .int r), (2, .int a), (3, .int b), (4, .int (m_isFact (mFind u) r a b)), (5, .int (nI (mFx (mFind u) r a b))), (6, .int ((itG (mWk r (mFx (mFind u) r a b)) i (0, up (mFind u) 0 4 0)).1)), (7, .int (nI i)), (8, .int 0)]) hC d_D_ways_75 (by decide) rfl rfl ?_
        have e9 : itG (mWk r (mFx (mFind u) r a b)) (i + 1) (0, up (mFind u) 0 4 0) = mWn r (mFx (mFind u) r a b) i mFuel 0 (itG (mWk r (mFx (mFind u) r a b)) i (0, up (mFind u) 0 4 0)).1 (itG (mWk r (mFx (mFind u) r a b)) i (0, up (mFind u) 0 4 0)).2 := by rw [itG_s, mWk]
        refine inst i hi (itG (mWk r (mFx (mFind u) r a b)) (i + 1) (0, up (mFind u) 0 4 0)) ?_ mFuel 0 (itG (mWk r (mFx (mFind u) r a b)) i (0, up (mFind u) 0 4 0)).1 (itG (mWk r (mFx (mFind u) r a b)) i (0, up (mFind u) 0 4 0)).2 hEz (by decide) (by decide) (by decide) e9.symm
        refine j_iinc (lv' := [(0, .ref (g 0)), (1, .int r), (2, .int a), (3, .int b), (4, .int (m_isFact (mFind u) r a b)), (5, .int (nI (mFx (mFind u) r a b))), (6, .int ((itG (mWk r (mFx (mFind u) r a b)) (i + 1) (0, up (mFind u) 0 4 0)).1)), (7, .int (nI (i + 1)))]) hC d_D_ways_147 7 rfl (nI_1 _) (by decide) rfl rfl ?_
        refine j_goto (tgt := 65) hC d_D_ways_150 (by decide) ?_
        exact ih (i + 1) (by omega) (by omega)
  refine j_aload_n hC d_D_ways_0 rfl 0 rfl ?_
  refine j_callVr (As := []) (rest := []) (st1 := []) hC (r_find l dC dI g k tl u hD hE) rfl rfl ww_D_127 yn_D_find (mw_obj g k u) rfl rfl d_D_ways_1 (Nat.le_of_ble_eq_true rfl) (by decide) ⟨Nat.zero_le _, Nat.zero_le _⟩ rfl ?_
  refine j_aload_n hC d_D_ways_4 rfl 0 rfl ?_
  refine j_iload_n hC d_D_ways_5 rfl 1 rfl ?_
  refine j_iload_n hC d_D_ways_6 rfl 2 rfl ?_
  refine j_iload_n hC d_D_ways_7 rfl 3 rfl ?_
  refine j_callVr (As := [.int r, .int a, .int b]) (rest := []) (st1 := [.int (m_isFact (mFind u) r a b)]) hC (r_isFact l dC dI g k tl (mFind u) hDF r a b) rfl rfl ww_D_66 yn_D_isFact (mw_obj g k (mFind u)) rfl rfl d_D_ways_8 (Nat.le_of_ble_eq_true rfl) (by decide) ⟨Nat.zero_le _, Nat.zero_le _⟩ rfl ?_
  refine j_istore (lv' := [(0, .ref (g 0)), (1, .int r), (2, .int a), (3, .int b), (4, .int (m_isFact (mFind u) r a b))]) hC d_D_ways_11 (by decide) rfl rfl ?_
  refine j_aload_n hC d_D_ways_13 rfl 0 rfl ?_
  refine j_iload hC d_D_ways_14 4 rfl ?_
  suffices hk16 : jJ p l e ({ frames := 5, cells := 0, slots := 0, locals := 121 }) s m [.ref (g 0), .int r, .int a, .int b].toArray below meth c 9 (dC, dI) jcl A (hxQ below (jQ (dC, dI) jcl (jRet (some (.int ((m_ways u r a b).1))) (mw g k ((m_ways u r a b).2))) A) [.ref (g 0), .int r, .int a, .int b].toArray s 0 0 A) 0 0 (mw g k (mFind u)) [(0, .ref (g 0)), (1, .int r), (2, .int a), (3, .int b), (4, .int (m_isFact (mFind u) r a b))] [.int (if (m_isFact (mFind u) r a b) = 0 then (1 : Int32) else (0 : Int32)), .ref (g 0)] 24 by
    refine j_if_ne (tgt := 23) hC d_D_ways_16 (by decide) (fun h16 => ?_) (fun h16 => ?_)
    · refine j_iconst (v := 0) hC d_D_ways_23 (by decide) ?_
      exact j_top ((if_neg h16)) hk16
    · refine j_iconst (v := 1) hC d_D_ways_19 (by decide) ?_
      refine j_goto (tgt := 24) hC d_D_ways_20 (by decide) ?_
      exact j_top ((if_pos h16)) hk16
  refine j_iload hC d_D_ways_24 4 rfl ?_
  suffices hk26 : jJ p l e ({ frames := 5, cells := 0, slots := 0, locals := 121 }) s m [.ref (g 0), .int r, .int a, .int b].toArray below meth c 9 (dC, dI) jcl A (hxQ below (jQ (dC, dI) jcl (jRet (some (.int ((m_ways u r a b).1))) (mw g k ((m_ways u r a b).2))) A) [.ref (g 0), .int r, .int a, .int b].toArray s 0 0 A) 0 0 (mw g k (mFind u)) [(0, .ref (g 0)), (1, .int r), (2, .int a), (3, .int b), (4, .int (m_isFact (mFind u) r a b))] [.int (if (m_isFact (mFind u) r a b) = 0 then (0 : Int32) else (if ((mFind u) 0 2) < 0 then (0 : Int32) else (1 : Int32))), .int (if (m_isFact (mFind u) r a b) = 0 then (1 : Int32) else (0 : Int32)), .ref (g 0)] 41 by
    refine j_if_eq (tgt := 40) hC d_D_ways_26 (by decide) (fun h26 => ?_) (fun h26 => ?_)
    · refine j_iconst (v := 0) hC d_D_ways_40 (by decide) ?_
      exact j_top ((if_pos h26)) hk26
    · refine j_aload_n hC d_D_ways_29 rfl 0 rfl ?_
      refine j_get hC hin_D (0) (mw_obj g k (mFind u)) rfl 13 (by decide) (hC.2.2.2.2.1 _ wf_D_121) (fun _ h9 => h9) rfl d_D_ways_30 ?_
      suffices hk33 : jJ p l e ({ frames := 5, cells := 0, slots := 0, locals := 121 }) s m [.ref (g 0), .int r, .int a, .int b].toArray below meth c 9 (dC, dI) jcl A (hxQ below (jQ (dC, dI) jcl (jRet (some (.int ((m_ways u r a b).1))) (mw g k ((m_ways u r a b).2))) A) [.ref (g 0), .int r, .int a, .int b].toArray s 0 0 A) 0 0 (mw g k (mFind u)) [(0, .ref (g 0)), (1, .int r), (2, .int a), (3, .int b), (4, .int (m_isFact (mFind u) r a b))] [.int (if ((mFind u) 0 2) < 0 then (0 : Int32) else (1 : Int32)), .int (if (m_isFact (mFind u) r a b) = 0 then (1 : Int32) else (0 : Int32)), .ref (g 0)] 41 by
        refine j_if_lt (tgt := 40) hC d_D_ways_33 (by decide) (fun h33 => ?_) (fun h33 => ?_)
        · refine j_iconst (v := 0) hC d_D_ways_40 (by decide) ?_
          exact j_top ((if_pos h33)) hk33
        · refine j_iconst (v := 1) hC d_D_ways_36 (by decide) ?_
          refine j_goto (tgt := 41) hC d_D_ways_37 (by decide) ?_
          exact j_top ((if_neg h33)) hk33
      exact j_top ((if_neg h26)) hk26
  refine j_iconst (v := 0) hC d_D_ways_41 (by decide) ?_
  refine j_callVr (As := [.int (if (m_isFact (mFind u) r a b) = 0 then (1 : Int32) else (0 : Int32)), .int (if (m_isFact (mFind u) r a b) = 0 then (0 : Int32) else (if ((mFind u) 0 2) < 0 then (0 : Int32) else (1 : Int32))), .int 0]) (rest := []) (st1 := [.int ((m_refuse (mFind u) (if (m_isFact (mFind u) r a b) = 0 then (1 : Int32) else (0 : Int32)) (if (m_isFact (mFind u) r a b) = 0 then (0 : Int32) else (if ((mFind u) 0 2) < 0 then (0 : Int32) else (1 : Int32))) 0).1)]) hC (r_refuse l dC dI g k tl (mFind u) (if (m_isFact (mFind u) r a b) = 0 then (1 : Int32) else (0 : Int32)) (if (m_isFact (mFind u) r a b) = 0 then (0 : Int32) else (if ((mFind u) 0 2) < 0 then (0 : Int32) else (1 : Int32))) 0) rfl rfl ww_D_62 yn_D_refuse (mw_obj g k (mFind u)) rfl rfl d_D_ways_42 (Nat.le_of_ble_eq_true rfl) (by decide) ⟨Nat.zero_le _, Nat.zero_le _⟩ rfl ?_
  refine j_if_eq (tgt := 50) hC d_D_ways_45 (by decide) (fun h45 => ?_) (fun h45 => ?_)
  · have hq := ref_is h45
    have hr8 := isFact_rel hDF hq
    have hF := fact_ix hDF hq
    rw [ref_st h45]
    refine j_aload_n hC d_D_ways_50 rfl 0 rfl ?_
    refine j_iload_n hC d_D_ways_51 rfl 1 rfl ?_
    refine j_iload_n hC d_D_ways_52 rfl 2 rfl ?_
    refine j_iload_n hC d_D_ways_53 rfl 3 rfl ?_
    refine j_callVr (As := [.int r, .int a, .int b]) (rest := []) (st1 := [.int (m_factAt (up (mFind u) 0 4 0) r a b)]) hC (r_factAt l dC dI g k tl (up (mFind u) 0 4 0) r a b hr8) rfl rfl ww_D_69 yn_D_factAt (mw_obj g k (up (mFind u) 0 4 0)) rfl rfl d_D_ways_54 (Nat.le_of_ble_eq_true rfl) (by decide) ⟨Nat.zero_le _, Nat.zero_le _⟩ rfl ?_
    rw [show m_factAt (up (mFind u) 0 4 0) r a b = nI (mFx (mFind u) r a b) from hF.1]
    refine j_istore (lv' := [(0, .ref (g 0)), (1, .int r), (2, .int a), (3, .int b), (4, .int (m_isFact (mFind u) r a b)), (5, .int (nI (mFx (mFind u) r a b)))]) hC d_D_ways_57 (by decide) rfl rfl ?_
    refine j_iconst (v := 0) hC d_D_ways_59 (by decide) ?_
    refine j_istore (lv' := [(0, .ref (g 0)), (1, .int r), (2, .int a), (3, .int b), (4, .int (m_isFact (mFind u) r a b)), (5, .int (nI (mFx (mFind u) r a b))), (6, .int 0)]) hC d_D_ways_60 (by decide) rfl rfl ?_
    refine j_iconst (v := 0) hC d_D_ways_62 (by decide) ?_
    refine j_istore (lv' := [(0, .ref (g 0)), (1, .int r), (2, .int a), (3, .int b), (4, .int (m_isFact (mFind u) r a b)), (5, .int (nI (mFx (mFind u) r a b))), (6, .int 0), (7, .int 0)]) hC d_D_ways_63 (by decide) rfl rfl ?_
    refine rules ?_ 18 0 (by omega) (by omega)
    refine j_iload hC d_D_ways_153 6 rfl ?_
    exact j_iret hC hr ⟨rfl, by rw [m_ways, if_pos h45] <;> rfl, congrArg (mw g k) (by rw [m_ways, if_pos h45] <;> rfl)⟩ d_D_ways_155
  · refine j_iconst (v := 0) hC d_D_ways_48 (by decide) ?_
    exact j_iret hC hr ⟨rfl, by rw [m_ways, if_neg h45] <;> rfl, congrArg (mw g k) (by rw [m_ways, if_neg h45] <;> rfl)⟩ d_D_ways_49

set_option maxHeartbeats 4000000 in
set_option maxRecDepth 100000 in
theorem r_proof (l : Launch) (dC : Nat → ClassId) (dI : Nat → Nat → Nat) (g k : Nat → Nat) (tl : List (ClassId × FieldType)) (u : jU) (hD : wfD u) (hE : mEnds u) (r a b t : Int32) : jMet l y_D_proof (.code y_D_proof c_D_proof 10 (some .int)) ({ frames := 5, cells := 0, slots := 0, locals := 121 }) (dC, dI) jcl (mtys k tl) jTs [.ref (g 0), .int r, .int a, .int b, .int t] (mw g k u) 0 0 (jRet (some (.int ((m_proof u r a b t).1))) (mw g k ((m_proof u r a b t).2))) := by
  refine jMet.of (by decide) (Nat.le_of_ble_eq_true rfl) ?_
  intro p e s m below meth c A hC hex hr hnm htr
  show jJ p l e ({ frames := 5, cells := 0, slots := 0, locals := 121 }) s m [.ref (g 0), .int r, .int a, .int b, .int t].toArray below meth c 10 (dC, dI) jcl A (hxQ below (jQ (dC, dI) jcl (jRet (some (.int ((m_proof u r a b t).1))) (mw g k ((m_proof u r a b t).2))) A) [.ref (g 0), .int r, .int a, .int b, .int t].toArray s 0 0 A) 0 0 (mw g k u) [(0, .ref (g 0)), (1, .int r), (2, .int a), (3, .int b), (4, .int t)] [] 0
  have hDF := mFind_wf hD
  have hDG : wfD (up (mFind u) 0 4 0) := wfD_up0 hDF (by decide) 0
  have hK := hDF.2.1
  have hK2 := hK.2
  have inst : (m_refuse (mFind u) (if mIs (mFind u) r a b t = 0 then (1 : Int32) else 0) (if mIs (mFind u) r a b t = 0 then (0 : Int32) else (if (mFind u) 0 2 < 0 then 0 else 1)) (if mFine (mFind u) r a b t = 0 then (0 : Int32) else (if 0 < (mFind u) 4 (mFx (mFind u) r a b) then 0 else 1))).1 = 0 → ¬ mFine (mFind u) r a b t = 0 → (m_factAt (mFind u) r a b = nI (mFx (mFind u) r a b) ∧ mFx (mFind u) r a b < 1152) → ∀ (i : Nat), i < 16 → (∀ (w9 : jU), mE (up (mFind u) 0 4 0) w9 → mPk r (mFx (mFind u) r a b) t (tn ((mFind u) 0 1) - (i + 1)) (i + 1) w9 = mPk r (mFx (mFind u) r a b) t (tn ((mFind u) 0 1)) 0 (up (mFind u) 0 4 0) → jJ p l e ({ frames := 5, cells := 0, slots := 0, locals := 121 }) s m [.ref (g 0), .int r, .int a, .int b, .int t].toArray below meth c 10 (dC, dI) jcl A (hxQ below (jQ (dC, dI) jcl (jRet (some (.int ((m_proof u r a b t).1))) (mw g k ((m_proof u r a b t).2))) A) [.ref (g 0), .int r, .int a, .int b, .int t].toArray s 0 0 A) 0 0 (mw g k w9) [(0, .ref (g 0)), (1, .int r), (2, .int a), (3, .int b), (4, .int t), (5, .int (mIs (mFind u) r a b t)), (6, .int (mFine (mFind u) r a b t)), (7, .int (nI (mFx (mFind u) r a b))), (8, .int (nI (i + 1)))] [] 127) → ∀ (f n : Nat) (v : jU), mE (up (mFind u) 0 4 0) v → 20736 < n + f → 1 ≤ f → n ≤ 41472 → mPx (fun y => mPk r (mFx (mFind u) r a b) t (tn ((mFind u) 0 1) - (i + 1)) (i + 1) y.2) (mPn r (mFx (mFind u) r a b) i t f n v) = mPk r (mFx (mFind u) r a b) t (tn ((mFind u) 0 1)) 0 (up (mFind u) 0 4 0) → jJ p l e ({ frames := 5, cells := 0, slots := 0, locals := 121 }) s m [.ref (g 0), .int r, .int a, .int b, .int t].toArray below meth c 10 (dC, dI) jcl A (hxQ below (jQ (dC, dI) jcl (jRet (some (.int ((m_proof u r a b t).1))) (mw g k ((m_proof u r a b t).2))) A) [.ref (g 0), .int r, .int a, .int b, .int t].toArray s 0 0 A) 0 0 (mw g k v) [(0, .ref (g 0)), (1, .int r), (2, .int a), (3, .int b), (4, .int t), (5, .int (mIs (mFind u) r a b t)), (6, .int (mFine (mFind u) r a b t)), (7, .int (nI (mFx (mFind u) r a b))), (8, .int (nI i)), (9, .int (nI n))] [] 139 := by
    intro h119 hfn hF i hi hk0 f
    have ht5 := in_4 (mIs_1 (mFine_1 hfn).1).2
    have hk : ∀ (w9 : jU), mE (up (mFind u) 0 4 0) w9 → mPk r (mFx (mFind u) r a b) t (tn ((mFind u) 0 1) - (i + 1)) (i + 1) w9 = mPk r (mFx (mFind u) r a b) t (tn ((mFind u) 0 1)) 0 (up (mFind u) 0 4 0) → jJ p l e ({ frames := 5, cells := 0, slots := 0, locals := 121 }) s m [.ref (g 0), .int r, .int a, .int b, .int t].toArray below meth c 10 (dC, dI) jcl A (hxQ below (jQ (dC, dI) jcl (jRet (some (.int ((m_proof u r a b t).1))) (mw g k ((m_proof u r a b t).2))) A) [.ref (g 0), .int r, .int a, .int b, .int t].toArray s 0 0 A) 0 0 (mw g k w9) [(0, .ref (g 0)), (1, .int r), (2, .int a), (3, .int b), (4, .int t), (5, .int (mIs (mFind u) r a b t)), (6, .int (mFine (mFind u) r a b t)), (7, .int (nI (mFx (mFind u) r a b))), (8, .int (nI i))] [] 255 := by
      intro w9 hw9 h9
      have hk := hk0
      refine j_iinc (lv' := [(0, .ref (g 0)), (1, .int r), (2, .int a), (3, .int b), (4, .int t), (5, .int (mIs (mFind u) r a b t)), (6, .int (mFine (mFind u) r a b t)), (7, .int (nI (mFx (mFind u) r a b))), (8, .int (nI (i + 1)))]) hC d_D_proof_255 8 rfl (nI_1 _) (by decide) rfl rfl ?_
      refine j_goto (tgt := 127) hC d_D_proof_258 (by decide) ?_
      exact hk w9 hw9 h9
    induction f with
    | zero => intro n v _ h1 h2; exact absurd h2 (by omega)
    | succ f ih =>
      intro n v hv hn hf1 hn2 hinv
      have hDv := hv.wf hDG
      refine j_aload_n hC d_D_proof_139 rfl 0 rfl ?_
      refine j_get hC hin_D (0) (mw_obj g k v) rfl 7 (by decide) (hC.2.2.2.2.1 _ wf_D_23) (fun _ h9 => h9) rfl d_D_proof_140 ?_
      refine j_iconst (v := 5) hC d_D_proof_143 (by decide) ?_
      refine j_iload hC d_D_proof_144 8 rfl ?_
      refine j_imul hC d_D_proof_146 ?_
      refine j_top (v := nI (5 * i)) (pk_mul 5 i).symm ?_
      refine j_ialdN hC (5) 0 (mw_of g k v) rfl (n := 5 * i) (rfl) (by omega) (by decide) d_D_proof_147 ?_
      refine j_iload_n hC d_D_proof_148 rfl 1 rfl ?_
      refine j_icmp_ne (tgt := 255) hC d_D_proof_149 (by decide) (fun h149 => ?_) (fun h149 => ?_)
      · rw [mPn, if_neg h149] at hinv
        exact j_locals [0, 1, 2, 3, 4, 5, 6, 7, 8] rfl (hk v hv hinv)
      · refine j_aload_n hC d_D_proof_152 rfl 0 rfl ?_
        refine j_iload hC d_D_proof_153 8 rfl ?_
        refine j_iload hC d_D_proof_155 9 rfl ?_
        refine j_callVr (As := [.int (nI i), .int (nI n)]) (rest := []) (st1 := [.int ((mInst v i n).1)]) hC (r_inst l dC dI g k tl v (i := i) hi (hDv.2.2.1 i hi) (n := n) (by omega)) rfl rfl ww_D_106 yn_D_instance (mw_obj g k v) rfl rfl d_D_proof_157 (Nat.le_of_ble_eq_true rfl) (by decide) ⟨Nat.zero_le _, Nat.zero_le _⟩ rfl ?_
        refine j_if_eq (tgt := 255) hC d_D_proof_160 (by decide) (fun h160 => ?_) (fun h160 => ?_)
        · rw [mPn, if_pos h149, if_pos h160] at hinv
          exact j_locals [0, 1, 2, 3, 4, 5, 6, 7, 8] rfl (hk _ (hv.inst i n) hinv)
        · have hn9 : n < 20736 := mInst_end (by omega) h160
          have hEw := hv.inst i n
          have hDw := hEw.wf hDG
          have hBw := hDw.2.2.2.1 (5 * i) (by omega)
          have hbb := mBeh_b ((mInst v i n).2) i n
          refine j_aload_n hC d_D_proof_163 rfl 0 rfl ?_
          refine j_iconst (v := 5) hC d_D_proof_164 (by decide) ?_
          refine j_iload hC d_D_proof_165 8 rfl ?_
          refine j_imul hC d_D_proof_167 ?_
          refine j_top (v := nI (5 * i)) (pk_mul 5 i).symm ?_
          refine j_callVr (As := [.int (nI (5 * i))]) (rest := []) (st1 := [.int (nI (mFact ((mInst v i n).2) (5 * i)))]) hC (r_factOf l dC dI g k tl ((mInst v i n).2) (j := 5 * i) (by omega) hBw hDw.2.2.2.2.1) rfl rfl ww_D_100 yn_D_factOf (mw_obj g k ((mInst v i n).2)) rfl rfl d_D_proof_168 (Nat.le_of_ble_eq_true rfl) (by decide) ⟨Nat.zero_le _, Nat.zero_le _⟩ rfl ?_
          refine j_iload hC d_D_proof_171 7 rfl ?_
          refine j_icmp_ne (tgt := 242) hC d_D_proof_173 (by decide) (fun h173 => ?_) (fun h173 => ?_)
          · refine j_aload_n hC d_D_proof_242 rfl 0 rfl ?_
            refine j_iload hC d_D_proof_243 8 rfl ?_
            refine j_iload hC d_D_proof_245 9 rfl ?_
            refine j_callVr (As := [.int (nI i), .int (nI n)]) (rest := []) (st1 := [.int (nI (mBeh ((mInst v i n).2) i n))]) hC (r_behind l dC dI g k tl ((mInst v i n).2) (i := i) hi hDw (n := n) (by omega)) rfl rfl ww_D_113 yn_D_behind (mw_obj g k ((mInst v i n).2)) rfl rfl d_D_proof_247 (Nat.le_of_ble_eq_true rfl) (by decide) ⟨Nat.zero_le _, Nat.zero_le _⟩ rfl ?_
            refine j_istore (lv' := [(0, .ref (g 0)), (1, .int r), (2, .int a), (3, .int b), (4, .int t), (5, .int (mIs (mFind u) r a b t)), (6, .int (mFine (mFind u) r a b t)), (7, .int (nI (mFx (mFind u) r a b))), (8, .int (nI i)), (9, .int (nI (mBeh ((mInst v i n).2) i n)))]) hC d_D_proof_250 (by decide) rfl rfl ?_
            refine j_goto (tgt := 139) hC d_D_proof_252 (by decide) ?_
            exact ih (mBeh ((mInst v i n).2) i n) ((mInst v i n).2) hEw (by omega) (by omega) (by omega) (by rw [← hinv, mPn, if_pos h149, if_neg h160, if_neg h173])
          · refine j_aload_n hC d_D_proof_176 rfl 0 rfl ?_
            refine j_iload hC d_D_proof_177 8 rfl ?_
            refine j_callVr (As := [.int (nI i)]) (rest := []) (st1 := [.int (mMet ((mInst v i n).2) i)]) hC (r_met l dC dI g k tl ((mInst v i n).2) (i := i) hi hDw) rfl rfl ww_D_110 yn_D_isMet (mw_obj g k ((mInst v i n).2)) rfl rfl d_D_proof_179 (Nat.le_of_ble_eq_true rfl) (by decide) ⟨Nat.zero_le _, Nat.zero_le _⟩ rfl ?_
            refine j_if_eq (tgt := 242) hC d_D_proof_182 (by decide) (fun h182 => ?_) (fun h182 => ?_)
            · refine j_aload_n hC d_D_proof_242 rfl 0 rfl ?_
              refine j_iload hC d_D_proof_243 8 rfl ?_
              refine j_iload hC d_D_proof_245 9 rfl ?_
              refine j_callVr (As := [.int (nI i), .int (nI n)]) (rest := []) (st1 := [.int (nI (mBeh ((mInst v i n).2) i n))]) hC (r_behind l dC dI g k tl ((mInst v i n).2) (i := i) hi hDw (n := n) (by omega)) rfl rfl ww_D_113 yn_D_behind (mw_obj g k ((mInst v i n).2)) rfl rfl d_D_proof_247 (Nat.le_of_ble_eq_true rfl) (by decide) ⟨Nat.zero_le _, Nat.zero_le _⟩ rfl ?_
              refine j_istore (lv' := [(0, .ref (g 0)), (1, .int r), (2, .int a), (3, .int b), (4, .int t), (5, .int (mIs (mFind u) r a b t)), (6, .int (mFine (mFind u) r a b t)), (7, .int (nI (mFx (mFind u) r a b))), (8, .int (nI i)), (9, .int (nI (mBeh ((mInst v i n).2) i n)))]) hC d_D_proof_250 (by decide) rfl rfl ?_
              refine j_goto (tgt := 139) hC d_D_proof_252 (by decide) ?_
              exact ih (mBeh ((mInst v i n).2) i n) ((mInst v i n).2) hEw (by omega) (by omega) (by omega) (by rw [← hinv, mPn, if_pos h149, if_neg h160, if_pos h173, if_pos h182])
            · refine j_aload_n hC d_D_proof_185 rfl 0 rfl ?_
              refine j_iload hC d_D_proof_186 8 rfl ?_
              refine j_aload_n hC d_D_proof_188 rfl 0 rfl ?_
              refine j_get hC hin_D (0) (mw_obj g k ((mInst v i n).2)) rfl 4 (by decide) (hC.2.2.2.2.1 _ wf_D_17) (fun _ h9 => h9) rfl d_D_proof_189 ?_
              refine j_iload hC d_D_proof_192 7 rfl ?_
              refine j_ialdN hC (3) 0 (mw_ranks g k ((mInst v i n).2)) rfl (n := mFx (mFind u) r a b) (rfl) (hF.2) (by decide) d_D_proof_194 ?_
              refine j_callVr (As := [.int (nI i), .int (((mInst v i n).2) 4 (mFx (mFind u) r a b))]) (rest := []) (st1 := [.int (mLower ((mInst v i n).2) i (((mInst v i n).2) 4 (mFx (mFind u) r a b)))]) hC (r_lower l dC dI g k tl ((mInst v i n).2) (i := i) hi hDw (((mInst v i n).2) 4 (mFx (mFind u) r a b))) rfl rfl ww_D_130 yn_D_isLower (mw_obj g k ((mInst v i n).2)) rfl rfl d_D_proof_195 (Nat.le_of_ble_eq_true rfl) (by decide) ⟨Nat.zero_le _, Nat.zero_le _⟩ rfl ?_
              refine j_if_eq (tgt := 242) hC d_D_proof_198 (by decide) (fun h198 => ?_) (fun h198 => ?_)
              · refine j_aload_n hC d_D_proof_242 rfl 0 rfl ?_
                refine j_iload hC d_D_proof_243 8 rfl ?_
                refine j_iload hC d_D_proof_245 9 rfl ?_
                refine j_callVr (As := [.int (nI i), .int (nI n)]) (rest := []) (st1 := [.int (nI (mBeh ((mInst v i n).2) i n))]) hC (r_behind l dC dI g k tl ((mInst v i n).2) (i := i) hi hDw (n := n) (by omega)) rfl rfl ww_D_113 yn_D_behind (mw_obj g k ((mInst v i n).2)) rfl rfl d_D_proof_247 (Nat.le_of_ble_eq_true rfl) (by decide) ⟨Nat.zero_le _, Nat.zero_le _⟩ rfl ?_
                refine j_istore (lv' := [(0, .ref (g 0)), (1, .int r), (2, .int a), (3, .int b), (4, .int t), (5, .int (mIs (mFind u) r a b t)), (6, .int (mFine (mFind u) r a b t)), (7, .int (nI (mFx (mFind u) r a b))), (8, .int (nI i)), (9, .int (nI (mBeh ((mInst v i n).2) i n)))]) hC d_D_proof_250 (by decide) rfl rfl ?_
                refine j_goto (tgt := 139) hC d_D_proof_252 (by decide) ?_
                exact ih (mBeh ((mInst v i n).2) i n) ((mInst v i n).2) hEw (by omega) (by omega) (by omega) (by rw [← hinv, mPn, if_pos h149, if_neg h160, if_pos h173, if_neg h182, if_pos h198])
              · refine j_iload hC d_D_proof_201 4 rfl ?_
                suffices hk203 : jJ p l e ({ frames := 5, cells := 0, slots := 0, locals := 121 }) s m [.ref (g 0), .int r, .int a, .int b, .int t].toArray below meth c 10 (dC, dI) jcl A (hxQ below (jQ (dC, dI) jcl (jRet (some (.int ((m_proof u r a b t).1))) (mw g k ((m_proof u r a b t).2))) A) [.ref (g 0), .int r, .int a, .int b, .int t].toArray s 0 0 A) 0 0 (mw g k ((mInst v i n).2)) [(0, .ref (g 0)), (1, .int r), (2, .int a), (3, .int b), (4, .int t), (5, .int (mIs (mFind u) r a b t)), (6, .int (mFine (mFind u) r a b t)), (7, .int (nI (mFx (mFind u) r a b))), (8, .int (nI i)), (9, .int (nI n))] [.int (if t = 0 then (nI i) else (if (((mVars ((mInst v i n).2) i) >>> ((t - 1) &&& 31)) &&& 1) = 1 then (((mInst v i n).2) 6 (tn t - 1)) else (-1 : Int32)))] 241 by
                  refine j_if_ne (tgt := 211) hC d_D_proof_203 (by decide) (fun h203 => ?_) (fun h203 => ?_)
                  · refine j_aload_n hC d_D_proof_211 rfl 0 rfl ?_
                    refine j_iload hC d_D_proof_212 8 rfl ?_
                    refine j_callVr (As := [.int (nI i)]) (rest := []) (st1 := [.int (mVars ((mInst v i n).2) i)]) hC (r_vars l dC dI g k tl ((mInst v i n).2) (i := i) hi (hDw.2.2.1 i hi)) rfl rfl ww_D_97 yn_D_variables (mw_obj g k ((mInst v i n).2)) rfl rfl d_D_proof_214 (Nat.le_of_ble_eq_true rfl) (by decide) ⟨Nat.zero_le _, Nat.zero_le _⟩ rfl ?_
                    refine j_iload hC d_D_proof_217 4 rfl ?_
                    refine j_iconst (v := 1) hC d_D_proof_219 (by decide) ?_
                    refine j_isub hC d_D_proof_220 ?_
                    refine j_ishr hC d_D_proof_221 ?_
                    refine j_iconst (v := 1) hC d_D_proof_222 (by decide) ?_
                    refine j_iand hC d_D_proof_223 ?_
                    refine j_iconst (v := 1) hC d_D_proof_224 (by decide) ?_
                    suffices hk225 : jJ p l e ({ frames := 5, cells := 0, slots := 0, locals := 121 }) s m [.ref (g 0), .int r, .int a, .int b, .int t].toArray below meth c 10 (dC, dI) jcl A (hxQ below (jQ (dC, dI) jcl (jRet (some (.int ((m_proof u r a b t).1))) (mw g k ((m_proof u r a b t).2))) A) [.ref (g 0), .int r, .int a, .int b, .int t].toArray s 0 0 A) 0 0 (mw g k ((mInst v i n).2)) [(0, .ref (g 0)), (1, .int r), (2, .int a), (3, .int b), (4, .int t), (5, .int (mIs (mFind u) r a b t)), (6, .int (mFine (mFind u) r a b t)), (7, .int (nI (mFx (mFind u) r a b))), (8, .int (nI i)), (9, .int (nI n))] [.int (if (((mVars ((mInst v i n).2) i) >>> ((t - 1) &&& 31)) &&& 1) = 1 then (((mInst v i n).2) 6 (tn t - 1)) else (-1 : Int32))] 241 by
                      refine j_icmp_ne (tgt := 240) hC d_D_proof_225 (by decide) (fun h225 => ?_) (fun h225 => ?_)
                      · refine j_iconst (v := -1) hC d_D_proof_240 (by decide) ?_
                        exact j_top ((if_neg h225)) hk225
                      · refine j_aload_n hC d_D_proof_228 rfl 0 rfl ?_
                        refine j_get hC hin_D (0) (mw_obj g k ((mInst v i n).2)) rfl 14 (by decide) (hC.2.2.2.2.1 _ wf_D_38) (fun _ h9 => h9) rfl d_D_proof_229 ?_
                        refine j_iload hC d_D_proof_232 4 rfl ?_
                        refine j_iconst (v := 1) hC d_D_proof_234 (by decide) ?_
                        refine j_isub hC d_D_proof_235 ?_
                        refine j_ialdN hC (10) 0 (mw_values g k ((mInst v i n).2)) rfl (n := tn t - 1) ((t_pred ht5 h203).1) ((t_pred ht5 h203).2) (by decide) d_D_proof_236 ?_
                        refine j_goto (tgt := 241) hC d_D_proof_237 (by decide) ?_
                        exact j_top ((if_pos h225)) hk225
                    exact j_top ((if_neg h203)) hk203
                  · refine j_iload hC d_D_proof_206 8 rfl ?_
                    refine j_goto (tgt := 241) hC d_D_proof_208 (by decide) ?_
                    exact j_top ((if_pos h203)) hk203
                exact j_iret hC hr (by have e9 : mPk r (mFx (mFind u) r a b) t (tn ((mFind u) 0 1)) 0 (up (mFind u) 0 4 0) = (mAns t i ((mInst v i n).2), (mInst v i n).2) := (by rw [← hinv, mPn, if_pos h149, if_neg h160, if_pos h173, if_neg h182, if_neg h198]; rfl); rw [m_proof, if_pos h119, e9]; exact ⟨rfl, rfl, rfl⟩) d_D_proof_241
  have rules : (m_refuse (mFind u) (if mIs (mFind u) r a b t = 0 then (1 : Int32) else 0) (if mIs (mFind u) r a b t = 0 then (0 : Int32) else (if (mFind u) 0 2 < 0 then 0 else 1)) (if mFine (mFind u) r a b t = 0 then (0 : Int32) else (if 0 < (mFind u) 4 (mFx (mFind u) r a b) then 0 else 1))).1 = 0 → ¬ mFine (mFind u) r a b t = 0 → (m_factAt (mFind u) r a b = nI (mFx (mFind u) r a b) ∧ mFx (mFind u) r a b < 1152) → ∀ (n i : Nat) (v : jU), i ≤ tn ((mFind u) 0 1) → tn ((mFind u) 0 1) < i + n → mE (up (mFind u) 0 4 0) v → mPk r (mFx (mFind u) r a b) t (tn ((mFind u) 0 1) - i) i v = mPk r (mFx (mFind u) r a b) t (tn ((mFind u) 0 1)) 0 (up (mFind u) 0 4 0) → jJ p l e ({ frames := 5, cells := 0, slots := 0, locals := 121 }) s m [.ref (g 0), .int r, .int a, .int b, .int t].toArray below meth c 10 (dC, dI) jcl A (hxQ below (jQ (dC, dI) jcl (jRet (some (.int ((m_proof u r a b t).1))) (mw g k ((m_proof u r a b t).2))) A) [.ref (g 0), .int r, .int a, .int b, .int t].toArray s 0 0 A) 0 0 (mw g k v) [(0, .ref (g 0)), (1, .int r), (2, .int a), (3, .int b), (4, .int t), (5, .int (mIs (mFind u) r a b t)), (6, .int (mFine (mFind u) r a b t)), (7, .int (nI (mFx (mFind u) r a b))), (8, .int (nI i))] [] 127 := by
    intro h119 hfn hF n
    induction n with
    | zero => intro i v h1 h2; exact absurd h2 (by omega)
    | succ n ih =>
      intro i v hi9 hn hv hinv
      have hz0 : v 0 1 = (mFind u) 0 1 := by rw [hv.1 0 (by decide)]; rfl
      refine j_iload hC d_D_proof_127 8 rfl ?_
      refine j_aload_n hC d_D_proof_129 rfl 0 rfl ?_
      refine j_get hC hin_D (0) (mw_obj g k v) rfl 5 (by decide) (hC.2.2.2.2.1 _ wf_D_51) (fun _ h9 => h9) rfl d_D_proof_130 ?_
      refine j_icmp_ge (tgt := 261) hC d_D_proof_133 (by decide) (fun h133 => ?_) (fun h133 => ?_)
      · have hge : tn ((mFind u) 0 1) ≤ i := (inN_leN hK (by decide) (by omega)).mp (by rw [← hz0]; exact h133)
        have hie : tn ((mFind u) 0 1) - i = 0 := by omega
        refine j_iconst (v := -1) hC d_D_proof_261 (by decide) ?_
        exact j_iret hC hr (by rw [m_proof, if_pos h119, ← hinv, hie]; exact ⟨rfl, rfl, rfl⟩) d_D_proof_262
      · have hlt : i < tn ((mFind u) 0 1) := Nat.not_le.mp (fun z => h133 (by rw [hz0]; exact (inN_leN hK (by decide) (by omega)).mpr z))
        have hi : i < 16 := by omega
        have e12 : mPk r (mFx (mFind u) r a b) t (tn ((mFind u) 0 1) - i) i v = mPk r (mFx (mFind u) r a b) t ((tn ((mFind u) 0 1) - (i + 1)) + 1) i v := by rw [show tn ((mFind u) 0 1) - i = (tn ((mFind u) 0 1) - (i + 1)) + 1 by omega]
        refine j_iconst (v := 0) hC d_D_proof_136 (by decide) ?_
        refine j_istore (lv' := [(0, .ref (g 0)), (1, .int r), (2, .int a), (3, .int b), (4, .int t), (5, .int (mIs (mFind u) r a b t)), (6, .int (mFine (mFind u) r a b t)), (7, .int (nI (mFx (mFind u) r a b))), (8, .int (nI i)), (9, .int 0)]) hC d_D_proof_137 (by decide) rfl rfl ?_
        exact inst h119 hfn hF i hi (fun w9 hw9 h9 => ih (i + 1) w9 (by omega) (by omega) hw9 h9) mFuel 0 v hv (by decide) (by decide) (by decide) (by rw [← hinv, e12, mPk])
  refine j_aload_n hC d_D_proof_0 rfl 0 rfl ?_
  refine j_callVr (As := []) (rest := []) (st1 := []) hC (r_find l dC dI g k tl u hD hE) rfl rfl ww_D_127 yn_D_find (mw_obj g k u) rfl rfl d_D_proof_1 (Nat.le_of_ble_eq_true rfl) (by decide) ⟨Nat.zero_le _, Nat.zero_le _⟩ rfl ?_
  refine j_aload_n hC d_D_proof_4 rfl 0 rfl ?_
  refine j_iload_n hC d_D_proof_5 rfl 1 rfl ?_
  refine j_iload_n hC d_D_proof_6 rfl 2 rfl ?_
  refine j_iload_n hC d_D_proof_7 rfl 3 rfl ?_
  refine j_callVr (As := [.int r, .int a, .int b]) (rest := []) (st1 := [.int (m_isFact (mFind u) r a b)]) hC (r_isFact l dC dI g k tl (mFind u) hDF r a b) rfl rfl ww_D_66 yn_D_isFact (mw_obj g k (mFind u)) rfl rfl d_D_proof_8 (Nat.le_of_ble_eq_true rfl) (by decide) ⟨Nat.zero_le _, Nat.zero_le _⟩ rfl ?_
  suffices hk11 : jJ p l e ({ frames := 5, cells := 0, slots := 0, locals := 121 }) s m [.ref (g 0), .int r, .int a, .int b, .int t].toArray below meth c 10 (dC, dI) jcl A (hxQ below (jQ (dC, dI) jcl (jRet (some (.int ((m_proof u r a b t).1))) (mw g k ((m_proof u r a b t).2))) A) [.ref (g 0), .int r, .int a, .int b, .int t].toArray s 0 0 A) 0 0 (mw g k (mFind u)) [(0, .ref (g 0)), (1, .int r), (2, .int a), (3, .int b), (4, .int t)] [.int (if (m_isFact (mFind u) r a b) = 0 then (0 : Int32) else (if (m_in t 0 4) = 0 then (0 : Int32) else (1 : Int32)))] 29 by
    refine j_if_eq (tgt := 28) hC d_D_proof_11 (by decide) (fun h11 => ?_) (fun h11 => ?_)
    · refine j_iconst (v := 0) hC d_D_proof_28 (by decide) ?_
      exact j_top ((if_pos h11)) hk11
    · refine j_iload hC d_D_proof_14 4 rfl ?_
      refine j_iconst (v := 0) hC d_D_proof_16 (by decide) ?_
      refine j_iconst (v := 4) hC d_D_proof_17 (by decide) ?_
      refine j_callSr (As := [.int t, .int 0, .int 4]) (rest := []) (st1 := [.int (m_in t 0 4)]) hC (r_in l dC dI g k tl (mFind u) t 0 4) rfl rfl ww_D_58 yn_D_in rfl d_D_proof_18 (Nat.le_of_ble_eq_true rfl) (by decide) ⟨Nat.zero_le _, Nat.zero_le _⟩ rfl ?_
      suffices hk21 : jJ p l e ({ frames := 5, cells := 0, slots := 0, locals := 121 }) s m [.ref (g 0), .int r, .int a, .int b, .int t].toArray below meth c 10 (dC, dI) jcl A (hxQ below (jQ (dC, dI) jcl (jRet (some (.int ((m_proof u r a b t).1))) (mw g k ((m_proof u r a b t).2))) A) [.ref (g 0), .int r, .int a, .int b, .int t].toArray s 0 0 A) 0 0 (mw g k (mFind u)) [(0, .ref (g 0)), (1, .int r), (2, .int a), (3, .int b), (4, .int t)] [.int (if (m_in t 0 4) = 0 then (0 : Int32) else (1 : Int32))] 29 by
        refine j_if_eq (tgt := 28) hC d_D_proof_21 (by decide) (fun h21 => ?_) (fun h21 => ?_)
        · refine j_iconst (v := 0) hC d_D_proof_28 (by decide) ?_
          exact j_top ((if_pos h21)) hk21
        · refine j_iconst (v := 1) hC d_D_proof_24 (by decide) ?_
          refine j_goto (tgt := 29) hC d_D_proof_25 (by decide) ?_
          exact j_top ((if_neg h21)) hk21
      exact j_top ((if_neg h11)) hk11
  refine j_istore (lv' := [(0, .ref (g 0)), (1, .int r), (2, .int a), (3, .int b), (4, .int t), (5, .int (mIs (mFind u) r a b t))]) hC d_D_proof_29 (by decide) rfl rfl ?_
  refine j_iload hC d_D_proof_31 5 rfl ?_
  suffices hk33 : jJ p l e ({ frames := 5, cells := 0, slots := 0, locals := 121 }) s m [.ref (g 0), .int r, .int a, .int b, .int t].toArray below meth c 10 (dC, dI) jcl A (hxQ below (jQ (dC, dI) jcl (jRet (some (.int ((m_proof u r a b t).1))) (mw g k ((m_proof u r a b t).2))) A) [.ref (g 0), .int r, .int a, .int b, .int t].toArray s 0 0 A) 0 0 (mw g k (mFind u)) [(0, .ref (g 0)), (1, .int r), (2, .int a), (3, .int b), (4, .int t), (5, .int (mIs (mFind u) r a b t))] [.int (if (mIs (mFind u) r a b t) = 0 then (0 : Int32) else (if 0 ≤ ((mFind u) 0 2) then (0 : Int32) else (1 : Int32)))] 48 by
    refine j_if_eq (tgt := 47) hC d_D_proof_33 (by decide) (fun h33 => ?_) (fun h33 => ?_)
    · refine j_iconst (v := 0) hC d_D_proof_47 (by decide) ?_
      exact j_top ((if_pos h33)) hk33
    · refine j_aload_n hC d_D_proof_36 rfl 0 rfl ?_
      refine j_get hC hin_D (0) (mw_obj g k (mFind u)) rfl 13 (by decide) (hC.2.2.2.2.1 _ wf_D_121) (fun _ h9 => h9) rfl d_D_proof_37 ?_
      suffices hk40 : jJ p l e ({ frames := 5, cells := 0, slots := 0, locals := 121 }) s m [.ref (g 0), .int r, .int a, .int b, .int t].toArray below meth c 10 (dC, dI) jcl A (hxQ below (jQ (dC, dI) jcl (jRet (some (.int ((m_proof u r a b t).1))) (mw g k ((m_proof u r a b t).2))) A) [.ref (g 0), .int r, .int a, .int b, .int t].toArray s 0 0 A) 0 0 (mw g k (mFind u)) [(0, .ref (g 0)), (1, .int r), (2, .int a), (3, .int b), (4, .int t), (5, .int (mIs (mFind u) r a b t))] [.int (if 0 ≤ ((mFind u) 0 2) then (0 : Int32) else (1 : Int32))] 48 by
        refine j_if_ge (tgt := 47) hC d_D_proof_40 (by decide) (fun h40 => ?_) (fun h40 => ?_)
        · refine j_iconst (v := 0) hC d_D_proof_47 (by decide) ?_
          exact j_top ((if_pos h40)) hk40
        · refine j_iconst (v := 1) hC d_D_proof_43 (by decide) ?_
          refine j_goto (tgt := 48) hC d_D_proof_44 (by decide) ?_
          exact j_top ((if_neg h40)) hk40
      exact j_top ((if_neg h33)) hk33
  refine j_istore (lv' := [(0, .ref (g 0)), (1, .int r), (2, .int a), (3, .int b), (4, .int t), (5, .int (mIs (mFind u) r a b t)), (6, .int (mFine (mFind u) r a b t))]) hC d_D_proof_48 (by decide) rfl rfl ?_
  refine j_iload hC d_D_proof_50 6 rfl ?_
  suffices hk52 : jJ p l e ({ frames := 5, cells := 0, slots := 0, locals := 121 }) s m [.ref (g 0), .int r, .int a, .int b, .int t].toArray below meth c 10 (dC, dI) jcl A (hxQ below (jQ (dC, dI) jcl (jRet (some (.int ((m_proof u r a b t).1))) (mw g k ((m_proof u r a b t).2))) A) [.ref (g 0), .int r, .int a, .int b, .int t].toArray s 0 0 A) 0 0 (mw g k (mFind u)) [(0, .ref (g 0)), (1, .int r), (2, .int a), (3, .int b), (4, .int t), (5, .int (mIs (mFind u) r a b t)), (6, .int (mFine (mFind u) r a b t))] [.int (if (mFine (mFind u) r a b t) = 0 then (0 : Int32) else (m_factAt (mFind u) r a b))] 66 by
    refine j_if_eq (tgt := 65) hC d_D_proof_52 (by decide) (fun h52 => ?_) (fun h52 => ?_)
    · refine j_iconst (v := 0) hC d_D_proof_65 (by decide) ?_
      exact j_top ((if_pos h52)) hk52
    · refine j_aload_n hC d_D_proof_55 rfl 0 rfl ?_
      refine j_iload_n hC d_D_proof_56 rfl 1 rfl ?_
      refine j_iload_n hC d_D_proof_57 rfl 2 rfl ?_
      refine j_iload_n hC d_D_proof_58 rfl 3 rfl ?_
      refine j_callVr (As := [.int r, .int a, .int b]) (rest := []) (st1 := [.int (m_factAt (mFind u) r a b)]) hC (r_factAt l dC dI g k tl (mFind u) r a b (isFact_rel hDF (mIs_1 (mFine_1 h52).1).1)) rfl rfl ww_D_69 yn_D_factAt (mw_obj g k (mFind u)) rfl rfl d_D_proof_59 (Nat.le_of_ble_eq_true rfl) (by decide) ⟨Nat.zero_le _, Nat.zero_le _⟩ rfl ?_
      refine j_goto (tgt := 66) hC d_D_proof_62 (by decide) ?_
      exact j_top ((if_neg h52)) hk52
  refine j_istore (lv' := [(0, .ref (g 0)), (1, .int r), (2, .int a), (3, .int b), (4, .int t), (5, .int (mIs (mFind u) r a b t)), (6, .int (mFine (mFind u) r a b t)), (7, .int (if (mFine (mFind u) r a b t) = 0 then (0 : Int32) else (m_factAt (mFind u) r a b)))]) hC d_D_proof_66 (by decide) rfl rfl ?_
  refine j_aload_n hC d_D_proof_68 rfl 0 rfl ?_
  refine j_iload hC d_D_proof_69 5 rfl ?_
  suffices hk71 : jJ p l e ({ frames := 5, cells := 0, slots := 0, locals := 121 }) s m [.ref (g 0), .int r, .int a, .int b, .int t].toArray below meth c 10 (dC, dI) jcl A (hxQ below (jQ (dC, dI) jcl (jRet (some (.int ((m_proof u r a b t).1))) (mw g k ((m_proof u r a b t).2))) A) [.ref (g 0), .int r, .int a, .int b, .int t].toArray s 0 0 A) 0 0 (mw g k (mFind u)) [(0, .ref (g 0)), (1, .int r), (2, .int a), (3, .int b), (4, .int t), (5, .int (mIs (mFind u) r a b t)), (6, .int (mFine (mFind u) r a b t)), (7, .int (if (mFine (mFind u) r a b t) = 0 then (0 : Int32) else (m_factAt (mFind u) r a b)))] [.int (if (mIs (mFind u) r a b t) = 0 then (1 : Int32) else (0 : Int32)), .ref (g 0)] 79 by
    refine j_if_ne (tgt := 78) hC d_D_proof_71 (by decide) (fun h71 => ?_) (fun h71 => ?_)
    · refine j_iconst (v := 0) hC d_D_proof_78 (by decide) ?_
      exact j_top ((if_neg h71)) hk71
    · refine j_iconst (v := 1) hC d_D_proof_74 (by decide) ?_
      refine j_goto (tgt := 79) hC d_D_proof_75 (by decide) ?_
      exact j_top ((if_pos h71)) hk71
  refine j_iload hC d_D_proof_79 5 rfl ?_
  suffices hk81 : jJ p l e ({ frames := 5, cells := 0, slots := 0, locals := 121 }) s m [.ref (g 0), .int r, .int a, .int b, .int t].toArray below meth c 10 (dC, dI) jcl A (hxQ below (jQ (dC, dI) jcl (jRet (some (.int ((m_proof u r a b t).1))) (mw g k ((m_proof u r a b t).2))) A) [.ref (g 0), .int r, .int a, .int b, .int t].toArray s 0 0 A) 0 0 (mw g k (mFind u)) [(0, .ref (g 0)), (1, .int r), (2, .int a), (3, .int b), (4, .int t), (5, .int (mIs (mFind u) r a b t)), (6, .int (mFine (mFind u) r a b t)), (7, .int (if (mFine (mFind u) r a b t) = 0 then (0 : Int32) else (m_factAt (mFind u) r a b)))] [.int (if (mIs (mFind u) r a b t) = 0 then (0 : Int32) else (if ((mFind u) 0 2) < 0 then (0 : Int32) else (1 : Int32))), .int (if (mIs (mFind u) r a b t) = 0 then (1 : Int32) else (0 : Int32)), .ref (g 0)] 96 by
    refine j_if_eq (tgt := 95) hC d_D_proof_81 (by decide) (fun h81 => ?_) (fun h81 => ?_)
    · refine j_iconst (v := 0) hC d_D_proof_95 (by decide) ?_
      exact j_top ((if_pos h81)) hk81
    · refine j_aload_n hC d_D_proof_84 rfl 0 rfl ?_
      refine j_get hC hin_D (0) (mw_obj g k (mFind u)) rfl 13 (by decide) (hC.2.2.2.2.1 _ wf_D_121) (fun _ h9 => h9) rfl d_D_proof_85 ?_
      suffices hk88 : jJ p l e ({ frames := 5, cells := 0, slots := 0, locals := 121 }) s m [.ref (g 0), .int r, .int a, .int b, .int t].toArray below meth c 10 (dC, dI) jcl A (hxQ below (jQ (dC, dI) jcl (jRet (some (.int ((m_proof u r a b t).1))) (mw g k ((m_proof u r a b t).2))) A) [.ref (g 0), .int r, .int a, .int b, .int t].toArray s 0 0 A) 0 0 (mw g k (mFind u)) [(0, .ref (g 0)), (1, .int r), (2, .int a), (3, .int b), (4, .int t), (5, .int (mIs (mFind u) r a b t)), (6, .int (mFine (mFind u) r a b t)), (7, .int (if (mFine (mFind u) r a b t) = 0 then (0 : Int32) else (m_factAt (mFind u) r a b)))] [.int (if ((mFind u) 0 2) < 0 then (0 : Int32) else (1 : Int32)), .int (if (mIs (mFind u) r a b t) = 0 then (1 : Int32) else (0 : Int32)), .ref (g 0)] 96 by
        refine j_if_lt (tgt := 95) hC d_D_proof_88 (by decide) (fun h88 => ?_) (fun h88 => ?_)
        · refine j_iconst (v := 0) hC d_D_proof_95 (by decide) ?_
          exact j_top ((if_pos h88)) hk88
        · refine j_iconst (v := 1) hC d_D_proof_91 (by decide) ?_
          refine j_goto (tgt := 96) hC d_D_proof_92 (by decide) ?_
          exact j_top ((if_neg h88)) hk88
      exact j_top ((if_neg h81)) hk81
  refine j_iload hC d_D_proof_96 6 rfl ?_
  suffices hk98 : jJ p l e ({ frames := 5, cells := 0, slots := 0, locals := 121 }) s m [.ref (g 0), .int r, .int a, .int b, .int t].toArray below meth c 10 (dC, dI) jcl A (hxQ below (jQ (dC, dI) jcl (jRet (some (.int ((m_proof u r a b t).1))) (mw g k ((m_proof u r a b t).2))) A) [.ref (g 0), .int r, .int a, .int b, .int t].toArray s 0 0 A) 0 0 (mw g k (mFind u)) [(0, .ref (g 0)), (1, .int r), (2, .int a), (3, .int b), (4, .int t), (5, .int (mIs (mFind u) r a b t)), (6, .int (mFine (mFind u) r a b t)), (7, .int (if (mFine (mFind u) r a b t) = 0 then (0 : Int32) else (m_factAt (mFind u) r a b)))] [.int (if (mFine (mFind u) r a b t) = 0 then (0 : Int32) else (if 0 < ((mFind u) 4 (mFx (mFind u) r a b)) then (0 : Int32) else (1 : Int32))), .int (if (mIs (mFind u) r a b t) = 0 then (0 : Int32) else (if ((mFind u) 0 2) < 0 then (0 : Int32) else (1 : Int32))), .int (if (mIs (mFind u) r a b t) = 0 then (1 : Int32) else (0 : Int32)), .ref (g 0)] 116 by
    refine j_if_eq (tgt := 115) hC d_D_proof_98 (by decide) (fun h98 => ?_) (fun h98 => ?_)
    · refine j_iconst (v := 0) hC d_D_proof_115 (by decide) ?_
      exact j_top ((if_pos h98)) hk98
    · refine j_aload_n hC d_D_proof_101 rfl 0 rfl ?_
      refine j_get hC hin_D (0) (mw_obj g k (mFind u)) rfl 4 (by decide) (hC.2.2.2.2.1 _ wf_D_17) (fun _ h9 => h9) rfl d_D_proof_102 ?_
      refine j_iload hC d_D_proof_105 7 rfl ?_
      refine j_ialdN hC (3) 0 (mw_ranks g k (mFind u)) rfl (n := mFx (mFind u) r a b) ((if_neg h98).trans (fact_ix hDF (mIs_1 (mFine_1 h98).1).1).1) ((fact_ix hDF (mIs_1 (mFine_1 h98).1).1).2) (by decide) d_D_proof_107 ?_
      suffices hk108 : jJ p l e ({ frames := 5, cells := 0, slots := 0, locals := 121 }) s m [.ref (g 0), .int r, .int a, .int b, .int t].toArray below meth c 10 (dC, dI) jcl A (hxQ below (jQ (dC, dI) jcl (jRet (some (.int ((m_proof u r a b t).1))) (mw g k ((m_proof u r a b t).2))) A) [.ref (g 0), .int r, .int a, .int b, .int t].toArray s 0 0 A) 0 0 (mw g k (mFind u)) [(0, .ref (g 0)), (1, .int r), (2, .int a), (3, .int b), (4, .int t), (5, .int (mIs (mFind u) r a b t)), (6, .int (mFine (mFind u) r a b t)), (7, .int (if (mFine (mFind u) r a b t) = 0 then (0 : Int32) else (m_factAt (mFind u) r a b)))] [.int (if 0 < ((mFind u) 4 (mFx (mFind u) r a b)) then (0 : Int32) else (1 : Int32)), .int (if (mIs (mFind u) r a b t) = 0 then (0 : Int32) else (if ((mFind u) 0 2) < 0 then (0 : Int32) else (1 : Int32))), .int (if (mIs (mFind u) r a b t) = 0 then (1 : Int32) else (0 : Int32)), .ref (g 0)] 116 by
        refine j_if_gt (tgt := 115) hC d_D_proof_108 (by decide) (fun h108 => ?_) (fun h108 => ?_)
        · refine j_iconst (v := 0) hC d_D_proof_115 (by decide) ?_
          exact j_top ((if_pos h108)) hk108
        · refine j_iconst (v := 1) hC d_D_proof_111 (by decide) ?_
          refine j_goto (tgt := 116) hC d_D_proof_112 (by decide) ?_
          exact j_top ((if_neg h108)) hk108
      exact j_top ((if_neg h98)) hk98
  refine j_callVr (As := [.int (if (mIs (mFind u) r a b t) = 0 then (1 : Int32) else (0 : Int32)), .int (if (mIs (mFind u) r a b t) = 0 then (0 : Int32) else (if ((mFind u) 0 2) < 0 then (0 : Int32) else (1 : Int32))), .int (if (mFine (mFind u) r a b t) = 0 then (0 : Int32) else (if 0 < ((mFind u) 4 (mFx (mFind u) r a b)) then (0 : Int32) else (1 : Int32)))]) (rest := []) (st1 := [.int ((m_refuse (mFind u) (if (mIs (mFind u) r a b t) = 0 then (1 : Int32) else (0 : Int32)) (if (mIs (mFind u) r a b t) = 0 then (0 : Int32) else (if ((mFind u) 0 2) < 0 then (0 : Int32) else (1 : Int32))) (if (mFine (mFind u) r a b t) = 0 then (0 : Int32) else (if 0 < ((mFind u) 4 (mFx (mFind u) r a b)) then (0 : Int32) else (1 : Int32)))).1)]) hC (r_refuse l dC dI g k tl (mFind u) (if (mIs (mFind u) r a b t) = 0 then (1 : Int32) else (0 : Int32)) (if (mIs (mFind u) r a b t) = 0 then (0 : Int32) else (if ((mFind u) 0 2) < 0 then (0 : Int32) else (1 : Int32))) (if (mFine (mFind u) r a b t) = 0 then (0 : Int32) else (if 0 < ((mFind u) 4 (mFx (mFind u) r a b)) then (0 : Int32) else (1 : Int32)))) rfl rfl ww_D_62 yn_D_refuse (mw_obj g k (mFind u)) rfl rfl d_D_proof_116 (Nat.le_of_ble_eq_true rfl) (by decide) ⟨Nat.zero_le _, Nat.zero_le _⟩ rfl ?_
  refine j_if_eq (tgt := 124) hC d_D_proof_119 (by decide) (fun h119 => ?_) (fun h119 => ?_)
  · have hfn := mFine_ok h119
    have hF := fact_ix hDF (mIs_1 (mFine_1 hfn).1).1
    rw [ref_st h119, show (if mFine (mFind u) r a b t = 0 then (0 : Int32) else m_factAt (mFind u) r a b) = nI (mFx (mFind u) r a b) from (if_neg hfn).trans hF.1]
    refine j_iconst (v := 0) hC d_D_proof_124 (by decide) ?_
    refine j_istore (lv' := [(0, .ref (g 0)), (1, .int r), (2, .int a), (3, .int b), (4, .int t), (5, .int (mIs (mFind u) r a b t)), (6, .int (mFine (mFind u) r a b t)), (7, .int (nI (mFx (mFind u) r a b))), (8, .int 0)]) hC d_D_proof_125 (by decide) rfl rfl ?_
    exact rules h119 hfn hF 18 0 (up (mFind u) 0 4 0) (by omega) (by omega) (mE.rf hDG.2.2.2.2.1) rfl
  · refine j_iconst (v := 0) hC d_D_proof_122 (by decide) ?_
    exact j_iret hC hr ⟨rfl, by rw [m_proof, if_neg h119] <;> rfl, congrArg (mw g k) (by rw [m_proof, if_neg h119] <;> rfl)⟩ d_D_proof_123
