set_option maxHeartbeats 1000000 in
set_option maxRecDepth 100000 in
theorem i_A (l : Launch) (dC : Nat → ClassId) (dI : Nat → Nat → Nat) (k : Nat → Nat) (a : Nat) : jMet l y_A_init (.code y_A_init c_A_init 1 none) ({ frames := 1, cells := 0, slots := 0, locals := 12 }) (dC, dI) jcl (ltys k) jTn [.ref a] [(a, .inr (0, [.int 0, .int 0, .int 0, .int 0]))] 0 0 (jN (fun w => w = [(a, .inr (0, [.int 0, .int 0, .int 0, .int 0]))])) := by
  refine jMet.of (by decide) (Nat.le_of_ble_eq_true rfl) ?_
  intro p e s m below meth c A hC hex hr hnm htr
  show jJ p l e ({ frames := 1, cells := 0, slots := 0, locals := 12 }) s m [.ref a].toArray below meth c 1 (dC, dI) jcl A (hxQ below (jQ (dC, dI) jcl (jN (fun w => w = [(a, .inr (0, [.int 0, .int 0, .int 0, .int 0]))])) A) [.ref a].toArray s 0 0 A) 0 0 [(a, .inr (0, [.int 0, .int 0, .int 0, .int 0]))] [(0, .ref a)] [] 0
  refine j_aload_n hC d_A_init_0 rfl 0 rfl ?_
  refine j_objInit hC woi_A d_A_init_1 (by decide) (by decide) ?_
  exact j_vret hC hr ⟨rfl, rfl, rfl⟩ d_A_init_4

set_option maxHeartbeats 1000000 in
set_option maxRecDepth 100000 in
theorem i_S (l : Launch) (dC : Nat → ClassId) (dI : Nat → Nat → Nat) (k : Nat → Nat) (a : Nat) : jMet l y_S_init (.code y_S_init c_S_init 1 none) ({ frames := 1, cells := 5, slots := 216, locals := 12 }) (dC, dI) jcl (ltys k) jTn [.ref a] [(a, .inr (3, [.null, .null, .null, .null, .null]))] 5 216 (jN (fun w => ∃ q1 q2 q3 q4 q5 : Nat, w = [(a, .inr (3, [.ref q1, .ref q2, .ref q3, .ref q4, .ref q5])), (q1, .inl (k 0, (96, .inl (fun _ => 0)))), (q2, .inl (k 0, (96, .inl (fun _ => 0)))), (q3, .inl (k 0, (8, .inl (fun _ => 0)))), (q4, .inl (k 0, (8, .inl (fun _ => 0)))), (q5, .inl (k 0, (8, .inl (fun _ => 0))))])) := by
  refine jMet.of (by decide) (Nat.le_of_ble_eq_true rfl) ?_
  intro p e s m below meth c A hC hex hr hnm htr
  show jJ p l e ({ frames := 1, cells := 5, slots := 216, locals := 12 }) s m [.ref a].toArray below meth c 1 (dC, dI) jcl A (hxQ below (jQ (dC, dI) jcl (jN (fun w => ∃ q1 q2 q3 q4 q5 : Nat, w = [(a, .inr (3, [.ref q1, .ref q2, .ref q3, .ref q4, .ref q5])), (q1, .inl (k 0, (96, .inl (fun _ => 0)))), (q2, .inl (k 0, (96, .inl (fun _ => 0)))), (q3, .inl (k 0, (8, .inl (fun _ => 0)))), (q4, .inl (k 0, (8, .inl (fun _ => 0)))), (q5, .inl (k 0, (8, .inl (fun _ => 0))))])) A) [.ref a].toArray s 5 216 A) 0 0 [(a, .inr (3, [.null, .null, .null, .null, .null]))] [(0, .ref a)] [] 0
  refine j_aload_n hC d_S_init_0 rfl 0 rfl ?_
  refine j_objInit hC woi_S d_S_init_1 (by decide) (by decide) ?_
  refine j_aload_n hC d_S_init_4 rfl 0 rfl ?_
  refine j_bipush (v := 96) hC d_S_init_5 (by decide) ?_
  refine j_newa (atype := .int) (ty := .int) hC rfl wa_int 0 rfl (N := 96) (a0 := (96, .inl (fun _ => 0))) (fun _ => rfl) (by decide) (by decide) (by decide) (by decide) d_S_init_7 (fun q1 => ?_)
  refine j_putF (ty := tyX3 0) (ws' := [(a, .inr (3, [.ref q1, .null, .null, .null, .null])), (q1, .inl (k 0, (96, .inl (fun _ => 0))))]) hC hiN_S tyX3 tyX3_ok nmX3 0 (fs := [.null, .null, .null, .null, .null]) rfl rfl 0 (by decide) (hC.2.2.2.2.1 _ (jTn_l wf_S_9)) (fun _ h9 => h9) rfl hnm rfl (tyX3_ok 0 (by decide)) rfl rfl (Nat.le_of_ble_eq_true rfl) rfl d_S_init_9 ?_
  refine j_aload_n hC d_S_init_12 rfl 0 rfl ?_
  refine j_bipush (v := 96) hC d_S_init_13 (by decide) ?_
  refine j_newa (atype := .int) (ty := .int) hC rfl wa_int 0 rfl (N := 96) (a0 := (96, .inl (fun _ => 0))) (fun _ => rfl) (by decide) (by decide) (by decide) (by decide) d_S_init_15 (fun q2 => ?_)
  refine j_putF (ty := tyX3 1) (ws' := [(a, .inr (3, [.ref q1, .ref q2, .null, .null, .null])), (q1, .inl (k 0, (96, .inl (fun _ => 0)))), (q2, .inl (k 0, (96, .inl (fun _ => 0))))]) hC hiN_S tyX3 tyX3_ok nmX3 0 (fs := [.ref q1, .null, .null, .null, .null]) rfl rfl 1 (by decide) (hC.2.2.2.2.1 _ (jTn_l wf_S_15)) (fun _ h9 => h9) rfl hnm rfl (tyX3_ok 1 (by decide)) rfl rfl (Nat.le_of_ble_eq_true rfl) rfl d_S_init_17 ?_
  refine j_aload_n hC d_S_init_20 rfl 0 rfl ?_
  refine j_bipush (v := 8) hC d_S_init_21 (by decide) ?_
  refine j_newa (atype := .int) (ty := .int) hC rfl wa_int 0 rfl (N := 8) (a0 := (8, .inl (fun _ => 0))) (fun _ => rfl) (by decide) (by decide) (by decide) (by decide) d_S_init_23 (fun q3 => ?_)
  refine j_putF (ty := tyX3 2) (ws' := [(a, .inr (3, [.ref q1, .ref q2, .ref q3, .null, .null])), (q1, .inl (k 0, (96, .inl (fun _ => 0)))), (q2, .inl (k 0, (96, .inl (fun _ => 0)))), (q3, .inl (k 0, (8, .inl (fun _ => 0))))]) hC hiN_S tyX3 tyX3_ok nmX3 0 (fs := [.ref q1, .ref q2, .null, .null, .null]) rfl rfl 2 (by decide) (hC.2.2.2.2.1 _ (jTn_l wf_S_18)) (fun _ h9 => h9) rfl hnm rfl (tyX3_ok 2 (by decide)) rfl rfl (Nat.le_of_ble_eq_true rfl) rfl d_S_init_25 ?_
  refine j_aload_n hC d_S_init_28 rfl 0 rfl ?_
  refine j_bipush (v := 8) hC d_S_init_29 (by decide) ?_
  refine j_newa (atype := .int) (ty := .int) hC rfl wa_int 0 rfl (N := 8) (a0 := (8, .inl (fun _ => 0))) (fun _ => rfl) (by decide) (by decide) (by decide) (by decide) d_S_init_31 (fun q4 => ?_)
  refine j_putF (ty := tyX3 3) (ws' := [(a, .inr (3, [.ref q1, .ref q2, .ref q3, .ref q4, .null])), (q1, .inl (k 0, (96, .inl (fun _ => 0)))), (q2, .inl (k 0, (96, .inl (fun _ => 0)))), (q3, .inl (k 0, (8, .inl (fun _ => 0)))), (q4, .inl (k 0, (8, .inl (fun _ => 0))))]) hC hiN_S tyX3 tyX3_ok nmX3 0 (fs := [.ref q1, .ref q2, .ref q3, .null, .null]) rfl rfl 3 (by decide) (hC.2.2.2.2.1 _ (jTn_l wf_S_21)) (fun _ h9 => h9) rfl hnm rfl (tyX3_ok 3 (by decide)) rfl rfl (Nat.le_of_ble_eq_true rfl) rfl d_S_init_33 ?_
  refine j_aload_n hC d_S_init_36 rfl 0 rfl ?_
  refine j_bipush (v := 8) hC d_S_init_37 (by decide) ?_
  refine j_newa (atype := .int) (ty := .int) hC rfl wa_int 0 rfl (N := 8) (a0 := (8, .inl (fun _ => 0))) (fun _ => rfl) (by decide) (by decide) (by decide) (by decide) d_S_init_39 (fun q5 => ?_)
  refine j_putF (ty := tyX3 4) (ws' := [(a, .inr (3, [.ref q1, .ref q2, .ref q3, .ref q4, .ref q5])), (q1, .inl (k 0, (96, .inl (fun _ => 0)))), (q2, .inl (k 0, (96, .inl (fun _ => 0)))), (q3, .inl (k 0, (8, .inl (fun _ => 0)))), (q4, .inl (k 0, (8, .inl (fun _ => 0)))), (q5, .inl (k 0, (8, .inl (fun _ => 0))))]) hC hiN_S tyX3 tyX3_ok nmX3 0 (fs := [.ref q1, .ref q2, .ref q3, .ref q4, .null]) rfl rfl 4 (by decide) (hC.2.2.2.2.1 _ (jTn_l wf_S_24)) (fun _ h9 => h9) rfl hnm rfl (tyX3_ok 4 (by decide)) rfl rfl (Nat.le_of_ble_eq_true rfl) rfl d_S_init_41 ?_
  exact j_vret hC hr ⟨rfl, rfl, q1, q2, q3, q4, q5, rfl⟩ d_S_init_44

set_option maxHeartbeats 1000000 in
set_option maxRecDepth 100000 in
theorem i_M (l : Launch) (dC : Nat → ClassId) (dI : Nat → Nat → Nat) (k : Nat → Nat) (a : Nat) : jMet l y_M_init (.code y_M_init c_M_init 2 none) ({ frames := 2, cells := 7, slots := 245, locals := 32 }) (dC, dI) jcl (ltys k) jTn [.ref a] [(a, .inr (1, [.null, .null]))] 7 245 (jN (fun w => ∃ q1 q2 q3 q4 q5 q6 q7 : Nat, w = [(a, .inr (1, [.ref q1, .ref q7])), (q1, .inr (3, [.ref q2, .ref q3, .ref q4, .ref q5, .ref q6])), (q2, .inl (k 0, (96, .inl (fun _ => 0)))), (q3, .inl (k 0, (96, .inl (fun _ => 0)))), (q4, .inl (k 0, (8, .inl (fun _ => 0)))), (q5, .inl (k 0, (8, .inl (fun _ => 0)))), (q6, .inl (k 0, (8, .inl (fun _ => 0)))), (q7, .inl (k 0, (24, .inl (upd (upd (upd (upd (upd (upd (upd (upd (upd (upd (upd (upd (fun _ => 0) 0 0) 1 1) 2 2) 3 3) 4 4) 5 5) 6 6) 7 7) 8 8) 9 9) 10 10) 11 11))))])) := by
  refine jMet.of (by decide) (Nat.le_of_ble_eq_true rfl) ?_
  intro p e s m below meth c A hC hex hr hnm htr
  show jJ p l e ({ frames := 2, cells := 7, slots := 245, locals := 32 }) s m [.ref a].toArray below meth c 2 (dC, dI) jcl A (hxQ below (jQ (dC, dI) jcl (jN (fun w => ∃ q1 q2 q3 q4 q5 q6 q7 : Nat, w = [(a, .inr (1, [.ref q1, .ref q7])), (q1, .inr (3, [.ref q2, .ref q3, .ref q4, .ref q5, .ref q6])), (q2, .inl (k 0, (96, .inl (fun _ => 0)))), (q3, .inl (k 0, (96, .inl (fun _ => 0)))), (q4, .inl (k 0, (8, .inl (fun _ => 0)))), (q5, .inl (k 0, (8, .inl (fun _ => 0)))), (q6, .inl (k 0, (8, .inl (fun _ => 0)))), (q7, .inl (k 0, (24, .inl (upd (upd (upd (upd (upd (upd (upd (upd (upd (upd (upd (upd (fun _ => 0) 0 0) 1 1) 2 2) 3 3) 4 4) 5 5) 6 6) 7 7) 8 8) 9 9) 10 10) 11 11))))])) A) [.ref a].toArray s 7 245 A) 0 0 [(a, .inr (1, [.null, .null]))] [(0, .ref a)] [] 0
  refine j_aload_n hC d_M_init_0 rfl 0 rfl ?_
  refine j_objInit hC woi_M d_M_init_1 (by decide) (by decide) ?_
  refine j_aload_n hC d_M_init_4 rfl 0 rfl ?_
  refine j_new hC hiN_S tyX3 tyX3_ok wn_M_9 (ci := 3) rfl (fs := [.null, .null, .null, .null, .null]) (by decide) (by decide) d_M_init_5 (fun q1 => ?_)
  refine j_dup hC d_M_init_8 rfl ?_
  refine j_swap (a := [(a, .inr (1, [.null, .null]))]) (b := [(q1, .inr (3, [.null, .null, .null, .null, .null]))]) ?_
  refine j_callIN (As := []) (rest := [.ref q1, .ref a]) hC ((i_S l dC dI k q1).frameN [(a, .inr (1, [.null, .null]))]) rfl rfl rfl wi_M_11 yn_S_init rfl d_M_init_9 (Nat.le_of_ble_eq_true rfl) (by decide) (by decide) (fun w h => ?_)
  obtain ⟨w0, ⟨q2, q3, q4, q5, q6, rfl⟩, rfl⟩ := h
  refine j_swap ?_
  show jJ p l e ({ frames := 2, cells := 7, slots := 245, locals := 32 }) s m [.ref a].toArray below meth c 2 (dC, dI) jcl A (hxQ below (jQ (dC, dI) jcl (jN (fun w => ∃ q1 q2 q3 q4 q5 q6 q7 : Nat, w = [(a, .inr (1, [.ref q1, .ref q7])), (q1, .inr (3, [.ref q2, .ref q3, .ref q4, .ref q5, .ref q6])), (q2, .inl (k 0, (96, .inl (fun _ => 0)))), (q3, .inl (k 0, (96, .inl (fun _ => 0)))), (q4, .inl (k 0, (8, .inl (fun _ => 0)))), (q5, .inl (k 0, (8, .inl (fun _ => 0)))), (q6, .inl (k 0, (8, .inl (fun _ => 0)))), (q7, .inl (k 0, (24, .inl (upd (upd (upd (upd (upd (upd (upd (upd (upd (upd (upd (upd (fun _ => 0) 0 0) 1 1) 2 2) 3 3) 4 4) 5 5) 6 6) 7 7) 8 8) 9 9) 10 10) 11 11))))])) A) [.ref a].toArray s 7 245 A) 6 221 [(a, .inr (1, [.null, .null])), (q1, .inr (3, [.ref q2, .ref q3, .ref q4, .ref q5, .ref q6])), (q2, .inl (k 0, (96, .inl (fun _ => 0)))), (q3, .inl (k 0, (96, .inl (fun _ => 0)))), (q4, .inl (k 0, (8, .inl (fun _ => 0)))), (q5, .inl (k 0, (8, .inl (fun _ => 0)))), (q6, .inl (k 0, (8, .inl (fun _ => 0))))] [(0, .ref a)] [.ref q1, .ref a] 12
  refine j_putF (ty := tyX1 0) (ws' := [(a, .inr (1, [.ref q1, .null])), (q1, .inr (3, [.ref q2, .ref q3, .ref q4, .ref q5, .ref q6])), (q2, .inl (k 0, (96, .inl (fun _ => 0)))), (q3, .inl (k 0, (96, .inl (fun _ => 0)))), (q4, .inl (k 0, (8, .inl (fun _ => 0)))), (q5, .inl (k 0, (8, .inl (fun _ => 0)))), (q6, .inl (k 0, (8, .inl (fun _ => 0))))]) hC hiN_M tyX1 tyX1_ok nmX1 0 (fs := [.null, .null]) rfl rfl 0 (by decide) (hC.2.2.2.2.1 _ (jTn_l wf_M_12)) (fun _ h9 => h9) rfl hnm rfl (tyX1_ok 0 (by decide)) rfl rfl (Nat.le_of_ble_eq_true rfl) rfl d_M_init_12 ?_
  refine j_aload_n hC d_M_init_15 rfl 0 rfl ?_
  refine j_bipush (v := 24) hC d_M_init_16 (by decide) ?_
  refine j_newa (atype := .int) (ty := .int) hC rfl wa_int 0 rfl (N := 24) (a0 := (24, .inl (fun _ => 0))) (fun _ => rfl) (by decide) (by decide) (by decide) (by decide) d_M_init_18 (fun q7 => ?_)
  refine j_putF (ty := tyX1 1) (ws' := [(a, .inr (1, [.ref q1, .ref q7])), (q1, .inr (3, [.ref q2, .ref q3, .ref q4, .ref q5, .ref q6])), (q2, .inl (k 0, (96, .inl (fun _ => 0)))), (q3, .inl (k 0, (96, .inl (fun _ => 0)))), (q4, .inl (k 0, (8, .inl (fun _ => 0)))), (q5, .inl (k 0, (8, .inl (fun _ => 0)))), (q6, .inl (k 0, (8, .inl (fun _ => 0)))), (q7, .inl (k 0, (24, .inl (fun _ => 0))))]) hC hiN_M tyX1 tyX1_ok nmX1 0 (fs := [.ref q1, .null]) rfl rfl 1 (by decide) (hC.2.2.2.2.1 _ (jTn_l wf_M_18)) (fun _ h9 => h9) rfl hnm rfl (tyX1_ok 1 (by decide)) rfl rfl (Nat.le_of_ble_eq_true rfl) rfl d_M_init_20 ?_
  refine j_iconst (v := 0) hC d_M_init_23 (by decide) ?_
  refine j_istore_n (lv' := [(0, .ref a), (1, .int 0)]) hC d_M_init_24 rfl (by decide) rfl rfl ?_
  refine j_iload_n hC d_M_init_25 rfl 1 rfl ?_
  refine j_bipush (v := 12) hC d_M_init_26 (by decide) ?_
  refine j_icmp_ge (tgt := 44) hC d_M_init_28 (by decide) (fun h => absurd h (by decide)) (fun _ => ?_)
  refine j_aload_n hC d_M_init_31 rfl 0 rfl ?_
  refine j_get hC hiN_M 0 (fs := [.ref q1, .ref q7]) rfl rfl 1 (by decide) (hC.2.2.2.2.1 _ (jTn_l wf_M_18)) (fun _ h9 => h9) rfl d_M_init_32 ?_
  refine j_iload_n hC d_M_init_35 rfl 1 rfl ?_
  refine j_iload_n hC d_M_init_36 rfl 1 rfl ?_
  refine j_iastN (ws' := [(a, .inr (1, [.ref q1, .ref q7])), (q1, .inr (3, [.ref q2, .ref q3, .ref q4, .ref q5, .ref q6])), (q2, .inl (k 0, (96, .inl (fun _ => 0)))), (q3, .inl (k 0, (96, .inl (fun _ => 0)))), (q4, .inl (k 0, (8, .inl (fun _ => 0)))), (q5, .inl (k 0, (8, .inl (fun _ => 0)))), (q6, .inl (k 0, (8, .inl (fun _ => 0)))), (q7, .inl (k 0, (24, .inl (upd (fun _ => 0) 0 0))))]) hC 7 0 rfl rfl (n := 0) rfl (by decide) (by decide) rfl d_M_init_37 ?_
  refine j_iinc (lv' := [(0, .ref a), (1, .int 1)]) hC d_M_init_38 1 rfl (by decide) (by decide) rfl rfl ?_
  refine j_goto (tgt := 25) hC d_M_init_41 (by decide) ?_
  refine j_iload_n hC d_M_init_25 rfl 1 rfl ?_
  refine j_bipush (v := 12) hC d_M_init_26 (by decide) ?_
  refine j_icmp_ge (tgt := 44) hC d_M_init_28 (by decide) (fun h => absurd h (by decide)) (fun _ => ?_)
  refine j_aload_n hC d_M_init_31 rfl 0 rfl ?_
  refine j_get hC hiN_M 0 (fs := [.ref q1, .ref q7]) rfl rfl 1 (by decide) (hC.2.2.2.2.1 _ (jTn_l wf_M_18)) (fun _ h9 => h9) rfl d_M_init_32 ?_
  refine j_iload_n hC d_M_init_35 rfl 1 rfl ?_
  refine j_iload_n hC d_M_init_36 rfl 1 rfl ?_
  refine j_iastN (ws' := [(a, .inr (1, [.ref q1, .ref q7])), (q1, .inr (3, [.ref q2, .ref q3, .ref q4, .ref q5, .ref q6])), (q2, .inl (k 0, (96, .inl (fun _ => 0)))), (q3, .inl (k 0, (96, .inl (fun _ => 0)))), (q4, .inl (k 0, (8, .inl (fun _ => 0)))), (q5, .inl (k 0, (8, .inl (fun _ => 0)))), (q6, .inl (k 0, (8, .inl (fun _ => 0)))), (q7, .inl (k 0, (24, .inl (upd (upd (fun _ => 0) 0 0) 1 1))))]) hC 7 0 rfl rfl (n := 1) rfl (by decide) (by decide) rfl d_M_init_37 ?_
  refine j_iinc (lv' := [(0, .ref a), (1, .int 2)]) hC d_M_init_38 1 rfl (by decide) (by decide) rfl rfl ?_
  refine j_goto (tgt := 25) hC d_M_init_41 (by decide) ?_
  refine j_iload_n hC d_M_init_25 rfl 1 rfl ?_
  refine j_bipush (v := 12) hC d_M_init_26 (by decide) ?_
  refine j_icmp_ge (tgt := 44) hC d_M_init_28 (by decide) (fun h => absurd h (by decide)) (fun _ => ?_)
  refine j_aload_n hC d_M_init_31 rfl 0 rfl ?_
  refine j_get hC hiN_M 0 (fs := [.ref q1, .ref q7]) rfl rfl 1 (by decide) (hC.2.2.2.2.1 _ (jTn_l wf_M_18)) (fun _ h9 => h9) rfl d_M_init_32 ?_
  refine j_iload_n hC d_M_init_35 rfl 1 rfl ?_
  refine j_iload_n hC d_M_init_36 rfl 1 rfl ?_
  refine j_iastN (ws' := [(a, .inr (1, [.ref q1, .ref q7])), (q1, .inr (3, [.ref q2, .ref q3, .ref q4, .ref q5, .ref q6])), (q2, .inl (k 0, (96, .inl (fun _ => 0)))), (q3, .inl (k 0, (96, .inl (fun _ => 0)))), (q4, .inl (k 0, (8, .inl (fun _ => 0)))), (q5, .inl (k 0, (8, .inl (fun _ => 0)))), (q6, .inl (k 0, (8, .inl (fun _ => 0)))), (q7, .inl (k 0, (24, .inl (upd (upd (upd (fun _ => 0) 0 0) 1 1) 2 2))))]) hC 7 0 rfl rfl (n := 2) rfl (by decide) (by decide) rfl d_M_init_37 ?_
  refine j_iinc (lv' := [(0, .ref a), (1, .int 3)]) hC d_M_init_38 1 rfl (by decide) (by decide) rfl rfl ?_
  refine j_goto (tgt := 25) hC d_M_init_41 (by decide) ?_
  refine j_iload_n hC d_M_init_25 rfl 1 rfl ?_
  refine j_bipush (v := 12) hC d_M_init_26 (by decide) ?_
  refine j_icmp_ge (tgt := 44) hC d_M_init_28 (by decide) (fun h => absurd h (by decide)) (fun _ => ?_)
  refine j_aload_n hC d_M_init_31 rfl 0 rfl ?_
  refine j_get hC hiN_M 0 (fs := [.ref q1, .ref q7]) rfl rfl 1 (by decide) (hC.2.2.2.2.1 _ (jTn_l wf_M_18)) (fun _ h9 => h9) rfl d_M_init_32 ?_
  refine j_iload_n hC d_M_init_35 rfl 1 rfl ?_
  refine j_iload_n hC d_M_init_36 rfl 1 rfl ?_
  refine j_iastN (ws' := [(a, .inr (1, [.ref q1, .ref q7])), (q1, .inr (3, [.ref q2, .ref q3, .ref q4, .ref q5, .ref q6])), (q2, .inl (k 0, (96, .inl (fun _ => 0)))), (q3, .inl (k 0, (96, .inl (fun _ => 0)))), (q4, .inl (k 0, (8, .inl (fun _ => 0)))), (q5, .inl (k 0, (8, .inl (fun _ => 0)))), (q6, .inl (k 0, (8, .inl (fun _ => 0)))), (q7, .inl (k 0, (24, .inl (upd (upd (upd (upd (fun _ => 0) 0 0) 1 1) 2 2) 3 3))))]) hC 7 0 rfl rfl (n := 3) rfl (by decide) (by decide) rfl d_M_init_37 ?_
  refine j_iinc (lv' := [(0, .ref a), (1, .int 4)]) hC d_M_init_38 1 rfl (by decide) (by decide) rfl rfl ?_
  refine j_goto (tgt := 25) hC d_M_init_41 (by decide) ?_
  refine j_iload_n hC d_M_init_25 rfl 1 rfl ?_
  refine j_bipush (v := 12) hC d_M_init_26 (by decide) ?_
  refine j_icmp_ge (tgt := 44) hC d_M_init_28 (by decide) (fun h => absurd h (by decide)) (fun _ => ?_)
  refine j_aload_n hC d_M_init_31 rfl 0 rfl ?_
  refine j_get hC hiN_M 0 (fs := [.ref q1, .ref q7]) rfl rfl 1 (by decide) (hC.2.2.2.2.1 _ (jTn_l wf_M_18)) (fun _ h9 => h9) rfl d_M_init_32 ?_
  refine j_iload_n hC d_M_init_35 rfl 1 rfl ?_
  refine j_iload_n hC d_M_init_36 rfl 1 rfl ?_
  refine j_iastN (ws' := [(a, .inr (1, [.ref q1, .ref q7])), (q1, .inr (3, [.ref q2, .ref q3, .ref q4, .ref q5, .ref q6])), (q2, .inl (k 0, (96, .inl (fun _ => 0)))), (q3, .inl (k 0, (96, .inl (fun _ => 0)))), (q4, .inl (k 0, (8, .inl (fun _ => 0)))), (q5, .inl (k 0, (8, .inl (fun _ => 0)))), (q6, .inl (k 0, (8, .inl (fun _ => 0)))), (q7, .inl (k 0, (24, .inl (upd (upd (upd (upd (upd (fun _ => 0) 0 0) 1 1) 2 2) 3 3) 4 4))))]) hC 7 0 rfl rfl (n := 4) rfl (by decide) (by decide) rfl d_M_init_37 ?_
  refine j_iinc (lv' := [(0, .ref a), (1, .int 5)]) hC d_M_init_38 1 rfl (by decide) (by decide) rfl rfl ?_
  refine j_goto (tgt := 25) hC d_M_init_41 (by decide) ?_
  refine j_iload_n hC d_M_init_25 rfl 1 rfl ?_
  refine j_bipush (v := 12) hC d_M_init_26 (by decide) ?_
  refine j_icmp_ge (tgt := 44) hC d_M_init_28 (by decide) (fun h => absurd h (by decide)) (fun _ => ?_)
  refine j_aload_n hC d_M_init_31 rfl 0 rfl ?_
  refine j_get hC hiN_M 0 (fs := [.ref q1, .ref q7]) rfl rfl 1 (by decide) (hC.2.2.2.2.1 _ (jTn_l wf_M_18)) (fun _ h9 => h9) rfl d_M_init_32 ?_
  refine j_iload_n hC d_M_init_35 rfl 1 rfl ?_
  refine j_iload_n hC d_M_init_36 rfl 1 rfl ?_
  refine j_iastN (ws' := [(a, .inr (1, [.ref q1, .ref q7])), (q1, .inr (3, [.ref q2, .ref q3, .ref q4, .ref q5, .ref q6])), (q2, .inl (k 0, (96, .inl (fun _ => 0)))), (q3, .inl (k 0, (96, .inl (fun _ => 0)))), (q4, .inl (k 0, (8, .inl (fun _ => 0)))), (q5, .inl (k 0, (8, .inl (fun _ => 0)))), (q6, .inl (k 0, (8, .inl (fun _ => 0)))), (q7, .inl (k 0, (24, .inl (upd (upd (upd (upd (upd (upd (fun _ => 0) 0 0) 1 1) 2 2) 3 3) 4 4) 5 5))))]) hC 7 0 rfl rfl (n := 5) rfl (by decide) (by decide) rfl d_M_init_37 ?_
  refine j_iinc (lv' := [(0, .ref a), (1, .int 6)]) hC d_M_init_38 1 rfl (by decide) (by decide) rfl rfl ?_
  refine j_goto (tgt := 25) hC d_M_init_41 (by decide) ?_
  refine j_iload_n hC d_M_init_25 rfl 1 rfl ?_
  refine j_bipush (v := 12) hC d_M_init_26 (by decide) ?_
  refine j_icmp_ge (tgt := 44) hC d_M_init_28 (by decide) (fun h => absurd h (by decide)) (fun _ => ?_)
  refine j_aload_n hC d_M_init_31 rfl 0 rfl ?_
  refine j_get hC hiN_M 0 (fs := [.ref q1, .ref q7]) rfl rfl 1 (by decide) (hC.2.2.2.2.1 _ (jTn_l wf_M_18)) (fun _ h9 => h9) rfl d_M_init_32 ?_
  refine j_iload_n hC d_M_init_35 rfl 1 rfl ?_
  refine j_iload_n hC d_M_init_36 rfl 1 rfl ?_
  refine j_iastN (ws' := [(a, .inr (1, [.ref q1, .ref q7])), (q1, .inr (3, [.ref q2, .ref q3, .ref q4, .ref q5, .ref q6])), (q2, .inl (k 0, (96, .inl (fun _ => 0)))), (q3, .inl (k 0, (96, .inl (fun _ => 0)))), (q4, .inl (k 0, (8, .inl (fun _ => 0)))), (q5, .inl (k 0, (8, .inl (fun _ => 0)))), (q6, .inl (k 0, (8, .inl (fun _ => 0)))), (q7, .inl (k 0, (24, .inl (upd (upd (upd (upd (upd (upd (upd (fun _ => 0) 0 0) 1 1) 2 2) 3 3) 4 4) 5 5) 6 6))))]) hC 7 0 rfl rfl (n := 6) rfl (by decide) (by decide) rfl d_M_init_37 ?_
  refine j_iinc (lv' := [(0, .ref a), (1, .int 7)]) hC d_M_init_38 1 rfl (by decide) (by decide) rfl rfl ?_
  refine j_goto (tgt := 25) hC d_M_init_41 (by decide) ?_
  refine j_iload_n hC d_M_init_25 rfl 1 rfl ?_
  refine j_bipush (v := 12) hC d_M_init_26 (by decide) ?_
  refine j_icmp_ge (tgt := 44) hC d_M_init_28 (by decide) (fun h => absurd h (by decide)) (fun _ => ?_)
  refine j_aload_n hC d_M_init_31 rfl 0 rfl ?_
  refine j_get hC hiN_M 0 (fs := [.ref q1, .ref q7]) rfl rfl 1 (by decide) (hC.2.2.2.2.1 _ (jTn_l wf_M_18)) (fun _ h9 => h9) rfl d_M_init_32 ?_
  refine j_iload_n hC d_M_init_35 rfl 1 rfl ?_
  refine j_iload_n hC d_M_init_36 rfl 1 rfl ?_
  refine j_iastN (ws' := [(a, .inr (1, [.ref q1, .ref q7])), (q1, .inr (3, [.ref q2, .ref q3, .ref q4, .ref q5, .ref q6])), (q2, .inl (k 0, (96, .inl (fun _ => 0)))), (q3, .inl (k 0, (96, .inl (fun _ => 0)))), (q4, .inl (k 0, (8, .inl (fun _ => 0)))), (q5, .inl (k 0, (8, .inl (fun _ => 0)))), (q6, .inl (k 0, (8, .inl (fun _ => 0)))), (q7, .inl (k 0, (24, .inl (upd (upd (upd (upd (upd (upd (upd (upd (fun _ => 0) 0 0) 1 1) 2 2) 3 3) 4 4) 5 5) 6 6) 7 7))))]) hC 7 0 rfl rfl (n := 7) rfl (by decide) (by decide) rfl d_M_init_37 ?_
  refine j_iinc (lv' := [(0, .ref a), (1, .int 8)]) hC d_M_init_38 1 rfl (by decide) (by decide) rfl rfl ?_
  refine j_goto (tgt := 25) hC d_M_init_41 (by decide) ?_
  refine j_iload_n hC d_M_init_25 rfl 1 rfl ?_
  refine j_bipush (v := 12) hC d_M_init_26 (by decide) ?_
  refine j_icmp_ge (tgt := 44) hC d_M_init_28 (by decide) (fun h => absurd h (by decide)) (fun _ => ?_)
  refine j_aload_n hC d_M_init_31 rfl 0 rfl ?_
  refine j_get hC hiN_M 0 (fs := [.ref q1, .ref q7]) rfl rfl 1 (by decide) (hC.2.2.2.2.1 _ (jTn_l wf_M_18)) (fun _ h9 => h9) rfl d_M_init_32 ?_
  refine j_iload_n hC d_M_init_35 rfl 1 rfl ?_
  refine j_iload_n hC d_M_init_36 rfl 1 rfl ?_
  refine j_iastN (ws' := [(a, .inr (1, [.ref q1, .ref q7])), (q1, .inr (3, [.ref q2, .ref q3, .ref q4, .ref q5, .ref q6])), (q2, .inl (k 0, (96, .inl (fun _ => 0)))), (q3, .inl (k 0, (96, .inl (fun _ => 0)))), (q4, .inl (k 0, (8, .inl (fun _ => 0)))), (q5, .inl (k 0, (8, .inl (fun _ => 0)))), (q6, .inl (k 0, (8, .inl (fun _ => 0)))), (q7, .inl (k 0, (24, .inl (upd (upd (upd (upd (upd (upd (upd (upd (upd (fun _ => 0) 0 0) 1 1) 2 2) 3 3) 4 4) 5 5) 6 6) 7 7) 8 8))))]) hC 7 0 rfl rfl (n := 8) rfl (by decide) (by decide) rfl d_M_init_37 ?_
  refine j_iinc (lv' := [(0, .ref a), (1, .int 9)]) hC d_M_init_38 1 rfl (by decide) (by decide) rfl rfl ?_
  refine j_goto (tgt := 25) hC d_M_init_41 (by decide) ?_
  refine j_iload_n hC d_M_init_25 rfl 1 rfl ?_
  refine j_bipush (v := 12) hC d_M_init_26 (by decide) ?_
  refine j_icmp_ge (tgt := 44) hC d_M_init_28 (by decide) (fun h => absurd h (by decide)) (fun _ => ?_)
  refine j_aload_n hC d_M_init_31 rfl 0 rfl ?_
  refine j_get hC hiN_M 0 (fs := [.ref q1, .ref q7]) rfl rfl 1 (by decide) (hC.2.2.2.2.1 _ (jTn_l wf_M_18)) (fun _ h9 => h9) rfl d_M_init_32 ?_
  refine j_iload_n hC d_M_init_35 rfl 1 rfl ?_
  refine j_iload_n hC d_M_init_36 rfl 1 rfl ?_
  refine j_iastN (ws' := [(a, .inr (1, [.ref q1, .ref q7])), (q1, .inr (3, [.ref q2, .ref q3, .ref q4, .ref q5, .ref q6])), (q2, .inl (k 0, (96, .inl (fun _ => 0)))), (q3, .inl (k 0, (96, .inl (fun _ => 0)))), (q4, .inl (k 0, (8, .inl (fun _ => 0)))), (q5, .inl (k 0, (8, .inl (fun _ => 0)))), (q6, .inl (k 0, (8, .inl (fun _ => 0)))), (q7, .inl (k 0, (24, .inl (upd (upd (upd (upd (upd (upd (upd (upd (upd (upd (fun _ => 0) 0 0) 1 1) 2 2) 3 3) 4 4) 5 5) 6 6) 7 7) 8 8) 9 9))))]) hC 7 0 rfl rfl (n := 9) rfl (by decide) (by decide) rfl d_M_init_37 ?_
  refine j_iinc (lv' := [(0, .ref a), (1, .int 10)]) hC d_M_init_38 1 rfl (by decide) (by decide) rfl rfl ?_
  refine j_goto (tgt := 25) hC d_M_init_41 (by decide) ?_
  refine j_iload_n hC d_M_init_25 rfl 1 rfl ?_
  refine j_bipush (v := 12) hC d_M_init_26 (by decide) ?_
  refine j_icmp_ge (tgt := 44) hC d_M_init_28 (by decide) (fun h => absurd h (by decide)) (fun _ => ?_)
  refine j_aload_n hC d_M_init_31 rfl 0 rfl ?_
  refine j_get hC hiN_M 0 (fs := [.ref q1, .ref q7]) rfl rfl 1 (by decide) (hC.2.2.2.2.1 _ (jTn_l wf_M_18)) (fun _ h9 => h9) rfl d_M_init_32 ?_
  refine j_iload_n hC d_M_init_35 rfl 1 rfl ?_
  refine j_iload_n hC d_M_init_36 rfl 1 rfl ?_
  refine j_iastN (ws' := [(a, .inr (1, [.ref q1, .ref q7])), (q1, .inr (3, [.ref q2, .ref q3, .ref q4, .ref q5, .ref q6])), (q2, .inl (k 0, (96, .inl (fun _ => 0)))), (q3, .inl (k 0, (96, .inl (fun _ => 0)))), (q4, .inl (k 0, (8, .inl (fun _ => 0)))), (q5, .inl (k 0, (8, .inl (fun _ => 0)))), (q6, .inl (k 0, (8, .inl (fun _ => 0)))), (q7, .inl (k 0, (24, .inl (upd (upd (upd (upd (upd (upd (upd (upd (upd (upd (upd (fun _ => 0) 0 0) 1 1) 2 2) 3 3) 4 4) 5 5) 6 6) 7 7) 8 8) 9 9) 10 10))))]) hC 7 0 rfl rfl (n := 10) rfl (by decide) (by decide) rfl d_M_init_37 ?_
  refine j_iinc (lv' := [(0, .ref a), (1, .int 11)]) hC d_M_init_38 1 rfl (by decide) (by decide) rfl rfl ?_
  refine j_goto (tgt := 25) hC d_M_init_41 (by decide) ?_
  refine j_iload_n hC d_M_init_25 rfl 1 rfl ?_
  refine j_bipush (v := 12) hC d_M_init_26 (by decide) ?_
  refine j_icmp_ge (tgt := 44) hC d_M_init_28 (by decide) (fun h => absurd h (by decide)) (fun _ => ?_)
  refine j_aload_n hC d_M_init_31 rfl 0 rfl ?_
  refine j_get hC hiN_M 0 (fs := [.ref q1, .ref q7]) rfl rfl 1 (by decide) (hC.2.2.2.2.1 _ (jTn_l wf_M_18)) (fun _ h9 => h9) rfl d_M_init_32 ?_
  refine j_iload_n hC d_M_init_35 rfl 1 rfl ?_
  refine j_iload_n hC d_M_init_36 rfl 1 rfl ?_
  refine j_iastN (ws' := [(a, .inr (1, [.ref q1, .ref q7])), (q1, .inr (3, [.ref q2, .ref q3, .ref q4, .ref q5, .ref q6])), (q2, .inl (k 0, (96, .inl (fun _ => 0)))), (q3, .inl (k 0, (96, .inl (fun _ => 0)))), (q4, .inl (k 0, (8, .inl (fun _ => 0)))), (q5, .inl (k 0, (8, .inl (fun _ => 0)))), (q6, .inl (k 0, (8, .inl (fun _ => 0)))), (q7, .inl (k 0, (24, .inl (upd (upd (upd (upd (upd (upd (upd (upd (upd (upd (upd (upd (fun _ => 0) 0 0) 1 1) 2 2) 3 3) 4 4) 5 5) 6 6) 7 7) 8 8) 9 9) 10 10) 11 11))))]) hC 7 0 rfl rfl (n := 11) rfl (by decide) (by decide) rfl d_M_init_37 ?_
  refine j_iinc (lv' := [(0, .ref a), (1, .int 12)]) hC d_M_init_38 1 rfl (by decide) (by decide) rfl rfl ?_
  refine j_goto (tgt := 25) hC d_M_init_41 (by decide) ?_
  refine j_iload_n hC d_M_init_25 rfl 1 rfl ?_
  refine j_bipush (v := 12) hC d_M_init_26 (by decide) ?_
  refine j_icmp_ge (tgt := 44) hC d_M_init_28 (by decide) (fun _ => ?_) (fun h => absurd h (by decide))
  exact j_vret hC hr ⟨rfl, rfl, q1, q2, q3, q4, q5, q6, q7, rfl⟩ d_M_init_44

set_option maxHeartbeats 1000000 in
set_option maxRecDepth 100000 in
theorem i_R (l : Launch) (dC : Nat → ClassId) (dI : Nat → Nat → Nat) (k : Nat → Nat) (a : Nat) : jMet l y_R_init (.code y_R_init c_R_init 2 none) ({ frames := 2, cells := 6, slots := 24, locals := 32 }) (dC, dI) jcl (ltys k) jTn [.ref a] [(a, .inr (2, [.null, .null, .int 0, .int 0, .int 0, .int 0]))] 6 24 (jN (fun w => ∃ q1 q2 q3 q4 q5 q6 : Nat, w = [(a, .inr (2, [.ref q1, .ref q2, .int 0, .int 0, .int 0, .int 0])), (q1, .inr (0, [.int 0, .int 0, .int 0, .int 0])), (q2, .inl (k 1, (4, .inr (.inr (.inr (.inr (va_up (va_up (va_up (va_up (fun _ => none) (Int32.toNatClampNeg 0) (some q3)) (Int32.toNatClampNeg 1) (some q4)) (Int32.toNatClampNeg 2) (some q5)) (Int32.toNatClampNeg 3) (some q6)))))))), (q3, .inr (0, [.int 0, .int 0, .int 0, .int 0])), (q4, .inr (0, [.int 0, .int 0, .int 0, .int 0])), (q5, .inr (0, [.int 0, .int 0, .int 0, .int 0])), (q6, .inr (0, [.int 0, .int 0, .int 0, .int 0]))])) := by
  refine jMet.of (by decide) (Nat.le_of_ble_eq_true rfl) ?_
  intro p e s m below meth c A hC hex hr hnm htr
  show jJ p l e ({ frames := 2, cells := 6, slots := 24, locals := 32 }) s m [.ref a].toArray below meth c 2 (dC, dI) jcl A (hxQ below (jQ (dC, dI) jcl (jN (fun w => ∃ q1 q2 q3 q4 q5 q6 : Nat, w = [(a, .inr (2, [.ref q1, .ref q2, .int 0, .int 0, .int 0, .int 0])), (q1, .inr (0, [.int 0, .int 0, .int 0, .int 0])), (q2, .inl (k 1, (4, .inr (.inr (.inr (.inr (va_up (va_up (va_up (va_up (fun _ => none) (Int32.toNatClampNeg 0) (some q3)) (Int32.toNatClampNeg 1) (some q4)) (Int32.toNatClampNeg 2) (some q5)) (Int32.toNatClampNeg 3) (some q6)))))))), (q3, .inr (0, [.int 0, .int 0, .int 0, .int 0])), (q4, .inr (0, [.int 0, .int 0, .int 0, .int 0])), (q5, .inr (0, [.int 0, .int 0, .int 0, .int 0])), (q6, .inr (0, [.int 0, .int 0, .int 0, .int 0]))])) A) [.ref a].toArray s 6 24 A) 0 0 [(a, .inr (2, [.null, .null, .int 0, .int 0, .int 0, .int 0]))] [(0, .ref a)] [] 0
  refine j_aload_n hC d_R_init_0 rfl 0 rfl ?_
  refine j_objInit hC woi_R d_R_init_1 (by decide) (by decide) ?_
  refine j_aload_n hC d_R_init_4 rfl 0 rfl ?_
  refine j_new hC hiN_A tyX0 tyX0_ok wn_R_9 (ci := 0) rfl (fs := [.int 0, .int 0, .int 0, .int 0]) (by decide) (by decide) d_R_init_5 (fun q1 => ?_)
  refine j_dup hC d_R_init_8 rfl ?_
  refine j_swap (a := [(a, .inr (2, [.null, .null, .int 0, .int 0, .int 0, .int 0]))]) (b := [(q1, .inr (0, [.int 0, .int 0, .int 0, .int 0]))]) ?_
  refine j_callIN (As := []) (rest := [.ref q1, .ref a]) hC ((i_A l dC dI k q1).frameN [(a, .inr (2, [.null, .null, .int 0, .int 0, .int 0, .int 0]))]) rfl rfl rfl wi_R_11 yn_A_init rfl d_R_init_9 (Nat.le_of_ble_eq_true rfl) (by decide) (by decide) (fun w h => ?_)
  obtain ⟨w0, rfl, rfl⟩ := h
  refine j_swap ?_
  show jJ p l e ({ frames := 2, cells := 6, slots := 24, locals := 32 }) s m [.ref a].toArray below meth c 2 (dC, dI) jcl A (hxQ below (jQ (dC, dI) jcl (jN (fun w => ∃ q1 q2 q3 q4 q5 q6 : Nat, w = [(a, .inr (2, [.ref q1, .ref q2, .int 0, .int 0, .int 0, .int 0])), (q1, .inr (0, [.int 0, .int 0, .int 0, .int 0])), (q2, .inl (k 1, (4, .inr (.inr (.inr (.inr (va_up (va_up (va_up (va_up (fun _ => none) (Int32.toNatClampNeg 0) (some q3)) (Int32.toNatClampNeg 1) (some q4)) (Int32.toNatClampNeg 2) (some q5)) (Int32.toNatClampNeg 3) (some q6)))))))), (q3, .inr (0, [.int 0, .int 0, .int 0, .int 0])), (q4, .inr (0, [.int 0, .int 0, .int 0, .int 0])), (q5, .inr (0, [.int 0, .int 0, .int 0, .int 0])), (q6, .inr (0, [.int 0, .int 0, .int 0, .int 0]))])) A) [.ref a].toArray s 6 24 A) 1 4 [(a, .inr (2, [.null, .null, .int 0, .int 0, .int 0, .int 0])), (q1, .inr (0, [.int 0, .int 0, .int 0, .int 0]))] [(0, .ref a)] [.ref q1, .ref a] 12
  refine j_putF (ty := tyX2 0) (ws' := [(a, .inr (2, [.ref q1, .null, .int 0, .int 0, .int 0, .int 0])), (q1, .inr (0, [.int 0, .int 0, .int 0, .int 0]))]) hC hiN_R tyX2 tyX2_ok nmX2 0 (fs := [.null, .null, .int 0, .int 0, .int 0, .int 0]) rfl rfl 0 (by decide) (hC.2.2.2.2.1 _ (jTn_l wf_R_12)) (fun _ h9 => h9) rfl hnm rfl (tyX2_ok 0 (by decide)) rfl rfl (Nat.le_of_ble_eq_true rfl) rfl d_R_init_12 ?_
  refine j_aload_n hC d_R_init_15 rfl 0 rfl ?_
  refine j_iconst (v := 4) hC d_R_init_16 (by decide) ?_
  refine j_newq hC wq_R_9 1 rfl (N := 4) (by decide) (by decide) (by decide) (by decide) d_R_init_17 (fun q2 => ?_)
  refine j_putF (ty := tyX2 1) (ws' := [(a, .inr (2, [.ref q1, .ref q2, .int 0, .int 0, .int 0, .int 0])), (q1, .inr (0, [.int 0, .int 0, .int 0, .int 0])), (q2, .inl (k 1, (4, .inr (.inr (.inr (.inr (fun _ => none)))))))]) hC hiN_R tyX2 tyX2_ok nmX2 0 (fs := [.ref q1, .null, .int 0, .int 0, .int 0, .int 0]) rfl rfl 1 (by decide) (hC.2.2.2.2.1 _ (jTn_l wf_R_18)) (fun _ h9 => h9) rfl hnm rfl (tyX2_ok 1 (by decide)) rfl rfl (Nat.le_of_ble_eq_true rfl) rfl d_R_init_20 ?_
  refine j_iconst (v := 0) hC d_R_init_23 (by decide) ?_
  refine j_istore_n (lv' := [(0, .ref a), (1, .int 0)]) hC d_R_init_24 rfl (by decide) rfl rfl ?_
  refine j_iload_n hC d_R_init_25 rfl 1 rfl ?_
  refine j_iconst (v := 4) hC d_R_init_26 (by decide) ?_
  refine j_icmp_ge (tgt := 49) hC d_R_init_27 (by decide) (fun h => absurd h (by decide)) (fun _ => ?_)
  refine j_aload_n hC d_R_init_30 rfl 0 rfl ?_
  refine j_get hC hiN_R 0 (fs := [.ref q1, .ref q2, .int 0, .int 0, .int 0, .int 0]) rfl rfl 1 (by decide) (hC.2.2.2.2.1 _ (jTn_l wf_R_18)) (fun _ h9 => h9) rfl d_R_init_31 ?_
  refine j_iload_n hC d_R_init_34 rfl 1 rfl ?_
  refine j_new hC hiN_A tyX0 tyX0_ok wn_R_9 (ci := 0) rfl (fs := [.int 0, .int 0, .int 0, .int 0]) (by decide) (by decide) d_R_init_35 (fun q3 => ?_)
  refine j_dup hC d_R_init_38 rfl ?_
  refine j_swap (a := [(a, .inr (2, [.ref q1, .ref q2, .int 0, .int 0, .int 0, .int 0])), (q1, .inr (0, [.int 0, .int 0, .int 0, .int 0])), (q2, .inl (k 1, (4, .inr (.inr (.inr (.inr (fun _ => none)))))))]) (b := [(q3, .inr (0, [.int 0, .int 0, .int 0, .int 0]))]) ?_
  refine j_callIN (As := []) (rest := [.ref q3, .int 0, .ref q2]) hC ((i_A l dC dI k q3).frameN [(a, .inr (2, [.ref q1, .ref q2, .int 0, .int 0, .int 0, .int 0])), (q1, .inr (0, [.int 0, .int 0, .int 0, .int 0])), (q2, .inl (k 1, (4, .inr (.inr (.inr (.inr (fun _ => none)))))))]) rfl rfl rfl wi_R_11 yn_A_init rfl d_R_init_39 (Nat.le_of_ble_eq_true rfl) (by decide) (by decide) (fun w h => ?_)
  obtain ⟨w0, rfl, rfl⟩ := h
  refine j_swap ?_
  show jJ p l e ({ frames := 2, cells := 6, slots := 24, locals := 32 }) s m [.ref a].toArray below meth c 2 (dC, dI) jcl A (hxQ below (jQ (dC, dI) jcl (jN (fun w => ∃ q1 q2 q3 q4 q5 q6 : Nat, w = [(a, .inr (2, [.ref q1, .ref q2, .int 0, .int 0, .int 0, .int 0])), (q1, .inr (0, [.int 0, .int 0, .int 0, .int 0])), (q2, .inl (k 1, (4, .inr (.inr (.inr (.inr (va_up (va_up (va_up (va_up (fun _ => none) (Int32.toNatClampNeg 0) (some q3)) (Int32.toNatClampNeg 1) (some q4)) (Int32.toNatClampNeg 2) (some q5)) (Int32.toNatClampNeg 3) (some q6)))))))), (q3, .inr (0, [.int 0, .int 0, .int 0, .int 0])), (q4, .inr (0, [.int 0, .int 0, .int 0, .int 0])), (q5, .inr (0, [.int 0, .int 0, .int 0, .int 0])), (q6, .inr (0, [.int 0, .int 0, .int 0, .int 0]))])) A) [.ref a].toArray s 6 24 A) 3 12 [(a, .inr (2, [.ref q1, .ref q2, .int 0, .int 0, .int 0, .int 0])), (q1, .inr (0, [.int 0, .int 0, .int 0, .int 0])), (q2, .inl (k 1, (4, .inr (.inr (.inr (.inr (fun _ => none))))))), (q3, .inr (0, [.int 0, .int 0, .int 0, .int 0]))] [(0, .ref a), (1, .int 0)] [.ref q3, .int 0, .ref q2] 42
  refine j_aast (ws' := [(a, .inr (2, [.ref q1, .ref q2, .int 0, .int 0, .int 0, .int 0])), (q1, .inr (0, [.int 0, .int 0, .int 0, .int 0])), (q2, .inl (k 1, (4, .inr (.inr (.inr (.inr (va_up (fun _ => none) (Int32.toNatClampNeg 0) (some q3)))))))), (q3, .inr (0, [.int 0, .int 0, .int 0, .int 0]))]) hC 2 1 3 0 rfl rfl rfl rfl (vp_in_nI (n := 0) (by decide) (by decide)) rfl d_R_init_42 ?_
  refine j_iinc (lv' := [(0, .ref a), (1, .int 1)]) hC d_R_init_43 1 rfl (by decide) (by decide) rfl rfl ?_
  refine j_goto (tgt := 25) hC d_R_init_46 (by decide) ?_
  refine j_iload_n hC d_R_init_25 rfl 1 rfl ?_
  refine j_iconst (v := 4) hC d_R_init_26 (by decide) ?_
  refine j_icmp_ge (tgt := 49) hC d_R_init_27 (by decide) (fun h => absurd h (by decide)) (fun _ => ?_)
  refine j_aload_n hC d_R_init_30 rfl 0 rfl ?_
  refine j_get hC hiN_R 0 (fs := [.ref q1, .ref q2, .int 0, .int 0, .int 0, .int 0]) rfl rfl 1 (by decide) (hC.2.2.2.2.1 _ (jTn_l wf_R_18)) (fun _ h9 => h9) rfl d_R_init_31 ?_
  refine j_iload_n hC d_R_init_34 rfl 1 rfl ?_
  refine j_new hC hiN_A tyX0 tyX0_ok wn_R_9 (ci := 0) rfl (fs := [.int 0, .int 0, .int 0, .int 0]) (by decide) (by decide) d_R_init_35 (fun q4 => ?_)
  refine j_dup hC d_R_init_38 rfl ?_
  refine j_swap (a := [(a, .inr (2, [.ref q1, .ref q2, .int 0, .int 0, .int 0, .int 0])), (q1, .inr (0, [.int 0, .int 0, .int 0, .int 0])), (q2, .inl (k 1, (4, .inr (.inr (.inr (.inr (va_up (fun _ => none) (Int32.toNatClampNeg 0) (some q3)))))))), (q3, .inr (0, [.int 0, .int 0, .int 0, .int 0]))]) (b := [(q4, .inr (0, [.int 0, .int 0, .int 0, .int 0]))]) ?_
  refine j_callIN (As := []) (rest := [.ref q4, .int 1, .ref q2]) hC ((i_A l dC dI k q4).frameN [(a, .inr (2, [.ref q1, .ref q2, .int 0, .int 0, .int 0, .int 0])), (q1, .inr (0, [.int 0, .int 0, .int 0, .int 0])), (q2, .inl (k 1, (4, .inr (.inr (.inr (.inr (va_up (fun _ => none) (Int32.toNatClampNeg 0) (some q3)))))))), (q3, .inr (0, [.int 0, .int 0, .int 0, .int 0]))]) rfl rfl rfl wi_R_11 yn_A_init rfl d_R_init_39 (Nat.le_of_ble_eq_true rfl) (by decide) (by decide) (fun w h => ?_)
  obtain ⟨w0, rfl, rfl⟩ := h
  refine j_swap ?_
  show jJ p l e ({ frames := 2, cells := 6, slots := 24, locals := 32 }) s m [.ref a].toArray below meth c 2 (dC, dI) jcl A (hxQ below (jQ (dC, dI) jcl (jN (fun w => ∃ q1 q2 q3 q4 q5 q6 : Nat, w = [(a, .inr (2, [.ref q1, .ref q2, .int 0, .int 0, .int 0, .int 0])), (q1, .inr (0, [.int 0, .int 0, .int 0, .int 0])), (q2, .inl (k 1, (4, .inr (.inr (.inr (.inr (va_up (va_up (va_up (va_up (fun _ => none) (Int32.toNatClampNeg 0) (some q3)) (Int32.toNatClampNeg 1) (some q4)) (Int32.toNatClampNeg 2) (some q5)) (Int32.toNatClampNeg 3) (some q6)))))))), (q3, .inr (0, [.int 0, .int 0, .int 0, .int 0])), (q4, .inr (0, [.int 0, .int 0, .int 0, .int 0])), (q5, .inr (0, [.int 0, .int 0, .int 0, .int 0])), (q6, .inr (0, [.int 0, .int 0, .int 0, .int 0]))])) A) [.ref a].toArray s 6 24 A) 4 16 [(a, .inr (2, [.ref q1, .ref q2, .int 0, .int 0, .int 0, .int 0])), (q1, .inr (0, [.int 0, .int 0, .int 0, .int 0])), (q2, .inl (k 1, (4, .inr (.inr (.inr (.inr (va_up (fun _ => none) (Int32.toNatClampNeg 0) (some q3)))))))), (q3, .inr (0, [.int 0, .int 0, .int 0, .int 0])), (q4, .inr (0, [.int 0, .int 0, .int 0, .int 0]))] [(0, .ref a), (1, .int 1)] [.ref q4, .int 1, .ref q2] 42
  refine j_aast (ws' := [(a, .inr (2, [.ref q1, .ref q2, .int 0, .int 0, .int 0, .int 0])), (q1, .inr (0, [.int 0, .int 0, .int 0, .int 0])), (q2, .inl (k 1, (4, .inr (.inr (.inr (.inr (va_up (va_up (fun _ => none) (Int32.toNatClampNeg 0) (some q3)) (Int32.toNatClampNeg 1) (some q4)))))))), (q3, .inr (0, [.int 0, .int 0, .int 0, .int 0])), (q4, .inr (0, [.int 0, .int 0, .int 0, .int 0]))]) hC 2 1 4 0 rfl rfl rfl rfl (vp_in_nI (n := 1) (by decide) (by decide)) rfl d_R_init_42 ?_
  refine j_iinc (lv' := [(0, .ref a), (1, .int 2)]) hC d_R_init_43 1 rfl (by decide) (by decide) rfl rfl ?_
  refine j_goto (tgt := 25) hC d_R_init_46 (by decide) ?_
  refine j_iload_n hC d_R_init_25 rfl 1 rfl ?_
  refine j_iconst (v := 4) hC d_R_init_26 (by decide) ?_
  refine j_icmp_ge (tgt := 49) hC d_R_init_27 (by decide) (fun h => absurd h (by decide)) (fun _ => ?_)
  refine j_aload_n hC d_R_init_30 rfl 0 rfl ?_
  refine j_get hC hiN_R 0 (fs := [.ref q1, .ref q2, .int 0, .int 0, .int 0, .int 0]) rfl rfl 1 (by decide) (hC.2.2.2.2.1 _ (jTn_l wf_R_18)) (fun _ h9 => h9) rfl d_R_init_31 ?_
  refine j_iload_n hC d_R_init_34 rfl 1 rfl ?_
  refine j_new hC hiN_A tyX0 tyX0_ok wn_R_9 (ci := 0) rfl (fs := [.int 0, .int 0, .int 0, .int 0]) (by decide) (by decide) d_R_init_35 (fun q5 => ?_)
  refine j_dup hC d_R_init_38 rfl ?_
  refine j_swap (a := [(a, .inr (2, [.ref q1, .ref q2, .int 0, .int 0, .int 0, .int 0])), (q1, .inr (0, [.int 0, .int 0, .int 0, .int 0])), (q2, .inl (k 1, (4, .inr (.inr (.inr (.inr (va_up (va_up (fun _ => none) (Int32.toNatClampNeg 0) (some q3)) (Int32.toNatClampNeg 1) (some q4)))))))), (q3, .inr (0, [.int 0, .int 0, .int 0, .int 0])), (q4, .inr (0, [.int 0, .int 0, .int 0, .int 0]))]) (b := [(q5, .inr (0, [.int 0, .int 0, .int 0, .int 0]))]) ?_
  refine j_callIN (As := []) (rest := [.ref q5, .int 2, .ref q2]) hC ((i_A l dC dI k q5).frameN [(a, .inr (2, [.ref q1, .ref q2, .int 0, .int 0, .int 0, .int 0])), (q1, .inr (0, [.int 0, .int 0, .int 0, .int 0])), (q2, .inl (k 1, (4, .inr (.inr (.inr (.inr (va_up (va_up (fun _ => none) (Int32.toNatClampNeg 0) (some q3)) (Int32.toNatClampNeg 1) (some q4)))))))), (q3, .inr (0, [.int 0, .int 0, .int 0, .int 0])), (q4, .inr (0, [.int 0, .int 0, .int 0, .int 0]))]) rfl rfl rfl wi_R_11 yn_A_init rfl d_R_init_39 (Nat.le_of_ble_eq_true rfl) (by decide) (by decide) (fun w h => ?_)
  obtain ⟨w0, rfl, rfl⟩ := h
  refine j_swap ?_
  show jJ p l e ({ frames := 2, cells := 6, slots := 24, locals := 32 }) s m [.ref a].toArray below meth c 2 (dC, dI) jcl A (hxQ below (jQ (dC, dI) jcl (jN (fun w => ∃ q1 q2 q3 q4 q5 q6 : Nat, w = [(a, .inr (2, [.ref q1, .ref q2, .int 0, .int 0, .int 0, .int 0])), (q1, .inr (0, [.int 0, .int 0, .int 0, .int 0])), (q2, .inl (k 1, (4, .inr (.inr (.inr (.inr (va_up (va_up (va_up (va_up (fun _ => none) (Int32.toNatClampNeg 0) (some q3)) (Int32.toNatClampNeg 1) (some q4)) (Int32.toNatClampNeg 2) (some q5)) (Int32.toNatClampNeg 3) (some q6)))))))), (q3, .inr (0, [.int 0, .int 0, .int 0, .int 0])), (q4, .inr (0, [.int 0, .int 0, .int 0, .int 0])), (q5, .inr (0, [.int 0, .int 0, .int 0, .int 0])), (q6, .inr (0, [.int 0, .int 0, .int 0, .int 0]))])) A) [.ref a].toArray s 6 24 A) 5 20 [(a, .inr (2, [.ref q1, .ref q2, .int 0, .int 0, .int 0, .int 0])), (q1, .inr (0, [.int 0, .int 0, .int 0, .int 0])), (q2, .inl (k 1, (4, .inr (.inr (.inr (.inr (va_up (va_up (fun _ => none) (Int32.toNatClampNeg 0) (some q3)) (Int32.toNatClampNeg 1) (some q4)))))))), (q3, .inr (0, [.int 0, .int 0, .int 0, .int 0])), (q4, .inr (0, [.int 0, .int 0, .int 0, .int 0])), (q5, .inr (0, [.int 0, .int 0, .int 0, .int 0]))] [(0, .ref a), (1, .int 2)] [.ref q5, .int 2, .ref q2] 42
  refine j_aast (ws' := [(a, .inr (2, [.ref q1, .ref q2, .int 0, .int 0, .int 0, .int 0])), (q1, .inr (0, [.int 0, .int 0, .int 0, .int 0])), (q2, .inl (k 1, (4, .inr (.inr (.inr (.inr (va_up (va_up (va_up (fun _ => none) (Int32.toNatClampNeg 0) (some q3)) (Int32.toNatClampNeg 1) (some q4)) (Int32.toNatClampNeg 2) (some q5)))))))), (q3, .inr (0, [.int 0, .int 0, .int 0, .int 0])), (q4, .inr (0, [.int 0, .int 0, .int 0, .int 0])), (q5, .inr (0, [.int 0, .int 0, .int 0, .int 0]))]) hC 2 1 5 0 rfl rfl rfl rfl (vp_in_nI (n := 2) (by decide) (by decide)) rfl d_R_init_42 ?_
  refine j_iinc (lv' := [(0, .ref a), (1, .int 3)]) hC d_R_init_43 1 rfl (by decide) (by decide) rfl rfl ?_
  refine j_goto (tgt := 25) hC d_R_init_46 (by decide) ?_
  refine j_iload_n hC d_R_init_25 rfl 1 rfl ?_
  refine j_iconst (v := 4) hC d_R_init_26 (by decide) ?_
  refine j_icmp_ge (tgt := 49) hC d_R_init_27 (by decide) (fun h => absurd h (by decide)) (fun _ => ?_)
  refine j_aload_n hC d_R_init_30 rfl 0 rfl ?_
  refine j_get hC hiN_R 0 (fs := [.ref q1, .ref q2, .int 0, .int 0, .int 0, .int 0]) rfl rfl 1 (by decide) (hC.2.2.2.2.1 _ (jTn_l wf_R_18)) (fun _ h9 => h9) rfl d_R_init_31 ?_
  refine j_iload_n hC d_R_init_34 rfl 1 rfl ?_
  refine j_new hC hiN_A tyX0 tyX0_ok wn_R_9 (ci := 0) rfl (fs := [.int 0, .int 0, .int 0, .int 0]) (by decide) (by decide) d_R_init_35 (fun q6 => ?_)
  refine j_dup hC d_R_init_38 rfl ?_
  refine j_swap (a := [(a, .inr (2, [.ref q1, .ref q2, .int 0, .int 0, .int 0, .int 0])), (q1, .inr (0, [.int 0, .int 0, .int 0, .int 0])), (q2, .inl (k 1, (4, .inr (.inr (.inr (.inr (va_up (va_up (va_up (fun _ => none) (Int32.toNatClampNeg 0) (some q3)) (Int32.toNatClampNeg 1) (some q4)) (Int32.toNatClampNeg 2) (some q5)))))))), (q3, .inr (0, [.int 0, .int 0, .int 0, .int 0])), (q4, .inr (0, [.int 0, .int 0, .int 0, .int 0])), (q5, .inr (0, [.int 0, .int 0, .int 0, .int 0]))]) (b := [(q6, .inr (0, [.int 0, .int 0, .int 0, .int 0]))]) ?_
  refine j_callIN (As := []) (rest := [.ref q6, .int 3, .ref q2]) hC ((i_A l dC dI k q6).frameN [(a, .inr (2, [.ref q1, .ref q2, .int 0, .int 0, .int 0, .int 0])), (q1, .inr (0, [.int 0, .int 0, .int 0, .int 0])), (q2, .inl (k 1, (4, .inr (.inr (.inr (.inr (va_up (va_up (va_up (fun _ => none) (Int32.toNatClampNeg 0) (some q3)) (Int32.toNatClampNeg 1) (some q4)) (Int32.toNatClampNeg 2) (some q5)))))))), (q3, .inr (0, [.int 0, .int 0, .int 0, .int 0])), (q4, .inr (0, [.int 0, .int 0, .int 0, .int 0])), (q5, .inr (0, [.int 0, .int 0, .int 0, .int 0]))]) rfl rfl rfl wi_R_11 yn_A_init rfl d_R_init_39 (Nat.le_of_ble_eq_true rfl) (by decide) (by decide) (fun w h => ?_)
  obtain ⟨w0, rfl, rfl⟩ := h
  refine j_swap ?_
  show jJ p l e ({ frames := 2, cells := 6, slots := 24, locals := 32 }) s m [.ref a].toArray below meth c 2 (dC, dI) jcl A (hxQ below (jQ (dC, dI) jcl (jN (fun w => ∃ q1 q2 q3 q4 q5 q6 : Nat, w = [(a, .inr (2, [.ref q1, .ref q2, .int 0, .int 0, .int 0, .int 0])), (q1, .inr (0, [.int 0, .int 0, .int 0, .int 0])), (q2, .inl (k 1, (4, .inr (.inr (.inr (.inr (va_up (va_up (va_up (va_up (fun _ => none) (Int32.toNatClampNeg 0) (some q3)) (Int32.toNatClampNeg 1) (some q4)) (Int32.toNatClampNeg 2) (some q5)) (Int32.toNatClampNeg 3) (some q6)))))))), (q3, .inr (0, [.int 0, .int 0, .int 0, .int 0])), (q4, .inr (0, [.int 0, .int 0, .int 0, .int 0])), (q5, .inr (0, [.int 0, .int 0, .int 0, .int 0])), (q6, .inr (0, [.int 0, .int 0, .int 0, .int 0]))])) A) [.ref a].toArray s 6 24 A) 6 24 [(a, .inr (2, [.ref q1, .ref q2, .int 0, .int 0, .int 0, .int 0])), (q1, .inr (0, [.int 0, .int 0, .int 0, .int 0])), (q2, .inl (k 1, (4, .inr (.inr (.inr (.inr (va_up (va_up (va_up (fun _ => none) (Int32.toNatClampNeg 0) (some q3)) (Int32.toNatClampNeg 1) (some q4)) (Int32.toNatClampNeg 2) (some q5)))))))), (q3, .inr (0, [.int 0, .int 0, .int 0, .int 0])), (q4, .inr (0, [.int 0, .int 0, .int 0, .int 0])), (q5, .inr (0, [.int 0, .int 0, .int 0, .int 0])), (q6, .inr (0, [.int 0, .int 0, .int 0, .int 0]))] [(0, .ref a), (1, .int 3)] [.ref q6, .int 3, .ref q2] 42
  refine j_aast (ws' := [(a, .inr (2, [.ref q1, .ref q2, .int 0, .int 0, .int 0, .int 0])), (q1, .inr (0, [.int 0, .int 0, .int 0, .int 0])), (q2, .inl (k 1, (4, .inr (.inr (.inr (.inr (va_up (va_up (va_up (va_up (fun _ => none) (Int32.toNatClampNeg 0) (some q3)) (Int32.toNatClampNeg 1) (some q4)) (Int32.toNatClampNeg 2) (some q5)) (Int32.toNatClampNeg 3) (some q6)))))))), (q3, .inr (0, [.int 0, .int 0, .int 0, .int 0])), (q4, .inr (0, [.int 0, .int 0, .int 0, .int 0])), (q5, .inr (0, [.int 0, .int 0, .int 0, .int 0])), (q6, .inr (0, [.int 0, .int 0, .int 0, .int 0]))]) hC 2 1 6 0 rfl rfl rfl rfl (vp_in_nI (n := 3) (by decide) (by decide)) rfl d_R_init_42 ?_
  refine j_iinc (lv' := [(0, .ref a), (1, .int 4)]) hC d_R_init_43 1 rfl (by decide) (by decide) rfl rfl ?_
  refine j_goto (tgt := 25) hC d_R_init_46 (by decide) ?_
  refine j_iload_n hC d_R_init_25 rfl 1 rfl ?_
  refine j_iconst (v := 4) hC d_R_init_26 (by decide) ?_
  refine j_icmp_ge (tgt := 49) hC d_R_init_27 (by decide) (fun _ => ?_) (fun h => absurd h (by decide))
  exact j_vret hC hr ⟨rfl, rfl, q1, q2, q3, q4, q5, q6, rfl⟩ d_R_init_49

set_option maxHeartbeats 1000000 in
set_option maxRecDepth 100000 in
theorem i_D (l : Launch) (dC : Nat → ClassId) (dI : Nat → Nat → Nat) (k : Nat → Nat) (a : Nat) : jMet l y_D_init (.code y_D_init c_D_init 1 none) ({ frames := 1, cells := 11, slots := 3812, locals := 12 }) (dC, dI) jcl (ltys k) jTn [.ref a] [(a, .inr (5, [.int 0, .int 0, .null, .null, .null, .int 0, .null, .null, .null, .null, .null, .null, .int 0, .int 0, .null, .null]))] 11 3812 (jN (fun w => ∃ q1 q2 q3 q4 q5 q6 q7 q8 q9 q10 q11 : Nat, w = [(a, .inr (5, [.int 0, .int 0, .ref q1, .ref q2, .ref q3, .int 0, .ref q4, .ref q5, .ref q6, .ref q7, .ref q8, .ref q9, .int 0, .int 0, .ref q10, .ref q11])), (q1, .inl (k 0, (8, .inl (fun _ => 0)))), (q2, .inl (k 3, (1152, .inl (fun _ => 0)))), (q3, .inl (k 0, (1152, .inl (fun _ => 0)))), (q4, .inl (k 0, (16, .inl (fun _ => 0)))), (q5, .inl (k 0, (80, .inl (fun _ => 0)))), (q6, .inl (k 0, (80, .inl (fun _ => 0)))), (q7, .inl (k 0, (80, .inl (fun _ => 0)))), (q8, .inl (k 3, (80, .inl (fun _ => 0)))), (q9, .inl (k 0, (8, .inl (fun _ => 0)))), (q10, .inl (k 0, (4, .inl (fun _ => 0)))), (q11, .inl (k 3, (1152, .inl (fun _ => 0))))])) := by
  refine jMet.of (by decide) (Nat.le_of_ble_eq_true rfl) ?_
  intro p e s m below meth c A hC hex hr hnm htr
  show jJ p l e ({ frames := 1, cells := 11, slots := 3812, locals := 12 }) s m [.ref a].toArray below meth c 1 (dC, dI) jcl A (hxQ below (jQ (dC, dI) jcl (jN (fun w => ∃ q1 q2 q3 q4 q5 q6 q7 q8 q9 q10 q11 : Nat, w = [(a, .inr (5, [.int 0, .int 0, .ref q1, .ref q2, .ref q3, .int 0, .ref q4, .ref q5, .ref q6, .ref q7, .ref q8, .ref q9, .int 0, .int 0, .ref q10, .ref q11])), (q1, .inl (k 0, (8, .inl (fun _ => 0)))), (q2, .inl (k 3, (1152, .inl (fun _ => 0)))), (q3, .inl (k 0, (1152, .inl (fun _ => 0)))), (q4, .inl (k 0, (16, .inl (fun _ => 0)))), (q5, .inl (k 0, (80, .inl (fun _ => 0)))), (q6, .inl (k 0, (80, .inl (fun _ => 0)))), (q7, .inl (k 0, (80, .inl (fun _ => 0)))), (q8, .inl (k 3, (80, .inl (fun _ => 0)))), (q9, .inl (k 0, (8, .inl (fun _ => 0)))), (q10, .inl (k 0, (4, .inl (fun _ => 0)))), (q11, .inl (k 3, (1152, .inl (fun _ => 0))))])) A) [.ref a].toArray s 11 3812 A) 0 0 [(a, .inr (5, [.int 0, .int 0, .null, .null, .null, .int 0, .null, .null, .null, .null, .null, .null, .int 0, .int 0, .null, .null]))] [(0, .ref a)] [] 0
  refine j_aload_n hC d_D_init_0 rfl 0 rfl ?_
  refine j_objInit hC woi_D d_D_init_1 (by decide) (by decide) ?_
  refine j_aload_n hC d_D_init_4 rfl 0 rfl ?_
  refine j_bipush (v := 8) hC d_D_init_5 (by decide) ?_
  refine j_newa (atype := .int) (ty := .int) hC rfl wa_int 0 rfl (N := 8) (a0 := (8, .inl (fun _ => 0))) (fun _ => rfl) (by decide) (by decide) (by decide) (by decide) d_D_init_7 (fun q1 => ?_)
  refine j_putF (ty := tyX5 2) (ws' := [(a, .inr (5, [.int 0, .int 0, .ref q1, .null, .null, .int 0, .null, .null, .null, .null, .null, .null, .int 0, .int 0, .null, .null])), (q1, .inl (k 0, (8, .inl (fun _ => 0))))]) hC hiN_D tyX5 tyX5_ok nmX5 0 (fs := [.int 0, .int 0, .null, .null, .null, .int 0, .null, .null, .null, .null, .null, .null, .int 0, .int 0, .null, .null]) rfl rfl 2 (by decide) (hC.2.2.2.2.1 _ (jTn_l wf_D_7)) (fun _ h9 => h9) rfl hnm rfl (tyX5_ok 2 (by decide)) rfl rfl (Nat.le_of_ble_eq_true rfl) rfl d_D_init_9 ?_
  refine j_aload_n hC d_D_init_12 rfl 0 rfl ?_
  refine j_sipush (v := 1152) hC d_D_init_13 (by decide) ?_
  refine j_newa (atype := .boolean) (ty := .boolean) hC rfl wa_boolean 3 rfl (N := 1152) (a0 := (1152, .inl (fun _ => 0))) (fun _ => rfl) (by decide) (by decide) (by decide) (by decide) d_D_init_16 (fun q2 => ?_)
  refine j_putF (ty := tyX5 3) (ws' := [(a, .inr (5, [.int 0, .int 0, .ref q1, .ref q2, .null, .int 0, .null, .null, .null, .null, .null, .null, .int 0, .int 0, .null, .null])), (q1, .inl (k 0, (8, .inl (fun _ => 0)))), (q2, .inl (k 3, (1152, .inl (fun _ => 0))))]) hC hiN_D tyX5 tyX5_ok nmX5 0 (fs := [.int 0, .int 0, .ref q1, .null, .null, .int 0, .null, .null, .null, .null, .null, .null, .int 0, .int 0, .null, .null]) rfl rfl 3 (by decide) (hC.2.2.2.2.1 _ (jTn_l wf_D_13)) (fun _ h9 => h9) rfl hnm rfl (tyX5_ok 3 (by decide)) rfl rfl (Nat.le_of_ble_eq_true rfl) rfl d_D_init_18 ?_
  refine j_aload_n hC d_D_init_21 rfl 0 rfl ?_
  refine j_sipush (v := 1152) hC d_D_init_22 (by decide) ?_
  refine j_newa (atype := .int) (ty := .int) hC rfl wa_int 0 rfl (N := 1152) (a0 := (1152, .inl (fun _ => 0))) (fun _ => rfl) (by decide) (by decide) (by decide) (by decide) d_D_init_25 (fun q3 => ?_)
  refine j_putF (ty := tyX5 4) (ws' := [(a, .inr (5, [.int 0, .int 0, .ref q1, .ref q2, .ref q3, .int 0, .null, .null, .null, .null, .null, .null, .int 0, .int 0, .null, .null])), (q1, .inl (k 0, (8, .inl (fun _ => 0)))), (q2, .inl (k 3, (1152, .inl (fun _ => 0)))), (q3, .inl (k 0, (1152, .inl (fun _ => 0))))]) hC hiN_D tyX5 tyX5_ok nmX5 0 (fs := [.int 0, .int 0, .ref q1, .ref q2, .null, .int 0, .null, .null, .null, .null, .null, .null, .int 0, .int 0, .null, .null]) rfl rfl 4 (by decide) (hC.2.2.2.2.1 _ (jTn_l wf_D_17)) (fun _ h9 => h9) rfl hnm rfl (tyX5_ok 4 (by decide)) rfl rfl (Nat.le_of_ble_eq_true rfl) rfl d_D_init_27 ?_
  refine j_aload_n hC d_D_init_30 rfl 0 rfl ?_
  refine j_bipush (v := 16) hC d_D_init_31 (by decide) ?_
  refine j_newa (atype := .int) (ty := .int) hC rfl wa_int 0 rfl (N := 16) (a0 := (16, .inl (fun _ => 0))) (fun _ => rfl) (by decide) (by decide) (by decide) (by decide) d_D_init_33 (fun q4 => ?_)
  refine j_putF (ty := tyX5 6) (ws' := [(a, .inr (5, [.int 0, .int 0, .ref q1, .ref q2, .ref q3, .int 0, .ref q4, .null, .null, .null, .null, .null, .int 0, .int 0, .null, .null])), (q1, .inl (k 0, (8, .inl (fun _ => 0)))), (q2, .inl (k 3, (1152, .inl (fun _ => 0)))), (q3, .inl (k 0, (1152, .inl (fun _ => 0)))), (q4, .inl (k 0, (16, .inl (fun _ => 0))))]) hC hiN_D tyX5 tyX5_ok nmX5 0 (fs := [.int 0, .int 0, .ref q1, .ref q2, .ref q3, .int 0, .null, .null, .null, .null, .null, .null, .int 0, .int 0, .null, .null]) rfl rfl 6 (by decide) (hC.2.2.2.2.1 _ (jTn_l wf_D_20)) (fun _ h9 => h9) rfl hnm rfl (tyX5_ok 6 (by decide)) rfl rfl (Nat.le_of_ble_eq_true rfl) rfl d_D_init_35 ?_
  refine j_aload_n hC d_D_init_38 rfl 0 rfl ?_
  refine j_bipush (v := 80) hC d_D_init_39 (by decide) ?_
  refine j_newa (atype := .int) (ty := .int) hC rfl wa_int 0 rfl (N := 80) (a0 := (80, .inl (fun _ => 0))) (fun _ => rfl) (by decide) (by decide) (by decide) (by decide) d_D_init_41 (fun q5 => ?_)
  refine j_putF (ty := tyX5 7) (ws' := [(a, .inr (5, [.int 0, .int 0, .ref q1, .ref q2, .ref q3, .int 0, .ref q4, .ref q5, .null, .null, .null, .null, .int 0, .int 0, .null, .null])), (q1, .inl (k 0, (8, .inl (fun _ => 0)))), (q2, .inl (k 3, (1152, .inl (fun _ => 0)))), (q3, .inl (k 0, (1152, .inl (fun _ => 0)))), (q4, .inl (k 0, (16, .inl (fun _ => 0)))), (q5, .inl (k 0, (80, .inl (fun _ => 0))))]) hC hiN_D tyX5 tyX5_ok nmX5 0 (fs := [.int 0, .int 0, .ref q1, .ref q2, .ref q3, .int 0, .ref q4, .null, .null, .null, .null, .null, .int 0, .int 0, .null, .null]) rfl rfl 7 (by decide) (hC.2.2.2.2.1 _ (jTn_l wf_D_23)) (fun _ h9 => h9) rfl hnm rfl (tyX5_ok 7 (by decide)) rfl rfl (Nat.le_of_ble_eq_true rfl) rfl d_D_init_43 ?_
  refine j_aload_n hC d_D_init_46 rfl 0 rfl ?_
  refine j_bipush (v := 80) hC d_D_init_47 (by decide) ?_
  refine j_newa (atype := .int) (ty := .int) hC rfl wa_int 0 rfl (N := 80) (a0 := (80, .inl (fun _ => 0))) (fun _ => rfl) (by decide) (by decide) (by decide) (by decide) d_D_init_49 (fun q6 => ?_)
  refine j_putF (ty := tyX5 8) (ws' := [(a, .inr (5, [.int 0, .int 0, .ref q1, .ref q2, .ref q3, .int 0, .ref q4, .ref q5, .ref q6, .null, .null, .null, .int 0, .int 0, .null, .null])), (q1, .inl (k 0, (8, .inl (fun _ => 0)))), (q2, .inl (k 3, (1152, .inl (fun _ => 0)))), (q3, .inl (k 0, (1152, .inl (fun _ => 0)))), (q4, .inl (k 0, (16, .inl (fun _ => 0)))), (q5, .inl (k 0, (80, .inl (fun _ => 0)))), (q6, .inl (k 0, (80, .inl (fun _ => 0))))]) hC hiN_D tyX5 tyX5_ok nmX5 0 (fs := [.int 0, .int 0, .ref q1, .ref q2, .ref q3, .int 0, .ref q4, .ref q5, .null, .null, .null, .null, .int 0, .int 0, .null, .null]) rfl rfl 8 (by decide) (hC.2.2.2.2.1 _ (jTn_l wf_D_26)) (fun _ h9 => h9) rfl hnm rfl (tyX5_ok 8 (by decide)) rfl rfl (Nat.le_of_ble_eq_true rfl) rfl d_D_init_51 ?_
  refine j_aload_n hC d_D_init_54 rfl 0 rfl ?_
  refine j_bipush (v := 80) hC d_D_init_55 (by decide) ?_
  refine j_newa (atype := .int) (ty := .int) hC rfl wa_int 0 rfl (N := 80) (a0 := (80, .inl (fun _ => 0))) (fun _ => rfl) (by decide) (by decide) (by decide) (by decide) d_D_init_57 (fun q7 => ?_)
  refine j_putF (ty := tyX5 9) (ws' := [(a, .inr (5, [.int 0, .int 0, .ref q1, .ref q2, .ref q3, .int 0, .ref q4, .ref q5, .ref q6, .ref q7, .null, .null, .int 0, .int 0, .null, .null])), (q1, .inl (k 0, (8, .inl (fun _ => 0)))), (q2, .inl (k 3, (1152, .inl (fun _ => 0)))), (q3, .inl (k 0, (1152, .inl (fun _ => 0)))), (q4, .inl (k 0, (16, .inl (fun _ => 0)))), (q5, .inl (k 0, (80, .inl (fun _ => 0)))), (q6, .inl (k 0, (80, .inl (fun _ => 0)))), (q7, .inl (k 0, (80, .inl (fun _ => 0))))]) hC hiN_D tyX5 tyX5_ok nmX5 0 (fs := [.int 0, .int 0, .ref q1, .ref q2, .ref q3, .int 0, .ref q4, .ref q5, .ref q6, .null, .null, .null, .int 0, .int 0, .null, .null]) rfl rfl 9 (by decide) (hC.2.2.2.2.1 _ (jTn_l wf_D_29)) (fun _ h9 => h9) rfl hnm rfl (tyX5_ok 9 (by decide)) rfl rfl (Nat.le_of_ble_eq_true rfl) rfl d_D_init_59 ?_
  refine j_aload_n hC d_D_init_62 rfl 0 rfl ?_
  refine j_bipush (v := 80) hC d_D_init_63 (by decide) ?_
  refine j_newa (atype := .boolean) (ty := .boolean) hC rfl wa_boolean 3 rfl (N := 80) (a0 := (80, .inl (fun _ => 0))) (fun _ => rfl) (by decide) (by decide) (by decide) (by decide) d_D_init_65 (fun q8 => ?_)
  refine j_putF (ty := tyX5 10) (ws' := [(a, .inr (5, [.int 0, .int 0, .ref q1, .ref q2, .ref q3, .int 0, .ref q4, .ref q5, .ref q6, .ref q7, .ref q8, .null, .int 0, .int 0, .null, .null])), (q1, .inl (k 0, (8, .inl (fun _ => 0)))), (q2, .inl (k 3, (1152, .inl (fun _ => 0)))), (q3, .inl (k 0, (1152, .inl (fun _ => 0)))), (q4, .inl (k 0, (16, .inl (fun _ => 0)))), (q5, .inl (k 0, (80, .inl (fun _ => 0)))), (q6, .inl (k 0, (80, .inl (fun _ => 0)))), (q7, .inl (k 0, (80, .inl (fun _ => 0)))), (q8, .inl (k 3, (80, .inl (fun _ => 0))))]) hC hiN_D tyX5 tyX5_ok nmX5 0 (fs := [.int 0, .int 0, .ref q1, .ref q2, .ref q3, .int 0, .ref q4, .ref q5, .ref q6, .ref q7, .null, .null, .int 0, .int 0, .null, .null]) rfl rfl 10 (by decide) (hC.2.2.2.2.1 _ (jTn_l wf_D_32)) (fun _ h9 => h9) rfl hnm rfl (tyX5_ok 10 (by decide)) rfl rfl (Nat.le_of_ble_eq_true rfl) rfl d_D_init_67 ?_
  refine j_aload_n hC d_D_init_70 rfl 0 rfl ?_
  refine j_bipush (v := 8) hC d_D_init_71 (by decide) ?_
  refine j_newa (atype := .int) (ty := .int) hC rfl wa_int 0 rfl (N := 8) (a0 := (8, .inl (fun _ => 0))) (fun _ => rfl) (by decide) (by decide) (by decide) (by decide) d_D_init_73 (fun q9 => ?_)
  refine j_putF (ty := tyX5 11) (ws' := [(a, .inr (5, [.int 0, .int 0, .ref q1, .ref q2, .ref q3, .int 0, .ref q4, .ref q5, .ref q6, .ref q7, .ref q8, .ref q9, .int 0, .int 0, .null, .null])), (q1, .inl (k 0, (8, .inl (fun _ => 0)))), (q2, .inl (k 3, (1152, .inl (fun _ => 0)))), (q3, .inl (k 0, (1152, .inl (fun _ => 0)))), (q4, .inl (k 0, (16, .inl (fun _ => 0)))), (q5, .inl (k 0, (80, .inl (fun _ => 0)))), (q6, .inl (k 0, (80, .inl (fun _ => 0)))), (q7, .inl (k 0, (80, .inl (fun _ => 0)))), (q8, .inl (k 3, (80, .inl (fun _ => 0)))), (q9, .inl (k 0, (8, .inl (fun _ => 0))))]) hC hiN_D tyX5 tyX5_ok nmX5 0 (fs := [.int 0, .int 0, .ref q1, .ref q2, .ref q3, .int 0, .ref q4, .ref q5, .ref q6, .ref q7, .ref q8, .null, .int 0, .int 0, .null, .null]) rfl rfl 11 (by decide) (hC.2.2.2.2.1 _ (jTn_l wf_D_35)) (fun _ h9 => h9) rfl hnm rfl (tyX5_ok 11 (by decide)) rfl rfl (Nat.le_of_ble_eq_true rfl) rfl d_D_init_75 ?_
  refine j_aload_n hC d_D_init_78 rfl 0 rfl ?_
  refine j_iconst (v := 4) hC d_D_init_79 (by decide) ?_
  refine j_newa (atype := .int) (ty := .int) hC rfl wa_int 0 rfl (N := 4) (a0 := (4, .inl (fun _ => 0))) (fun _ => rfl) (by decide) (by decide) (by decide) (by decide) d_D_init_80 (fun q10 => ?_)
  refine j_putF (ty := tyX5 14) (ws' := [(a, .inr (5, [.int 0, .int 0, .ref q1, .ref q2, .ref q3, .int 0, .ref q4, .ref q5, .ref q6, .ref q7, .ref q8, .ref q9, .int 0, .int 0, .ref q10, .null])), (q1, .inl (k 0, (8, .inl (fun _ => 0)))), (q2, .inl (k 3, (1152, .inl (fun _ => 0)))), (q3, .inl (k 0, (1152, .inl (fun _ => 0)))), (q4, .inl (k 0, (16, .inl (fun _ => 0)))), (q5, .inl (k 0, (80, .inl (fun _ => 0)))), (q6, .inl (k 0, (80, .inl (fun _ => 0)))), (q7, .inl (k 0, (80, .inl (fun _ => 0)))), (q8, .inl (k 3, (80, .inl (fun _ => 0)))), (q9, .inl (k 0, (8, .inl (fun _ => 0)))), (q10, .inl (k 0, (4, .inl (fun _ => 0))))]) hC hiN_D tyX5 tyX5_ok nmX5 0 (fs := [.int 0, .int 0, .ref q1, .ref q2, .ref q3, .int 0, .ref q4, .ref q5, .ref q6, .ref q7, .ref q8, .ref q9, .int 0, .int 0, .null, .null]) rfl rfl 14 (by decide) (hC.2.2.2.2.1 _ (jTn_l wf_D_38)) (fun _ h9 => h9) rfl hnm rfl (tyX5_ok 14 (by decide)) rfl rfl (Nat.le_of_ble_eq_true rfl) rfl d_D_init_82 ?_
  refine j_aload_n hC d_D_init_85 rfl 0 rfl ?_
  refine j_sipush (v := 1152) hC d_D_init_86 (by decide) ?_
  refine j_newa (atype := .boolean) (ty := .boolean) hC rfl wa_boolean 3 rfl (N := 1152) (a0 := (1152, .inl (fun _ => 0))) (fun _ => rfl) (by decide) (by decide) (by decide) (by decide) d_D_init_89 (fun q11 => ?_)
  refine j_putF (ty := tyX5 15) (ws' := [(a, .inr (5, [.int 0, .int 0, .ref q1, .ref q2, .ref q3, .int 0, .ref q4, .ref q5, .ref q6, .ref q7, .ref q8, .ref q9, .int 0, .int 0, .ref q10, .ref q11])), (q1, .inl (k 0, (8, .inl (fun _ => 0)))), (q2, .inl (k 3, (1152, .inl (fun _ => 0)))), (q3, .inl (k 0, (1152, .inl (fun _ => 0)))), (q4, .inl (k 0, (16, .inl (fun _ => 0)))), (q5, .inl (k 0, (80, .inl (fun _ => 0)))), (q6, .inl (k 0, (80, .inl (fun _ => 0)))), (q7, .inl (k 0, (80, .inl (fun _ => 0)))), (q8, .inl (k 3, (80, .inl (fun _ => 0)))), (q9, .inl (k 0, (8, .inl (fun _ => 0)))), (q10, .inl (k 0, (4, .inl (fun _ => 0)))), (q11, .inl (k 3, (1152, .inl (fun _ => 0))))]) hC hiN_D tyX5 tyX5_ok nmX5 0 (fs := [.int 0, .int 0, .ref q1, .ref q2, .ref q3, .int 0, .ref q4, .ref q5, .ref q6, .ref q7, .ref q8, .ref q9, .int 0, .int 0, .ref q10, .null]) rfl rfl 15 (by decide) (hC.2.2.2.2.1 _ (jTn_l wf_D_41)) (fun _ h9 => h9) rfl hnm rfl (tyX5_ok 15 (by decide)) rfl rfl (Nat.le_of_ble_eq_true rfl) rfl d_D_init_91 ?_
  exact j_vret hC hr ⟨rfl, rfl, q1, q2, q3, q4, q5, q6, q7, q8, q9, q10, q11, rfl⟩ d_D_init_94
