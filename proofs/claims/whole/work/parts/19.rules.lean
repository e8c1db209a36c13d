set_option maxHeartbeats 4000000 in
set_option maxRecDepth 100000 in
theorem k_show (l : Launch) (dC : Nat → ClassId) (dI : Nat → Nat → Nat) (g k : Nat → Nat) (tl : List (ClassId × FieldType)) (u : jU) (r a b : Int32) (hr8 : inN r 8) (ha : inN a 12) (hb12 : inN b 12) : jMet l y_S_show (.code y_S_show c_S_show 4 none) ({ frames := 1, cells := 0, slots := 0, locals := 21 }) (dC, dI) jcl (ctys k tl) jTs [.ref (g 8), .int r, .int a, .int b] (cw g k u) 0 0 (jRet none (cw g k (pShow u r a b))) := by
  refine jMet.of (by decide) (Nat.le_of_ble_eq_true rfl) ?_
  intro p e s m below meth c A hC hex hr hnm htr
  show jJ p l e ({ frames := 1, cells := 0, slots := 0, locals := 21 }) s m [.ref (g 8), .int r, .int a, .int b].toArray below meth c 4 (dC, dI) jcl A (hxQ below (jQ (dC, dI) jcl (jRet none (cw g k (pShow u r a b))) A) [.ref (g 8), .int r, .int a, .int b].toArray s 0 0 A) 0 0 (cw g k u) [(0, .ref (g 8)), (1, .int r), (2, .int a), (3, .int b)] [] 0
  refine j_aload_n hC d_S_show_0 rfl 0 rfl ?_
  refine j_get hC hin_S (8) (cw_sight g k u) rfl 0 (by decide) (hC.2.2.2.2.1 _ wf_S_9) (fun _ h9 => h9) rfl d_S_show_1 ?_
  refine j_iload_n hC d_S_show_4 rfl 1 rfl ?_
  refine j_iload_n hC d_S_show_5 rfl 2 rfl ?_
  refine j_callSNr (As := [.int r, .int a]) (rest := [.ref (g 10)]) (st1 := [.int (r * 12 + a), .ref (g 10)]) hC (k_rowAt l dC dI g k tl u r a) rfl rfl ww_S_33 yn_H_rowAt rfl d_S_show_6 (Nat.le_of_ble_eq_true rfl) (by decide) ⟨Nat.zero_le _, Nat.zero_le _⟩ rfl ?_
  refine j_dup2_11 hC d_S_show_9 rfl rfl ?_
  refine j_ialdN hC (10) 0 (cw_secondsByFirst g k u) rfl (n := tn r * 12 + tn a) (in_row hr8 ha) (row_lt hr8 ha) (by decide) d_S_show_10 ?_
  refine j_iconst (v := 1) hC d_S_show_11 (by decide) ?_
  refine j_iload_n hC d_S_show_12 rfl 3 rfl ?_
  refine j_ishl hC d_S_show_13 ?_
  refine j_ior hC d_S_show_14 ?_
  refine j_iastN (ws' := cw g k (up u 7 (tn r * 12 + tn a) ((u 7 (tn r * 12 + tn a)) ||| (1 <<< (b &&& 31))))) hC (10) 0 (cw_secondsByFirst g k u) rfl (n := tn r * 12 + tn a) (in_row hr8 ha) (row_lt hr8 ha) (by decide) (cw_set_secondsByFirst g k u (tn r * 12 + tn a) ((u 7 (tn r * 12 + tn a)) ||| (1 <<< (b &&& 31)))) d_S_show_15 ?_
  refine j_aload_n hC d_S_show_16 rfl 0 rfl ?_
  refine j_get hC hin_S (8) (cw_sight g k (pS1 u r a b)) rfl 1 (by decide) (hC.2.2.2.2.1 _ wf_S_15) (fun _ h9 => h9) rfl d_S_show_17 ?_
  refine j_iload_n hC d_S_show_20 rfl 1 rfl ?_
  refine j_iload_n hC d_S_show_21 rfl 3 rfl ?_
  refine j_callSNr (As := [.int r, .int b]) (rest := [.ref (g 11)]) (st1 := [.int (r * 12 + b), .ref (g 11)]) hC (k_rowAt l dC dI g k tl (pS1 u r a b) r b) rfl rfl ww_S_33 yn_H_rowAt rfl d_S_show_22 (Nat.le_of_ble_eq_true rfl) (by decide) ⟨Nat.zero_le _, Nat.zero_le _⟩ rfl ?_
  refine j_dup2_11 hC d_S_show_25 rfl rfl ?_
  refine j_ialdN hC (11) 0 (cw_firstsBySecond g k (pS1 u r a b)) rfl (n := tn r * 12 + tn b) (in_row hr8 hb12) (row_lt hr8 hb12) (by decide) d_S_show_26 ?_
  refine j_iconst (v := 1) hC d_S_show_27 (by decide) ?_
  refine j_iload_n hC d_S_show_28 rfl 2 rfl ?_
  refine j_ishl hC d_S_show_29 ?_
  refine j_ior hC d_S_show_30 ?_
  refine j_iastN (ws' := cw g k (up (pS1 u r a b) 8 (tn r * 12 + tn b) (((pS1 u r a b) 8 (tn r * 12 + tn b)) ||| (1 <<< (a &&& 31))))) hC (11) 0 (cw_firstsBySecond g k (pS1 u r a b)) rfl (n := tn r * 12 + tn b) (in_row hr8 hb12) (row_lt hr8 hb12) (by decide) (cw_set_firstsBySecond g k (pS1 u r a b) (tn r * 12 + tn b) (((pS1 u r a b) 8 (tn r * 12 + tn b)) ||| (1 <<< (a &&& 31)))) d_S_show_31 ?_
  refine j_aload_n hC d_S_show_32 rfl 0 rfl ?_
  refine j_get hC hin_S (8) (cw_sight g k (pS2 u r a b)) rfl 2 (by decide) (hC.2.2.2.2.1 _ wf_S_18) (fun _ h9 => h9) rfl d_S_show_33 ?_
  refine j_iload_n hC d_S_show_36 rfl 1 rfl ?_
  refine j_dup2_11 hC d_S_show_37 rfl rfl ?_
  refine j_ialdN hC (12) 0 (cw_firsts g k (pS2 u r a b)) rfl (n := tn r) (hr8.1) (hr8.2) (by decide) d_S_show_38 ?_
  refine j_iconst (v := 1) hC d_S_show_39 (by decide) ?_
  refine j_iload_n hC d_S_show_40 rfl 2 rfl ?_
  refine j_ishl hC d_S_show_41 ?_
  refine j_ior hC d_S_show_42 ?_
  refine j_iastN (ws' := cw g k (up (pS2 u r a b) 9 (tn r) (((pS2 u r a b) 9 (tn r)) ||| (1 <<< (a &&& 31))))) hC (12) 0 (cw_firsts g k (pS2 u r a b)) rfl (n := tn r) (hr8.1) (hr8.2) (by decide) (cw_set_firsts g k (pS2 u r a b) (tn r) (((pS2 u r a b) 9 (tn r)) ||| (1 <<< (a &&& 31)))) d_S_show_43 ?_
  refine j_aload_n hC d_S_show_44 rfl 0 rfl ?_
  refine j_get hC hin_S (8) (cw_sight g k (pS3 u r a b)) rfl 3 (by decide) (hC.2.2.2.2.1 _ wf_S_21) (fun _ h9 => h9) rfl d_S_show_45 ?_
  refine j_iload_n hC d_S_show_48 rfl 1 rfl ?_
  refine j_dup2_11 hC d_S_show_49 rfl rfl ?_
  refine j_ialdN hC (13) 0 (cw_seconds g k (pS3 u r a b)) rfl (n := tn r) (hr8.1) (hr8.2) (by decide) d_S_show_50 ?_
  refine j_iconst (v := 1) hC d_S_show_51 (by decide) ?_
  refine j_iload_n hC d_S_show_52 rfl 3 rfl ?_
  refine j_ishl hC d_S_show_53 ?_
  refine j_ior hC d_S_show_54 ?_
  refine j_iastN (ws' := cw g k (up (pS3 u r a b) 10 (tn r) (((pS3 u r a b) 10 (tn r)) ||| (1 <<< (b &&& 31))))) hC (13) 0 (cw_seconds g k (pS3 u r a b)) rfl (n := tn r) (hr8.1) (hr8.2) (by decide) (cw_set_seconds g k (pS3 u r a b) (tn r) (((pS3 u r a b) 10 (tn r)) ||| (1 <<< (b &&& 31)))) d_S_show_55 ?_
  refine j_iload_n hC d_S_show_56 rfl 2 rfl ?_
  refine j_iload_n hC d_S_show_57 rfl 3 rfl ?_
  refine j_icmp_ne (tgt := 73) hC d_S_show_58 (by decide) (fun h58 => ?_) (fun h58 => ?_)
  · exact j_vret hC hr ⟨rfl, rfl, congrArg (cw g k) (if_neg h58).symm⟩ d_S_show_73
  · refine j_aload_n hC d_S_show_61 rfl 0 rfl ?_
    refine j_get hC hin_S (8) (cw_sight g k (pS4 u r a b)) rfl 4 (by decide) (hC.2.2.2.2.1 _ wf_S_24) (fun _ h9 => h9) rfl d_S_show_62 ?_
    refine j_iload_n hC d_S_show_65 rfl 1 rfl ?_
    refine j_dup2_11 hC d_S_show_66 rfl rfl ?_
    refine j_ialdN hC (14) 0 (cw_doubles g k (pS4 u r a b)) rfl (n := tn r) (hr8.1) (hr8.2) (by decide) d_S_show_67 ?_
    refine j_iconst (v := 1) hC d_S_show_68 (by decide) ?_
    refine j_iload_n hC d_S_show_69 rfl 2 rfl ?_
    refine j_ishl hC d_S_show_70 ?_
    refine j_ior hC d_S_show_71 ?_
    refine j_iastN (ws' := cw g k (up (pS4 u r a b) 11 (tn r) (((pS4 u r a b) 11 (tn r)) ||| (1 <<< (a &&& 31))))) hC (14) 0 (cw_doubles g k (pS4 u r a b)) rfl (n := tn r) (hr8.1) (hr8.2) (by decide) (cw_set_doubles g k (pS4 u r a b) (tn r) (((pS4 u r a b) 11 (tn r)) ||| (1 <<< (a &&& 31)))) d_S_show_72 ?_
    exact j_vret hC hr ⟨rfl, rfl, congrArg (cw g k) (if_pos h58).symm⟩ d_S_show_73

set_option maxHeartbeats 4000000 in
set_option maxRecDepth 100000 in
theorem k_blind (l : Launch) (dC : Nat → ClassId) (dI : Nat → Nat → Nat) (g k : Nat → Nat) (tl : List (ClassId × FieldType)) (u : jU)  : jMet l y_S_forget (.code y_S_forget c_S_forget 1 none) ({ frames := 1, cells := 0, slots := 0, locals := 23 }) (dC, dI) jcl (ctys k tl) jTs [.ref (g 8)] (cw g k u) 0 0 (jRet none (cw g k (pBlind u))) := by
  refine jMet.of (by decide) (Nat.le_of_ble_eq_true rfl) ?_
  intro p e s m below meth c A hC hex hr hnm htr
  show jJ p l e ({ frames := 1, cells := 0, slots := 0, locals := 23 }) s m [.ref (g 8)].toArray below meth c 1 (dC, dI) jcl A (hxQ below (jQ (dC, dI) jcl (jRet none (cw g k (pBlind u))) A) [.ref (g 8)].toArray s 0 0 A) 0 0 (cw g k u) [(0, .ref (g 8))] [] 0
  refine j_aload_n hC d_S_forget_0 rfl 0 rfl ?_
  refine j_get hC hin_S (8) (cw_sight g k u) rfl 0 (by decide) (hC.2.2.2.2.1 _ wf_S_9) (fun _ h9 => h9) rfl d_S_forget_1 ?_
  refine j_iconst (v := 0) hC d_S_forget_4 (by decide) ?_
  refine j_callSr (As := [.ref (g 10), .int 0]) (rest := []) (st1 := []) hC (k_fill_secondsByFirst l dC dI g k tl u) rfl rfl ww_S_27 yn_Arrays_fill rfl d_S_forget_5 (Nat.le_of_ble_eq_true rfl) (by decide) ⟨Nat.zero_le _, Nat.zero_le _⟩ rfl ?_
  refine j_aload_n hC d_S_forget_8 rfl 0 rfl ?_
  refine j_get hC hin_S (8) (cw_sight g k (pFill u 7 96)) rfl 1 (by decide) (hC.2.2.2.2.1 _ wf_S_15) (fun _ h9 => h9) rfl d_S_forget_9 ?_
  refine j_iconst (v := 0) hC d_S_forget_12 (by decide) ?_
  refine j_callSr (As := [.ref (g 11), .int 0]) (rest := []) (st1 := []) hC (k_fill_firstsBySecond l dC dI g k tl (pFill u 7 96)) rfl rfl ww_S_27 yn_Arrays_fill rfl d_S_forget_13 (Nat.le_of_ble_eq_true rfl) (by decide) ⟨Nat.zero_le _, Nat.zero_le _⟩ rfl ?_
  refine j_aload_n hC d_S_forget_16 rfl 0 rfl ?_
  refine j_get hC hin_S (8) (cw_sight g k (pFill (pFill u 7 96) 8 96)) rfl 2 (by decide) (hC.2.2.2.2.1 _ wf_S_18) (fun _ h9 => h9) rfl d_S_forget_17 ?_
  refine j_iconst (v := 0) hC d_S_forget_20 (by decide) ?_
  refine j_callSr (As := [.ref (g 12), .int 0]) (rest := []) (st1 := []) hC (k_fill_firsts l dC dI g k tl (pFill (pFill u 7 96) 8 96)) rfl rfl ww_S_27 yn_Arrays_fill rfl d_S_forget_21 (Nat.le_of_ble_eq_true rfl) (by decide) ⟨Nat.zero_le _, Nat.zero_le _⟩ rfl ?_
  refine j_aload_n hC d_S_forget_24 rfl 0 rfl ?_
  refine j_get hC hin_S (8) (cw_sight g k (pFill (pFill (pFill u 7 96) 8 96) 9 8)) rfl 3 (by decide) (hC.2.2.2.2.1 _ wf_S_21) (fun _ h9 => h9) rfl d_S_forget_25 ?_
  refine j_iconst (v := 0) hC d_S_forget_28 (by decide) ?_
  refine j_callSr (As := [.ref (g 13), .int 0]) (rest := []) (st1 := []) hC (k_fill_seconds l dC dI g k tl (pFill (pFill (pFill u 7 96) 8 96) 9 8)) rfl rfl ww_S_27 yn_Arrays_fill rfl d_S_forget_29 (Nat.le_of_ble_eq_true rfl) (by decide) ⟨Nat.zero_le _, Nat.zero_le _⟩ rfl ?_
  refine j_aload_n hC d_S_forget_32 rfl 0 rfl ?_
  refine j_get hC hin_S (8) (cw_sight g k (pFill (pFill (pFill (pFill u 7 96) 8 96) 9 8) 10 8)) rfl 4 (by decide) (hC.2.2.2.2.1 _ wf_S_24) (fun _ h9 => h9) rfl d_S_forget_33 ?_
  refine j_iconst (v := 0) hC d_S_forget_36 (by decide) ?_
  refine j_callSr (As := [.ref (g 14), .int 0]) (rest := []) (st1 := []) hC (k_fill_doubles l dC dI g k tl (pFill (pFill (pFill (pFill u 7 96) 8 96) 9 8) 10 8)) rfl rfl ww_S_27 yn_Arrays_fill rfl d_S_forget_37 (Nat.le_of_ble_eq_true rfl) (by decide) ⟨Nat.zero_le _, Nat.zero_le _⟩ rfl ?_
  exact j_vret hC hr ⟨rfl, rfl, rfl⟩ d_S_forget_40

set_option maxHeartbeats 4000000 in
set_option maxRecDepth 100000 in
theorem k_become (l : Launch) (dC : Nat → ClassId) (dI : Nat → Nat → Nat) (g k : Nat → Nat) (tl : List (ClassId × FieldType)) (u : jU) {j : Nat} (hj : j < 80) (r a b z : Int32) (hz : z = 0 ∨ z = 1) : jMet l y_A_become (.code y_A_become c_A_become 5 none) ({ frames := 0, cells := 0, slots := 0, locals := 0 }) (dC, dI) jcl (ctys k tl) jTs [.ref (g (47 + (j))), .int r, .int a, .int b, .int z] (cw g k u) 0 0 (jRet none (cw g k (pBecome u j r a b z))) := by
  refine jMet.of (by decide) (Nat.le_of_ble_eq_true rfl) ?_
  intro p e s m below meth c A hC hex hr hnm htr
  show jJ p l e ({ frames := 0, cells := 0, slots := 0, locals := 0 }) s m [.ref (g (47 + (j))), .int r, .int a, .int b, .int z].toArray below meth c 5 (dC, dI) jcl A (hxQ below (jQ (dC, dI) jcl (jRet none (cw g k (pBecome u j r a b z))) A) [.ref (g (47 + (j))), .int r, .int a, .int b, .int z].toArray s 0 0 A) 0 0 (cw g k u) [(0, .ref (g (47 + (j)))), (1, .int r), (2, .int a), (3, .int b), (4, .int z)] [] 0
  refine j_aload_n hC d_A_become_0 rfl 0 rfl ?_
  refine j_iload_n hC d_A_become_1 rfl 1 rfl ?_
  refine j_put (ty := .int) (ws' := cw g k (up u 16 j r)) hC hin_A tyX0 tyX0_ok nmX0 (47 + (j)) (cw_atom g k u (j := j) (by omega)) rfl 0 (by decide) (hC.2.2.2.2.1 _ wf_A_9) (fun _ h9 => h9) rfl (by decide +kernel) (rfl) (rfl) (Nat.le_of_ble_eq_true rfl) (cw_set_relation g k u (by omega) r) d_A_become_2 ?_
  refine j_aload_n hC d_A_become_5 rfl 0 rfl ?_
  refine j_iload_n hC d_A_become_6 rfl 2 rfl ?_
  refine j_put (ty := .int) (ws' := cw g k (up (up u 16 j r) 17 j a)) hC hin_A tyX0 tyX0_ok nmX0 (47 + (j)) (cw_atom g k (up u 16 j r) (j := j) (by omega)) rfl 1 (by decide) (hC.2.2.2.2.1 _ wf_A_15) (fun _ h9 => h9) rfl (by decide +kernel) (rfl) (rfl) (Nat.le_of_ble_eq_true rfl) (cw_set_first g k (up u 16 j r) (by omega) a) d_A_become_7 ?_
  refine j_aload_n hC d_A_become_10 rfl 0 rfl ?_
  refine j_iload_n hC d_A_become_11 rfl 3 rfl ?_
  refine j_put (ty := .int) (ws' := cw g k (up (up (up u 16 j r) 17 j a) 18 j b)) hC hin_A tyX0 tyX0_ok nmX0 (47 + (j)) (cw_atom g k (up (up u 16 j r) 17 j a) (j := j) (by omega)) rfl 2 (by decide) (hC.2.2.2.2.1 _ wf_A_18) (fun _ h9 => h9) rfl (by decide +kernel) (rfl) (rfl) (Nat.le_of_ble_eq_true rfl) (cw_set_second g k (up (up u 16 j r) 17 j a) (by omega) b) d_A_become_12 ?_
  refine j_aload_n hC d_A_become_15 rfl 0 rfl ?_
  refine j_iload hC d_A_become_16 4 rfl ?_
  refine j_put (ty := .boolean) (ws' := cw g k (up (up (up (up u 16 j r) 17 j a) 18 j b) 19 j z)) hC hin_A tyX0 tyX0_ok nmX0 (47 + (j)) (cw_atom g k (up (up (up u 16 j r) 17 j a) 18 j b) (j := j) (by omega)) rfl 3 (by decide) (hC.2.2.2.2.1 _ wf_A_21) (fun _ h9 => h9) rfl (by decide +kernel) (z01_n hz) (z01_f hz) (Nat.le_of_ble_eq_true rfl) (cw_set_negated g k (up (up (up u 16 j r) 17 j a) 18 j b) (by omega) z) d_A_become_18 ?_
  exact j_vret hC hr ⟨rfl, rfl, rfl⟩ d_A_become_21

set_option maxHeartbeats 4000000 in
set_option maxRecDepth 100000 in
theorem k_vars (l : Launch) (dC : Nat → ClassId) (dI : Nat → Nat → Nat) (g k : Nat → Nat) (tl : List (ClassId × FieldType)) (u : jU) {j : Nat} (hj : j < 80) : jMet l y_A_variables (.code y_A_variables c_A_variables 1 (some .int)) ({ frames := 0, cells := 0, slots := 0, locals := 0 }) (dC, dI) jcl (ctys k tl) jTs [.ref (g (47 + (j)))] (cw g k u) 0 0 (jRet (some (.int (pVars u j))) (cw g k u)) := by
  refine jMet.of (by decide) (Nat.le_of_ble_eq_true rfl) ?_
  intro p e s m below meth c A hC hex hr hnm htr
  show jJ p l e ({ frames := 0, cells := 0, slots := 0, locals := 0 }) s m [.ref (g (47 + (j)))].toArray below meth c 1 (dC, dI) jcl A (hxQ below (jQ (dC, dI) jcl (jRet (some (.int (pVars u j))) (cw g k u)) A) [.ref (g (47 + (j)))].toArray s 0 0 A) 0 0 (cw g k u) [(0, .ref (g (47 + (j))))] [] 0
  refine j_iconst (v := 1) hC d_A_variables_0 (by decide) ?_
  refine j_aload_n hC d_A_variables_1 rfl 0 rfl ?_
  refine j_get hC hin_A (47 + (j)) (cw_atom g k u (j := j) (by omega)) rfl 1 (by decide) (hC.2.2.2.2.1 _ wf_A_15) (fun _ h9 => h9) rfl d_A_variables_2 ?_
  refine j_ishl hC d_A_variables_5 ?_
  refine j_iconst (v := 1) hC d_A_variables_6 (by decide) ?_
  refine j_aload_n hC d_A_variables_7 rfl 0 rfl ?_
  refine j_get hC hin_A (47 + (j)) (cw_atom g k u (j := j) (by omega)) rfl 2 (by decide) (hC.2.2.2.2.1 _ wf_A_18) (fun _ h9 => h9) rfl d_A_variables_8 ?_
  refine j_ishl hC d_A_variables_11 ?_
  refine j_ior hC d_A_variables_12 ?_
  refine j_ldc (v := 15728640) hC (hC.2.2.2.2.1 _ wc_A_25) d_A_variables_13 ?_
  refine j_iand hC d_A_variables_15 ?_
  exact j_iret hC hr ⟨rfl, rfl, rfl⟩ d_A_variables_16

set_option maxHeartbeats 4000000 in
set_option maxRecDepth 100000 in
theorem k_begin (l : Launch) (dC : Nat → ClassId) (dI : Nat → Nat → Nat) (g k : Nat → Nat) (tl : List (ClassId × FieldType)) (u : jU) {i : Nat} (hi : i < 16) (r a b : Int32) : jMet l y_R_begin (.code y_R_begin c_R_begin 4 none) ({ frames := 1, cells := 0, slots := 0, locals := 24 }) (dC, dI) jcl (ctys k tl) jTs [.ref (g (15 + i)), .int r, .int a, .int b] (cw g k u) 0 0 (jRet none (cw g k (pBegin u i r a b))) := by
  refine jMet.of (by decide) (Nat.le_of_ble_eq_true rfl) ?_
  intro p e s m below meth c A hC hex hr hnm htr
  show jJ p l e ({ frames := 1, cells := 0, slots := 0, locals := 24 }) s m [.ref (g (15 + i)), .int r, .int a, .int b].toArray below meth c 4 (dC, dI) jcl A (hxQ below (jQ (dC, dI) jcl (jRet none (cw g k (pBegin u i r a b))) A) [.ref (g (15 + i)), .int r, .int a, .int b].toArray s 0 0 A) 0 0 (cw g k u) [(0, .ref (g (15 + i))), (1, .int r), (2, .int a), (3, .int b)] [] 0
  refine j_aload_n hC d_R_begin_0 rfl 0 rfl ?_
  refine j_get hC hin_R (15 + i) (cw_rule g k u (by omega)) rfl 0 (by decide) (hC.2.2.2.2.1 _ wf_R_12) (fun _ h9 => h9) rfl d_R_begin_1 ?_
  refine j_iload_n hC d_R_begin_4 rfl 1 rfl ?_
  refine j_iload_n hC d_R_begin_5 rfl 2 rfl ?_
  refine j_iload_n hC d_R_begin_6 rfl 3 rfl ?_
  refine j_iconst (v := 0) hC d_R_begin_7 (by decide) ?_
  refine j_callNr (As := [.int r, .int a, .int b, .int 0]) (rest := []) (st1 := []) hC (k_become l dC dI g k tl u (j := 5 * i) (by omega) r a b 0 (Or.inl rfl)) rfl rfl ww_R_22 yn_A_become (cw_atom g k u (j := 5 * i) (by omega)) rfl rfl d_R_begin_8 (Nat.le_of_ble_eq_true rfl) (by decide) ⟨Nat.zero_le _, Nat.zero_le _⟩ rfl ?_
  refine j_aload_n hC d_R_begin_11 rfl 0 rfl ?_
  refine j_iconst (v := 0) hC d_R_begin_12 (by decide) ?_
  refine j_put (ty := .int) (ws' := cw g k (up (pBecome u (5 * i) r a b 0) 12 i 0)) hC hin_R tyX2 tyX2_ok nmX2 (15 + i) (cw_rule g k (pBecome u (5 * i) r a b 0) (by omega)) rfl 2 (by decide) (hC.2.2.2.2.1 _ wf_R_26) (fun _ h9 => h9) rfl (by decide +kernel) (rfl) (rfl) (Nat.le_of_ble_eq_true rfl) (cw_set_size g k (pBecome u (5 * i) r a b 0) (by omega) 0) d_R_begin_13 ?_
  refine j_aload_n hC d_R_begin_16 rfl 0 rfl ?_
  refine j_aload_n hC d_R_begin_17 rfl 0 rfl ?_
  refine j_get hC hin_R (15 + i) (cw_rule g k (pBegin1 u i r a b) (by omega)) rfl 0 (by decide) (hC.2.2.2.2.1 _ wf_R_12) (fun _ h9 => h9) rfl d_R_begin_18 ?_
  refine j_callNr (As := []) (rest := [.ref (g (15 + i))]) (st1 := [.int (pVars (pBegin1 u i r a b) (5 * i)), .ref (g (15 + i))]) hC (k_vars l dC dI g k tl (pBegin1 u i r a b) (j := 5 * i) (by omega)) rfl rfl ww_R_30 yn_A_variables (cw_atom g k (pBegin1 u i r a b) (j := 5 * i) (by omega)) rfl rfl d_R_begin_21 (Nat.le_of_ble_eq_true rfl) (by decide) ⟨Nat.zero_le _, Nat.zero_le _⟩ rfl ?_
  refine j_put (ty := .int) (ws' := cw g k (up (pBegin1 u i r a b) 13 i (pVars (pBegin1 u i r a b) (5 * i)))) hC hin_R tyX2 tyX2_ok nmX2 (15 + i) (cw_rule g k (pBegin1 u i r a b) (by omega)) rfl 3 (by decide) (hC.2.2.2.2.1 _ wf_R_34) (fun _ h9 => h9) rfl (by decide +kernel) (rfl) (rfl) (Nat.le_of_ble_eq_true rfl) (cw_set_variables g k (pBegin1 u i r a b) (by omega) (pVars (pBegin1 u i r a b) (5 * i))) d_R_begin_24 ?_
  refine j_aload_n hC d_R_begin_27 rfl 0 rfl ?_
  refine j_iconst (v := 0) hC d_R_begin_28 (by decide) ?_
  refine j_put (ty := .int) (ws' := cw g k (up (up (pBegin1 u i r a b) 13 i (pVars (pBegin1 u i r a b) (5 * i))) 14 i 0)) hC hin_R tyX2 tyX2_ok nmX2 (15 + i) (cw_rule g k (up (pBegin1 u i r a b) 13 i (pVars (pBegin1 u i r a b) (5 * i))) (by omega)) rfl 4 (by decide) (hC.2.2.2.2.1 _ wf_R_36) (fun _ h9 => h9) rfl (by decide +kernel) (rfl) (rfl) (Nat.le_of_ble_eq_true rfl) (cw_set_positiveVariables g k (up (pBegin1 u i r a b) 13 i (pVars (pBegin1 u i r a b) (5 * i))) (by omega) 0) d_R_begin_29 ?_
  refine j_aload_n hC d_R_begin_32 rfl 0 rfl ?_
  refine j_iconst (v := 0) hC d_R_begin_33 (by decide) ?_
  refine j_put (ty := .int) (ws' := cw g k (up (up (up (pBegin1 u i r a b) 13 i (pVars (pBegin1 u i r a b) (5 * i))) 14 i 0) 15 i 0)) hC hin_R tyX2 tyX2_ok nmX2 (15 + i) (cw_rule g k (up (up (pBegin1 u i r a b) 13 i (pVars (pBegin1 u i r a b) (5 * i))) 14 i 0) (by omega)) rfl 5 (by decide) (hC.2.2.2.2.1 _ wf_R_39) (fun _ h9 => h9) rfl (by decide +kernel) (rfl) (rfl) (Nat.le_of_ble_eq_true rfl) (cw_set_positiveRelations g k (up (up (pBegin1 u i r a b) 13 i (pVars (pBegin1 u i r a b) (5 * i))) 14 i 0) (by omega) 0) d_R_begin_34 ?_
  exact j_vret hC hr ⟨rfl, rfl, rfl⟩ d_R_begin_37

set_option maxHeartbeats 4000000 in
set_option maxRecDepth 100000 in
theorem k_full (l : Launch) (dC : Nat → ClassId) (dI : Nat → Nat → Nat) (g k : Nat → Nat) (tl : List (ClassId × FieldType)) (u : jU) {i : Nat} (hi : i < 16) : jMet l y_R_isFull (.code y_R_isFull c_R_isFull 1 (some .boolean)) ({ frames := 0, cells := 0, slots := 0, locals := 0 }) (dC, dI) jcl (ctys k tl) jTs [.ref (g (15 + i))] (cw g k u) 0 0 (jRet (some (.int (b2i (pFull u i)))) (cw g k u)) := by
  refine jMet.of (by decide) (Nat.le_of_ble_eq_true rfl) ?_
  intro p e s m below meth c A hC hex hr hnm htr
  show jJ p l e ({ frames := 0, cells := 0, slots := 0, locals := 0 }) s m [.ref (g (15 + i))].toArray below meth c 1 (dC, dI) jcl A (hxQ below (jQ (dC, dI) jcl (jRet (some (.int (b2i (pFull u i)))) (cw g k u)) A) [.ref (g (15 + i))].toArray s 0 0 A) 0 0 (cw g k u) [(0, .ref (g (15 + i)))] [] 0
  refine j_aload_n hC d_R_isFull_0 rfl 0 rfl ?_
  refine j_get hC hin_R (15 + i) (cw_rule g k u (by omega)) rfl 2 (by decide) (hC.2.2.2.2.1 _ wf_R_26) (fun _ h9 => h9) rfl d_R_isFull_1 ?_
  refine j_iconst (v := 4) hC d_R_isFull_4 (by decide) ?_
  refine j_icmp_lt (tgt := 12) hC d_R_isFull_5 (by decide) (fun h5 => ?_) (fun h5 => ?_)
  · refine j_iconst (v := 0) hC d_R_isFull_12 (by decide) ?_
    exact j_zret hC hr rfl ⟨rfl, congrArg (fun z => some (Value.int z)) (by simp [pFull, b2i, h5]), rfl⟩ d_R_isFull_13
  · refine j_iconst (v := 1) hC d_R_isFull_8 (by decide) ?_
    refine j_goto (tgt := 13) hC d_R_isFull_9 (by decide) ?_
    exact j_zret hC hr rfl ⟨rfl, congrArg (fun z => some (Value.int z)) (by simp [pFull, b2i, h5]), rfl⟩ d_R_isFull_13

set_option maxHeartbeats 4000000 in
set_option maxRecDepth 100000 in
theorem k_safe (l : Launch) (dC : Nat → ClassId) (dI : Nat → Nat → Nat) (g k : Nat → Nat) (tl : List (ClassId × FieldType)) (u : jU) {i : Nat} (hi : i < 16) : jMet l y_R_isSafe (.code y_R_isSafe c_R_isSafe 1 (some .boolean)) ({ frames := 0, cells := 0, slots := 0, locals := 0 }) (dC, dI) jcl (ctys k tl) jTs [.ref (g (15 + i))] (cw g k u) 0 0 (jRet (some (.int (b2i (pSafe u i)))) (cw g k u)) := by
  refine jMet.of (by decide) (Nat.le_of_ble_eq_true rfl) ?_
  intro p e s m below meth c A hC hex hr hnm htr
  show jJ p l e ({ frames := 0, cells := 0, slots := 0, locals := 0 }) s m [.ref (g (15 + i))].toArray below meth c 1 (dC, dI) jcl A (hxQ below (jQ (dC, dI) jcl (jRet (some (.int (b2i (pSafe u i)))) (cw g k u)) A) [.ref (g (15 + i))].toArray s 0 0 A) 0 0 (cw g k u) [(0, .ref (g (15 + i)))] [] 0
  refine j_aload_n hC d_R_isSafe_0 rfl 0 rfl ?_
  refine j_get hC hin_R (15 + i) (cw_rule g k u (by omega)) rfl 3 (by decide) (hC.2.2.2.2.1 _ wf_R_34) (fun _ h9 => h9) rfl d_R_isSafe_1 ?_
  refine j_aload_n hC d_R_isSafe_4 rfl 0 rfl ?_
  refine j_get hC hin_R (15 + i) (cw_rule g k u (by omega)) rfl 4 (by decide) (hC.2.2.2.2.1 _ wf_R_36) (fun _ h9 => h9) rfl d_R_isSafe_5 ?_
  refine j_icmp_ne (tgt := 15) hC d_R_isSafe_8 (by decide) (fun h8 => ?_) (fun h8 => ?_)
  · refine j_iconst (v := 0) hC d_R_isSafe_15 (by decide) ?_
    exact j_zret hC hr rfl ⟨rfl, congrArg (fun z => some (Value.int z)) (by simp [pSafe, b2i, h8]), rfl⟩ d_R_isSafe_16
  · refine j_iconst (v := 1) hC d_R_isSafe_11 (by decide) ?_
    refine j_goto (tgt := 16) hC d_R_isSafe_12 (by decide) ?_
    exact j_zret hC hr rfl ⟨rfl, congrArg (fun z => some (Value.int z)) (by simp [pSafe, b2i, h8]), rfl⟩ d_R_isSafe_16

set_option maxHeartbeats 4000000 in
set_option maxRecDepth 100000 in
theorem k_add (l : Launch) (dC : Nat → ClassId) (dI : Nat → Nat → Nat) (g k : Nat → Nat) (tl : List (ClassId × FieldType)) (u : jU) {i : Nat} (hi : i < 16) (hs : wfS u i) (r a b z : Int32) (hz : z = 0 ∨ z = 1) : jMet l y_R_add (.code y_R_add c_R_add 6 none) ({ frames := 1, cells := 0, slots := 0, locals := 24 }) (dC, dI) jcl (ctys k tl) jTs [.ref (g (15 + i)), .int r, .int a, .int b, .int z] (cw g k u) 0 0 (jRet none (cw g k (pAdd u i r a b z))) := by
  refine jMet.of (by decide) (Nat.le_of_ble_eq_true rfl) ?_
  intro p e s m below meth c A hC hex hr hnm htr
  show jJ p l e ({ frames := 1, cells := 0, slots := 0, locals := 24 }) s m [.ref (g (15 + i)), .int r, .int a, .int b, .int z].toArray below meth c 6 (dC, dI) jcl A (hxQ below (jQ (dC, dI) jcl (jRet none (cw g k (pAdd u i r a b z))) A) [.ref (g (15 + i)), .int r, .int a, .int b, .int z].toArray s 0 0 A) 0 0 (cw g k u) [(0, .ref (g (15 + i))), (1, .int r), (2, .int a), (3, .int b), (4, .int z)] [] 0
  refine j_aload_n hC d_R_add_0 rfl 0 rfl ?_
  refine j_callVr (As := []) (rest := []) (st1 := [.int (b2i (pFull u i))]) hC (k_full l dC dI g k tl u hi) rfl rfl ww_R_42 yn_R_isFull (cw_rule g k u (by omega)) rfl rfl d_R_add_1 (Nat.le_of_ble_eq_true rfl) (by decide) ⟨Nat.zero_le _, Nat.zero_le _⟩ rfl ?_
  refine j_if_eq (tgt := 8) hC d_R_add_4 (by decide) (fun h4 => ?_) (fun h4 => ?_)
  · have hs4 : tn (u 12 i) < 4 := (inN_ltN hs (by decide) (n := 4) (by decide)).mp (show u 12 i < 4 by simpa [pFull] using b2i_0 h4)
    refine j_aload_n hC d_R_add_8 rfl 0 rfl ?_
    refine j_get hC hin_R (15 + i) (cw_rule g k u (by omega)) rfl 1 (by decide) (hC.2.2.2.2.1 _ wf_R_18) (fun _ h9 => h9) rfl d_R_add_9 ?_
    refine j_aload_n hC d_R_add_12 rfl 0 rfl ?_
    refine j_get hC hin_R (15 + i) (cw_rule g k u (by omega)) rfl 2 (by decide) (hC.2.2.2.2.1 _ wf_R_26) (fun _ h9 => h9) rfl d_R_add_13 ?_
    refine j_aaldN (v := g (47 + (5 * i + 1 + (tn (u 12 i))))) hC (31 + i) 1 (cw_lits g k u (by omega)) rfl (n := tn (u 12 i)) (hs.1) (hs4) (by decide) (if_pos (hs4)) d_R_add_16 ?_
    refine j_astore (lv' := [(0, .ref (g (15 + i))), (1, .int r), (2, .int a), (3, .int b), (4, .int z), (5, .ref (g (47 + (5 * i + 1 + (tn (u 12 i))))))]) hC d_R_add_17 (by decide) rfl rfl ?_
    refine j_aload hC d_R_add_19 5 rfl ?_
    refine j_iload_n hC d_R_add_21 rfl 1 rfl ?_
    refine j_iload_n hC d_R_add_22 rfl 2 rfl ?_
    refine j_iload_n hC d_R_add_23 rfl 3 rfl ?_
    refine j_iload hC d_R_add_24 4 rfl ?_
    refine j_callNr (As := [.int r, .int a, .int b, .int z]) (rest := []) (st1 := []) hC (k_become l dC dI g k tl u (j := 5 * i + 1 + tn (u 12 i)) (by omega) r a b z hz) rfl rfl ww_R_22 yn_A_become (cw_atom g k u (j := 5 * i + 1 + (tn (u 12 i))) (by omega)) rfl rfl d_R_add_26 (Nat.le_of_ble_eq_true rfl) (by decide) ⟨Nat.zero_le _, Nat.zero_le _⟩ rfl ?_
    refine j_aload_n hC d_R_add_29 rfl 0 rfl ?_
    refine j_dup hC d_R_add_30 rfl ?_
    refine j_get hC hin_R (15 + i) (cw_rule g k (pAdd1 u i r a b z) (by omega)) rfl 2 (by decide) (hC.2.2.2.2.1 _ wf_R_26) (fun _ h9 => h9) rfl d_R_add_31 ?_
    refine j_iconst (v := 1) hC d_R_add_34 (by decide) ?_
    refine j_iadd hC d_R_add_35 ?_
    refine j_put (ty := .int) (ws' := cw g k (up (pAdd1 u i r a b z) 12 i (((pAdd1 u i r a b z) 12 i) + 1))) hC hin_R tyX2 tyX2_ok nmX2 (15 + i) (cw_rule g k (pAdd1 u i r a b z) (by omega)) rfl 2 (by decide) (hC.2.2.2.2.1 _ wf_R_26) (fun _ h9 => h9) rfl (by decide +kernel) (rfl) (rfl) (Nat.le_of_ble_eq_true rfl) (cw_set_size g k (pAdd1 u i r a b z) (by omega) (((pAdd1 u i r a b z) 12 i) + 1)) d_R_add_36 ?_
    refine j_aload_n hC d_R_add_39 rfl 0 rfl ?_
    refine j_dup hC d_R_add_40 rfl ?_
    refine j_get hC hin_R (15 + i) (cw_rule g k (pAdd2 u i r a b z) (by omega)) rfl 3 (by decide) (hC.2.2.2.2.1 _ wf_R_34) (fun _ h9 => h9) rfl d_R_add_41 ?_
    refine j_aload hC d_R_add_44 5 rfl ?_
    refine j_callNr (As := []) (rest := [.int ((pAdd2 u i r a b z) 13 i), .ref (g (15 + i))]) (st1 := [.int (pVars (pAdd2 u i r a b z) (5 * i + 1 + tn (u 12 i))), .int ((pAdd2 u i r a b z) 13 i), .ref (g (15 + i))]) hC (k_vars l dC dI g k tl (pAdd2 u i r a b z) (j := 5 * i + 1 + tn (u 12 i)) (by omega)) rfl rfl ww_R_30 yn_A_variables (cw_atom g k (pAdd2 u i r a b z) (j := 5 * i + 1 + (tn (u 12 i))) (by omega)) rfl rfl d_R_add_46 (Nat.le_of_ble_eq_true rfl) (by decide) ⟨Nat.zero_le _, Nat.zero_le _⟩ rfl ?_
    refine j_ior hC d_R_add_49 ?_
    refine j_put (ty := .int) (ws' := cw g k (up (pAdd2 u i r a b z) 13 i (((pAdd2 u i r a b z) 13 i) ||| (pVars (pAdd2 u i r a b z) (5 * i + 1 + tn (u 12 i)))))) hC hin_R tyX2 tyX2_ok nmX2 (15 + i) (cw_rule g k (pAdd2 u i r a b z) (by omega)) rfl 3 (by decide) (hC.2.2.2.2.1 _ wf_R_34) (fun _ h9 => h9) rfl (by decide +kernel) (rfl) (rfl) (Nat.le_of_ble_eq_true rfl) (cw_set_variables g k (pAdd2 u i r a b z) (by omega) (((pAdd2 u i r a b z) 13 i) ||| (pVars (pAdd2 u i r a b z) (5 * i + 1 + tn (u 12 i))))) d_R_add_50 ?_
    refine j_iload hC d_R_add_53 4 rfl ?_
    refine j_if_ne (tgt := 84) hC d_R_add_55 (by decide) (fun h55 => ?_) (fun h55 => ?_)
    · exact j_vret hC hr ⟨rfl, rfl, congrArg (cw g k) (by rw [pAdd, if_pos h4, if_neg h55] <;> rfl)⟩ d_R_add_84
    · refine j_aload_n hC d_R_add_58 rfl 0 rfl ?_
      refine j_dup hC d_R_add_59 rfl ?_
      refine j_get hC hin_R (15 + i) (cw_rule g k (pAdd3 u i r a b z) (by omega)) rfl 4 (by decide) (hC.2.2.2.2.1 _ wf_R_36) (fun _ h9 => h9) rfl d_R_add_60 ?_
      refine j_aload hC d_R_add_63 5 rfl ?_
      refine j_callNr (As := []) (rest := [.int ((pAdd3 u i r a b z) 14 i), .ref (g (15 + i))]) (st1 := [.int (pVars (pAdd3 u i r a b z) (5 * i + 1 + tn (u 12 i))), .int ((pAdd3 u i r a b z) 14 i), .ref (g (15 + i))]) hC (k_vars l dC dI g k tl (pAdd3 u i r a b z) (j := 5 * i + 1 + tn (u 12 i)) (by omega)) rfl rfl ww_R_30 yn_A_variables (cw_atom g k (pAdd3 u i r a b z) (j := 5 * i + 1 + (tn (u 12 i))) (by omega)) rfl rfl d_R_add_65 (Nat.le_of_ble_eq_true rfl) (by decide) ⟨Nat.zero_le _, Nat.zero_le _⟩ rfl ?_
      refine j_ior hC d_R_add_68 ?_
      refine j_put (ty := .int) (ws' := cw g k (up (pAdd3 u i r a b z) 14 i (((pAdd3 u i r a b z) 14 i) ||| (pVars (pAdd3 u i r a b z) (5 * i + 1 + tn (u 12 i)))))) hC hin_R tyX2 tyX2_ok nmX2 (15 + i) (cw_rule g k (pAdd3 u i r a b z) (by omega)) rfl 4 (by decide) (hC.2.2.2.2.1 _ wf_R_36) (fun _ h9 => h9) rfl (by decide +kernel) (rfl) (rfl) (Nat.le_of_ble_eq_true rfl) (cw_set_positiveVariables g k (pAdd3 u i r a b z) (by omega) (((pAdd3 u i r a b z) 14 i) ||| (pVars (pAdd3 u i r a b z) (5 * i + 1 + tn (u 12 i))))) d_R_add_69 ?_
      refine j_aload_n hC d_R_add_72 rfl 0 rfl ?_
      refine j_dup hC d_R_add_73 rfl ?_
      refine j_get hC hin_R (15 + i) (cw_rule g k (pAdd4 u i r a b z) (by omega)) rfl 5 (by decide) (hC.2.2.2.2.1 _ wf_R_39) (fun _ h9 => h9) rfl d_R_add_74 ?_
      refine j_iconst (v := 1) hC d_R_add_77 (by decide) ?_
      refine j_iload_n hC d_R_add_78 rfl 1 rfl ?_
      refine j_ishl hC d_R_add_79 ?_
      refine j_ior hC d_R_add_80 ?_
      refine j_put (ty := .int) (ws' := cw g k (up (pAdd4 u i r a b z) 15 i (((pAdd4 u i r a b z) 15 i) ||| (1 <<< (r &&& 31))))) hC hin_R tyX2 tyX2_ok nmX2 (15 + i) (cw_rule g k (pAdd4 u i r a b z) (by omega)) rfl 5 (by decide) (hC.2.2.2.2.1 _ wf_R_39) (fun _ h9 => h9) rfl (by decide +kernel) (rfl) (rfl) (Nat.le_of_ble_eq_true rfl) (cw_set_positiveRelations g k (pAdd4 u i r a b z) (by omega) (((pAdd4 u i r a b z) 15 i) ||| (1 <<< (r &&& 31)))) d_R_add_81 ?_
      exact j_vret hC hr ⟨rfl, rfl, congrArg (cw g k) (by rw [pAdd, if_pos h4, if_pos h55] <;> rfl)⟩ d_R_add_84
  · exact j_vret hC hr ⟨rfl, rfl, congrArg (cw g k) (if_neg h4).symm⟩ d_R_add_7

set_option maxHeartbeats 4000000 in
set_option maxRecDepth 100000 in
theorem k_least (l : Launch) (dC : Nat → ClassId) (dI : Nat → Nat → Nat) (g k : Nat → Nat) (tl : List (ClassId × FieldType)) (u : jU) {i : Nat} (hi : i < 16) (hM : wfM u) : jMet l y_R_leastLayer (.code y_R_leastLayer c_R_leastLayer 5 (some .int)) ({ frames := 1, cells := 0, slots := 0, locals := 13 }) (dC, dI) jcl (ctys k tl) jTs [.ref (g (15 + i)), .ref (g 4)] (cw g k u) 0 0 (jRet (some (.int (pLeast u i (tn (u 12 i))))) (cw g k u)) := by
  refine jMet.of (by decide) (Nat.le_of_ble_eq_true rfl) ?_
  intro p e s m below meth c A hC hex hr hnm htr
  show jJ p l e ({ frames := 1, cells := 0, slots := 0, locals := 13 }) s m [.ref (g (15 + i)), .ref (g 4)].toArray below meth c 5 (dC, dI) jcl A (hxQ below (jQ (dC, dI) jcl (jRet (some (.int (pLeast u i (tn (u 12 i))))) (cw g k u)) A) [.ref (g (15 + i)), .ref (g 4)].toArray s 0 0 A) 0 0 (cw g k u) [(0, .ref (g (15 + i))), (1, .ref (g 4))] [] 0
  have hs : wfS u i := hM.1 i hi
  have hA : ∀ q, q < 4 → wfA u (5 * i + 1 + q) := fun q h => hM.2.1 _ (by omega)
  have hs5 : tn (u 12 i) < 5 := hs.2
  have loop : ∀ (n q : Nat), q ≤ tn (u 12 i) → tn (u 12 i) < q + n → jJ p l e ({ frames := 1, cells := 0, slots := 0, locals := 13 }) s m [.ref (g (15 + i)), .ref (g 4)].toArray below meth c 5 (dC, dI) jcl A (hxQ below (jQ (dC, dI) jcl (jRet (some (.int (pLeast u i (tn (u 12 i))))) (cw g k u)) A) [.ref (g (15 + i)), .ref (g 4)].toArray s 0 0 A) 0 0 (cw g k u) [(0, .ref (g (15 + i))), (1, .ref (g 4)), (2, .int (pLeast u i q)), (3, .int (nI q))] [] 4 := by
    intro n
    induction n with
    | zero => intro q h1 h2; exact absurd h2 (by omega)
    | succ n ih =>
      intro q hq hn
      refine j_iload_n hC d_R_leastLayer_4 rfl 3 rfl ?_
      refine j_aload_n hC d_R_leastLayer_5 rfl 0 rfl ?_
      refine j_get hC hin_R (15 + i) (cw_rule g k u (by omega)) rfl 2 (by decide) (hC.2.2.2.2.1 _ wf_R_26) (fun _ h9 => h9) rfl d_R_leastLayer_6 ?_
      refine j_icmp_ge (tgt := 52) hC d_R_leastLayer_9 (by decide) (fun h9 => ?_) (fun h9 => ?_)
      · have hge : tn (u 12 i) ≤ q := (inN_leN hs (by decide) (by omega)).mp h9
        have hqe : q = tn (u 12 i) := by omega
        refine j_iload_n hC d_R_leastLayer_52 rfl 2 rfl ?_
        exact j_iret hC hr ⟨rfl, congrArg (fun z => some (Value.int z)) (by rw [← hqe]), rfl⟩ d_R_leastLayer_53
      · have hlt : q < tn (u 12 i) := Nat.not_le.mp (fun z => h9 ((inN_leN hs (by decide) (by omega)).mpr z))
        have hq4 : q < 4 := by omega
        refine j_aload_n hC d_R_leastLayer_12 rfl 0 rfl ?_
        refine j_get hC hin_R (15 + i) (cw_rule g k u (by omega)) rfl 1 (by decide) (hC.2.2.2.2.1 _ wf_R_18) (fun _ h9 => h9) rfl d_R_leastLayer_13 ?_
        refine j_iload_n hC d_R_leastLayer_16 rfl 3 rfl ?_
        refine j_aaldN (v := g (47 + (5 * i + 1 + q))) hC (31 + i) 1 (cw_lits g k u (by omega)) rfl (n := q) (rfl) (hq4) (by decide) (if_pos (hq4)) d_R_leastLayer_17 ?_
        refine j_astore (lv' := [(0, .ref (g (15 + i))), (1, .ref (g 4)), (2, .int (pLeast u i q)), (3, .int (nI q)), (4, .ref (g (47 + (5 * i + 1 + q))))]) hC d_R_leastLayer_18 (by decide) rfl rfl ?_
        refine j_iload_n hC d_R_leastLayer_20 rfl 2 rfl ?_
        refine j_aload_n hC d_R_leastLayer_21 rfl 1 rfl ?_
        refine j_aload hC d_R_leastLayer_22 4 rfl ?_
        refine j_getN hC hin_A (47 + (5 * i + 1 + q)) (cw_atom g k u (j := 5 * i + 1 + q) (by omega)) rfl 0 (by decide) (hC.2.2.2.2.1 _ wf_R_46) (fun _ h9 => h9) rfl d_R_leastLayer_24 ?_
        refine j_ialdN hC (4) 0 (cw_layers g k u) rfl (n := tn (u 16 (5 * i + 1 + q))) ((hA q hq4).1.1) ((hA q hq4).1.2) (by decide) d_R_leastLayer_27 ?_
        refine j_aload hC d_R_leastLayer_28 4 rfl ?_
        refine j_getN hC hin_A (47 + (5 * i + 1 + q)) (cw_atom g k u (j := 5 * i + 1 + q) (by omega)) rfl 3 (by decide) (hC.2.2.2.2.1 _ wf_R_49) (fun _ h9 => h9) rfl d_R_leastLayer_30 ?_
        refine j_if_eq (tgt := 40) hC d_R_leastLayer_33 (by decide) (fun h33 => ?_) (fun h33 => ?_)
        · refine j_iconst (v := 0) hC d_R_leastLayer_40 (by decide) ?_
          refine j_iadd hC d_R_leastLayer_41 ?_
          refine j_mmax hC wm_R d_R_leastLayer_42 (by decide) (Nat.le_of_ble_eq_true rfl) ⟨Nat.zero_le _, Nat.zero_le _⟩ ?_
          refine j_istore_n (lv' := [(0, .ref (g (15 + i))), (1, .ref (g 4)), (2, .int (if pLeast u i q < (u 3 (tn (u 16 (5 * i + 1 + q)))) + 0 then (u 3 (tn (u 16 (5 * i + 1 + q)))) + 0 else pLeast u i q)), (3, .int (nI q)), (4, .ref (g (47 + (5 * i + 1 + q))))]) hC d_R_leastLayer_45 rfl (by decide) rfl rfl ?_
          refine j_iinc (lv' := [(0, .ref (g (15 + i))), (1, .ref (g 4)), (2, .int (if pLeast u i q < (u 3 (tn (u 16 (5 * i + 1 + q)))) + 0 then (u 3 (tn (u 16 (5 * i + 1 + q)))) + 0 else pLeast u i q)), (3, .int (nI (q + 1))), (4, .ref (g (47 + (5 * i + 1 + q))))]) hC d_R_leastLayer_46 3 rfl (nI_1 _) (by decide) rfl rfl ?_
          refine j_goto (tgt := 4) hC d_R_leastLayer_49 (by decide) ?_
          have e9 : pLeast u i (q + 1) = if pLeast u i q < (u 3 (tn (u 16 (5 * i + 1 + q)))) + 0 then (u 3 (tn (u 16 (5 * i + 1 + q)))) + 0 else pLeast u i q := by rw [pLeast, if_pos h33]
          have k9 := ih (q + 1) (by omega) (by omega)
          rw [e9] at k9
          exact j_locals [0, 1, 2, 3] rfl k9
        · refine j_iconst (v := 1) hC d_R_leastLayer_36 (by decide) ?_
          refine j_goto (tgt := 41) hC d_R_leastLayer_37 (by decide) ?_
          refine j_iadd hC d_R_leastLayer_41 ?_
          refine j_mmax hC wm_R d_R_leastLayer_42 (by decide) (Nat.le_of_ble_eq_true rfl) ⟨Nat.zero_le _, Nat.zero_le _⟩ ?_
          refine j_istore_n (lv' := [(0, .ref (g (15 + i))), (1, .ref (g 4)), (2, .int (if pLeast u i q < (u 3 (tn (u 16 (5 * i + 1 + q)))) + 1 then (u 3 (tn (u 16 (5 * i + 1 + q)))) + 1 else pLeast u i q)), (3, .int (nI q)), (4, .ref (g (47 + (5 * i + 1 + q))))]) hC d_R_leastLayer_45 rfl (by decide) rfl rfl ?_
          refine j_iinc (lv' := [(0, .ref (g (15 + i))), (1, .ref (g 4)), (2, .int (if pLeast u i q < (u 3 (tn (u 16 (5 * i + 1 + q)))) + 1 then (u 3 (tn (u 16 (5 * i + 1 + q)))) + 1 else pLeast u i q)), (3, .int (nI (q + 1))), (4, .ref (g (47 + (5 * i + 1 + q))))]) hC d_R_leastLayer_46 3 rfl (nI_1 _) (by decide) rfl rfl ?_
          refine j_goto (tgt := 4) hC d_R_leastLayer_49 (by decide) ?_
          have e9 : pLeast u i (q + 1) = if pLeast u i q < (u 3 (tn (u 16 (5 * i + 1 + q)))) + 1 then (u 3 (tn (u 16 (5 * i + 1 + q)))) + 1 else pLeast u i q := by rw [pLeast, if_neg h33]
          have k9 := ih (q + 1) (by omega) (by omega)
          rw [e9] at k9
          exact j_locals [0, 1, 2, 3] rfl k9
  refine j_iconst (v := 0) hC d_R_leastLayer_0 (by decide) ?_
  refine j_istore_n (lv' := [(0, .ref (g (15 + i))), (1, .ref (g 4)), (2, .int 0)]) hC d_R_leastLayer_1 rfl (by decide) rfl rfl ?_
  refine j_iconst (v := 0) hC d_R_leastLayer_2 (by decide) ?_
  refine j_istore_n (lv' := [(0, .ref (g (15 + i))), (1, .ref (g 4)), (2, .int 0), (3, .int 0)]) hC d_R_leastLayer_3 rfl (by decide) rfl rfl ?_
  exact loop 6 0 (by omega) (by omega)
