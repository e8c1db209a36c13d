set_option maxHeartbeats 4000000 in
set_option maxRecDepth 100000 in
theorem r_thrown (l : Launch) (dC : Nat → ClassId) (dI : Nat → Nat → Nat) (g k : Nat → Nat) (tl : List (ClassId × FieldType)) (u : jU)  : jMet l y_D_thrown (.code y_D_thrown c_D_thrown 1 (some .int)) ({ frames := 0, cells := 0, slots := 0, locals := 0 }) (dC, dI) jcl (mtys k tl) jTs [.ref (g 0)] (mw g k u) 0 0 (jRet (some (.int (m_thrown u))) (mw g k u)) := by
  refine jMet.of (by decide) (Nat.le_of_ble_eq_true rfl) ?_
  intro p e s m below meth c A hC hex hr hnm htr
  show jJ p l e ({ frames := 0, cells := 0, slots := 0, locals := 0 }) s m [.ref (g 0)].toArray below meth c 1 (dC, dI) jcl A (hxQ below (jQ (dC, dI) jcl (jRet (some (.int (m_thrown u))) (mw g k u)) A) [.ref (g 0)].toArray s 0 0 A) 0 0 (mw g k u) [(0, .ref (g 0))] [] 0
  refine j_aload_n hC d_D_thrown_0 rfl 0 rfl ?_
  refine j_get hC hin_D (0) (mw_obj g k u) rfl 0 (by decide) (hC.2.2.2.2.1 _ wf_D_44) (fun _ h9 => h9) rfl d_D_thrown_1 ?_
  exact j_iret hC hr ⟨rfl, by rw [m_thrown] <;> rfl, rfl⟩ d_D_thrown_4

set_option maxHeartbeats 4000000 in
set_option maxRecDepth 100000 in
theorem r_refuse (l : Launch) (dC : Nat → ClassId) (dI : Nat → Nat → Nat) (g k : Nat → Nat) (tl : List (ClassId × FieldType)) (u : jU) (a b d : Int32) : jMet l y_D_refuse (.code y_D_refuse c_D_refuse 4 (some .boolean)) ({ frames := 0, cells := 0, slots := 0, locals := 0 }) (dC, dI) jcl (mtys k tl) jTs [.ref (g 0), .int a, .int b, .int d] (mw g k u) 0 0 (jRet (some (.int ((m_refuse u a b d).1))) (mw g k ((m_refuse u a b d).2))) := by
  refine jMet.of (by decide) (Nat.le_of_ble_eq_true rfl) ?_
  intro p e s m below meth c A hC hex hr hnm htr
  show jJ p l e ({ frames := 0, cells := 0, slots := 0, locals := 0 }) s m [.ref (g 0), .int a, .int b, .int d].toArray below meth c 4 (dC, dI) jcl A (hxQ below (jQ (dC, dI) jcl (jRet (some (.int ((m_refuse u a b d).1))) (mw g k ((m_refuse u a b d).2))) A) [.ref (g 0), .int a, .int b, .int d].toArray s 0 0 A) 0 0 (mw g k u) [(0, .ref (g 0)), (1, .int a), (2, .int b), (3, .int d)] [] 0
  refine j_aload_n hC d_D_refuse_0 rfl 0 rfl ?_
  refine j_iload_n hC d_D_refuse_1 rfl 1 rfl ?_
  suffices hk2 : jJ p l e ({ frames := 0, cells := 0, slots := 0, locals := 0 }) s m [.ref (g 0), .int a, .int b, .int d].toArray below meth c 4 (dC, dI) jcl A (hxQ below (jQ (dC, dI) jcl (jRet (some (.int ((m_refuse u a b d).1))) (mw g k ((m_refuse u a b d).2))) A) [.ref (g 0), .int a, .int b, .int d].toArray s 0 0 A) 0 0 (mw g k u) [(0, .ref (g 0)), (1, .int a), (2, .int b), (3, .int d)] [.int (if a = 0 then (if b = 0 then (if d = 0 then (0 : Int32) else (3 : Int32)) else (2 : Int32)) else (1 : Int32)), .ref (g 0)] 26 by
    refine j_if_eq (tgt := 9) hC d_D_refuse_2 (by decide) (fun h2 => ?_) (fun h2 => ?_)
    · refine j_iload_n hC d_D_refuse_9 rfl 2 rfl ?_
      suffices hk10 : jJ p l e ({ frames := 0, cells := 0, slots := 0, locals := 0 }) s m [.ref (g 0), .int a, .int b, .int d].toArray below meth c 4 (dC, dI) jcl A (hxQ below (jQ (dC, dI) jcl (jRet (some (.int ((m_refuse u a b d).1))) (mw g k ((m_refuse u a b d).2))) A) [.ref (g 0), .int a, .int b, .int d].toArray s 0 0 A) 0 0 (mw g k u) [(0, .ref (g 0)), (1, .int a), (2, .int b), (3, .int d)] [.int (if b = 0 then (if d = 0 then (0 : Int32) else (3 : Int32)) else (2 : Int32)), .ref (g 0)] 26 by
        refine j_if_eq (tgt := 17) hC d_D_refuse_10 (by decide) (fun h10 => ?_) (fun h10 => ?_)
        · refine j_iload_n hC d_D_refuse_17 rfl 3 rfl ?_
          suffices hk18 : jJ p l e ({ frames := 0, cells := 0, slots := 0, locals := 0 }) s m [.ref (g 0), .int a, .int b, .int d].toArray below meth c 4 (dC, dI) jcl A (hxQ below (jQ (dC, dI) jcl (jRet (some (.int ((m_refuse u a b d).1))) (mw g k ((m_refuse u a b d).2))) A) [.ref (g 0), .int a, .int b, .int d].toArray s 0 0 A) 0 0 (mw g k u) [(0, .ref (g 0)), (1, .int a), (2, .int b), (3, .int d)] [.int (if d = 0 then (0 : Int32) else (3 : Int32)), .ref (g 0)] 26 by
            refine j_if_eq (tgt := 25) hC d_D_refuse_18 (by decide) (fun h18 => ?_) (fun h18 => ?_)
            · refine j_iconst (v := 0) hC d_D_refuse_25 (by decide) ?_
              exact j_top ((if_pos h18)) hk18
            · refine j_iconst (v := 3) hC d_D_refuse_21 (by decide) ?_
              refine j_goto (tgt := 26) hC d_D_refuse_22 (by decide) ?_
              exact j_top ((if_neg h18)) hk18
          exact j_top ((if_pos h10)) hk10
        · refine j_iconst (v := 2) hC d_D_refuse_13 (by decide) ?_
          refine j_goto (tgt := 26) hC d_D_refuse_14 (by decide) ?_
          exact j_top ((if_neg h10)) hk10
      exact j_top ((if_pos h2)) hk2
    · refine j_iconst (v := 1) hC d_D_refuse_5 (by decide) ?_
      refine j_goto (tgt := 26) hC d_D_refuse_6 (by decide) ?_
      exact j_top ((if_neg h2)) hk2
  refine j_put (ty := .int) (ws' := mw g k (up u 0 4 (if a = 0 then (if b = 0 then (if d = 0 then (0 : Int32) else (3 : Int32)) else (2 : Int32)) else (1 : Int32)))) hC hin_D tyX5 tyX5_ok nmX5 (0) (mw_obj g k u) rfl 0 (by decide) (hC.2.2.2.2.1 _ wf_D_44) (fun _ h9 => h9) rfl (by decide +kernel) (rfl) (rfl) (Nat.le_of_ble_eq_true rfl) (mw_set_thrown g k u (if a = 0 then (if b = 0 then (if d = 0 then (0 : Int32) else (3 : Int32)) else (2 : Int32)) else (1 : Int32))) d_D_refuse_26 ?_
  refine j_aload_n hC d_D_refuse_29 rfl 0 rfl ?_
  refine j_get hC hin_D (0) (mw_obj g k (up u 0 4 (if a = 0 then (if b = 0 then (if d = 0 then (0 : Int32) else (3 : Int32)) else (2 : Int32)) else (1 : Int32)))) rfl 0 (by decide) (hC.2.2.2.2.1 _ wf_D_44) (fun _ h9 => h9) rfl d_D_refuse_30 ?_
  suffices hk33 : jJ p l e ({ frames := 0, cells := 0, slots := 0, locals := 0 }) s m [.ref (g 0), .int a, .int b, .int d].toArray below meth c 4 (dC, dI) jcl A (hxQ below (jQ (dC, dI) jcl (jRet (some (.int ((m_refuse u a b d).1))) (mw g k ((m_refuse u a b d).2))) A) [.ref (g 0), .int a, .int b, .int d].toArray s 0 0 A) 0 0 (mw g k (up u 0 4 (if a = 0 then (if b = 0 then (if d = 0 then (0 : Int32) else (3 : Int32)) else (2 : Int32)) else (1 : Int32)))) [(0, .ref (g 0)), (1, .int a), (2, .int b), (3, .int d)] [.int (if ((up u 0 4 (if a = 0 then (if b = 0 then (if d = 0 then (0 : Int32) else (3 : Int32)) else (2 : Int32)) else (1 : Int32))) 0 4) ≤ 0 then (0 : Int32) else (1 : Int32))] 41 by
    refine j_if_le (tgt := 40) hC d_D_refuse_33 (by decide) (fun h33 => ?_) (fun h33 => ?_)
    · refine j_iconst (v := 0) hC d_D_refuse_40 (by decide) ?_
      exact j_top ((if_pos h33)) hk33
    · refine j_iconst (v := 1) hC d_D_refuse_36 (by decide) ?_
      refine j_goto (tgt := 41) hC d_D_refuse_37 (by decide) ?_
      exact j_top ((if_neg h33)) hk33
  exact j_zret hC hr (by repeat' (first | rfl | split)) ⟨rfl, by rw [m_refuse] <;> rfl, congrArg (mw g k) (by rw [m_refuse] <;> rfl)⟩ d_D_refuse_41

set_option maxHeartbeats 4000000 in
set_option maxRecDepth 100000 in
theorem r_in (l : Launch) (dC : Nat → ClassId) (dI : Nat → Nat → Nat) (g k : Nat → Nat) (tl : List (ClassId × FieldType)) (u : jU) (x lo hi : Int32) : jMet l y_D_in (.code y_D_in c_D_in 3 (some .boolean)) ({ frames := 0, cells := 0, slots := 0, locals := 0 }) (dC, dI) jcl (mtys k tl) jTs [.int x, .int lo, .int hi] (mw g k u) 0 0 (jRet (some (.int (m_in x lo hi))) (mw g k u)) := by
  refine jMet.of (by decide) (Nat.le_of_ble_eq_true rfl) ?_
  intro p e s m below meth c A hC hex hr hnm htr
  show jJ p l e ({ frames := 0, cells := 0, slots := 0, locals := 0 }) s m [.int x, .int lo, .int hi].toArray below meth c 3 (dC, dI) jcl A (hxQ below (jQ (dC, dI) jcl (jRet (some (.int (m_in x lo hi))) (mw g k u)) A) [.int x, .int lo, .int hi].toArray s 0 0 A) 0 0 (mw g k u) [(0, .int x), (1, .int lo), (2, .int hi)] [] 0
  refine j_iload_n hC d_D_in_0 rfl 0 rfl ?_
  refine j_iload_n hC d_D_in_1 rfl 1 rfl ?_
  suffices hk2 : jJ p l e ({ frames := 0, cells := 0, slots := 0, locals := 0 }) s m [.int x, .int lo, .int hi].toArray below meth c 3 (dC, dI) jcl A (hxQ below (jQ (dC, dI) jcl (jRet (some (.int (m_in x lo hi))) (mw g k u)) A) [.int x, .int lo, .int hi].toArray s 0 0 A) 0 0 (mw g k u) [(0, .int x), (1, .int lo), (2, .int hi)] [.int (if x < lo then (0 : Int32) else (if hi < x then (0 : Int32) else (1 : Int32)))] 15 by
    refine j_icmp_lt (tgt := 14) hC d_D_in_2 (by decide) (fun h2 => ?_) (fun h2 => ?_)
    · refine j_iconst (v := 0) hC d_D_in_14 (by decide) ?_
      exact j_top ((if_pos h2)) hk2
    · refine j_iload_n hC d_D_in_5 rfl 0 rfl ?_
      refine j_iload_n hC d_D_in_6 rfl 2 rfl ?_
      suffices hk7 : jJ p l e ({ frames := 0, cells := 0, slots := 0, locals := 0 }) s m [.int x, .int lo, .int hi].toArray below meth c 3 (dC, dI) jcl A (hxQ below (jQ (dC, dI) jcl (jRet (some (.int (m_in x lo hi))) (mw g k u)) A) [.int x, .int lo, .int hi].toArray s 0 0 A) 0 0 (mw g k u) [(0, .int x), (1, .int lo), (2, .int hi)] [.int (if hi < x then (0 : Int32) else (1 : Int32))] 15 by
        refine j_icmp_gt (tgt := 14) hC d_D_in_7 (by decide) (fun h7 => ?_) (fun h7 => ?_)
        · refine j_iconst (v := 0) hC d_D_in_14 (by decide) ?_
          exact j_top ((if_pos h7)) hk7
        · refine j_iconst (v := 1) hC d_D_in_10 (by decide) ?_
          refine j_goto (tgt := 15) hC d_D_in_11 (by decide) ?_
          exact j_top ((if_neg h7)) hk7
      exact j_top ((if_neg h2)) hk2
  exact j_zret hC hr (by repeat' (first | rfl | split)) ⟨rfl, by rw [m_in] <;> rfl, rfl⟩ d_D_in_15

set_option maxHeartbeats 4000000 in
set_option maxRecDepth 100000 in
theorem r_isFact (l : Launch) (dC : Nat → ClassId) (dI : Nat → Nat → Nat) (g k : Nat → Nat) (tl : List (ClassId × FieldType)) (u : jU) (hD : wfD u) (r a b : Int32) : jMet l y_D_isFact (.code y_D_isFact c_D_isFact 4 (some .boolean)) ({ frames := 1, cells := 0, slots := 0, locals := 22 }) (dC, dI) jcl (mtys k tl) jTs [.ref (g 0), .int r, .int a, .int b] (mw g k u) 0 0 (jRet (some (.int (m_isFact u r a b))) (mw g k u)) := by
  refine jMet.of (by decide) (Nat.le_of_ble_eq_true rfl) ?_
  intro p e s m below meth c A hC hex hr hnm htr
  show jJ p l e ({ frames := 1, cells := 0, slots := 0, locals := 22 }) s m [.ref (g 0), .int r, .int a, .int b].toArray below meth c 4 (dC, dI) jcl A (hxQ below (jQ (dC, dI) jcl (jRet (some (.int (m_isFact u r a b))) (mw g k u)) A) [.ref (g 0), .int r, .int a, .int b].toArray s 0 0 A) 0 0 (mw g k u) [(0, .ref (g 0)), (1, .int r), (2, .int a), (3, .int b)] [] 0
  refine j_iload_n hC d_D_isFact_0 rfl 1 rfl ?_
  refine j_iconst (v := 0) hC d_D_isFact_1 (by decide) ?_
  refine j_aload_n hC d_D_isFact_2 rfl 0 rfl ?_
  refine j_get hC hin_D (0) (mw_obj g k u) rfl 1 (by decide) (hC.2.2.2.2.1 _ wf_D_48) (fun _ h9 => h9) rfl d_D_isFact_3 ?_
  refine j_iconst (v := 1) hC d_D_isFact_6 (by decide) ?_
  refine j_isub hC d_D_isFact_7 ?_
  refine j_callSr (As := [.int r, .int 0, .int ((u 0 0) - 1)]) (rest := []) (st1 := [.int (m_in r 0 (u 0 0 - 1))]) hC (r_in l dC dI g k tl u r 0 (u 0 0 - 1)) rfl rfl ww_D_58 yn_D_in rfl d_D_isFact_8 (Nat.le_of_ble_eq_true rfl) (by decide) ⟨Nat.zero_le _, Nat.zero_le _⟩ rfl ?_
  refine j_if_ne (tgt := 16) hC d_D_isFact_11 (by decide) (fun h11 => ?_) (fun h11 => ?_)
  · refine j_aload_n hC d_D_isFact_16 rfl 0 rfl ?_
    refine j_get hC hin_D (0) (mw_obj g k u) rfl 2 (by decide) (hC.2.2.2.2.1 _ wf_D_7) (fun _ h9 => h9) rfl d_D_isFact_17 ?_
    refine j_iload_n hC d_D_isFact_20 rfl 1 rfl ?_
    refine j_ialdN hC (1) 0 (mw_places g k u) rfl (n := tn r) ((in_rel hD h11).1) (rel8 hD (in_rel hD h11)) (by decide) d_D_isFact_21 ?_
    refine j_iconst (v := 1) hC d_D_isFact_22 (by decide) ?_
    suffices hk23 : jJ p l e ({ frames := 1, cells := 0, slots := 0, locals := 22 }) s m [.ref (g 0), .int r, .int a, .int b].toArray below meth c 4 (dC, dI) jcl A (hxQ below (jQ (dC, dI) jcl (jRet (some (.int (m_isFact u r a b))) (mw g k u)) A) [.ref (g 0), .int r, .int a, .int b].toArray s 0 0 A) 0 0 (mw g k u) [(0, .ref (g 0)), (1, .int r), (2, .int a), (3, .int b)] [.int (if (u 1 (tn r)) < 1 then (if (u 1 (tn r)) < 2 then (1 : Int32) else (if (m_in b 0 11) = 0 then (0 : Int32) else (1 : Int32))) else (if (m_in a 0 11) = 0 then (0 : Int32) else (if (u 1 (tn r)) < 2 then (1 : Int32) else (if (m_in b 0 11) = 0 then (0 : Int32) else (1 : Int32)))))] 61 by
      refine j_icmp_lt (tgt := 36) hC d_D_isFact_23 (by decide) (fun h23 => ?_) (fun h23 => ?_)
      · refine j_aload_n hC d_D_isFact_36 rfl 0 rfl ?_
        refine j_get hC hin_D (0) (mw_obj g k u) rfl 2 (by decide) (hC.2.2.2.2.1 _ wf_D_7) (fun _ h9 => h9) rfl d_D_isFact_37 ?_
        refine j_iload_n hC d_D_isFact_40 rfl 1 rfl ?_
        refine j_ialdN hC (1) 0 (mw_places g k u) rfl (n := tn r) ((in_rel hD h11).1) (rel8 hD (in_rel hD h11)) (by decide) d_D_isFact_41 ?_
        refine j_iconst (v := 2) hC d_D_isFact_42 (by decide) ?_
        suffices hk43 : jJ p l e ({ frames := 1, cells := 0, slots := 0, locals := 22 }) s m [.ref (g 0), .int r, .int a, .int b].toArray below meth c 4 (dC, dI) jcl A (hxQ below (jQ (dC, dI) jcl (jRet (some (.int (m_isFact u r a b))) (mw g k u)) A) [.ref (g 0), .int r, .int a, .int b].toArray s 0 0 A) 0 0 (mw g k u) [(0, .ref (g 0)), (1, .int r), (2, .int a), (3, .int b)] [.int (if (u 1 (tn r)) < 2 then (1 : Int32) else (if (m_in b 0 11) = 0 then (0 : Int32) else (1 : Int32)))] 61 by
          refine j_icmp_lt (tgt := 56) hC d_D_isFact_43 (by decide) (fun h43 => ?_) (fun h43 => ?_)
          · refine j_iconst (v := 1) hC d_D_isFact_56 (by decide) ?_
            refine j_goto (tgt := 61) hC d_D_isFact_57 (by decide) ?_
            exact j_top ((if_pos h43)) hk43
          · refine j_iload_n hC d_D_isFact_46 rfl 3 rfl ?_
            refine j_iconst (v := 0) hC d_D_isFact_47 (by decide) ?_
            refine j_bipush (v := 11) hC d_D_isFact_48 (by decide) ?_
            refine j_callSr (As := [.int b, .int 0, .int 11]) (rest := []) (st1 := [.int (m_in b 0 11)]) hC (r_in l dC dI g k tl u b 0 11) rfl rfl ww_D_58 yn_D_in rfl d_D_isFact_50 (Nat.le_of_ble_eq_true rfl) (by decide) ⟨Nat.zero_le _, Nat.zero_le _⟩ rfl ?_
            suffices hk53 : jJ p l e ({ frames := 1, cells := 0, slots := 0, locals := 22 }) s m [.ref (g 0), .int r, .int a, .int b].toArray below meth c 4 (dC, dI) jcl A (hxQ below (jQ (dC, dI) jcl (jRet (some (.int (m_isFact u r a b))) (mw g k u)) A) [.ref (g 0), .int r, .int a, .int b].toArray s 0 0 A) 0 0 (mw g k u) [(0, .ref (g 0)), (1, .int r), (2, .int a), (3, .int b)] [.int (if (m_in b 0 11) = 0 then (0 : Int32) else (1 : Int32))] 61 by
              refine j_if_eq (tgt := 60) hC d_D_isFact_53 (by decide) (fun h53 => ?_) (fun h53 => ?_)
              · refine j_iconst (v := 0) hC d_D_isFact_60 (by decide) ?_
                exact j_top ((if_pos h53)) hk53
              · refine j_iconst (v := 1) hC d_D_isFact_56 (by decide) ?_
                refine j_goto (tgt := 61) hC d_D_isFact_57 (by decide) ?_
                exact j_top ((if_neg h53)) hk53
            exact j_top ((if_neg h43)) hk43
        exact j_top ((if_pos h23)) hk23
      · refine j_iload_n hC d_D_isFact_26 rfl 2 rfl ?_
        refine j_iconst (v := 0) hC d_D_isFact_27 (by decide) ?_
        refine j_bipush (v := 11) hC d_D_isFact_28 (by decide) ?_
        refine j_callSr (As := [.int a, .int 0, .int 11]) (rest := []) (st1 := [.int (m_in a 0 11)]) hC (r_in l dC dI g k tl u a 0 11) rfl rfl ww_D_58 yn_D_in rfl d_D_isFact_30 (Nat.le_of_ble_eq_true rfl) (by decide) ⟨Nat.zero_le _, Nat.zero_le _⟩ rfl ?_
        suffices hk33 : jJ p l e ({ frames := 1, cells := 0, slots := 0, locals := 22 }) s m [.ref (g 0), .int r, .int a, .int b].toArray below meth c 4 (dC, dI) jcl A (hxQ below (jQ (dC, dI) jcl (jRet (some (.int (m_isFact u r a b))) (mw g k u)) A) [.ref (g 0), .int r, .int a, .int b].toArray s 0 0 A) 0 0 (mw g k u) [(0, .ref (g 0)), (1, .int r), (2, .int a), (3, .int b)] [.int (if (m_in a 0 11) = 0 then (0 : Int32) else (if (u 1 (tn r)) < 2 then (1 : Int32) else (if (m_in b 0 11) = 0 then (0 : Int32) else (1 : Int32))))] 61 by
          refine j_if_eq (tgt := 60) hC d_D_isFact_33 (by decide) (fun h33 => ?_) (fun h33 => ?_)
          · refine j_iconst (v := 0) hC d_D_isFact_60 (by decide) ?_
            exact j_top ((if_pos h33)) hk33
          · refine j_aload_n hC d_D_isFact_36 rfl 0 rfl ?_
            refine j_get hC hin_D (0) (mw_obj g k u) rfl 2 (by decide) (hC.2.2.2.2.1 _ wf_D_7) (fun _ h9 => h9) rfl d_D_isFact_37 ?_
            refine j_iload_n hC d_D_isFact_40 rfl 1 rfl ?_
            refine j_ialdN hC (1) 0 (mw_places g k u) rfl (n := tn r) ((in_rel hD h11).1) (rel8 hD (in_rel hD h11)) (by decide) d_D_isFact_41 ?_
            refine j_iconst (v := 2) hC d_D_isFact_42 (by decide) ?_
            suffices hk43 : jJ p l e ({ frames := 1, cells := 0, slots := 0, locals := 22 }) s m [.ref (g 0), .int r, .int a, .int b].toArray below meth c 4 (dC, dI) jcl A (hxQ below (jQ (dC, dI) jcl (jRet (some (.int (m_isFact u r a b))) (mw g k u)) A) [.ref (g 0), .int r, .int a, .int b].toArray s 0 0 A) 0 0 (mw g k u) [(0, .ref (g 0)), (1, .int r), (2, .int a), (3, .int b)] [.int (if (u 1 (tn r)) < 2 then (1 : Int32) else (if (m_in b 0 11) = 0 then (0 : Int32) else (1 : Int32)))] 61 by
              refine j_icmp_lt (tgt := 56) hC d_D_isFact_43 (by decide) (fun h43 => ?_) (fun h43 => ?_)
              · refine j_iconst (v := 1) hC d_D_isFact_56 (by decide) ?_
                refine j_goto (tgt := 61) hC d_D_isFact_57 (by decide) ?_
                exact j_top ((if_pos h43)) hk43
              · refine j_iload_n hC d_D_isFact_46 rfl 3 rfl ?_
                refine j_iconst (v := 0) hC d_D_isFact_47 (by decide) ?_
                refine j_bipush (v := 11) hC d_D_isFact_48 (by decide) ?_
                refine j_callSr (As := [.int b, .int 0, .int 11]) (rest := []) (st1 := [.int (m_in b 0 11)]) hC (r_in l dC dI g k tl u b 0 11) rfl rfl ww_D_58 yn_D_in rfl d_D_isFact_50 (Nat.le_of_ble_eq_true rfl) (by decide) ⟨Nat.zero_le _, Nat.zero_le _⟩ rfl ?_
                suffices hk53 : jJ p l e ({ frames := 1, cells := 0, slots := 0, locals := 22 }) s m [.ref (g 0), .int r, .int a, .int b].toArray below meth c 4 (dC, dI) jcl A (hxQ below (jQ (dC, dI) jcl (jRet (some (.int (m_isFact u r a b))) (mw g k u)) A) [.ref (g 0), .int r, .int a, .int b].toArray s 0 0 A) 0 0 (mw g k u) [(0, .ref (g 0)), (1, .int r), (2, .int a), (3, .int b)] [.int (if (m_in b 0 11) = 0 then (0 : Int32) else (1 : Int32))] 61 by
                  refine j_if_eq (tgt := 60) hC d_D_isFact_53 (by decide) (fun h53 => ?_) (fun h53 => ?_)
                  · refine j_iconst (v := 0) hC d_D_isFact_60 (by decide) ?_
                    exact j_top ((if_pos h53)) hk53
                  · refine j_iconst (v := 1) hC d_D_isFact_56 (by decide) ?_
                    refine j_goto (tgt := 61) hC d_D_isFact_57 (by decide) ?_
                    exact j_top ((if_neg h53)) hk53
                exact j_top ((if_neg h43)) hk43
            exact j_top ((if_neg h33)) hk33
        exact j_top ((if_neg h23)) hk23
    exact j_zret hC hr (by repeat' (first | rfl | split)) ⟨rfl, by rw [m_isFact, if_neg h11] <;> rfl, rfl⟩ d_D_isFact_61
  · refine j_iconst (v := 0) hC d_D_isFact_14 (by decide) ?_
    exact j_zret hC hr (by repeat' (first | rfl | split)) ⟨rfl, by rw [m_isFact, if_pos h11] <;> rfl, rfl⟩ d_D_isFact_15

set_option maxHeartbeats 4000000 in
set_option maxRecDepth 100000 in
theorem r_factAt (l : Launch) (dC : Nat → ClassId) (dI : Nat → Nat → Nat) (g k : Nat → Nat) (tl : List (ClassId × FieldType)) (u : jU) (r a b : Int32) (hr8 : inN r 8) : jMet l y_D_factAt (.code y_D_factAt c_D_factAt 4 (some .int)) ({ frames := 0, cells := 0, slots := 0, locals := 0 }) (dC, dI) jcl (mtys k tl) jTs [.ref (g 0), .int r, .int a, .int b] (mw g k u) 0 0 (jRet (some (.int (m_factAt u r a b))) (mw g k u)) := by
  refine jMet.of (by decide) (Nat.le_of_ble_eq_true rfl) ?_
  intro p e s m below meth c A hC hex hr hnm htr
  show jJ p l e ({ frames := 0, cells := 0, slots := 0, locals := 0 }) s m [.ref (g 0), .int r, .int a, .int b].toArray below meth c 4 (dC, dI) jcl A (hxQ below (jQ (dC, dI) jcl (jRet (some (.int (m_factAt u r a b))) (mw g k u)) A) [.ref (g 0), .int r, .int a, .int b].toArray s 0 0 A) 0 0 (mw g k u) [(0, .ref (g 0)), (1, .int r), (2, .int a), (3, .int b)] [] 0
  refine j_sipush (v := 144) hC d_D_factAt_0 (by decide) ?_
  refine j_iload_n hC d_D_factAt_3 rfl 1 rfl ?_
  refine j_imul hC d_D_factAt_4 ?_
  refine j_bipush (v := 12) hC d_D_factAt_5 (by decide) ?_
  refine j_aload_n hC d_D_factAt_7 rfl 0 rfl ?_
  refine j_get hC hin_D (0) (mw_obj g k u) rfl 2 (by decide) (hC.2.2.2.2.1 _ wf_D_7) (fun _ h9 => h9) rfl d_D_factAt_8 ?_
  refine j_iload_n hC d_D_factAt_11 rfl 1 rfl ?_
  refine j_ialdN hC (1) 0 (mw_places g k u) rfl (n := tn r) (hr8.1) (hr8.2) (by decide) d_D_factAt_12 ?_
  suffices hk13 : jJ p l e ({ frames := 0, cells := 0, slots := 0, locals := 0 }) s m [.ref (g 0), .int r, .int a, .int b].toArray below meth c 4 (dC, dI) jcl A (hxQ below (jQ (dC, dI) jcl (jRet (some (.int (m_factAt u r a b))) (mw g k u)) A) [.ref (g 0), .int r, .int a, .int b].toArray s 0 0 A) 0 0 (mw g k u) [(0, .ref (g 0)), (1, .int r), (2, .int a), (3, .int b)] [.int (if (u 1 (tn r)) ≤ 0 then (0 : Int32) else a), .int 12, .int (144 * r)] 21 by
    refine j_if_le (tgt := 20) hC d_D_factAt_13 (by decide) (fun h13 => ?_) (fun h13 => ?_)
    · refine j_iconst (v := 0) hC d_D_factAt_20 (by decide) ?_
      exact j_top ((if_pos h13)) hk13
    · refine j_iload_n hC d_D_factAt_16 rfl 2 rfl ?_
      refine j_goto (tgt := 21) hC d_D_factAt_17 (by decide) ?_
      exact j_top ((if_neg h13)) hk13
  refine j_imul hC d_D_factAt_21 ?_
  refine j_iadd hC d_D_factAt_22 ?_
  refine j_aload_n hC d_D_factAt_23 rfl 0 rfl ?_
  refine j_get hC hin_D (0) (mw_obj g k u) rfl 2 (by decide) (hC.2.2.2.2.1 _ wf_D_7) (fun _ h9 => h9) rfl d_D_factAt_24 ?_
  refine j_iload_n hC d_D_factAt_27 rfl 1 rfl ?_
  refine j_ialdN hC (1) 0 (mw_places g k u) rfl (n := tn r) (hr8.1) (hr8.2) (by decide) d_D_factAt_28 ?_
  refine j_iconst (v := 1) hC d_D_factAt_29 (by decide) ?_
  suffices hk30 : jJ p l e ({ frames := 0, cells := 0, slots := 0, locals := 0 }) s m [.ref (g 0), .int r, .int a, .int b].toArray below meth c 4 (dC, dI) jcl A (hxQ below (jQ (dC, dI) jcl (jRet (some (.int (m_factAt u r a b))) (mw g k u)) A) [.ref (g 0), .int r, .int a, .int b].toArray s 0 0 A) 0 0 (mw g k u) [(0, .ref (g 0)), (1, .int r), (2, .int a), (3, .int b)] [.int (if (u 1 (tn r)) ≤ 1 then (0 : Int32) else b), .int ((144 * r) + (12 * (if (u 1 (tn r)) ≤ 0 then (0 : Int32) else a)))] 38 by
    refine j_icmp_le (tgt := 37) hC d_D_factAt_30 (by decide) (fun h30 => ?_) (fun h30 => ?_)
    · refine j_iconst (v := 0) hC d_D_factAt_37 (by decide) ?_
      exact j_top ((if_pos h30)) hk30
    · refine j_iload_n hC d_D_factAt_33 rfl 3 rfl ?_
      refine j_goto (tgt := 38) hC d_D_factAt_34 (by decide) ?_
      exact j_top ((if_neg h30)) hk30
  refine j_iadd hC d_D_factAt_38 ?_
  exact j_iret hC hr ⟨rfl, by rw [m_factAt] <;> rfl, rfl⟩ d_D_factAt_39

set_option maxHeartbeats 4000000 in
set_option maxRecDepth 100000 in
theorem r_isTerm (l : Launch) (dC : Nat → ClassId) (dI : Nat → Nat → Nat) (g k : Nat → Nat) (tl : List (ClassId × FieldType)) (u : jU) (t : Int32) : jMet l y_D_isTerm (.code y_D_isTerm c_D_isTerm 1 (some .boolean)) ({ frames := 1, cells := 0, slots := 0, locals := 22 }) (dC, dI) jcl (mtys k tl) jTs [.int t] (mw g k u) 0 0 (jRet (some (.int (m_isTerm t))) (mw g k u)) := by
  refine jMet.of (by decide) (Nat.le_of_ble_eq_true rfl) ?_
  intro p e s m below meth c A hC hex hr hnm htr
  show jJ p l e ({ frames := 1, cells := 0, slots := 0, locals := 22 }) s m [.int t].toArray below meth c 1 (dC, dI) jcl A (hxQ below (jQ (dC, dI) jcl (jRet (some (.int (m_isTerm t))) (mw g k u)) A) [.int t].toArray s 0 0 A) 0 0 (mw g k u) [(0, .int t)] [] 0
  refine j_iload_n hC d_D_isTerm_0 rfl 0 rfl ?_
  refine j_iconst (v := 0) hC d_D_isTerm_1 (by decide) ?_
  refine j_bipush (v := 11) hC d_D_isTerm_2 (by decide) ?_
  refine j_callSr (As := [.int t, .int 0, .int 11]) (rest := []) (st1 := [.int (m_in t 0 11)]) hC (r_in l dC dI g k tl u t 0 11) rfl rfl ww_D_58 yn_D_in rfl d_D_isTerm_4 (Nat.le_of_ble_eq_true rfl) (by decide) ⟨Nat.zero_le _, Nat.zero_le _⟩ rfl ?_
  suffices hk7 : jJ p l e ({ frames := 1, cells := 0, slots := 0, locals := 22 }) s m [.int t].toArray below meth c 1 (dC, dI) jcl A (hxQ below (jQ (dC, dI) jcl (jRet (some (.int (m_isTerm t))) (mw g k u)) A) [.int t].toArray s 0 0 A) 0 0 (mw g k u) [(0, .int t)] [.int (if (m_in t 0 11) = 0 then (if (m_in t 20 23) = 0 then (0 : Int32) else (1 : Int32)) else (1 : Int32))] 26 by
    refine j_if_ne (tgt := 21) hC d_D_isTerm_7 (by decide) (fun h7 => ?_) (fun h7 => ?_)
    · refine j_iconst (v := 1) hC d_D_isTerm_21 (by decide) ?_
      refine j_goto (tgt := 26) hC d_D_isTerm_22 (by decide) ?_
      exact j_top ((if_neg h7)) hk7
    · refine j_iload_n hC d_D_isTerm_10 rfl 0 rfl ?_
      refine j_bipush (v := 20) hC d_D_isTerm_11 (by decide) ?_
      refine j_bipush (v := 23) hC d_D_isTerm_13 (by decide) ?_
      refine j_callSr (As := [.int t, .int 20, .int 23]) (rest := []) (st1 := [.int (m_in t 20 23)]) hC (r_in l dC dI g k tl u t 20 23) rfl rfl ww_D_58 yn_D_in rfl d_D_isTerm_15 (Nat.le_of_ble_eq_true rfl) (by decide) ⟨Nat.zero_le _, Nat.zero_le _⟩ rfl ?_
      suffices hk18 : jJ p l e ({ frames := 1, cells := 0, slots := 0, locals := 22 }) s m [.int t].toArray below meth c 1 (dC, dI) jcl A (hxQ below (jQ (dC, dI) jcl (jRet (some (.int (m_isTerm t))) (mw g k u)) A) [.int t].toArray s 0 0 A) 0 0 (mw g k u) [(0, .int t)] [.int (if (m_in t 20 23) = 0 then (0 : Int32) else (1 : Int32))] 26 by
        refine j_if_eq (tgt := 25) hC d_D_isTerm_18 (by decide) (fun h18 => ?_) (fun h18 => ?_)
        · refine j_iconst (v := 0) hC d_D_isTerm_25 (by decide) ?_
          exact j_top ((if_pos h18)) hk18
        · refine j_iconst (v := 1) hC d_D_isTerm_21 (by decide) ?_
          refine j_goto (tgt := 26) hC d_D_isTerm_22 (by decide) ?_
          exact j_top ((if_neg h18)) hk18
      exact j_top ((if_pos h7)) hk7
  exact j_zret hC hr (by repeat' (first | rfl | split)) ⟨rfl, by rw [m_isTerm] <;> rfl, rfl⟩ d_D_isTerm_26

set_option maxHeartbeats 4000000 in
set_option maxRecDepth 100000 in
theorem r_areTerms (l : Launch) (dC : Nat → ClassId) (dI : Nat → Nat → Nat) (g k : Nat → Nat) (tl : List (ClassId × FieldType)) (u : jU) (hD : wfD u) (r a b : Int32) : jMet l y_D_areTerms (.code y_D_areTerms c_D_areTerms 4 (some .boolean)) ({ frames := 2, cells := 0, slots := 0, locals := 42 }) (dC, dI) jcl (mtys k tl) jTs [.ref (g 0), .int r, .int a, .int b] (mw g k u) 0 0 (jRet (some (.int (m_areTerms u r a b))) (mw g k u)) := by
  refine jMet.of (by decide) (Nat.le_of_ble_eq_true rfl) ?_
  intro p e s m below meth c A hC hex hr hnm htr
  show jJ p l e ({ frames := 2, cells := 0, slots := 0, locals := 42 }) s m [.ref (g 0), .int r, .int a, .int b].toArray below meth c 4 (dC, dI) jcl A (hxQ below (jQ (dC, dI) jcl (jRet (some (.int (m_areTerms u r a b))) (mw g k u)) A) [.ref (g 0), .int r, .int a, .int b].toArray s 0 0 A) 0 0 (mw g k u) [(0, .ref (g 0)), (1, .int r), (2, .int a), (3, .int b)] [] 0
  refine j_iload_n hC d_D_areTerms_0 rfl 1 rfl ?_
  refine j_iconst (v := 0) hC d_D_areTerms_1 (by decide) ?_
  refine j_aload_n hC d_D_areTerms_2 rfl 0 rfl ?_
  refine j_get hC hin_D (0) (mw_obj g k u) rfl 1 (by decide) (hC.2.2.2.2.1 _ wf_D_48) (fun _ h9 => h9) rfl d_D_areTerms_3 ?_
  refine j_iconst (v := 1) hC d_D_areTerms_6 (by decide) ?_
  refine j_isub hC d_D_areTerms_7 ?_
  refine j_callSr (As := [.int r, .int 0, .int ((u 0 0) - 1)]) (rest := []) (st1 := [.int (m_in r 0 (u 0 0 - 1))]) hC (r_in l dC dI g k tl u r 0 (u 0 0 - 1)) rfl rfl ww_D_58 yn_D_in rfl d_D_areTerms_8 (Nat.le_of_ble_eq_true rfl) (by decide) ⟨Nat.zero_le _, Nat.zero_le _⟩ rfl ?_
  suffices hk11 : jJ p l e ({ frames := 2, cells := 0, slots := 0, locals := 42 }) s m [.ref (g 0), .int r, .int a, .int b].toArray below meth c 4 (dC, dI) jcl A (hxQ below (jQ (dC, dI) jcl (jRet (some (.int (m_areTerms u r a b))) (mw g k u)) A) [.ref (g 0), .int r, .int a, .int b].toArray s 0 0 A) 0 0 (mw g k u) [(0, .ref (g 0)), (1, .int r), (2, .int a), (3, .int b)] [.int (if (m_in r 0 (u 0 0 - 1)) = 0 then (0 : Int32) else (if (u 1 (tn (if m_in r 0 (u 0 0 - 1) = 0 then 0 else r))) < 1 then (if (u 1 (tn (if m_in r 0 (u 0 0 - 1) = 0 then 0 else r))) < 2 then (1 : Int32) else (if (m_isTerm b) = 0 then (0 : Int32) else (1 : Int32))) else (if (m_isTerm a) = 0 then (0 : Int32) else (if (u 1 (tn (if m_in r 0 (u 0 0 - 1) = 0 then 0 else r))) < 2 then (1 : Int32) else (if (m_isTerm b) = 0 then (0 : Int32) else (1 : Int32))))))] 89 by
    refine j_if_eq (tgt := 88) hC d_D_areTerms_11 (by decide) (fun h11 => ?_) (fun h11 => ?_)
    · refine j_iconst (v := 0) hC d_D_areTerms_88 (by decide) ?_
      exact j_top ((if_pos h11)) hk11
    · refine j_aload_n hC d_D_areTerms_14 rfl 0 rfl ?_
      refine j_get hC hin_D (0) (mw_obj g k u) rfl 2 (by decide) (hC.2.2.2.2.1 _ wf_D_7) (fun _ h9 => h9) rfl d_D_areTerms_15 ?_
      refine j_iload_n hC d_D_areTerms_18 rfl 1 rfl ?_
      refine j_iconst (v := 0) hC d_D_areTerms_19 (by decide) ?_
      refine j_aload_n hC d_D_areTerms_20 rfl 0 rfl ?_
      refine j_get hC hin_D (0) (mw_obj g k u) rfl 1 (by decide) (hC.2.2.2.2.1 _ wf_D_48) (fun _ h9 => h9) rfl d_D_areTerms_21 ?_
      refine j_iconst (v := 1) hC d_D_areTerms_24 (by decide) ?_
      refine j_isub hC d_D_areTerms_25 ?_
      refine j_callSr (As := [.int r, .int 0, .int ((u 0 0) - 1)]) (rest := [.ref (g 1)]) (st1 := [.int (m_in r 0 (u 0 0 - 1)), .ref (g 1)]) hC (r_in l dC dI g k tl u r 0 (u 0 0 - 1)) rfl rfl ww_D_58 yn_D_in rfl d_D_areTerms_26 (Nat.le_of_ble_eq_true rfl) (by decide) ⟨Nat.zero_le _, Nat.zero_le _⟩ rfl ?_
      suffices hk29 : jJ p l e ({ frames := 2, cells := 0, slots := 0, locals := 42 }) s m [.ref (g 0), .int r, .int a, .int b].toArray below meth c 4 (dC, dI) jcl A (hxQ below (jQ (dC, dI) jcl (jRet (some (.int (m_areTerms u r a b))) (mw g k u)) A) [.ref (g 0), .int r, .int a, .int b].toArray s 0 0 A) 0 0 (mw g k u) [(0, .ref (g 0)), (1, .int r), (2, .int a), (3, .int b)] [.int (if (m_in r 0 (u 0 0 - 1)) = 0 then (0 : Int32) else r), .ref (g 1)] 37 by
        refine j_if_eq (tgt := 36) hC d_D_areTerms_29 (by decide) (fun h29 => ?_) (fun h29 => ?_)
        · refine j_iconst (v := 0) hC d_D_areTerms_36 (by decide) ?_
          exact j_top ((if_pos h29)) hk29
        · refine j_iload_n hC d_D_areTerms_32 rfl 1 rfl ?_
          refine j_goto (tgt := 37) hC d_D_areTerms_33 (by decide) ?_
          exact j_top ((if_neg h29)) hk29
      refine j_ialdN hC (1) 0 (mw_places g k u) rfl (n := tn (if m_in r 0 (u 0 0 - 1) = 0 then 0 else r)) ((rel_or hD r).1) ((rel_or hD r).2) (by decide) d_D_areTerms_37 ?_
      refine j_iconst (v := 1) hC d_D_areTerms_38 (by decide) ?_
      suffices hk39 : jJ p l e ({ frames := 2, cells := 0, slots := 0, locals := 42 }) s m [.ref (g 0), .int r, .int a, .int b].toArray below meth c 4 (dC, dI) jcl A (hxQ below (jQ (dC, dI) jcl (jRet (some (.int (m_areTerms u r a b))) (mw g k u)) A) [.ref (g 0), .int r, .int a, .int b].toArray s 0 0 A) 0 0 (mw g k u) [(0, .ref (g 0)), (1, .int r), (2, .int a), (3, .int b)] [.int (if (u 1 (tn (if m_in r 0 (u 0 0 - 1) = 0 then 0 else r))) < 1 then (if (u 1 (tn (if m_in r 0 (u 0 0 - 1) = 0 then 0 else r))) < 2 then (1 : Int32) else (if (m_isTerm b) = 0 then (0 : Int32) else (1 : Int32))) else (if (m_isTerm a) = 0 then (0 : Int32) else (if (u 1 (tn (if m_in r 0 (u 0 0 - 1) = 0 then 0 else r))) < 2 then (1 : Int32) else (if (m_isTerm b) = 0 then (0 : Int32) else (1 : Int32)))))] 89 by
        refine j_icmp_lt (tgt := 49) hC d_D_areTerms_39 (by decide) (fun h39 => ?_) (fun h39 => ?_)
        · refine j_aload_n hC d_D_areTerms_49 rfl 0 rfl ?_
          refine j_get hC hin_D (0) (mw_obj g k u) rfl 2 (by decide) (hC.2.2.2.2.1 _ wf_D_7) (fun _ h9 => h9) rfl d_D_areTerms_50 ?_
          refine j_iload_n hC d_D_areTerms_53 rfl 1 rfl ?_
          refine j_iconst (v := 0) hC d_D_areTerms_54 (by decide) ?_
          refine j_aload_n hC d_D_areTerms_55 rfl 0 rfl ?_
          refine j_get hC hin_D (0) (mw_obj g k u) rfl 1 (by decide) (hC.2.2.2.2.1 _ wf_D_48) (fun _ h9 => h9) rfl d_D_areTerms_56 ?_
          refine j_iconst (v := 1) hC d_D_areTerms_59 (by decide) ?_
          refine j_isub hC d_D_areTerms_60 ?_
          refine j_callSr (As := [.int r, .int 0, .int ((u 0 0) - 1)]) (rest := [.ref (g 1)]) (st1 := [.int (m_in r 0 (u 0 0 - 1)), .ref (g 1)]) hC (r_in l dC dI g k tl u r 0 (u 0 0 - 1)) rfl rfl ww_D_58 yn_D_in rfl d_D_areTerms_61 (Nat.le_of_ble_eq_true rfl) (by decide) ⟨Nat.zero_le _, Nat.zero_le _⟩ rfl ?_
          suffices hk64 : jJ p l e ({ frames := 2, cells := 0, slots := 0, locals := 42 }) s m [.ref (g 0), .int r, .int a, .int b].toArray below meth c 4 (dC, dI) jcl A (hxQ below (jQ (dC, dI) jcl (jRet (some (.int (m_areTerms u r a b))) (mw g k u)) A) [.ref (g 0), .int r, .int a, .int b].toArray s 0 0 A) 0 0 (mw g k u) [(0, .ref (g 0)), (1, .int r), (2, .int a), (3, .int b)] [.int (if (m_in r 0 (u 0 0 - 1)) = 0 then (0 : Int32) else r), .ref (g 1)] 72 by
            refine j_if_eq (tgt := 71) hC d_D_areTerms_64 (by decide) (fun h64 => ?_) (fun h64 => ?_)
            · refine j_iconst (v := 0) hC d_D_areTerms_71 (by decide) ?_
              exact j_top ((if_pos h64)) hk64
            · refine j_iload_n hC d_D_areTerms_67 rfl 1 rfl ?_
              refine j_goto (tgt := 72) hC d_D_areTerms_68 (by decide) ?_
              exact j_top ((if_neg h64)) hk64
          refine j_ialdN hC (1) 0 (mw_places g k u) rfl (n := tn (if m_in r 0 (u 0 0 - 1) = 0 then 0 else r)) ((rel_or hD r).1) ((rel_or hD r).2) (by decide) d_D_areTerms_72 ?_
          refine j_iconst (v := 2) hC d_D_areTerms_73 (by decide) ?_
          suffices hk74 : jJ p l e ({ frames := 2, cells := 0, slots := 0, locals := 42 }) s m [.ref (g 0), .int r, .int a, .int b].toArray below meth c 4 (dC, dI) jcl A (hxQ below (jQ (dC, dI) jcl (jRet (some (.int (m_areTerms u r a b))) (mw g k u)) A) [.ref (g 0), .int r, .int a, .int b].toArray s 0 0 A) 0 0 (mw g k u) [(0, .ref (g 0)), (1, .int r), (2, .int a), (3, .int b)] [.int (if (u 1 (tn (if m_in r 0 (u 0 0 - 1) = 0 then 0 else r))) < 2 then (1 : Int32) else (if (m_isTerm b) = 0 then (0 : Int32) else (1 : Int32)))] 89 by
            refine j_icmp_lt (tgt := 84) hC d_D_areTerms_74 (by decide) (fun h74 => ?_) (fun h74 => ?_)
            · refine j_iconst (v := 1) hC d_D_areTerms_84 (by decide) ?_
              refine j_goto (tgt := 89) hC d_D_areTerms_85 (by decide) ?_
              exact j_top ((if_pos h74)) hk74
            · refine j_iload_n hC d_D_areTerms_77 rfl 3 rfl ?_
              refine j_callSr (As := [.int b]) (rest := []) (st1 := [.int (m_isTerm b)]) hC (r_isTerm l dC dI g k tl u b) rfl rfl ww_D_73 yn_D_isTerm rfl d_D_areTerms_78 (Nat.le_of_ble_eq_true rfl) (by decide) ⟨Nat.zero_le _, Nat.zero_le _⟩ rfl ?_
              suffices hk81 : jJ p l e ({ frames := 2, cells := 0, slots := 0, locals := 42 }) s m [.ref (g 0), .int r, .int a, .int b].toArray below meth c 4 (dC, dI) jcl A (hxQ below (jQ (dC, dI) jcl (jRet (some (.int (m_areTerms u r a b))) (mw g k u)) A) [.ref (g 0), .int r, .int a, .int b].toArray s 0 0 A) 0 0 (mw g k u) [(0, .ref (g 0)), (1, .int r), (2, .int a), (3, .int b)] [.int (if (m_isTerm b) = 0 then (0 : Int32) else (1 : Int32))] 89 by
                refine j_if_eq (tgt := 88) hC d_D_areTerms_81 (by decide) (fun h81 => ?_) (fun h81 => ?_)
                · refine j_iconst (v := 0) hC d_D_areTerms_88 (by decide) ?_
                  exact j_top ((if_pos h81)) hk81
                · refine j_iconst (v := 1) hC d_D_areTerms_84 (by decide) ?_
                  refine j_goto (tgt := 89) hC d_D_areTerms_85 (by decide) ?_
                  exact j_top ((if_neg h81)) hk81
              exact j_top ((if_neg h74)) hk74
          exact j_top ((if_pos h39)) hk39
        · refine j_iload_n hC d_D_areTerms_42 rfl 2 rfl ?_
          refine j_callSr (As := [.int a]) (rest := []) (st1 := [.int (m_isTerm a)]) hC (r_isTerm l dC dI g k tl u a) rfl rfl ww_D_73 yn_D_isTerm rfl d_D_areTerms_43 (Nat.le_of_ble_eq_true rfl) (by decide) ⟨Nat.zero_le _, Nat.zero_le _⟩ rfl ?_
          suffices hk46 : jJ p l e ({ frames := 2, cells := 0, slots := 0, locals := 42 }) s m [.ref (g 0), .int r, .int a, .int b].toArray below meth c 4 (dC, dI) jcl A (hxQ below (jQ (dC, dI) jcl (jRet (some (.int (m_areTerms u r a b))) (mw g k u)) A) [.ref (g 0), .int r, .int a, .int b].toArray s 0 0 A) 0 0 (mw g k u) [(0, .ref (g 0)), (1, .int r), (2, .int a), (3, .int b)] [.int (if (m_isTerm a) = 0 then (0 : Int32) else (if (u 1 (tn (if m_in r 0 (u 0 0 - 1) = 0 then 0 else r))) < 2 then (1 : Int32) else (if (m_isTerm b) = 0 then (0 : Int32) else (1 : Int32))))] 89 by
            refine j_if_eq (tgt := 88) hC d_D_areTerms_46 (by decide) (fun h46 => ?_) (fun h46 => ?_)
            · refine j_iconst (v := 0) hC d_D_areTerms_88 (by decide) ?_
              exact j_top ((if_pos h46)) hk46
            · refine j_aload_n hC d_D_areTerms_49 rfl 0 rfl ?_
              refine j_get hC hin_D (0) (mw_obj g k u) rfl 2 (by decide) (hC.2.2.2.2.1 _ wf_D_7) (fun _ h9 => h9) rfl d_D_areTerms_50 ?_
              refine j_iload_n hC d_D_areTerms_53 rfl 1 rfl ?_
              refine j_iconst (v := 0) hC d_D_areTerms_54 (by decide) ?_
              refine j_aload_n hC d_D_areTerms_55 rfl 0 rfl ?_
              refine j_get hC hin_D (0) (mw_obj g k u) rfl 1 (by decide) (hC.2.2.2.2.1 _ wf_D_48) (fun _ h9 => h9) rfl d_D_areTerms_56 ?_
              refine j_iconst (v := 1) hC d_D_areTerms_59 (by decide) ?_
              refine j_isub hC d_D_areTerms_60 ?_
              refine j_callSr (As := [.int r, .int 0, .int ((u 0 0) - 1)]) (rest := [.ref (g 1)]) (st1 := [.int (m_in r 0 (u 0 0 - 1)), .ref (g 1)]) hC (r_in l dC dI g k tl u r 0 (u 0 0 - 1)) rfl rfl ww_D_58 yn_D_in rfl d_D_areTerms_61 (Nat.le_of_ble_eq_true rfl) (by decide) ⟨Nat.zero_le _, Nat.zero_le _⟩ rfl ?_
              suffices hk64 : jJ p l e ({ frames := 2, cells := 0, slots := 0, locals := 42 }) s m [.ref (g 0), .int r, .int a, .int b].toArray below meth c 4 (dC, dI) jcl A (hxQ below (jQ (dC, dI) jcl (jRet (some (.int (m_areTerms u r a b))) (mw g k u)) A) [.ref (g 0), .int r, .int a, .int b].toArray s 0 0 A) 0 0 (mw g k u) [(0, .ref (g 0)), (1, .int r), (2, .int a), (3, .int b)] [.int (if (m_in r 0 (u 0 0 - 1)) = 0 then (0 : Int32) else r), .ref (g 1)] 72 by
                refine j_if_eq (tgt := 71) hC d_D_areTerms_64 (by decide) (fun h64 => ?_) (fun h64 => ?_)
                · refine j_iconst (v := 0) hC d_D_areTerms_71 (by decide) ?_
                  exact j_top ((if_pos h64)) hk64
                · refine j_iload_n hC d_D_areTerms_67 rfl 1 rfl ?_
                  refine j_goto (tgt := 72) hC d_D_areTerms_68 (by decide) ?_
                  exact j_top ((if_neg h64)) hk64
              refine j_ialdN hC (1) 0 (mw_places g k u) rfl (n := tn (if m_in r 0 (u 0 0 - 1) = 0 then 0 else r)) ((rel_or hD r).1) ((rel_or hD r).2) (by decide) d_D_areTerms_72 ?_
              refine j_iconst (v := 2) hC d_D_areTerms_73 (by decide) ?_
              suffices hk74 : jJ p l e ({ frames := 2, cells := 0, slots := 0, locals := 42 }) s m [.ref (g 0), .int r, .int a, .int b].toArray below meth c 4 (dC, dI) jcl A (hxQ below (jQ (dC, dI) jcl (jRet (some (.int (m_areTerms u r a b))) (mw g k u)) A) [.ref (g 0), .int r, .int a, .int b].toArray s 0 0 A) 0 0 (mw g k u) [(0, .ref (g 0)), (1, .int r), (2, .int a), (3, .int b)] [.int (if (u 1 (tn (if m_in r 0 (u 0 0 - 1) = 0 then 0 else r))) < 2 then (1 : Int32) else (if (m_isTerm b) = 0 then (0 : Int32) else (1 : Int32)))] 89 by
                refine j_icmp_lt (tgt := 84) hC d_D_areTerms_74 (by decide) (fun h74 => ?_) (fun h74 => ?_)
                · refine j_iconst (v := 1) hC d_D_areTerms_84 (by decide) ?_
                  refine j_goto (tgt := 89) hC d_D_areTerms_85 (by decide) ?_
                  exact j_top ((if_pos h74)) hk74
                · refine j_iload_n hC d_D_areTerms_77 rfl 3 rfl ?_
                  refine j_callSr (As := [.int b]) (rest := []) (st1 := [.int (m_isTerm b)]) hC (r_isTerm l dC dI g k tl u b) rfl rfl ww_D_73 yn_D_isTerm rfl d_D_areTerms_78 (Nat.le_of_ble_eq_true rfl) (by decide) ⟨Nat.zero_le _, Nat.zero_le _⟩ rfl ?_
                  suffices hk81 : jJ p l e ({ frames := 2, cells := 0, slots := 0, locals := 42 }) s m [.ref (g 0), .int r, .int a, .int b].toArray below meth c 4 (dC, dI) jcl A (hxQ below (jQ (dC, dI) jcl (jRet (some (.int (m_areTerms u r a b))) (mw g k u)) A) [.ref (g 0), .int r, .int a, .int b].toArray s 0 0 A) 0 0 (mw g k u) [(0, .ref (g 0)), (1, .int r), (2, .int a), (3, .int b)] [.int (if (m_isTerm b) = 0 then (0 : Int32) else (1 : Int32))] 89 by
                    refine j_if_eq (tgt := 88) hC d_D_areTerms_81 (by decide) (fun h81 => ?_) (fun h81 => ?_)
                    · refine j_iconst (v := 0) hC d_D_areTerms_88 (by decide) ?_
                      exact j_top ((if_pos h81)) hk81
                    · refine j_iconst (v := 1) hC d_D_areTerms_84 (by decide) ?_
                      refine j_goto (tgt := 89) hC d_D_areTerms_85 (by decide) ?_
                      exact j_top ((if_neg h81)) hk81
                  exact j_top ((if_neg h74)) hk74
              exact j_top ((if_neg h46)) hk46
          exact j_top ((if_neg h39)) hk39
      exact j_top ((if_neg h11)) hk11
  exact j_zret hC hr (by repeat' (first | rfl | split)) ⟨rfl, by rw [m_areTerms] <;> rfl, rfl⟩ d_D_areTerms_89

set_option maxHeartbeats 4000000 in
set_option maxRecDepth 100000 in
theorem r_put (l : Launch) (dC : Nat → ClassId) (dI : Nat → Nat → Nat) (g k : Nat → Nat) (tl : List (ClassId × FieldType)) (u : jU) {j : Nat} (hj : j < 80) (r a b z : Int32) (hr8 : inN r 8) (hz : z = 0 ∨ z = 1) : jMet l y_D_put (.code y_D_put c_D_put 6 none) ({ frames := 0, cells := 0, slots := 0, locals := 0 }) (dC, dI) jcl (mtys k tl) jTs [.ref (g 0), .int (nI j), .int r, .int a, .int b, .int z] (mw g k u) 0 0 (jRet none (mw g k (m_put u j r a b z))) := by
  refine jMet.of (by decide) (Nat.le_of_ble_eq_true rfl) ?_
  intro p e s m below meth c A hC hex hr hnm htr
  show jJ p l e ({ frames := 0, cells := 0, slots := 0, locals := 0 }) s m [.ref (g 0), .int (nI j), .int r, .int a, .int b, .int z].toArray below meth c 6 (dC, dI) jcl A (hxQ below (jQ (dC, dI) jcl (jRet none (mw g k (m_put u j r a b z))) A) [.ref (g 0), .int (nI j), .int r, .int a, .int b, .int z].toArray s 0 0 A) 0 0 (mw g k u) [(0, .ref (g 0)), (1, .int (nI j)), (2, .int r), (3, .int a), (4, .int b), (5, .int z)] [] 0
  refine j_aload_n hC d_D_put_0 rfl 0 rfl ?_
  refine j_get hC hin_D (0) (mw_obj g k u) rfl 7 (by decide) (hC.2.2.2.2.1 _ wf_D_23) (fun _ h9 => h9) rfl d_D_put_1 ?_
  refine j_iload_n hC d_D_put_4 rfl 1 rfl ?_
  refine j_iload_n hC d_D_put_5 rfl 2 rfl ?_
  refine j_iastN (ws' := mw g k (up u 16 j r)) hC (5) 0 (mw_of g k u) rfl (n := j) (rfl) (by omega) (by decide) (mw_set_of g k u j r) d_D_put_6 ?_
  refine j_aload_n hC d_D_put_7 rfl 0 rfl ?_
  refine j_get hC hin_D (0) (mw_obj g k (up u 16 j r)) rfl 8 (by decide) (hC.2.2.2.2.1 _ wf_D_26) (fun _ h9 => h9) rfl d_D_put_8 ?_
  refine j_iload_n hC d_D_put_11 rfl 1 rfl ?_
  refine j_aload_n hC d_D_put_12 rfl 0 rfl ?_
  refine j_get hC hin_D (0) (mw_obj g k (up u 16 j r)) rfl 2 (by decide) (hC.2.2.2.2.1 _ wf_D_7) (fun _ h9 => h9) rfl d_D_put_13 ?_
  refine j_iload_n hC d_D_put_16 rfl 2 rfl ?_
  refine j_ialdN hC (1) 0 (mw_places g k (up u 16 j r)) rfl (n := tn r) (hr8.1) (hr8.2) (by decide) d_D_put_17 ?_
  suffices hk18 : jJ p l e ({ frames := 0, cells := 0, slots := 0, locals := 0 }) s m [.ref (g 0), .int (nI j), .int r, .int a, .int b, .int z].toArray below meth c 6 (dC, dI) jcl A (hxQ below (jQ (dC, dI) jcl (jRet none (mw g k (m_put u j r a b z))) A) [.ref (g 0), .int (nI j), .int r, .int a, .int b, .int z].toArray s 0 0 A) 0 0 (mw g k (up u 16 j r)) [(0, .ref (g 0)), (1, .int (nI j)), (2, .int r), (3, .int a), (4, .int b), (5, .int z)] [.int (if ((up u 16 j r) 1 (tn r)) ≤ 0 then (0 : Int32) else a), .int (nI j), .ref (g 6)] 26 by
    refine j_if_le (tgt := 25) hC d_D_put_18 (by decide) (fun h18 => ?_) (fun h18 => ?_)
    · refine j_iconst (v := 0) hC d_D_put_25 (by decide) ?_
      exact j_top ((if_pos h18)) hk18
    · refine j_iload_n hC d_D_put_21 rfl 3 rfl ?_
      refine j_goto (tgt := 26) hC d_D_put_22 (by decide) ?_
      exact j_top ((if_neg h18)) hk18
  refine j_iastN (ws' := mw g k (up (up u 16 j r) 17 j (if ((up u 16 j r) 1 (tn r)) ≤ 0 then (0 : Int32) else a))) hC (6) 0 (mw_first g k (up u 16 j r)) rfl (n := j) (rfl) (by omega) (by decide) (mw_set_first g k (up u 16 j r) j (if ((up u 16 j r) 1 (tn r)) ≤ 0 then (0 : Int32) else a)) d_D_put_26 ?_
  refine j_aload_n hC d_D_put_27 rfl 0 rfl ?_
  refine j_get hC hin_D (0) (mw_obj g k (up (up u 16 j r) 17 j (if ((up u 16 j r) 1 (tn r)) ≤ 0 then (0 : Int32) else a))) rfl 9 (by decide) (hC.2.2.2.2.1 _ wf_D_29) (fun _ h9 => h9) rfl d_D_put_28 ?_
  refine j_iload_n hC d_D_put_31 rfl 1 rfl ?_
  refine j_aload_n hC d_D_put_32 rfl 0 rfl ?_
  refine j_get hC hin_D (0) (mw_obj g k (up (up u 16 j r) 17 j (if ((up u 16 j r) 1 (tn r)) ≤ 0 then (0 : Int32) else a))) rfl 2 (by decide) (hC.2.2.2.2.1 _ wf_D_7) (fun _ h9 => h9) rfl d_D_put_33 ?_
  refine j_iload_n hC d_D_put_36 rfl 2 rfl ?_
  refine j_ialdN hC (1) 0 (mw_places g k (up (up u 16 j r) 17 j (if ((up u 16 j r) 1 (tn r)) ≤ 0 then (0 : Int32) else a))) rfl (n := tn r) (hr8.1) (hr8.2) (by decide) d_D_put_37 ?_
  refine j_iconst (v := 1) hC d_D_put_38 (by decide) ?_
  suffices hk39 : jJ p l e ({ frames := 0, cells := 0, slots := 0, locals := 0 }) s m [.ref (g 0), .int (nI j), .int r, .int a, .int b, .int z].toArray below meth c 6 (dC, dI) jcl A (hxQ below (jQ (dC, dI) jcl (jRet none (mw g k (m_put u j r a b z))) A) [.ref (g 0), .int (nI j), .int r, .int a, .int b, .int z].toArray s 0 0 A) 0 0 (mw g k (up (up u 16 j r) 17 j (if ((up u 16 j r) 1 (tn r)) ≤ 0 then (0 : Int32) else a))) [(0, .ref (g 0)), (1, .int (nI j)), (2, .int r), (3, .int a), (4, .int b), (5, .int z)] [.int (if ((up (up u 16 j r) 17 j (if ((up u 16 j r) 1 (tn r)) ≤ 0 then (0 : Int32) else a)) 1 (tn r)) ≤ 1 then (0 : Int32) else b), .int (nI j), .ref (g 7)] 48 by
    refine j_icmp_le (tgt := 47) hC d_D_put_39 (by decide) (fun h39 => ?_) (fun h39 => ?_)
    · refine j_iconst (v := 0) hC d_D_put_47 (by decide) ?_
      exact j_top ((if_pos h39)) hk39
    · refine j_iload hC d_D_put_42 4 rfl ?_
      refine j_goto (tgt := 48) hC d_D_put_44 (by decide) ?_
      exact j_top ((if_neg h39)) hk39
  refine j_iastN (ws' := mw g k (up (up (up u 16 j r) 17 j (if ((up u 16 j r) 1 (tn r)) ≤ 0 then (0 : Int32) else a)) 18 j (if ((up (up u 16 j r) 17 j (if ((up u 16 j r) 1 (tn r)) ≤ 0 then (0 : Int32) else a)) 1 (tn r)) ≤ 1 then (0 : Int32) else b))) hC (7) 0 (mw_second g k (up (up u 16 j r) 17 j (if ((up u 16 j r) 1 (tn r)) ≤ 0 then (0 : Int32) else a))) rfl (n := j) (rfl) (by omega) (by decide) (mw_set_second g k (up (up u 16 j r) 17 j (if ((up u 16 j r) 1 (tn r)) ≤ 0 then (0 : Int32) else a)) j (if ((up (up u 16 j r) 17 j (if ((up u 16 j r) 1 (tn r)) ≤ 0 then (0 : Int32) else a)) 1 (tn r)) ≤ 1 then (0 : Int32) else b)) d_D_put_48 ?_
  refine j_aload_n hC d_D_put_49 rfl 0 rfl ?_
  refine j_get hC hin_D (0) (mw_obj g k (up (up (up u 16 j r) 17 j (if ((up u 16 j r) 1 (tn r)) ≤ 0 then (0 : Int32) else a)) 18 j (if ((up (up u 16 j r) 17 j (if ((up u 16 j r) 1 (tn r)) ≤ 0 then (0 : Int32) else a)) 1 (tn r)) ≤ 1 then (0 : Int32) else b))) rfl 10 (by decide) (hC.2.2.2.2.1 _ wf_D_32) (fun _ h9 => h9) rfl d_D_put_50 ?_
  refine j_iload_n hC d_D_put_53 rfl 1 rfl ?_
  refine j_iload hC d_D_put_54 5 rfl ?_
  refine j_zastN (ws' := mw g k (up (up (up (up u 16 j r) 17 j (if ((up u 16 j r) 1 (tn r)) ≤ 0 then (0 : Int32) else a)) 18 j (if ((up (up u 16 j r) 17 j (if ((up u 16 j r) 1 (tn r)) ≤ 0 then (0 : Int32) else a)) 1 (tn r)) ≤ 1 then (0 : Int32) else b)) 19 j z)) hC (8) 3 (mw_negated g k (up (up (up u 16 j r) 17 j (if ((up u 16 j r) 1 (tn r)) ≤ 0 then (0 : Int32) else a)) 18 j (if ((up (up u 16 j r) 17 j (if ((up u 16 j r) 1 (tn r)) ≤ 0 then (0 : Int32) else a)) 1 (tn r)) ≤ 1 then (0 : Int32) else b))) rfl (n := j) (nar_01 hz) (rfl) (by omega) (by decide) (mw_set_negated g k (up (up (up u 16 j r) 17 j (if ((up u 16 j r) 1 (tn r)) ≤ 0 then (0 : Int32) else a)) 18 j (if ((up (up u 16 j r) 17 j (if ((up u 16 j r) 1 (tn r)) ≤ 0 then (0 : Int32) else a)) 1 (tn r)) ≤ 1 then (0 : Int32) else b)) j z) d_D_put_56 ?_
  exact j_vret hC hr ⟨rfl, rfl, congrArg (mw g k) (by rw [m_put] <;> rfl)⟩ d_D_put_57

set_option maxHeartbeats 4000000 in
set_option maxRecDepth 100000 in
theorem r_relation (l : Launch) (dC : Nat → ClassId) (dI : Nat → Nat → Nat) (g k : Nat → Nat) (tl : List (ClassId × FieldType)) (u : jU) (hD : wfD u) (n : Int32) : jMet l y_D_relation (.code y_D_relation c_D_relation 2 (some .int)) ({ frames := 1, cells := 0, slots := 0, locals := 23 }) (dC, dI) jcl (mtys k tl) jTs [.ref (g 0), .int n] (mw g k u) 0 0 (jRet (some (.int ((m_relation u n).1))) (mw g k ((m_relation u n).2))) := by
  refine jMet.of (by decide) (Nat.le_of_ble_eq_true rfl) ?_
  intro p e s m below meth c A hC hex hr hnm htr
  show jJ p l e ({ frames := 1, cells := 0, slots := 0, locals := 23 }) s m [.ref (g 0), .int n].toArray below meth c 2 (dC, dI) jcl A (hxQ below (jQ (dC, dI) jcl (jRet (some (.int ((m_relation u n).1))) (mw g k ((m_relation u n).2))) A) [.ref (g 0), .int n].toArray s 0 0 A) 0 0 (mw g k u) [(0, .ref (g 0)), (1, .int n)] [] 0
  refine j_aload_n hC d_D_relation_0 rfl 0 rfl ?_
  refine j_iload_n hC d_D_relation_1 rfl 1 rfl ?_
  refine j_iconst (v := 0) hC d_D_relation_2 (by decide) ?_
  refine j_iconst (v := 2) hC d_D_relation_3 (by decide) ?_
  refine j_callSr (As := [.int n, .int 0, .int 2]) (rest := [.ref (g 0)]) (st1 := [.int (m_in n 0 2), .ref (g 0)]) hC (r_in l dC dI g k tl u n 0 2) rfl rfl ww_D_58 yn_D_in rfl d_D_relation_4 (Nat.le_of_ble_eq_true rfl) (by decide) ⟨Nat.zero_le _, Nat.zero_le _⟩ rfl ?_
  suffices hk7 : jJ p l e ({ frames := 1, cells := 0, slots := 0, locals := 23 }) s m [.ref (g 0), .int n].toArray below meth c 2 (dC, dI) jcl A (hxQ below (jQ (dC, dI) jcl (jRet (some (.int ((m_relation u n).1))) (mw g k ((m_relation u n).2))) A) [.ref (g 0), .int n].toArray s 0 0 A) 0 0 (mw g k u) [(0, .ref (g 0)), (1, .int n)] [.int (if (m_in n 0 2) = 0 then (1 : Int32) else (0 : Int32)), .ref (g 0)] 15 by
    refine j_if_ne (tgt := 14) hC d_D_relation_7 (by decide) (fun h7 => ?_) (fun h7 => ?_)
    · refine j_iconst (v := 0) hC d_D_relation_14 (by decide) ?_
      exact j_top ((if_neg h7)) hk7
    · refine j_iconst (v := 1) hC d_D_relation_10 (by decide) ?_
      refine j_goto (tgt := 15) hC d_D_relation_11 (by decide) ?_
      exact j_top ((if_pos h7)) hk7
  refine j_aload_n hC d_D_relation_15 rfl 0 rfl ?_
  refine j_get hC hin_D (0) (mw_obj g k u) rfl 1 (by decide) (hC.2.2.2.2.1 _ wf_D_48) (fun _ h9 => h9) rfl d_D_relation_16 ?_
  refine j_bipush (v := 8) hC d_D_relation_19 (by decide) ?_
  suffices hk21 : jJ p l e ({ frames := 1, cells := 0, slots := 0, locals := 23 }) s m [.ref (g 0), .int n].toArray below meth c 2 (dC, dI) jcl A (hxQ below (jQ (dC, dI) jcl (jRet (some (.int ((m_relation u n).1))) (mw g k ((m_relation u n).2))) A) [.ref (g 0), .int n].toArray s 0 0 A) 0 0 (mw g k u) [(0, .ref (g 0)), (1, .int n)] [.int (if (u 0 0) = 8 then (1 : Int32) else (0 : Int32)), .int (if (m_in n 0 2) = 0 then (1 : Int32) else (0 : Int32)), .ref (g 0)] 29 by
    refine j_icmp_ne (tgt := 28) hC d_D_relation_21 (by decide) (fun h21 => ?_) (fun h21 => ?_)
    · refine j_iconst (v := 0) hC d_D_relation_28 (by decide) ?_
      exact j_top ((if_neg h21)) hk21
    · refine j_iconst (v := 1) hC d_D_relation_24 (by decide) ?_
      refine j_goto (tgt := 29) hC d_D_relation_25 (by decide) ?_
      exact j_top ((if_pos h21)) hk21
  refine j_iconst (v := 0) hC d_D_relation_29 (by decide) ?_
  refine j_callVr (As := [.int (if (m_in n 0 2) = 0 then (1 : Int32) else (0 : Int32)), .int (if (u 0 0) = 8 then (1 : Int32) else (0 : Int32)), .int 0]) (rest := []) (st1 := [.int ((m_refuse u (if (m_in n 0 2) = 0 then (1 : Int32) else (0 : Int32)) (if (u 0 0) = 8 then (1 : Int32) else (0 : Int32)) 0).1)]) hC (r_refuse l dC dI g k tl u (if (m_in n 0 2) = 0 then (1 : Int32) else (0 : Int32)) (if (u 0 0) = 8 then (1 : Int32) else (0 : Int32)) 0) rfl rfl ww_D_62 yn_D_refuse (mw_obj g k u) rfl rfl d_D_relation_30 (Nat.le_of_ble_eq_true rfl) (by decide) ⟨Nat.zero_le _, Nat.zero_le _⟩ rfl ?_
  refine j_if_eq (tgt := 38) hC d_D_relation_33 (by decide) (fun h33 => ?_) (fun h33 => ?_)
  · have h8 := relation_ix hD h33
    rw [ref_st h33]
    refine j_aload_n hC d_D_relation_38 rfl 0 rfl ?_
    refine j_get hC hin_D (0) (mw_obj g k (up u 0 4 0)) rfl 2 (by decide) (hC.2.2.2.2.1 _ wf_D_7) (fun _ h9 => h9) rfl d_D_relation_39 ?_
    refine j_aload_n hC d_D_relation_42 rfl 0 rfl ?_
    refine j_get hC hin_D (0) (mw_obj g k (up u 0 4 0)) rfl 1 (by decide) (hC.2.2.2.2.1 _ wf_D_48) (fun _ h9 => h9) rfl d_D_relation_43 ?_
    refine j_iload_n hC d_D_relation_46 rfl 1 rfl ?_
    refine j_iastN (ws' := mw g k (up (up u 0 4 0) 1 (tn (u 0 0)) n)) hC (1) 0 (mw_places g k (up u 0 4 0)) rfl (n := tn (u 0 0)) (hD.1.1) (h8) (by decide) (mw_set_places g k (up u 0 4 0) (tn (u 0 0)) n) d_D_relation_47 ?_
    refine j_aload_n hC d_D_relation_48 rfl 0 rfl ?_
    refine j_dup hC d_D_relation_49 rfl ?_
    refine j_get hC hin_D (0) (mw_obj g k (up (up u 0 4 0) 1 (tn (u 0 0)) n)) rfl 1 (by decide) (hC.2.2.2.2.1 _ wf_D_48) (fun _ h9 => h9) rfl d_D_relation_50 ?_
    refine j_iconst (v := 1) hC d_D_relation_53 (by decide) ?_
    refine j_iadd hC d_D_relation_54 ?_
    refine j_put (ty := .int) (ws' := mw g k (up (up (up u 0 4 0) 1 (tn (u 0 0)) n) 0 0 (((up (up u 0 4 0) 1 (tn (u 0 0)) n) 0 0) + 1))) hC hin_D tyX5 tyX5_ok nmX5 (0) (mw_obj g k (up (up u 0 4 0) 1 (tn (u 0 0)) n)) rfl 1 (by decide) (hC.2.2.2.2.1 _ wf_D_48) (fun _ h9 => h9) rfl (by decide +kernel) (rfl) (rfl) (Nat.le_of_ble_eq_true rfl) (mw_set_relations g k (up (up u 0 4 0) 1 (tn (u 0 0)) n) (((up (up u 0 4 0) 1 (tn (u 0 0)) n) 0 0) + 1)) d_D_relation_55 ?_
    refine j_aload_n hC d_D_relation_58 rfl 0 rfl ?_
    refine j_iconst (v := 0) hC d_D_relation_59 (by decide) ?_
    refine j_put (ty := .boolean) (ws' := mw g k (up (up (up (up u 0 4 0) 1 (tn (u 0 0)) n) 0 0 (((up (up u 0 4 0) 1 (tn (u 0 0)) n) 0 0) + 1)) 0 3 0)) hC hin_D tyX5 tyX5_ok nmX5 (0) (mw_obj g k (up (up (up u 0 4 0) 1 (tn (u 0 0)) n) 0 0 (((up (up u 0 4 0) 1 (tn (u 0 0)) n) 0 0) + 1))) rfl 12 (by decide) (hC.2.2.2.2.1 _ wf_D_54) (fun _ h9 => h9) rfl (by decide +kernel) (rfl) (rfl) (Nat.le_of_ble_eq_true rfl) (mw_set_known g k (up (up (up u 0 4 0) 1 (tn (u 0 0)) n) 0 0 (((up (up u 0 4 0) 1 (tn (u 0 0)) n) 0 0) + 1)) 0) d_D_relation_60 ?_
    refine j_aload_n hC d_D_relation_63 rfl 0 rfl ?_
    refine j_get hC hin_D (0) (mw_obj g k (up (up (up (up u 0 4 0) 1 (tn (u 0 0)) n) 0 0 (((up (up u 0 4 0) 1 (tn (u 0 0)) n) 0 0) + 1)) 0 3 0)) rfl 1 (by decide) (hC.2.2.2.2.1 _ wf_D_48) (fun _ h9 => h9) rfl d_D_relation_64 ?_
    refine j_iconst (v := 1) hC d_D_relation_67 (by decide) ?_
    refine j_isub hC d_D_relation_68 ?_
    exact j_iret hC hr ⟨rfl, by rw [m_relation, if_pos h33] <;> rfl, congrArg (mw g k) (by rw [m_relation, if_pos h33] <;> rfl)⟩ d_D_relation_69
  · refine j_iconst (v := 0) hC d_D_relation_36 (by decide) ?_
    exact j_iret hC hr ⟨rfl, by rw [m_relation, if_neg h33] <;> rfl, congrArg (mw g k) (by rw [m_relation, if_neg h33] <;> rfl)⟩ d_D_relation_37

set_option maxHeartbeats 4000000 in
set_option maxRecDepth 100000 in
theorem r_give (l : Launch) (dC : Nat → ClassId) (dI : Nat → Nat → Nat) (g k : Nat → Nat) (tl : List (ClassId × FieldType)) (u : jU) (hD : wfD u) (r a b : Int32) : jMet l y_D_give (.code y_D_give c_D_give 5 (some .boolean)) ({ frames := 2, cells := 0, slots := 0, locals := 45 }) (dC, dI) jcl (mtys k tl) jTs [.ref (g 0), .int r, .int a, .int b] (mw g k u) 0 0 (jRet (some (.int ((m_give u r a b).1))) (mw g k ((m_give u r a b).2))) := by
  refine jMet.of (by decide) (Nat.le_of_ble_eq_true rfl) ?_
  intro p e s m below meth c A hC hex hr hnm htr
  show jJ p l e ({ frames := 2, cells := 0, slots := 0, locals := 45 }) s m [.ref (g 0), .int r, .int a, .int b].toArray below meth c 5 (dC, dI) jcl A (hxQ below (jQ (dC, dI) jcl (jRet (some (.int ((m_give u r a b).1))) (mw g k ((m_give u r a b).2))) A) [.ref (g 0), .int r, .int a, .int b].toArray s 0 0 A) 0 0 (mw g k u) [(0, .ref (g 0)), (1, .int r), (2, .int a), (3, .int b)] [] 0
  refine j_aload_n hC d_D_give_0 rfl 0 rfl ?_
  refine j_aload_n hC d_D_give_1 rfl 0 rfl ?_
  refine j_iload_n hC d_D_give_2 rfl 1 rfl ?_
  refine j_iload_n hC d_D_give_3 rfl 2 rfl ?_
  refine j_iload_n hC d_D_give_4 rfl 3 rfl ?_
  refine j_callVr (As := [.int r, .int a, .int b]) (rest := [.ref (g 0)]) (st1 := [.int (m_isFact u r a b), .ref (g 0)]) hC (r_isFact l dC dI g k tl u hD r a b) rfl rfl ww_D_66 yn_D_isFact (mw_obj g k u) rfl rfl d_D_give_5 (Nat.le_of_ble_eq_true rfl) (by decide) ⟨Nat.zero_le _, Nat.zero_le _⟩ rfl ?_
  suffices hk8 : jJ p l e ({ frames := 2, cells := 0, slots := 0, locals := 45 }) s m [.ref (g 0), .int r, .int a, .int b].toArray below meth c 5 (dC, dI) jcl A (hxQ below (jQ (dC, dI) jcl (jRet (some (.int ((m_give u r a b).1))) (mw g k ((m_give u r a b).2))) A) [.ref (g 0), .int r, .int a, .int b].toArray s 0 0 A) 0 0 (mw g k u) [(0, .ref (g 0)), (1, .int r), (2, .int a), (3, .int b)] [.int (if (m_isFact u r a b) = 0 then (1 : Int32) else (0 : Int32)), .ref (g 0)] 16 by
    refine j_if_ne (tgt := 15) hC d_D_give_8 (by decide) (fun h8 => ?_) (fun h8 => ?_)
    · refine j_iconst (v := 0) hC d_D_give_15 (by decide) ?_
      exact j_top ((if_neg h8)) hk8
    · refine j_iconst (v := 1) hC d_D_give_11 (by decide) ?_
      refine j_goto (tgt := 16) hC d_D_give_12 (by decide) ?_
      exact j_top ((if_pos h8)) hk8
  refine j_iconst (v := 0) hC d_D_give_16 (by decide) ?_
  refine j_iconst (v := 0) hC d_D_give_17 (by decide) ?_
  refine j_callVr (As := [.int (if (m_isFact u r a b) = 0 then (1 : Int32) else (0 : Int32)), .int 0, .int 0]) (rest := []) (st1 := [.int ((m_refuse u (if (m_isFact u r a b) = 0 then (1 : Int32) else (0 : Int32)) 0 0).1)]) hC (r_refuse l dC dI g k tl u (if (m_isFact u r a b) = 0 then (1 : Int32) else (0 : Int32)) 0 0) rfl rfl ww_D_62 yn_D_refuse (mw_obj g k u) rfl rfl d_D_give_18 (Nat.le_of_ble_eq_true rfl) (by decide) ⟨Nat.zero_le _, Nat.zero_le _⟩ rfl ?_
  refine j_if_eq (tgt := 26) hC d_D_give_21 (by decide) (fun h21 => ?_) (fun h21 => ?_)
  · have hq := ref_fact h21
    have hr8 := isFact_rel hD hq
    have hF := fact_ix hD hq
    rw [ref_st h21]
    refine j_aload_n hC d_D_give_26 rfl 0 rfl ?_
    refine j_get hC hin_D (0) (mw_obj g k (up u 0 4 0)) rfl 3 (by decide) (hC.2.2.2.2.1 _ wf_D_13) (fun _ h9 => h9) rfl d_D_give_27 ?_
    refine j_aload_n hC d_D_give_30 rfl 0 rfl ?_
    refine j_iload_n hC d_D_give_31 rfl 1 rfl ?_
    refine j_iload_n hC d_D_give_32 rfl 2 rfl ?_
    refine j_iload_n hC d_D_give_33 rfl 3 rfl ?_
    refine j_callVr (As := [.int r, .int a, .int b]) (rest := [.ref (g 2)]) (st1 := [.int (m_factAt (up u 0 4 0) r a b), .ref (g 2)]) hC (r_factAt l dC dI g k tl (up u 0 4 0) r a b hr8) rfl rfl ww_D_69 yn_D_factAt (mw_obj g k (up u 0 4 0)) rfl rfl d_D_give_34 (Nat.le_of_ble_eq_true rfl) (by decide) ⟨Nat.zero_le _, Nat.zero_le _⟩ rfl ?_
    refine j_zaldN hC (2) 3 (mw_given g k (up u 0 4 0)) rfl (n := mFx u r a b) (hF.1) (hF.2) (by decide) d_D_give_37 ?_
    refine j_istore (lv' := [(0, .ref (g 0)), (1, .int r), (2, .int a), (3, .int b), (4, .int ((up u 0 4 0) 2 (mFx u r a b)))]) hC d_D_give_38 (by decide) rfl rfl ?_
    refine j_aload_n hC d_D_give_40 rfl 0 rfl ?_
    refine j_get hC hin_D (0) (mw_obj g k (up u 0 4 0)) rfl 3 (by decide) (hC.2.2.2.2.1 _ wf_D_13) (fun _ h9 => h9) rfl d_D_give_41 ?_
    refine j_aload_n hC d_D_give_44 rfl 0 rfl ?_
    refine j_iload_n hC d_D_give_45 rfl 1 rfl ?_
    refine j_iload_n hC d_D_give_46 rfl 2 rfl ?_
    refine j_iload_n hC d_D_give_47 rfl 3 rfl ?_
    refine j_callVr (As := [.int r, .int a, .int b]) (rest := [.ref (g 2)]) (st1 := [.int (m_factAt (up u 0 4 0) r a b), .ref (g 2)]) hC (r_factAt l dC dI g k tl (up u 0 4 0) r a b hr8) rfl rfl ww_D_69 yn_D_factAt (mw_obj g k (up u 0 4 0)) rfl rfl d_D_give_48 (Nat.le_of_ble_eq_true rfl) (by decide) ⟨Nat.zero_le _, Nat.zero_le _⟩ rfl ?_
    refine j_iconst (v := 1) hC d_D_give_51 (by decide) ?_
    refine j_zastN (ws' := mw g k (up (up u 0 4 0) 2 (mFx u r a b) 1)) hC (2) 3 (mw_given g k (up u 0 4 0)) rfl (n := mFx u r a b) (nar_1) (hF.1) (hF.2) (by decide) (mw_set_given g k (up u 0 4 0) (mFx u r a b) 1) d_D_give_52 ?_
    refine j_aload_n hC d_D_give_53 rfl 0 rfl ?_
    refine j_iconst (v := 0) hC d_D_give_54 (by decide) ?_
    refine j_put (ty := .boolean) (ws' := mw g k (up (up (up u 0 4 0) 2 (mFx u r a b) 1) 0 3 0)) hC hin_D tyX5 tyX5_ok nmX5 (0) (mw_obj g k (up (up u 0 4 0) 2 (mFx u r a b) 1)) rfl 12 (by decide) (hC.2.2.2.2.1 _ wf_D_54) (fun _ h9 => h9) rfl (by decide +kernel) (rfl) (rfl) (Nat.le_of_ble_eq_true rfl) (mw_set_known g k (up (up u 0 4 0) 2 (mFx u r a b) 1) 0) d_D_give_55 ?_
    refine j_iload hC d_D_give_58 4 rfl ?_
    suffices hk60 : jJ p l e ({ frames := 2, cells := 0, slots := 0, locals := 45 }) s m [.ref (g 0), .int r, .int a, .int b].toArray below meth c 5 (dC, dI) jcl A (hxQ below (jQ (dC, dI) jcl (jRet (some (.int ((m_give u r a b).1))) (mw g k ((m_give u r a b).2))) A) [.ref (g 0), .int r, .int a, .int b].toArray s 0 0 A) 0 0 (mw g k (up (up (up u 0 4 0) 2 (mFx u r a b) 1) 0 3 0)) [(0, .ref (g 0)), (1, .int r), (2, .int a), (3, .int b), (4, .int ((up u 0 4 0) 2 (mFx u r a b)))] [.int (if ((up u 0 4 0) 2 (mFx u r a b)) = 0 then (1 : Int32) else (0 : Int32))] 68 by
      refine j_if_ne (tgt := 67) hC d_D_give_60 (by decide) (fun h60 => ?_) (fun h60 => ?_)
      · refine j_iconst (v := 0) hC d_D_give_67 (by decide) ?_
        exact j_top ((if_neg h60)) hk60
      · refine j_iconst (v := 1) hC d_D_give_63 (by decide) ?_
        refine j_goto (tgt := 68) hC d_D_give_64 (by decide) ?_
        exact j_top ((if_pos h60)) hk60
    exact j_zret hC hr (by repeat' (first | rfl | split)) ⟨rfl, by rw [m_give, if_pos h21] <;> rfl, congrArg (mw g k) (by rw [m_give, if_pos h21] <;> rfl)⟩ d_D_give_68
  · refine j_iconst (v := 0) hC d_D_give_24 (by decide) ?_
    exact j_zret hC hr (by repeat' (first | rfl | split)) ⟨rfl, by rw [m_give, if_neg h21] <;> rfl, congrArg (mw g k) (by rw [m_give, if_neg h21] <;> rfl)⟩ d_D_give_25

set_option maxHeartbeats 4000000 in
set_option maxRecDepth 100000 in
theorem r_take (l : Launch) (dC : Nat → ClassId) (dI : Nat → Nat → Nat) (g k : Nat → Nat) (tl : List (ClassId × FieldType)) (u : jU) (hD : wfD u) (r a b : Int32) : jMet l y_D_take (.code y_D_take c_D_take 5 (some .boolean)) ({ frames := 2, cells := 0, slots := 0, locals := 45 }) (dC, dI) jcl (mtys k tl) jTs [.ref (g 0), .int r, .int a, .int b] (mw g k u) 0 0 (jRet (some (.int ((m_take u r a b).1))) (mw g k ((m_take u r a b).2))) := by
  refine jMet.of (by decide) (Nat.le_of_ble_eq_true rfl) ?_
  intro p e s m below meth c A hC hex hr hnm htr
  show jJ p l e ({ frames := 2, cells := 0, slots := 0, locals := 45 }) s m [.ref (g 0), .int r, .int a, .int b].toArray below meth c 5 (dC, dI) jcl A (hxQ below (jQ (dC, dI) jcl (jRet (some (.int ((m_take u r a b).1))) (mw g k ((m_take u r a b).2))) A) [.ref (g 0), .int r, .int a, .int b].toArray s 0 0 A) 0 0 (mw g k u) [(0, .ref (g 0)), (1, .int r), (2, .int a), (3, .int b)] [] 0
  refine j_aload_n hC d_D_take_0 rfl 0 rfl ?_
  refine j_aload_n hC d_D_take_1 rfl 0 rfl ?_
  refine j_iload_n hC d_D_take_2 rfl 1 rfl ?_
  refine j_iload_n hC d_D_take_3 rfl 2 rfl ?_
  refine j_iload_n hC d_D_take_4 rfl 3 rfl ?_
  refine j_callVr (As := [.int r, .int a, .int b]) (rest := [.ref (g 0)]) (st1 := [.int (m_isFact u r a b), .ref (g 0)]) hC (r_isFact l dC dI g k tl u hD r a b) rfl rfl ww_D_66 yn_D_isFact (mw_obj g k u) rfl rfl d_D_take_5 (Nat.le_of_ble_eq_true rfl) (by decide) ⟨Nat.zero_le _, Nat.zero_le _⟩ rfl ?_
  suffices hk8 : jJ p l e ({ frames := 2, cells := 0, slots := 0, locals := 45 }) s m [.ref (g 0), .int r, .int a, .int b].toArray below meth c 5 (dC, dI) jcl A (hxQ below (jQ (dC, dI) jcl (jRet (some (.int ((m_take u r a b).1))) (mw g k ((m_take u r a b).2))) A) [.ref (g 0), .int r, .int a, .int b].toArray s 0 0 A) 0 0 (mw g k u) [(0, .ref (g 0)), (1, .int r), (2, .int a), (3, .int b)] [.int (if (m_isFact u r a b) = 0 then (1 : Int32) else (0 : Int32)), .ref (g 0)] 16 by
    refine j_if_ne (tgt := 15) hC d_D_take_8 (by decide) (fun h8 => ?_) (fun h8 => ?_)
    · refine j_iconst (v := 0) hC d_D_take_15 (by decide) ?_
      exact j_top ((if_neg h8)) hk8
    · refine j_iconst (v := 1) hC d_D_take_11 (by decide) ?_
      refine j_goto (tgt := 16) hC d_D_take_12 (by decide) ?_
      exact j_top ((if_pos h8)) hk8
  refine j_iconst (v := 0) hC d_D_take_16 (by decide) ?_
  refine j_iconst (v := 0) hC d_D_take_17 (by decide) ?_
  refine j_callVr (As := [.int (if (m_isFact u r a b) = 0 then (1 : Int32) else (0 : Int32)), .int 0, .int 0]) (rest := []) (st1 := [.int ((m_refuse u (if (m_isFact u r a b) = 0 then (1 : Int32) else (0 : Int32)) 0 0).1)]) hC (r_refuse l dC dI g k tl u (if (m_isFact u r a b) = 0 then (1 : Int32) else (0 : Int32)) 0 0) rfl rfl ww_D_62 yn_D_refuse (mw_obj g k u) rfl rfl d_D_take_18 (Nat.le_of_ble_eq_true rfl) (by decide) ⟨Nat.zero_le _, Nat.zero_le _⟩ rfl ?_
  refine j_if_eq (tgt := 26) hC d_D_take_21 (by decide) (fun h21 => ?_) (fun h21 => ?_)
  · have hq := ref_fact h21
    have hr8 := isFact_rel hD hq
    have hF := fact_ix hD hq
    rw [ref_st h21]
    refine j_aload_n hC d_D_take_26 rfl 0 rfl ?_
    refine j_get hC hin_D (0) (mw_obj g k (up u 0 4 0)) rfl 3 (by decide) (hC.2.2.2.2.1 _ wf_D_13) (fun _ h9 => h9) rfl d_D_take_27 ?_
    refine j_aload_n hC d_D_take_30 rfl 0 rfl ?_
    refine j_iload_n hC d_D_take_31 rfl 1 rfl ?_
    refine j_iload_n hC d_D_take_32 rfl 2 rfl ?_
    refine j_iload_n hC d_D_take_33 rfl 3 rfl ?_
    refine j_callVr (As := [.int r, .int a, .int b]) (rest := [.ref (g 2)]) (st1 := [.int (m_factAt (up u 0 4 0) r a b), .ref (g 2)]) hC (r_factAt l dC dI g k tl (up u 0 4 0) r a b hr8) rfl rfl ww_D_69 yn_D_factAt (mw_obj g k (up u 0 4 0)) rfl rfl d_D_take_34 (Nat.le_of_ble_eq_true rfl) (by decide) ⟨Nat.zero_le _, Nat.zero_le _⟩ rfl ?_
    refine j_zaldN hC (2) 3 (mw_given g k (up u 0 4 0)) rfl (n := mFx u r a b) (hF.1) (hF.2) (by decide) d_D_take_37 ?_
    refine j_istore (lv' := [(0, .ref (g 0)), (1, .int r), (2, .int a), (3, .int b), (4, .int ((up u 0 4 0) 2 (mFx u r a b)))]) hC d_D_take_38 (by decide) rfl rfl ?_
    refine j_aload_n hC d_D_take_40 rfl 0 rfl ?_
    refine j_get hC hin_D (0) (mw_obj g k (up u 0 4 0)) rfl 3 (by decide) (hC.2.2.2.2.1 _ wf_D_13) (fun _ h9 => h9) rfl d_D_take_41 ?_
    refine j_aload_n hC d_D_take_44 rfl 0 rfl ?_
    refine j_iload_n hC d_D_take_45 rfl 1 rfl ?_
    refine j_iload_n hC d_D_take_46 rfl 2 rfl ?_
    refine j_iload_n hC d_D_take_47 rfl 3 rfl ?_
    refine j_callVr (As := [.int r, .int a, .int b]) (rest := [.ref (g 2)]) (st1 := [.int (m_factAt (up u 0 4 0) r a b), .ref (g 2)]) hC (r_factAt l dC dI g k tl (up u 0 4 0) r a b hr8) rfl rfl ww_D_69 yn_D_factAt (mw_obj g k (up u 0 4 0)) rfl rfl d_D_take_48 (Nat.le_of_ble_eq_true rfl) (by decide) ⟨Nat.zero_le _, Nat.zero_le _⟩ rfl ?_
    refine j_iconst (v := 0) hC d_D_take_51 (by decide) ?_
    refine j_zastN (ws' := mw g k (up (up u 0 4 0) 2 (mFx u r a b) 0)) hC (2) 3 (mw_given g k (up u 0 4 0)) rfl (n := mFx u r a b) (nar_0) (hF.1) (hF.2) (by decide) (mw_set_given g k (up u 0 4 0) (mFx u r a b) 0) d_D_take_52 ?_
    refine j_aload_n hC d_D_take_53 rfl 0 rfl ?_
    refine j_iconst (v := 0) hC d_D_take_54 (by decide) ?_
    refine j_put (ty := .boolean) (ws' := mw g k (up (up (up u 0 4 0) 2 (mFx u r a b) 0) 0 3 0)) hC hin_D tyX5 tyX5_ok nmX5 (0) (mw_obj g k (up (up u 0 4 0) 2 (mFx u r a b) 0)) rfl 12 (by decide) (hC.2.2.2.2.1 _ wf_D_54) (fun _ h9 => h9) rfl (by decide +kernel) (rfl) (rfl) (Nat.le_of_ble_eq_true rfl) (mw_set_known g k (up (up u 0 4 0) 2 (mFx u r a b) 0) 0) d_D_take_55 ?_
    refine j_iload hC d_D_take_58 4 rfl ?_
    exact j_zret hC hr (z01_n (hD.2.2.2.2.2 _ hF.2)) ⟨rfl, by rw [m_take, if_pos h21] <;> rfl, congrArg (mw g k) (by rw [m_take, if_pos h21] <;> rfl)⟩ d_D_take_60
  · refine j_iconst (v := 0) hC d_D_take_24 (by decide) ?_
    exact j_zret hC hr (by repeat' (first | rfl | split)) ⟨rfl, by rw [m_take, if_neg h21] <;> rfl, congrArg (mw g k) (by rw [m_take, if_neg h21] <;> rfl)⟩ d_D_take_25

set_option maxHeartbeats 4000000 in
set_option maxRecDepth 100000 in
theorem r_rule (l : Launch) (dC : Nat → ClassId) (dI : Nat → Nat → Nat) (g k : Nat → Nat) (tl : List (ClassId × FieldType)) (u : jU) (hD : wfD u) (r a b : Int32) : jMet l y_D_rule (.code y_D_rule c_D_rule 4 (some .int)) ({ frames := 3, cells := 0, slots := 0, locals := 65 }) (dC, dI) jcl (mtys k tl) jTs [.ref (g 0), .int r, .int a, .int b] (mw g k u) 0 0 (jRet (some (.int ((m_rule u r a b).1))) (mw g k ((m_rule u r a b).2))) := by
  refine jMet.of (by decide) (Nat.le_of_ble_eq_true rfl) ?_
  intro p e s m below meth c A hC hex hr hnm htr
  show jJ p l e ({ frames := 3, cells := 0, slots := 0, locals := 65 }) s m [.ref (g 0), .int r, .int a, .int b].toArray below meth c 4 (dC, dI) jcl A (hxQ below (jQ (dC, dI) jcl (jRet (some (.int ((m_rule u r a b).1))) (mw g k ((m_rule u r a b).2))) A) [.ref (g 0), .int r, .int a, .int b].toArray s 0 0 A) 0 0 (mw g k u) [(0, .ref (g 0)), (1, .int r), (2, .int a), (3, .int b)] [] 0
  refine j_aload_n hC d_D_rule_0 rfl 0 rfl ?_
  refine j_aload_n hC d_D_rule_1 rfl 0 rfl ?_
  refine j_iload_n hC d_D_rule_2 rfl 1 rfl ?_
  refine j_iload_n hC d_D_rule_3 rfl 2 rfl ?_
  refine j_iload_n hC d_D_rule_4 rfl 3 rfl ?_
  refine j_callVr (As := [.int r, .int a, .int b]) (rest := [.ref (g 0)]) (st1 := [.int (m_areTerms u r a b), .ref (g 0)]) hC (r_areTerms l dC dI g k tl u hD r a b) rfl rfl ww_D_77 yn_D_areTerms (mw_obj g k u) rfl rfl d_D_rule_5 (Nat.le_of_ble_eq_true rfl) (by decide) ⟨Nat.zero_le _, Nat.zero_le _⟩ rfl ?_
  suffices hk8 : jJ p l e ({ frames := 3, cells := 0, slots := 0, locals := 65 }) s m [.ref (g 0), .int r, .int a, .int b].toArray below meth c 4 (dC, dI) jcl A (hxQ below (jQ (dC, dI) jcl (jRet (some (.int ((m_rule u r a b).1))) (mw g k ((m_rule u r a b).2))) A) [.ref (g 0), .int r, .int a, .int b].toArray s 0 0 A) 0 0 (mw g k u) [(0, .ref (g 0)), (1, .int r), (2, .int a), (3, .int b)] [.int (if (m_areTerms u r a b) = 0 then (1 : Int32) else (0 : Int32)), .ref (g 0)] 16 by
    refine j_if_ne (tgt := 15) hC d_D_rule_8 (by decide) (fun h8 => ?_) (fun h8 => ?_)
    · refine j_iconst (v := 0) hC d_D_rule_15 (by decide) ?_
      exact j_top ((if_neg h8)) hk8
    · refine j_iconst (v := 1) hC d_D_rule_11 (by decide) ?_
      refine j_goto (tgt := 16) hC d_D_rule_12 (by decide) ?_
      exact j_top ((if_pos h8)) hk8
  refine j_aload_n hC d_D_rule_16 rfl 0 rfl ?_
  refine j_get hC hin_D (0) (mw_obj g k u) rfl 5 (by decide) (hC.2.2.2.2.1 _ wf_D_51) (fun _ h9 => h9) rfl d_D_rule_17 ?_
  refine j_bipush (v := 16) hC d_D_rule_20 (by decide) ?_
  suffices hk22 : jJ p l e ({ frames := 3, cells := 0, slots := 0, locals := 65 }) s m [.ref (g 0), .int r, .int a, .int b].toArray below meth c 4 (dC, dI) jcl A (hxQ below (jQ (dC, dI) jcl (jRet (some (.int ((m_rule u r a b).1))) (mw g k ((m_rule u r a b).2))) A) [.ref (g 0), .int r, .int a, .int b].toArray s 0 0 A) 0 0 (mw g k u) [(0, .ref (g 0)), (1, .int r), (2, .int a), (3, .int b)] [.int (if (u 0 1) = 16 then (1 : Int32) else (0 : Int32)), .int (if (m_areTerms u r a b) = 0 then (1 : Int32) else (0 : Int32)), .ref (g 0)] 30 by
    refine j_icmp_ne (tgt := 29) hC d_D_rule_22 (by decide) (fun h22 => ?_) (fun h22 => ?_)
    · refine j_iconst (v := 0) hC d_D_rule_29 (by decide) ?_
      exact j_top ((if_neg h22)) hk22
    · refine j_iconst (v := 1) hC d_D_rule_25 (by decide) ?_
      refine j_goto (tgt := 30) hC d_D_rule_26 (by decide) ?_
      exact j_top ((if_pos h22)) hk22
  refine j_iconst (v := 0) hC d_D_rule_30 (by decide) ?_
  refine j_callVr (As := [.int (if (m_areTerms u r a b) = 0 then (1 : Int32) else (0 : Int32)), .int (if (u 0 1) = 16 then (1 : Int32) else (0 : Int32)), .int 0]) (rest := []) (st1 := [.int ((m_refuse u (if (m_areTerms u r a b) = 0 then (1 : Int32) else (0 : Int32)) (if (u 0 1) = 16 then (1 : Int32) else (0 : Int32)) 0).1)]) hC (r_refuse l dC dI g k tl u (if (m_areTerms u r a b) = 0 then (1 : Int32) else (0 : Int32)) (if (u 0 1) = 16 then (1 : Int32) else (0 : Int32)) 0) rfl rfl ww_D_62 yn_D_refuse (mw_obj g k u) rfl rfl d_D_rule_31 (Nat.le_of_ble_eq_true rfl) (by decide) ⟨Nat.zero_le _, Nat.zero_le _⟩ rfl ?_
  refine j_if_eq (tgt := 39) hC d_D_rule_34 (by decide) (fun h34 => ?_) (fun h34 => ?_)
  · have hq := rule_ok hD h34
    rw [ref_st h34]
    refine j_aload_n hC d_D_rule_39 rfl 0 rfl ?_
    refine j_iconst (v := 5) hC d_D_rule_40 (by decide) ?_
    refine j_aload_n hC d_D_rule_41 rfl 0 rfl ?_
    refine j_get hC hin_D (0) (mw_obj g k (up u 0 4 0)) rfl 5 (by decide) (hC.2.2.2.2.1 _ wf_D_51) (fun _ h9 => h9) rfl d_D_rule_42 ?_
    refine j_imul hC d_D_rule_45 ?_
    refine j_iload_n hC d_D_rule_46 rfl 1 rfl ?_
    refine j_iload_n hC d_D_rule_47 rfl 2 rfl ?_
    refine j_iload_n hC d_D_rule_48 rfl 3 rfl ?_
    refine j_iconst (v := 0) hC d_D_rule_49 (by decide) ?_
    rw [show 5 * ((up u 0 4 0) 0 1) = nI (5 * tn (u 0 1)) from hq.2.2]
    refine j_callVr (As := [.int (nI (5 * tn (u 0 1))), .int r, .int a, .int b, .int 0]) (rest := []) (st1 := []) hC (r_put l dC dI g k tl (up u 0 4 0) (j := 5 * tn (u 0 1)) (by have := hq.2.1; omega) r a b 0 hq.1 (Or.inl rfl)) rfl rfl ww_D_80 yn_D_put (mw_obj g k (up u 0 4 0)) rfl rfl d_D_rule_50 (Nat.le_of_ble_eq_true rfl) (by decide) ⟨Nat.zero_le _, Nat.zero_le _⟩ rfl ?_
    refine j_aload_n hC d_D_rule_53 rfl 0 rfl ?_
    refine j_get hC hin_D (0) (mw_obj g k (m_put (up u 0 4 0) (5 * tn (u 0 1)) r a b 0)) rfl 6 (by decide) (hC.2.2.2.2.1 _ wf_D_20) (fun _ h9 => h9) rfl d_D_rule_54 ?_
    refine j_aload_n hC d_D_rule_57 rfl 0 rfl ?_
    refine j_get hC hin_D (0) (mw_obj g k (m_put (up u 0 4 0) (5 * tn (u 0 1)) r a b 0)) rfl 5 (by decide) (hC.2.2.2.2.1 _ wf_D_51) (fun _ h9 => h9) rfl d_D_rule_58 ?_
    refine j_iconst (v := 0) hC d_D_rule_61 (by decide) ?_
    refine j_iastN (ws' := mw g k (up (m_put (up u 0 4 0) (5 * tn (u 0 1)) r a b 0) 12 (tn (u 0 1)) 0)) hC (4) 0 (mw_counts g k (m_put (up u 0 4 0) (5 * tn (u 0 1)) r a b 0)) rfl (n := tn (u 0 1)) (hD.2.1.1) (hq.2.1) (by decide) (mw_set_counts g k (m_put (up u 0 4 0) (5 * tn (u 0 1)) r a b 0) (tn (u 0 1)) 0) d_D_rule_62 ?_
    refine j_aload_n hC d_D_rule_63 rfl 0 rfl ?_
    refine j_dup hC d_D_rule_64 rfl ?_
    refine j_get hC hin_D (0) (mw_obj g k (up (m_put (up u 0 4 0) (5 * tn (u 0 1)) r a b 0) 12 (tn (u 0 1)) 0)) rfl 5 (by decide) (hC.2.2.2.2.1 _ wf_D_51) (fun _ h9 => h9) rfl d_D_rule_65 ?_
    refine j_iconst (v := 1) hC d_D_rule_68 (by decide) ?_
    refine j_iadd hC d_D_rule_69 ?_
    refine j_put (ty := .int) (ws' := mw g k (up (up (m_put (up u 0 4 0) (5 * tn (u 0 1)) r a b 0) 12 (tn (u 0 1)) 0) 0 1 (((up (m_put (up u 0 4 0) (5 * tn (u 0 1)) r a b 0) 12 (tn (u 0 1)) 0) 0 1) + 1))) hC hin_D tyX5 tyX5_ok nmX5 (0) (mw_obj g k (up (m_put (up u 0 4 0) (5 * tn (u 0 1)) r a b 0) 12 (tn (u 0 1)) 0)) rfl 5 (by decide) (hC.2.2.2.2.1 _ wf_D_51) (fun _ h9 => h9) rfl (by decide +kernel) (rfl) (rfl) (Nat.le_of_ble_eq_true rfl) (mw_set_rules g k (up (m_put (up u 0 4 0) (5 * tn (u 0 1)) r a b 0) 12 (tn (u 0 1)) 0) (((up (m_put (up u 0 4 0) (5 * tn (u 0 1)) r a b 0) 12 (tn (u 0 1)) 0) 0 1) + 1)) d_D_rule_70 ?_
    refine j_aload_n hC d_D_rule_73 rfl 0 rfl ?_
    refine j_iconst (v := 0) hC d_D_rule_74 (by decide) ?_
    refine j_put (ty := .boolean) (ws' := mw g k (up (up (up (m_put (up u 0 4 0) (5 * tn (u 0 1)) r a b 0) 12 (tn (u 0 1)) 0) 0 1 (((up (m_put (up u 0 4 0) (5 * tn (u 0 1)) r a b 0) 12 (tn (u 0 1)) 0) 0 1) + 1)) 0 3 0)) hC hin_D tyX5 tyX5_ok nmX5 (0) (mw_obj g k (up (up (m_put (up u 0 4 0) (5 * tn (u 0 1)) r a b 0) 12 (tn (u 0 1)) 0) 0 1 (((up (m_put (up u 0 4 0) (5 * tn (u 0 1)) r a b 0) 12 (tn (u 0 1)) 0) 0 1) + 1))) rfl 12 (by decide) (hC.2.2.2.2.1 _ wf_D_54) (fun _ h9 => h9) rfl (by decide +kernel) (rfl) (rfl) (Nat.le_of_ble_eq_true rfl) (mw_set_known g k (up (up (m_put (up u 0 4 0) (5 * tn (u 0 1)) r a b 0) 12 (tn (u 0 1)) 0) 0 1 (((up (m_put (up u 0 4 0) (5 * tn (u 0 1)) r a b 0) 12 (tn (u 0 1)) 0) 0 1) + 1)) 0) d_D_rule_75 ?_
    refine j_aload_n hC d_D_rule_78 rfl 0 rfl ?_
    refine j_get hC hin_D (0) (mw_obj g k (up (up (up (m_put (up u 0 4 0) (5 * tn (u 0 1)) r a b 0) 12 (tn (u 0 1)) 0) 0 1 (((up (m_put (up u 0 4 0) (5 * tn (u 0 1)) r a b 0) 12 (tn (u 0 1)) 0) 0 1) + 1)) 0 3 0)) rfl 5 (by decide) (hC.2.2.2.2.1 _ wf_D_51) (fun _ h9 => h9) rfl d_D_rule_79 ?_
    refine j_iconst (v := 1) hC d_D_rule_82 (by decide) ?_
    refine j_isub hC d_D_rule_83 ?_
    exact j_iret hC hr ⟨rfl, by rw [m_rule, if_pos h34] <;> rfl, congrArg (mw g k) (by rw [m_rule, if_pos h34] <;> rfl)⟩ d_D_rule_84
  · refine j_iconst (v := 0) hC d_D_rule_37 (by decide) ?_
    exact j_iret hC hr ⟨rfl, by rw [m_rule, if_neg h34] <;> rfl, congrArg (mw g k) (by rw [m_rule, if_neg h34] <;> rfl)⟩ d_D_rule_38

set_option maxHeartbeats 4000000 in
set_option maxRecDepth 100000 in
theorem r_unrule (l : Launch) (dC : Nat → ClassId) (dI : Nat → Nat → Nat) (g k : Nat → Nat) (tl : List (ClassId × FieldType)) (u : jU)  : jMet l y_D_unrule (.code y_D_unrule c_D_unrule 1 none) ({ frames := 1, cells := 0, slots := 0, locals := 23 }) (dC, dI) jcl (mtys k tl) jTs [.ref (g 0)] (mw g k u) 0 0 (jRet none (mw g k (m_unrule u))) := by
  refine jMet.of (by decide) (Nat.le_of_ble_eq_true rfl) ?_
  intro p e s m below meth c A hC hex hr hnm htr
  show jJ p l e ({ frames := 1, cells := 0, slots := 0, locals := 23 }) s m [.ref (g 0)].toArray below meth c 1 (dC, dI) jcl A (hxQ below (jQ (dC, dI) jcl (jRet none (mw g k (m_unrule u))) A) [.ref (g 0)].toArray s 0 0 A) 0 0 (mw g k u) [(0, .ref (g 0))] [] 0
  refine j_aload_n hC d_D_unrule_0 rfl 0 rfl ?_
  refine j_aload_n hC d_D_unrule_1 rfl 0 rfl ?_
  refine j_get hC hin_D (0) (mw_obj g k u) rfl 5 (by decide) (hC.2.2.2.2.1 _ wf_D_51) (fun _ h9 => h9) rfl d_D_unrule_2 ?_
  suffices hk5 : jJ p l e ({ frames := 1, cells := 0, slots := 0, locals := 23 }) s m [.ref (g 0)].toArray below meth c 1 (dC, dI) jcl A (hxQ below (jQ (dC, dI) jcl (jRet none (mw g k (m_unrule u))) A) [.ref (g 0)].toArray s 0 0 A) 0 0 (mw g k u) [(0, .ref (g 0))] [.int (if (u 0 1) = 0 then (1 : Int32) else (0 : Int32)), .ref (g 0)] 13 by
    refine j_if_ne (tgt := 12) hC d_D_unrule_5 (by decide) (fun h5 => ?_) (fun h5 => ?_)
    · refine j_iconst (v := 0) hC d_D_unrule_12 (by decide) ?_
      exact j_top ((if_neg h5)) hk5
    · refine j_iconst (v := 1) hC d_D_unrule_8 (by decide) ?_
      refine j_goto (tgt := 13) hC d_D_unrule_9 (by decide) ?_
      exact j_top ((if_pos h5)) hk5
  refine j_iconst (v := 0) hC d_D_unrule_13 (by decide) ?_
  refine j_iconst (v := 0) hC d_D_unrule_14 (by decide) ?_
  refine j_callVr (As := [.int (if (u 0 1) = 0 then (1 : Int32) else (0 : Int32)), .int 0, .int 0]) (rest := []) (st1 := [.int ((m_refuse u (if (u 0 1) = 0 then (1 : Int32) else (0 : Int32)) 0 0).1)]) hC (r_refuse l dC dI g k tl u (if (u 0 1) = 0 then (1 : Int32) else (0 : Int32)) 0 0) rfl rfl ww_D_62 yn_D_refuse (mw_obj g k u) rfl rfl d_D_unrule_15 (Nat.le_of_ble_eq_true rfl) (by decide) ⟨Nat.zero_le _, Nat.zero_le _⟩ rfl ?_
  refine j_if_ne (tgt := 36) hC d_D_unrule_18 (by decide) (fun h18 => ?_) (fun h18 => ?_)
  · exact j_vret hC hr ⟨rfl, rfl, congrArg (mw g k) (by rw [m_unrule, if_neg h18] <;> rfl)⟩ d_D_unrule_36
  · rw [ref_st h18]
    refine j_aload_n hC d_D_unrule_21 rfl 0 rfl ?_
    refine j_dup hC d_D_unrule_22 rfl ?_
    refine j_get hC hin_D (0) (mw_obj g k (up u 0 4 0)) rfl 5 (by decide) (hC.2.2.2.2.1 _ wf_D_51) (fun _ h9 => h9) rfl d_D_unrule_23 ?_
    refine j_iconst (v := 1) hC d_D_unrule_26 (by decide) ?_
    refine j_isub hC d_D_unrule_27 ?_
    refine j_put (ty := .int) (ws' := mw g k (up (up u 0 4 0) 0 1 (((up u 0 4 0) 0 1) - 1))) hC hin_D tyX5 tyX5_ok nmX5 (0) (mw_obj g k (up u 0 4 0)) rfl 5 (by decide) (hC.2.2.2.2.1 _ wf_D_51) (fun _ h9 => h9) rfl (by decide +kernel) (rfl) (rfl) (Nat.le_of_ble_eq_true rfl) (mw_set_rules g k (up u 0 4 0) (((up u 0 4 0) 0 1) - 1)) d_D_unrule_28 ?_
    refine j_aload_n hC d_D_unrule_31 rfl 0 rfl ?_
    refine j_iconst (v := 0) hC d_D_unrule_32 (by decide) ?_
    refine j_put (ty := .boolean) (ws' := mw g k (up (up (up u 0 4 0) 0 1 (((up u 0 4 0) 0 1) - 1)) 0 3 0)) hC hin_D tyX5 tyX5_ok nmX5 (0) (mw_obj g k (up (up u 0 4 0) 0 1 (((up u 0 4 0) 0 1) - 1))) rfl 12 (by decide) (hC.2.2.2.2.1 _ wf_D_54) (fun _ h9 => h9) rfl (by decide +kernel) (rfl) (rfl) (Nat.le_of_ble_eq_true rfl) (mw_set_known g k (up (up u 0 4 0) 0 1 (((up u 0 4 0) 0 1) - 1)) 0) d_D_unrule_33 ?_
    exact j_vret hC hr ⟨rfl, rfl, congrArg (mw g k) (by rw [m_unrule, if_pos h18] <;> rfl)⟩ d_D_unrule_36

set_option maxHeartbeats 4000000 in
set_option maxRecDepth 100000 in
theorem r_literal (l : Launch) (dC : Nat → ClassId) (dI : Nat → Nat → Nat) (g k : Nat → Nat) (tl : List (ClassId × FieldType)) (u : jU) (hD : wfD u) (r a b z : Int32) (hz : z = 0 ∨ z = 1) : jMet l y_D_literal (.code y_D_literal c_D_literal 6 (some .int)) ({ frames := 3, cells := 0, slots := 0, locals := 65 }) (dC, dI) jcl (mtys k tl) jTs [.ref (g 0), .int r, .int a, .int b, .int z] (mw g k u) 0 0 (jRet (some (.int ((m_literal u r a b z).1))) (mw g k ((m_literal u r a b z).2))) := by
  refine jMet.of (by decide) (Nat.le_of_ble_eq_true rfl) ?_
  intro p e s m below meth c A hC hex hr hnm htr
  show jJ p l e ({ frames := 3, cells := 0, slots := 0, locals := 65 }) s m [.ref (g 0), .int r, .int a, .int b, .int z].toArray below meth c 6 (dC, dI) jcl A (hxQ below (jQ (dC, dI) jcl (jRet (some (.int ((m_literal u r a b z).1))) (mw g k ((m_literal u r a b z).2))) A) [.ref (g 0), .int r, .int a, .int b, .int z].toArray s 0 0 A) 0 0 (mw g k u) [(0, .ref (g 0)), (1, .int r), (2, .int a), (3, .int b), (4, .int z)] [] 0
  refine j_aload_n hC d_D_literal_0 rfl 0 rfl ?_
  refine j_get hC hin_D (0) (mw_obj g k u) rfl 5 (by decide) (hC.2.2.2.2.1 _ wf_D_51) (fun _ h9 => h9) rfl d_D_literal_1 ?_
  suffices hk4 : jJ p l e ({ frames := 3, cells := 0, slots := 0, locals := 65 }) s m [.ref (g 0), .int r, .int a, .int b, .int z].toArray below meth c 6 (dC, dI) jcl A (hxQ below (jQ (dC, dI) jcl (jRet (some (.int ((m_literal u r a b z).1))) (mw g k ((m_literal u r a b z).2))) A) [.ref (g 0), .int r, .int a, .int b, .int z].toArray s 0 0 A) 0 0 (mw g k u) [(0, .ref (g 0)), (1, .int r), (2, .int a), (3, .int b), (4, .int z)] [.int (if (u 0 1) ≤ 0 then (0 : Int32) else (if (m_areTerms u r a b) = 0 then (0 : Int32) else (1 : Int32)))] 22 by
    refine j_if_le (tgt := 21) hC d_D_literal_4 (by decide) (fun h4 => ?_) (fun h4 => ?_)
    · refine j_iconst (v := 0) hC d_D_literal_21 (by decide) ?_
      exact j_top ((if_pos h4)) hk4
    · refine j_aload_n hC d_D_literal_7 rfl 0 rfl ?_
      refine j_iload_n hC d_D_literal_8 rfl 1 rfl ?_
      refine j_iload_n hC d_D_literal_9 rfl 2 rfl ?_
      refine j_iload_n hC d_D_literal_10 rfl 3 rfl ?_
      refine j_callVr (As := [.int r, .int a, .int b]) (rest := []) (st1 := [.int (m_areTerms u r a b)]) hC (r_areTerms l dC dI g k tl u hD r a b) rfl rfl ww_D_77 yn_D_areTerms (mw_obj g k u) rfl rfl d_D_literal_11 (Nat.le_of_ble_eq_true rfl) (by decide) ⟨Nat.zero_le _, Nat.zero_le _⟩ rfl ?_
      suffices hk14 : jJ p l e ({ frames := 3, cells := 0, slots := 0, locals := 65 }) s m [.ref (g 0), .int r, .int a, .int b, .int z].toArray below meth c 6 (dC, dI) jcl A (hxQ below (jQ (dC, dI) jcl (jRet (some (.int ((m_literal u r a b z).1))) (mw g k ((m_literal u r a b z).2))) A) [.ref (g 0), .int r, .int a, .int b, .int z].toArray s 0 0 A) 0 0 (mw g k u) [(0, .ref (g 0)), (1, .int r), (2, .int a), (3, .int b), (4, .int z)] [.int (if (m_areTerms u r a b) = 0 then (0 : Int32) else (1 : Int32))] 22 by
        refine j_if_eq (tgt := 21) hC d_D_literal_14 (by decide) (fun h14 => ?_) (fun h14 => ?_)
        · refine j_iconst (v := 0) hC d_D_literal_21 (by decide) ?_
          exact j_top ((if_pos h14)) hk14
        · refine j_iconst (v := 1) hC d_D_literal_17 (by decide) ?_
          refine j_goto (tgt := 22) hC d_D_literal_18 (by decide) ?_
          exact j_top ((if_neg h14)) hk14
      exact j_top ((if_neg h4)) hk4
  refine j_istore (lv' := [(0, .ref (g 0)), (1, .int r), (2, .int a), (3, .int b), (4, .int z), (5, .int (m_fine u r a b))]) hC d_D_literal_22 (by decide) rfl rfl ?_
  refine j_aload_n hC d_D_literal_24 rfl 0 rfl ?_
  refine j_aload_n hC d_D_literal_25 rfl 0 rfl ?_
  refine j_get hC hin_D (0) (mw_obj g k u) rfl 5 (by decide) (hC.2.2.2.2.1 _ wf_D_51) (fun _ h9 => h9) rfl d_D_literal_26 ?_
  suffices hk29 : jJ p l e ({ frames := 3, cells := 0, slots := 0, locals := 65 }) s m [.ref (g 0), .int r, .int a, .int b, .int z].toArray below meth c 6 (dC, dI) jcl A (hxQ below (jQ (dC, dI) jcl (jRet (some (.int ((m_literal u r a b z).1))) (mw g k ((m_literal u r a b z).2))) A) [.ref (g 0), .int r, .int a, .int b, .int z].toArray s 0 0 A) 0 0 (mw g k u) [(0, .ref (g 0)), (1, .int r), (2, .int a), (3, .int b), (4, .int z), (5, .int (m_fine u r a b))] [.int (if (u 0 1) = 0 then (1 : Int32) else (0 : Int32)), .ref (g 0)] 37 by
    refine j_if_ne (tgt := 36) hC d_D_literal_29 (by decide) (fun h29 => ?_) (fun h29 => ?_)
    · refine j_iconst (v := 0) hC d_D_literal_36 (by decide) ?_
      exact j_top ((if_neg h29)) hk29
    · refine j_iconst (v := 1) hC d_D_literal_32 (by decide) ?_
      refine j_goto (tgt := 37) hC d_D_literal_33 (by decide) ?_
      exact j_top ((if_pos h29)) hk29
  refine j_aload_n hC d_D_literal_37 rfl 0 rfl ?_
  refine j_get hC hin_D (0) (mw_obj g k u) rfl 5 (by decide) (hC.2.2.2.2.1 _ wf_D_51) (fun _ h9 => h9) rfl d_D_literal_38 ?_
  suffices hk41 : jJ p l e ({ frames := 3, cells := 0, slots := 0, locals := 65 }) s m [.ref (g 0), .int r, .int a, .int b, .int z].toArray below meth c 6 (dC, dI) jcl A (hxQ below (jQ (dC, dI) jcl (jRet (some (.int ((m_literal u r a b z).1))) (mw g k ((m_literal u r a b z).2))) A) [.ref (g 0), .int r, .int a, .int b, .int z].toArray s 0 0 A) 0 0 (mw g k u) [(0, .ref (g 0)), (1, .int r), (2, .int a), (3, .int b), (4, .int z), (5, .int (m_fine u r a b))] [.int (if (u 0 1) ≤ 0 then (0 : Int32) else (if (m_fine u r a b) = 0 then (1 : Int32) else (0 : Int32))), .int (if (u 0 1) = 0 then (1 : Int32) else (0 : Int32)), .ref (g 0)] 54 by
    refine j_if_le (tgt := 53) hC d_D_literal_41 (by decide) (fun h41 => ?_) (fun h41 => ?_)
    · refine j_iconst (v := 0) hC d_D_literal_53 (by decide) ?_
      exact j_top ((if_pos h41)) hk41
    · refine j_iload hC d_D_literal_44 5 rfl ?_
      suffices hk46 : jJ p l e ({ frames := 3, cells := 0, slots := 0, locals := 65 }) s m [.ref (g 0), .int r, .int a, .int b, .int z].toArray below meth c 6 (dC, dI) jcl A (hxQ below (jQ (dC, dI) jcl (jRet (some (.int ((m_literal u r a b z).1))) (mw g k ((m_literal u r a b z).2))) A) [.ref (g 0), .int r, .int a, .int b, .int z].toArray s 0 0 A) 0 0 (mw g k u) [(0, .ref (g 0)), (1, .int r), (2, .int a), (3, .int b), (4, .int z), (5, .int (m_fine u r a b))] [.int (if (m_fine u r a b) = 0 then (1 : Int32) else (0 : Int32)), .int (if (u 0 1) = 0 then (1 : Int32) else (0 : Int32)), .ref (g 0)] 54 by
        refine j_if_ne (tgt := 53) hC d_D_literal_46 (by decide) (fun h46 => ?_) (fun h46 => ?_)
        · refine j_iconst (v := 0) hC d_D_literal_53 (by decide) ?_
          exact j_top ((if_neg h46)) hk46
        · refine j_iconst (v := 1) hC d_D_literal_49 (by decide) ?_
          refine j_goto (tgt := 54) hC d_D_literal_50 (by decide) ?_
          exact j_top ((if_pos h46)) hk46
      exact j_top ((if_neg h41)) hk41
  refine j_iload hC d_D_literal_54 5 rfl ?_
  suffices hk56 : jJ p l e ({ frames := 3, cells := 0, slots := 0, locals := 65 }) s m [.ref (g 0), .int r, .int a, .int b, .int z].toArray below meth c 6 (dC, dI) jcl A (hxQ below (jQ (dC, dI) jcl (jRet (some (.int ((m_literal u r a b z).1))) (mw g k ((m_literal u r a b z).2))) A) [.ref (g 0), .int r, .int a, .int b, .int z].toArray s 0 0 A) 0 0 (mw g k u) [(0, .ref (g 0)), (1, .int r), (2, .int a), (3, .int b), (4, .int z), (5, .int (m_fine u r a b))] [.int (if (m_fine u r a b) = 0 then (0 : Int32) else (if (u 12 (tn (if u 0 1 ≤ 0 then 0 else u 0 1 - 1))) = 4 then (1 : Int32) else (0 : Int32))), .int (if (u 0 1) ≤ 0 then (0 : Int32) else (if (m_fine u r a b) = 0 then (1 : Int32) else (0 : Int32))), .int (if (u 0 1) = 0 then (1 : Int32) else (0 : Int32)), .ref (g 0)] 90 by
    refine j_if_eq (tgt := 89) hC d_D_literal_56 (by decide) (fun h56 => ?_) (fun h56 => ?_)
    · refine j_iconst (v := 0) hC d_D_literal_89 (by decide) ?_
      exact j_top ((if_pos h56)) hk56
    · refine j_aload_n hC d_D_literal_59 rfl 0 rfl ?_
      refine j_get hC hin_D (0) (mw_obj g k u) rfl 6 (by decide) (hC.2.2.2.2.1 _ wf_D_20) (fun _ h9 => h9) rfl d_D_literal_60 ?_
      refine j_aload_n hC d_D_literal_63 rfl 0 rfl ?_
      refine j_get hC hin_D (0) (mw_obj g k u) rfl 5 (by decide) (hC.2.2.2.2.1 _ wf_D_51) (fun _ h9 => h9) rfl d_D_literal_64 ?_
      suffices hk67 : jJ p l e ({ frames := 3, cells := 0, slots := 0, locals := 65 }) s m [.ref (g 0), .int r, .int a, .int b, .int z].toArray below meth c 6 (dC, dI) jcl A (hxQ below (jQ (dC, dI) jcl (jRet (some (.int ((m_literal u r a b z).1))) (mw g k ((m_literal u r a b z).2))) A) [.ref (g 0), .int r, .int a, .int b, .int z].toArray s 0 0 A) 0 0 (mw g k u) [(0, .ref (g 0)), (1, .int r), (2, .int a), (3, .int b), (4, .int z), (5, .int (m_fine u r a b))] [.int (if (u 0 1) ≤ 0 then (0 : Int32) else ((u 0 1) - 1)), .ref (g 4), .int (if (u 0 1) ≤ 0 then (0 : Int32) else (if (m_fine u r a b) = 0 then (1 : Int32) else (0 : Int32))), .int (if (u 0 1) = 0 then (1 : Int32) else (0 : Int32)), .ref (g 0)] 80 by
        refine j_if_le (tgt := 79) hC d_D_literal_67 (by decide) (fun h67 => ?_) (fun h67 => ?_)
        · refine j_iconst (v := 0) hC d_D_literal_79 (by decide) ?_
          exact j_top ((if_pos h67)) hk67
        · refine j_aload_n hC d_D_literal_70 rfl 0 rfl ?_
          refine j_get hC hin_D (0) (mw_obj g k u) rfl 5 (by decide) (hC.2.2.2.2.1 _ wf_D_51) (fun _ h9 => h9) rfl d_D_literal_71 ?_
          refine j_iconst (v := 1) hC d_D_literal_74 (by decide) ?_
          refine j_isub hC d_D_literal_75 ?_
          refine j_goto (tgt := 80) hC d_D_literal_76 (by decide) ?_
          exact j_top ((if_neg h67)) hk67
      refine j_ialdN hC (4) 0 (mw_counts g k u) rfl (n := tn (if u 0 1 ≤ 0 then 0 else u 0 1 - 1)) ((last_or hD).1) ((last_or hD).2) (by decide) d_D_literal_80 ?_
      refine j_iconst (v := 4) hC d_D_literal_81 (by decide) ?_
      suffices hk82 : jJ p l e ({ frames := 3, cells := 0, slots := 0, locals := 65 }) s m [.ref (g 0), .int r, .int a, .int b, .int z].toArray below meth c 6 (dC, dI) jcl A (hxQ below (jQ (dC, dI) jcl (jRet (some (.int ((m_literal u r a b z).1))) (mw g k ((m_literal u r a b z).2))) A) [.ref (g 0), .int r, .int a, .int b, .int z].toArray s 0 0 A) 0 0 (mw g k u) [(0, .ref (g 0)), (1, .int r), (2, .int a), (3, .int b), (4, .int z), (5, .int (m_fine u r a b))] [.int (if (u 12 (tn (if u 0 1 ≤ 0 then 0 else u 0 1 - 1))) = 4 then (1 : Int32) else (0 : Int32)), .int (if (u 0 1) ≤ 0 then (0 : Int32) else (if (m_fine u r a b) = 0 then (1 : Int32) else (0 : Int32))), .int (if (u 0 1) = 0 then (1 : Int32) else (0 : Int32)), .ref (g 0)] 90 by
        refine j_icmp_ne (tgt := 89) hC d_D_literal_82 (by decide) (fun h82 => ?_) (fun h82 => ?_)
        · refine j_iconst (v := 0) hC d_D_literal_89 (by decide) ?_
          exact j_top ((if_neg h82)) hk82
        · refine j_iconst (v := 1) hC d_D_literal_85 (by decide) ?_
          refine j_goto (tgt := 90) hC d_D_literal_86 (by decide) ?_
          exact j_top ((if_pos h82)) hk82
      exact j_top ((if_neg h56)) hk56
  refine j_callVr (As := [.int (if (u 0 1) = 0 then (1 : Int32) else (0 : Int32)), .int (if (u 0 1) ≤ 0 then (0 : Int32) else (if (m_fine u r a b) = 0 then (1 : Int32) else (0 : Int32))), .int (if (m_fine u r a b) = 0 then (0 : Int32) else (if (u 12 (tn (if u 0 1 ≤ 0 then 0 else u 0 1 - 1))) = 4 then (1 : Int32) else (0 : Int32)))]) (rest := []) (st1 := [.int ((m_refuse u (if (u 0 1) = 0 then (1 : Int32) else (0 : Int32)) (if (u 0 1) ≤ 0 then (0 : Int32) else (if (m_fine u r a b) = 0 then (1 : Int32) else (0 : Int32))) (if (m_fine u r a b) = 0 then (0 : Int32) else (if (u 12 (tn (if u 0 1 ≤ 0 then 0 else u 0 1 - 1))) = 4 then (1 : Int32) else (0 : Int32)))).1)]) hC (r_refuse l dC dI g k tl u (if (u 0 1) = 0 then (1 : Int32) else (0 : Int32)) (if (u 0 1) ≤ 0 then (0 : Int32) else (if (m_fine u r a b) = 0 then (1 : Int32) else (0 : Int32))) (if (m_fine u r a b) = 0 then (0 : Int32) else (if (u 12 (tn (if u 0 1 ≤ 0 then 0 else u 0 1 - 1))) = 4 then (1 : Int32) else (0 : Int32)))) rfl rfl ww_D_62 yn_D_refuse (mw_obj g k u) rfl rfl d_D_literal_90 (Nat.le_of_ble_eq_true rfl) (by decide) ⟨Nat.zero_le _, Nat.zero_le _⟩ rfl ?_
  refine j_if_eq (tgt := 98) hC d_D_literal_93 (by decide) (fun h93 => ?_) (fun h93 => ?_)
  · have hq := lit_ok hD h93
    rw [ref_st h93]
    refine j_aload_n hC d_D_literal_98 rfl 0 rfl ?_
    refine j_get hC hin_D (0) (mw_obj g k (up u 0 4 0)) rfl 6 (by decide) (hC.2.2.2.2.1 _ wf_D_20) (fun _ h9 => h9) rfl d_D_literal_99 ?_
    refine j_aload_n hC d_D_literal_102 rfl 0 rfl ?_
    refine j_get hC hin_D (0) (mw_obj g k (up u 0 4 0)) rfl 5 (by decide) (hC.2.2.2.2.1 _ wf_D_51) (fun _ h9 => h9) rfl d_D_literal_103 ?_
    refine j_iconst (v := 1) hC d_D_literal_106 (by decide) ?_
    refine j_isub hC d_D_literal_107 ?_
    refine j_dup2_11 hC d_D_literal_108 rfl rfl ?_
    refine j_ialdN hC (4) 0 (mw_counts g k (up u 0 4 0)) rfl (n := tn (u 0 1) - 1) (hq.2.2.1) (hq.2.1) (by decide) d_D_literal_109 ?_
    refine j_iconst (v := 1) hC d_D_literal_110 (by decide) ?_
    refine j_iadd hC d_D_literal_111 ?_
    refine j_iastN (ws' := mw g k (up (up u 0 4 0) 12 (tn (u 0 1) - 1) (((up u 0 4 0) 12 (tn (u 0 1) - 1)) + 1))) hC (4) 0 (mw_counts g k (up u 0 4 0)) rfl (n := tn (u 0 1) - 1) (hq.2.2.1) (hq.2.1) (by decide) (mw_set_counts g k (up u 0 4 0) (tn (u 0 1) - 1) (((up u 0 4 0) 12 (tn (u 0 1) - 1)) + 1)) d_D_literal_112 ?_
    refine j_aload_n hC d_D_literal_113 rfl 0 rfl ?_
    refine j_iconst (v := 5) hC d_D_literal_114 (by decide) ?_
    refine j_aload_n hC d_D_literal_115 rfl 0 rfl ?_
    refine j_get hC hin_D (0) (mw_obj g k (up (up u 0 4 0) 12 (tn (u 0 1) - 1) (((up u 0 4 0) 12 (tn (u 0 1) - 1)) + 1))) rfl 5 (by decide) (hC.2.2.2.2.1 _ wf_D_51) (fun _ h9 => h9) rfl d_D_literal_116 ?_
    refine j_iconst (v := 1) hC d_D_literal_119 (by decide) ?_
    refine j_isub hC d_D_literal_120 ?_
    refine j_imul hC d_D_literal_121 ?_
    refine j_aload_n hC d_D_literal_122 rfl 0 rfl ?_
    refine j_get hC hin_D (0) (mw_obj g k (up (up u 0 4 0) 12 (tn (u 0 1) - 1) (((up u 0 4 0) 12 (tn (u 0 1) - 1)) + 1))) rfl 6 (by decide) (hC.2.2.2.2.1 _ wf_D_20) (fun _ h9 => h9) rfl d_D_literal_123 ?_
    refine j_aload_n hC d_D_literal_126 rfl 0 rfl ?_
    refine j_get hC hin_D (0) (mw_obj g k (up (up u 0 4 0) 12 (tn (u 0 1) - 1) (((up u 0 4 0) 12 (tn (u 0 1) - 1)) + 1))) rfl 5 (by decide) (hC.2.2.2.2.1 _ wf_D_51) (fun _ h9 => h9) rfl d_D_literal_127 ?_
    refine j_iconst (v := 1) hC d_D_literal_130 (by decide) ?_
    refine j_isub hC d_D_literal_131 ?_
    refine j_ialdN hC (4) 0 (mw_counts g k (up (up u 0 4 0) 12 (tn (u 0 1) - 1) (((up u 0 4 0) 12 (tn (u 0 1) - 1)) + 1))) rfl (n := tn (u 0 1) - 1) (hq.2.2.1) (hq.2.1) (by decide) d_D_literal_132 ?_
    refine j_iadd hC d_D_literal_133 ?_
    refine j_iload_n hC d_D_literal_134 rfl 1 rfl ?_
    refine j_iload_n hC d_D_literal_135 rfl 2 rfl ?_
    refine j_iload_n hC d_D_literal_136 rfl 3 rfl ?_
    refine j_iload hC d_D_literal_137 4 rfl ?_
    rw [show (5 * (((up (up u 0 4 0) 12 (tn (u 0 1) - 1) (((up u 0 4 0) 12 (tn (u 0 1) - 1)) + 1)) 0 1) - 1)) + ((up (up u 0 4 0) 12 (tn (u 0 1) - 1) (((up u 0 4 0) 12 (tn (u 0 1) - 1)) + 1)) 12 (tn (u 0 1) - 1)) = nI (mLj u) from (by rw [up_same]; exact hq.2.2.2.1)]
    refine j_callVr (As := [.int (nI (mLj u)), .int r, .int a, .int b, .int z]) (rest := []) (st1 := []) hC (r_put l dC dI g k tl (up (up u 0 4 0) 12 (tn (u 0 1) - 1) (((up u 0 4 0) 12 (tn (u 0 1) - 1)) + 1)) (j := mLj u) hq.2.2.2.2 r a b z hq.1 hz) rfl rfl ww_D_80 yn_D_put (mw_obj g k (up (up u 0 4 0) 12 (tn (u 0 1) - 1) (((up u 0 4 0) 12 (tn (u 0 1) - 1)) + 1))) rfl rfl d_D_literal_139 (Nat.le_of_ble_eq_true rfl) (by decide) ⟨Nat.zero_le _, Nat.zero_le _⟩ rfl ?_
    refine j_aload_n hC d_D_literal_142 rfl 0 rfl ?_
    refine j_iconst (v := 0) hC d_D_literal_143 (by decide) ?_
    refine j_put (ty := .boolean) (ws' := mw g k (up (m_put (up (up u 0 4 0) 12 (tn (u 0 1) - 1) (((up u 0 4 0) 12 (tn (u 0 1) - 1)) + 1)) (mLj u) r a b z) 0 3 0)) hC hin_D tyX5 tyX5_ok nmX5 (0) (mw_obj g k (m_put (up (up u 0 4 0) 12 (tn (u 0 1) - 1) (((up u 0 4 0) 12 (tn (u 0 1) - 1)) + 1)) (mLj u) r a b z)) rfl 12 (by decide) (hC.2.2.2.2.1 _ wf_D_54) (fun _ h9 => h9) rfl (by decide +kernel) (rfl) (rfl) (Nat.le_of_ble_eq_true rfl) (mw_set_known g k (m_put (up (up u 0 4 0) 12 (tn (u 0 1) - 1) (((up u 0 4 0) 12 (tn (u 0 1) - 1)) + 1)) (mLj u) r a b z) 0) d_D_literal_144 ?_
    refine j_aload_n hC d_D_literal_147 rfl 0 rfl ?_
    refine j_get hC hin_D (0) (mw_obj g k (up (m_put (up (up u 0 4 0) 12 (tn (u 0 1) - 1) (((up u 0 4 0) 12 (tn (u 0 1) - 1)) + 1)) (mLj u) r a b z) 0 3 0)) rfl 6 (by decide) (hC.2.2.2.2.1 _ wf_D_20) (fun _ h9 => h9) rfl d_D_literal_148 ?_
    refine j_aload_n hC d_D_literal_151 rfl 0 rfl ?_
    refine j_get hC hin_D (0) (mw_obj g k (up (m_put (up (up u 0 4 0) 12 (tn (u 0 1) - 1) (((up u 0 4 0) 12 (tn (u 0 1) - 1)) + 1)) (mLj u) r a b z) 0 3 0)) rfl 5 (by decide) (hC.2.2.2.2.1 _ wf_D_51) (fun _ h9 => h9) rfl d_D_literal_152 ?_
    refine j_iconst (v := 1) hC d_D_literal_155 (by decide) ?_
    refine j_isub hC d_D_literal_156 ?_
    refine j_ialdN hC (4) 0 (mw_counts g k (up (m_put (up (up u 0 4 0) 12 (tn (u 0 1) - 1) (((up u 0 4 0) 12 (tn (u 0 1) - 1)) + 1)) (mLj u) r a b z) 0 3 0)) rfl (n := tn (u 0 1) - 1) (hq.2.2.1) (hq.2.1) (by decide) d_D_literal_157 ?_
    exact j_iret hC hr ⟨rfl, by rw [m_literal, if_pos h93] <;> rfl, congrArg (mw g k) (by rw [m_literal, if_pos h93] <;> rfl)⟩ d_D_literal_158
  · refine j_iconst (v := 0) hC d_D_literal_96 (by decide) ?_
    exact j_iret hC hr ⟨rfl, by rw [m_literal, if_neg h93] <;> rfl, congrArg (mw g k) (by rw [m_literal, if_neg h93] <;> rfl)⟩ d_D_literal_97

set_option maxHeartbeats 4000000 in
set_option maxRecDepth 100000 in
theorem r_vo (l : Launch) (dC : Nat → ClassId) (dI : Nat → Nat → Nat) (g k : Nat → Nat) (tl : List (ClassId × FieldType)) (u : jU) {j : Nat} (hj : j < 80) : jMet l y_D_variablesOf (.code y_D_variablesOf c_D_variablesOf 3 (some .int)) ({ frames := 0, cells := 0, slots := 0, locals := 0 }) (dC, dI) jcl (mtys k tl) jTs [.ref (g 0), .int (nI j)] (mw g k u) 0 0 (jRet (some (.int (m_vo u j))) (mw g k u)) := by
  refine jMet.of (by decide) (Nat.le_of_ble_eq_true rfl) ?_
  intro p e s m below meth c A hC hex hr hnm htr
  show jJ p l e ({ frames := 0, cells := 0, slots := 0, locals := 0 }) s m [.ref (g 0), .int (nI j)].toArray below meth c 3 (dC, dI) jcl A (hxQ below (jQ (dC, dI) jcl (jRet (some (.int (m_vo u j))) (mw g k u)) A) [.ref (g 0), .int (nI j)].toArray s 0 0 A) 0 0 (mw g k u) [(0, .ref (g 0)), (1, .int (nI j))] [] 0
  refine j_aload_n hC d_D_variablesOf_0 rfl 0 rfl ?_
  refine j_get hC hin_D (0) (mw_obj g k u) rfl 8 (by decide) (hC.2.2.2.2.1 _ wf_D_26) (fun _ h9 => h9) rfl d_D_variablesOf_1 ?_
  refine j_iload_n hC d_D_variablesOf_4 rfl 1 rfl ?_
  refine j_ialdN hC (6) 0 (mw_first g k u) rfl (n := j) (rfl) (by omega) (by decide) d_D_variablesOf_5 ?_
  refine j_bipush (v := 20) hC d_D_variablesOf_6 (by decide) ?_
  suffices hk8 : jJ p l e ({ frames := 0, cells := 0, slots := 0, locals := 0 }) s m [.ref (g 0), .int (nI j)].toArray below meth c 3 (dC, dI) jcl A (hxQ below (jQ (dC, dI) jcl (jRet (some (.int (m_vo u j))) (mw g k u)) A) [.ref (g 0), .int (nI j)].toArray s 0 0 A) 0 0 (mw g k u) [(0, .ref (g 0)), (1, .int (nI j))] [.int (if (u 17 j) < 20 then (0 : Int32) else (1 <<< (((u 17 j) - 20) &&& 31)))] 26 by
    refine j_icmp_lt (tgt := 25) hC d_D_variablesOf_8 (by decide) (fun h8 => ?_) (fun h8 => ?_)
    · refine j_iconst (v := 0) hC d_D_variablesOf_25 (by decide) ?_
      exact j_top ((if_pos h8)) hk8
    · refine j_iconst (v := 1) hC d_D_variablesOf_11 (by decide) ?_
      refine j_aload_n hC d_D_variablesOf_12 rfl 0 rfl ?_
      refine j_get hC hin_D (0) (mw_obj g k u) rfl 8 (by decide) (hC.2.2.2.2.1 _ wf_D_26) (fun _ h9 => h9) rfl d_D_variablesOf_13 ?_
      refine j_iload_n hC d_D_variablesOf_16 rfl 1 rfl ?_
      refine j_ialdN hC (6) 0 (mw_first g k u) rfl (n := j) (rfl) (by omega) (by decide) d_D_variablesOf_17 ?_
      refine j_bipush (v := 20) hC d_D_variablesOf_18 (by decide) ?_
      refine j_isub hC d_D_variablesOf_20 ?_
      refine j_ishl hC d_D_variablesOf_21 ?_
      refine j_goto (tgt := 26) hC d_D_variablesOf_22 (by decide) ?_
      exact j_top ((if_neg h8)) hk8
  refine j_istore_n (lv' := [(0, .ref (g 0)), (1, .int (nI j)), (2, .int (if (u 17 j) < 20 then (0 : Int32) else (1 <<< (((u 17 j) - 20) &&& 31))))]) hC d_D_variablesOf_26 rfl (by decide) rfl rfl ?_
  refine j_aload_n hC d_D_variablesOf_27 rfl 0 rfl ?_
  refine j_get hC hin_D (0) (mw_obj g k u) rfl 9 (by decide) (hC.2.2.2.2.1 _ wf_D_29) (fun _ h9 => h9) rfl d_D_variablesOf_28 ?_
  refine j_iload_n hC d_D_variablesOf_31 rfl 1 rfl ?_
  refine j_ialdN hC (7) 0 (mw_second g k u) rfl (n := j) (rfl) (by omega) (by decide) d_D_variablesOf_32 ?_
  refine j_bipush (v := 20) hC d_D_variablesOf_33 (by decide) ?_
  suffices hk35 : jJ p l e ({ frames := 0, cells := 0, slots := 0, locals := 0 }) s m [.ref (g 0), .int (nI j)].toArray below meth c 3 (dC, dI) jcl A (hxQ below (jQ (dC, dI) jcl (jRet (some (.int (m_vo u j))) (mw g k u)) A) [.ref (g 0), .int (nI j)].toArray s 0 0 A) 0 0 (mw g k u) [(0, .ref (g 0)), (1, .int (nI j)), (2, .int (if (u 17 j) < 20 then (0 : Int32) else (1 <<< (((u 17 j) - 20) &&& 31))))] [.int (if (u 18 j) < 20 then (if (u 17 j) < 20 then (0 : Int32) else (1 <<< (((u 17 j) - 20) &&& 31))) else ((if (u 17 j) < 20 then (0 : Int32) else (1 <<< (((u 17 j) - 20) &&& 31))) ||| (1 <<< (((u 18 j) - 20) &&& 31))))] 55 by
    refine j_icmp_lt (tgt := 54) hC d_D_variablesOf_35 (by decide) (fun h35 => ?_) (fun h35 => ?_)
    · refine j_iload_n hC d_D_variablesOf_54 rfl 2 rfl ?_
      exact j_top ((if_pos h35)) hk35
    · refine j_iload_n hC d_D_variablesOf_38 rfl 2 rfl ?_
      refine j_iconst (v := 1) hC d_D_variablesOf_39 (by decide) ?_
      refine j_aload_n hC d_D_variablesOf_40 rfl 0 rfl ?_
      refine j_get hC hin_D (0) (mw_obj g k u) rfl 9 (by decide) (hC.2.2.2.2.1 _ wf_D_29) (fun _ h9 => h9) rfl d_D_variablesOf_41 ?_
      refine j_iload_n hC d_D_variablesOf_44 rfl 1 rfl ?_
      refine j_ialdN hC (7) 0 (mw_second g k u) rfl (n := j) (rfl) (by omega) (by decide) d_D_variablesOf_45 ?_
      refine j_bipush (v := 20) hC d_D_variablesOf_46 (by decide) ?_
      refine j_isub hC d_D_variablesOf_48 ?_
      refine j_ishl hC d_D_variablesOf_49 ?_
      refine j_ior hC d_D_variablesOf_50 ?_
      refine j_goto (tgt := 55) hC d_D_variablesOf_51 (by decide) ?_
      exact j_top ((if_neg h35)) hk35
  exact j_iret hC hr ⟨rfl, by rw [m_vo] <;> rfl, rfl⟩ d_D_variablesOf_55

set_option maxHeartbeats 4000000 in
set_option maxRecDepth 100000 in
theorem r_tv (l : Launch) (dC : Nat → ClassId) (dI : Nat → Nat → Nat) (g k : Nat → Nat) (tl : List (ClassId × FieldType)) (u : jU) (t : Int32) (ht : tm t) : jMet l y_D_termValue (.code y_D_termValue c_D_termValue 2 (some .int)) ({ frames := 0, cells := 0, slots := 0, locals := 0 }) (dC, dI) jcl (mtys k tl) jTs [.ref (g 0), .int t] (mw g k u) 0 0 (jRet (some (.int (m_tv u t))) (mw g k u)) := by
  refine jMet.of (by decide) (Nat.le_of_ble_eq_true rfl) ?_
  intro p e s m below meth c A hC hex hr hnm htr
  show jJ p l e ({ frames := 0, cells := 0, slots := 0, locals := 0 }) s m [.ref (g 0), .int t].toArray below meth c 2 (dC, dI) jcl A (hxQ below (jQ (dC, dI) jcl (jRet (some (.int (m_tv u t))) (mw g k u)) A) [.ref (g 0), .int t].toArray s 0 0 A) 0 0 (mw g k u) [(0, .ref (g 0)), (1, .int t)] [] 0
  refine j_iload_n hC d_D_termValue_0 rfl 1 rfl ?_
  refine j_bipush (v := 20) hC d_D_termValue_1 (by decide) ?_
  suffices hk3 : jJ p l e ({ frames := 0, cells := 0, slots := 0, locals := 0 }) s m [.ref (g 0), .int t].toArray below meth c 2 (dC, dI) jcl A (hxQ below (jQ (dC, dI) jcl (jRet (some (.int (m_tv u t))) (mw g k u)) A) [.ref (g 0), .int t].toArray s 0 0 A) 0 0 (mw g k u) [(0, .ref (g 0)), (1, .int t)] [.int (if t < 20 then t else (u 6 (tn t - 20)))] 19 by
    refine j_icmp_lt (tgt := 18) hC d_D_termValue_3 (by decide) (fun h3 => ?_) (fun h3 => ?_)
    · refine j_iload_n hC d_D_termValue_18 rfl 1 rfl ?_
      exact j_top ((if_pos h3)) hk3
    · refine j_aload_n hC d_D_termValue_6 rfl 0 rfl ?_
      refine j_get hC hin_D (0) (mw_obj g k u) rfl 14 (by decide) (hC.2.2.2.2.1 _ wf_D_38) (fun _ h9 => h9) rfl d_D_termValue_7 ?_
      refine j_iload_n hC d_D_termValue_10 rfl 1 rfl ?_
      refine j_bipush (v := 20) hC d_D_termValue_11 (by decide) ?_
      refine j_isub hC d_D_termValue_13 ?_
      refine j_ialdN hC (10) 0 (mw_values g k u) rfl (n := tn t - 20) (tv_ix ht h3) (tv_lt ht h3) (by decide) d_D_termValue_14 ?_
      refine j_goto (tgt := 19) hC d_D_termValue_15 (by decide) ?_
      exact j_top ((if_neg h3)) hk3
  exact j_iret hC hr ⟨rfl, by rw [m_tv] <;> rfl, rfl⟩ d_D_termValue_19

set_option maxHeartbeats 4000000 in
set_option maxRecDepth 100000 in
theorem r_factOf (l : Launch) (dC : Nat → ClassId) (dI : Nat → Nat → Nat) (g k : Nat → Nat) (tl : List (ClassId × FieldType)) (u : jU) {j : Nat} (hj : j < 80) (hB : wfB u j) (hv : wfU u) : jMet l y_D_factOf (.code y_D_factOf c_D_factOf 2 (some .int)) ({ frames := 1, cells := 0, slots := 0, locals := 21 }) (dC, dI) jcl (mtys k tl) jTs [.ref (g 0), .int (nI j)] (mw g k u) 0 0 (jRet (some (.int (nI (mFact u j)))) (mw g k u)) := by
  refine jMet.of (by decide) (Nat.le_of_ble_eq_true rfl) ?_
  intro p e s m below meth c A hC hex hr hnm htr
  show jJ p l e ({ frames := 1, cells := 0, slots := 0, locals := 21 }) s m [.ref (g 0), .int (nI j)].toArray below meth c 2 (dC, dI) jcl A (hxQ below (jQ (dC, dI) jcl (jRet (some (.int (nI (mFact u j)))) (mw g k u)) A) [.ref (g 0), .int (nI j)].toArray s 0 0 A) 0 0 (mw g k u) [(0, .ref (g 0)), (1, .int (nI j))] [] 0
  refine j_sipush (v := 144) hC d_D_factOf_0 (by decide) ?_
  refine j_aload_n hC d_D_factOf_3 rfl 0 rfl ?_
  refine j_get hC hin_D (0) (mw_obj g k u) rfl 7 (by decide) (hC.2.2.2.2.1 _ wf_D_23) (fun _ h9 => h9) rfl d_D_factOf_4 ?_
  refine j_iload_n hC d_D_factOf_7 rfl 1 rfl ?_
  refine j_ialdN hC (5) 0 (mw_of g k u) rfl (n := j) (rfl) (by omega) (by decide) d_D_factOf_8 ?_
  refine j_imul hC d_D_factOf_9 ?_
  refine j_bipush (v := 12) hC d_D_factOf_10 (by decide) ?_
  refine j_aload_n hC d_D_factOf_12 rfl 0 rfl ?_
  refine j_aload_n hC d_D_factOf_13 rfl 0 rfl ?_
  refine j_get hC hin_D (0) (mw_obj g k u) rfl 8 (by decide) (hC.2.2.2.2.1 _ wf_D_26) (fun _ h9 => h9) rfl d_D_factOf_14 ?_
  refine j_iload_n hC d_D_factOf_17 rfl 1 rfl ?_
  refine j_ialdN hC (6) 0 (mw_first g k u) rfl (n := j) (rfl) (by omega) (by decide) d_D_factOf_18 ?_
  refine j_callVr (As := [.int (u 17 j)]) (rest := [.int 12, .int (144 * (u 16 j))]) (st1 := [.int (m_tv u (u 17 j)), .int 12, .int (144 * (u 16 j))]) hC (r_tv l dC dI g k tl u (u 17 j) hB.2.1) rfl rfl ww_D_94 yn_D_termValue (mw_obj g k u) rfl rfl d_D_factOf_19 (Nat.le_of_ble_eq_true rfl) (by decide) ⟨Nat.zero_le _, Nat.zero_le _⟩ rfl ?_
  refine j_imul hC d_D_factOf_22 ?_
  refine j_iadd hC d_D_factOf_23 ?_
  refine j_aload_n hC d_D_factOf_24 rfl 0 rfl ?_
  refine j_aload_n hC d_D_factOf_25 rfl 0 rfl ?_
  refine j_get hC hin_D (0) (mw_obj g k u) rfl 9 (by decide) (hC.2.2.2.2.1 _ wf_D_29) (fun _ h9 => h9) rfl d_D_factOf_26 ?_
  refine j_iload_n hC d_D_factOf_29 rfl 1 rfl ?_
  refine j_ialdN hC (7) 0 (mw_second g k u) rfl (n := j) (rfl) (by omega) (by decide) d_D_factOf_30 ?_
  refine j_callVr (As := [.int (u 18 j)]) (rest := [.int ((144 * (u 16 j)) + (12 * (m_tv u (u 17 j))))]) (st1 := [.int (m_tv u (u 18 j)), .int ((144 * (u 16 j)) + (12 * (m_tv u (u 17 j))))]) hC (r_tv l dC dI g k tl u (u 18 j) hB.2.2.1) rfl rfl ww_D_94 yn_D_termValue (mw_obj g k u) rfl rfl d_D_factOf_31 (Nat.le_of_ble_eq_true rfl) (by decide) ⟨Nat.zero_le _, Nat.zero_le _⟩ rfl ?_
  refine j_iadd hC d_D_factOf_34 ?_
  exact j_iret hC hr ⟨rfl, congrArg (fun z => some (Value.int z)) (factOf_eq hB hv), rfl⟩ d_D_factOf_35

set_option maxHeartbeats 4000000 in
set_option maxRecDepth 100000 in
theorem r_holds (l : Launch) (dC : Nat → ClassId) (dI : Nat → Nat → Nat) (g k : Nat → Nat) (tl : List (ClassId × FieldType)) (u : jU) {f : Nat} (hf : f < 1152) : jMet l y_D_holds (.code y_D_holds c_D_holds 2 (some .boolean)) ({ frames := 0, cells := 0, slots := 0, locals := 0 }) (dC, dI) jcl (mtys k tl) jTs [.ref (g 0), .int (nI f)] (mw g k u) 0 0 (jRet (some (.int (m_holds u f))) (mw g k u)) := by
  refine jMet.of (by decide) (Nat.le_of_ble_eq_true rfl) ?_
  intro p e s m below meth c A hC hex hr hnm htr
  show jJ p l e ({ frames := 0, cells := 0, slots := 0, locals := 0 }) s m [.ref (g 0), .int (nI f)].toArray below meth c 2 (dC, dI) jcl A (hxQ below (jQ (dC, dI) jcl (jRet (some (.int (m_holds u f))) (mw g k u)) A) [.ref (g 0), .int (nI f)].toArray s 0 0 A) 0 0 (mw g k u) [(0, .ref (g 0)), (1, .int (nI f))] [] 0
  refine j_aload_n hC d_D_holds_0 rfl 0 rfl ?_
  refine j_get hC hin_D (0) (mw_obj g k u) rfl 4 (by decide) (hC.2.2.2.2.1 _ wf_D_17) (fun _ h9 => h9) rfl d_D_holds_1 ?_
  refine j_iload_n hC d_D_holds_4 rfl 1 rfl ?_
  refine j_ialdN hC (3) 0 (mw_ranks g k u) rfl (n := f) (rfl) (by omega) (by decide) d_D_holds_5 ?_
  suffices hk6 : jJ p l e ({ frames := 0, cells := 0, slots := 0, locals := 0 }) s m [.ref (g 0), .int (nI f)].toArray below meth c 2 (dC, dI) jcl A (hxQ below (jQ (dC, dI) jcl (jRet (some (.int (m_holds u f))) (mw g k u)) A) [.ref (g 0), .int (nI f)].toArray s 0 0 A) 0 0 (mw g k u) [(0, .ref (g 0)), (1, .int (nI f))] [.int (if (u 4 f) < 0 then (0 : Int32) else (1 : Int32))] 14 by
    refine j_if_lt (tgt := 13) hC d_D_holds_6 (by decide) (fun h6 => ?_) (fun h6 => ?_)
    · refine j_iconst (v := 0) hC d_D_holds_13 (by decide) ?_
      exact j_top ((if_pos h6)) hk6
    · refine j_iconst (v := 1) hC d_D_holds_9 (by decide) ?_
      refine j_goto (tgt := 14) hC d_D_holds_10 (by decide) ?_
      exact j_top ((if_neg h6)) hk6
  exact j_zret hC hr (by repeat' (first | rfl | split)) ⟨rfl, by rw [m_holds] <;> rfl, rfl⟩ d_D_holds_14
