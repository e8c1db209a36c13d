set_option maxHeartbeats 4000000 in
set_option maxRecDepth 100000 in
theorem k_hasBit (l : Launch) (dC : Nat → ClassId) (dI : Nat → Nat → Nat) (g k : Nat → Nat) (tl : List (ClassId × FieldType)) (u : jU) (x i : Int32) : jMet l y_H_hasBit (.code y_H_hasBit c_H_hasBit 2 (some .boolean)) ({ frames := 0, cells := 0, slots := 0, locals := 0 }) (dC, dI) jcl (ctys k tl) jTs [.int x, .int i] (cw g k u) 0 0 (jRet (some (.int (b2i (hb x i)))) (cw g k u)) := by
  refine jMet.of (by decide) (Nat.le_of_ble_eq_true rfl) ?_
  intro p e s m below meth c A hC hex hr hnm htr
  show jJ p l e ({ frames := 0, cells := 0, slots := 0, locals := 0 }) s m [.int x, .int i].toArray below meth c 2 (dC, dI) jcl A (hxQ below (jQ (dC, dI) jcl (jRet (some (.int (b2i (hb x i)))) (cw g k u)) A) [.int x, .int i].toArray s 0 0 A) 0 0 (cw g k u) [(0, .int x), (1, .int i)] [] 0
  refine j_iload_n hC d_H_hasBit_0 rfl 0 rfl ?_
  refine j_iload_n hC d_H_hasBit_1 rfl 1 rfl ?_
  refine j_ishr hC d_H_hasBit_2 ?_
  refine j_iconst (v := 1) hC d_H_hasBit_3 (by decide) ?_
  refine j_iand hC d_H_hasBit_4 ?_
  refine j_if_eq (tgt := 12) hC d_H_hasBit_5 (by decide) (fun h5 => ?_) (fun h5 => ?_)
  · refine j_iconst (v := 0) hC d_H_hasBit_12 (by decide) ?_
    exact j_zret hC hr rfl ⟨rfl, congrArg (fun z => some (Value.int z)) (hb_0 h5), rfl⟩ d_H_hasBit_13
  · refine j_iconst (v := 1) hC d_H_hasBit_8 (by decide) ?_
    refine j_goto (tgt := 13) hC d_H_hasBit_9 (by decide) ?_
    exact j_zret hC hr rfl ⟨rfl, congrArg (fun z => some (Value.int z)) (hb_1 h5), rfl⟩ d_H_hasBit_13

set_option maxHeartbeats 4000000 in
set_option maxRecDepth 100000 in
theorem k_rowAt (l : Launch) (dC : Nat → ClassId) (dI : Nat → Nat → Nat) (g k : Nat → Nat) (tl : List (ClassId × FieldType)) (u : jU) (r a : Int32) : jMet l y_H_rowAt (.code y_H_rowAt c_H_rowAt 2 (some .int)) ({ frames := 0, cells := 0, slots := 0, locals := 0 }) (dC, dI) jcl (ctys k tl) jTs [.int r, .int a] (cw g k u) 0 0 (jRet (some (.int (r * 12 + a))) (cw g k u)) := by
  refine jMet.of (by decide) (Nat.le_of_ble_eq_true rfl) ?_
  intro p e s m below meth c A hC hex hr hnm htr
  show jJ p l e ({ frames := 0, cells := 0, slots := 0, locals := 0 }) s m [.int r, .int a].toArray below meth c 2 (dC, dI) jcl A (hxQ below (jQ (dC, dI) jcl (jRet (some (.int (r * 12 + a))) (cw g k u)) A) [.int r, .int a].toArray s 0 0 A) 0 0 (cw g k u) [(0, .int r), (1, .int a)] [] 0
  refine j_iload_n hC d_H_rowAt_0 rfl 0 rfl ?_
  refine j_bipush (v := 12) hC d_H_rowAt_1 (by decide) ?_
  refine j_imul hC d_H_rowAt_3 ?_
  refine j_iload_n hC d_H_rowAt_4 rfl 1 rfl ?_
  refine j_iadd hC d_H_rowAt_5 ?_
  exact j_iret hC hr ⟨rfl, rfl, rfl⟩ d_H_rowAt_6

set_option maxHeartbeats 4000000 in
set_option maxRecDepth 100000 in
theorem k_sees (l : Launch) (dC : Nat → ClassId) (dI : Nat → Nat → Nat) (g k : Nat → Nat) (tl : List (ClassId × FieldType)) (u : jU) (r a b : Int32) (hr8 : inN r 8) (ha : inN a 12) : jMet l y_S_sees (.code y_S_sees c_S_sees 4 (some .boolean)) ({ frames := 0, cells := 0, slots := 0, locals := 0 }) (dC, dI) jcl (ctys k tl) jTs [.ref (g 8), .int r, .int a, .int b] (cw g k u) 0 0 (jRet (some (.int (b2i (pSees u r a b)))) (cw g k u)) := by
  refine jMet.of (by decide) (Nat.le_of_ble_eq_true rfl) ?_
  intro p e s m below meth c A hC hex hr hnm htr
  show jJ p l e ({ frames := 0, cells := 0, slots := 0, locals := 0 }) s m [.ref (g 8), .int r, .int a, .int b].toArray below meth c 4 (dC, dI) jcl A (hxQ below (jQ (dC, dI) jcl (jRet (some (.int (b2i (pSees u r a b)))) (cw g k u)) A) [.ref (g 8), .int r, .int a, .int b].toArray s 0 0 A) 0 0 (cw g k u) [(0, .ref (g 8)), (1, .int r), (2, .int a), (3, .int b)] [] 0
  refine j_aload_n hC d_S_sees_0 rfl 0 rfl ?_
  refine j_get hC hin_S (8) (cw_sight g k u) rfl 0 (by decide) (hC.2.2.2.2.1 _ wf_S_9) (fun _ h9 => h9) rfl d_S_sees_1 ?_
  refine j_iload_n hC d_S_sees_4 rfl 1 rfl ?_
  refine j_bipush (v := 12) hC d_S_sees_5 (by decide) ?_
  refine j_imul hC d_S_sees_7 ?_
  refine j_iload_n hC d_S_sees_8 rfl 2 rfl ?_
  refine j_iadd hC d_S_sees_9 ?_
  refine j_ialdN hC (10) 0 (cw_secondsByFirst g k u) rfl (n := tn r * 12 + tn a) (in_row hr8 ha) (row_lt hr8 ha) (by decide) d_S_sees_10 ?_
  refine j_iload_n hC d_S_sees_11 rfl 3 rfl ?_
  refine j_ishr hC d_S_sees_12 ?_
  refine j_iconst (v := 1) hC d_S_sees_13 (by decide) ?_
  refine j_iand hC d_S_sees_14 ?_
  refine j_if_eq (tgt := 22) hC d_S_sees_15 (by decide) (fun h15 => ?_) (fun h15 => ?_)
  · refine j_iconst (v := 0) hC d_S_sees_22 (by decide) ?_
    exact j_zret hC hr rfl ⟨rfl, congrArg (fun z => some (Value.int z)) (hb_0 h15), rfl⟩ d_S_sees_23
  · refine j_iconst (v := 1) hC d_S_sees_18 (by decide) ?_
    refine j_goto (tgt := 23) hC d_S_sees_19 (by decide) ?_
    exact j_zret hC hr rfl ⟨rfl, congrArg (fun z => some (Value.int z)) (hb_1 h15), rfl⟩ d_S_sees_23

set_option maxHeartbeats 4000000 in
set_option maxRecDepth 100000 in
theorem k_forget (l : Launch) (dC : Nat → ClassId) (dI : Nat → Nat → Nat) (g k : Nat → Nat) (tl : List (ClassId × FieldType)) (u : jU)  : jMet l y_M_forget (.code y_M_forget c_M_forget 2 none) ({ frames := 0, cells := 0, slots := 0, locals := 0 }) (dC, dI) jcl (ctys k tl) jTs [.ref (g 7)] (cw g k u) 0 0 (jRet none (cw g k (pForget u))) := by
  refine jMet.of (by decide) (Nat.le_of_ble_eq_true rfl) ?_
  intro p e s m below meth c A hC hex hr hnm htr
  show jJ p l e ({ frames := 0, cells := 0, slots := 0, locals := 0 }) s m [.ref (g 7)].toArray below meth c 2 (dC, dI) jcl A (hxQ below (jQ (dC, dI) jcl (jRet none (cw g k (pForget u))) A) [.ref (g 7)].toArray s 0 0 A) 0 0 (cw g k u) [(0, .ref (g 7))] [] 0
  refine j_bipush (v := 20) hC d_M_forget_0 (by decide) ?_
  refine j_istore_n (lv' := [(0, .ref (g 7)), (1, .int 20)]) hC d_M_forget_2 rfl (by decide) rfl rfl ?_
  refine j_iload_n hC d_M_forget_3 rfl 1 rfl ?_
  refine j_bipush (v := 24) hC d_M_forget_4 (by decide) ?_
  refine j_icmp_ge (tgt := 22) hC d_M_forget_6 (by decide) (fun h6 => absurd h6 (by decide)) (fun h6 => ?_)
  refine j_aload_n hC d_M_forget_9 rfl 0 rfl ?_
  refine j_get hC hin_M (7) (cw_match g k u) rfl 1 (by decide) (hC.2.2.2.2.1 _ wf_M_18) (fun _ h9 => h9) rfl d_M_forget_10 ?_
  refine j_iload_n hC d_M_forget_13 rfl 1 rfl ?_
  refine j_iconst (v := -1) hC d_M_forget_14 (by decide) ?_
  refine j_iastN (ws' := cw g k (up u 6 20 (-1))) hC (9) 0 (cw_values g k u) rfl (n := 20) (rfl) (by omega) (by decide) (cw_set_values g k u 20 (-1)) d_M_forget_15 ?_
  refine j_iinc (lv' := [(0, .ref (g 7)), (1, .int 21)]) hC d_M_forget_16 1 rfl (by decide) (by decide) rfl rfl ?_
  refine j_goto (tgt := 3) hC d_M_forget_19 (by decide) ?_
  refine j_iload_n hC d_M_forget_3 rfl 1 rfl ?_
  refine j_bipush (v := 24) hC d_M_forget_4 (by decide) ?_
  refine j_icmp_ge (tgt := 22) hC d_M_forget_6 (by decide) (fun h6 => absurd h6 (by decide)) (fun h6 => ?_)
  refine j_aload_n hC d_M_forget_9 rfl 0 rfl ?_
  refine j_get hC hin_M (7) (cw_match g k (up u 6 20 (-1))) rfl 1 (by decide) (hC.2.2.2.2.1 _ wf_M_18) (fun _ h9 => h9) rfl d_M_forget_10 ?_
  refine j_iload_n hC d_M_forget_13 rfl 1 rfl ?_
  refine j_iconst (v := -1) hC d_M_forget_14 (by decide) ?_
  refine j_iastN (ws' := cw g k (up (up u 6 20 (-1)) 6 21 (-1))) hC (9) 0 (cw_values g k (up u 6 20 (-1))) rfl (n := 21) (rfl) (by omega) (by decide) (cw_set_values g k (up u 6 20 (-1)) 21 (-1)) d_M_forget_15 ?_
  refine j_iinc (lv' := [(0, .ref (g 7)), (1, .int 22)]) hC d_M_forget_16 1 rfl (by decide) (by decide) rfl rfl ?_
  refine j_goto (tgt := 3) hC d_M_forget_19 (by decide) ?_
  refine j_iload_n hC d_M_forget_3 rfl 1 rfl ?_
  refine j_bipush (v := 24) hC d_M_forget_4 (by decide) ?_
  refine j_icmp_ge (tgt := 22) hC d_M_forget_6 (by decide) (fun h6 => absurd h6 (by decide)) (fun h6 => ?_)
  refine j_aload_n hC d_M_forget_9 rfl 0 rfl ?_
  refine j_get hC hin_M (7) (cw_match g k (up (up u 6 20 (-1)) 6 21 (-1))) rfl 1 (by decide) (hC.2.2.2.2.1 _ wf_M_18) (fun _ h9 => h9) rfl d_M_forget_10 ?_
  refine j_iload_n hC d_M_forget_13 rfl 1 rfl ?_
  refine j_iconst (v := -1) hC d_M_forget_14 (by decide) ?_
  refine j_iastN (ws' := cw g k (up (up (up u 6 20 (-1)) 6 21 (-1)) 6 22 (-1))) hC (9) 0 (cw_values g k (up (up u 6 20 (-1)) 6 21 (-1))) rfl (n := 22) (rfl) (by omega) (by decide) (cw_set_values g k (up (up u 6 20 (-1)) 6 21 (-1)) 22 (-1)) d_M_forget_15 ?_
  refine j_iinc (lv' := [(0, .ref (g 7)), (1, .int 23)]) hC d_M_forget_16 1 rfl (by decide) (by decide) rfl rfl ?_
  refine j_goto (tgt := 3) hC d_M_forget_19 (by decide) ?_
  refine j_iload_n hC d_M_forget_3 rfl 1 rfl ?_
  refine j_bipush (v := 24) hC d_M_forget_4 (by decide) ?_
  refine j_icmp_ge (tgt := 22) hC d_M_forget_6 (by decide) (fun h6 => absurd h6 (by decide)) (fun h6 => ?_)
  refine j_aload_n hC d_M_forget_9 rfl 0 rfl ?_
  refine j_get hC hin_M (7) (cw_match g k (up (up (up u 6 20 (-1)) 6 21 (-1)) 6 22 (-1))) rfl 1 (by decide) (hC.2.2.2.2.1 _ wf_M_18) (fun _ h9 => h9) rfl d_M_forget_10 ?_
  refine j_iload_n hC d_M_forget_13 rfl 1 rfl ?_
  refine j_iconst (v := -1) hC d_M_forget_14 (by decide) ?_
  refine j_iastN (ws' := cw g k (up (up (up (up u 6 20 (-1)) 6 21 (-1)) 6 22 (-1)) 6 23 (-1))) hC (9) 0 (cw_values g k (up (up (up u 6 20 (-1)) 6 21 (-1)) 6 22 (-1))) rfl (n := 23) (rfl) (by omega) (by decide) (cw_set_values g k (up (up (up u 6 20 (-1)) 6 21 (-1)) 6 22 (-1)) 23 (-1)) d_M_forget_15 ?_
  refine j_iinc (lv' := [(0, .ref (g 7)), (1, .int 24)]) hC d_M_forget_16 1 rfl (by decide) (by decide) rfl rfl ?_
  refine j_goto (tgt := 3) hC d_M_forget_19 (by decide) ?_
  refine j_iload_n hC d_M_forget_3 rfl 1 rfl ?_
  refine j_bipush (v := 24) hC d_M_forget_4 (by decide) ?_
  refine j_icmp_ge (tgt := 22) hC d_M_forget_6 (by decide) (fun h6 => ?_) (fun h6 => absurd h6 (by decide))
  exact j_vret hC hr ⟨rfl, rfl, rfl⟩ d_M_forget_22

set_option maxHeartbeats 4000000 in
set_option maxRecDepth 100000 in
theorem k_bind (l : Launch) (dC : Nat → ClassId) (dI : Nat → Nat → Nat) (g k : Nat → Nat) (tl : List (ClassId × FieldType)) (u : jU) (t x : Int32) (ht : inN t 24) : jMet l y_M_bind (.code y_M_bind c_M_bind 3 (some .boolean)) ({ frames := 0, cells := 0, slots := 0, locals := 0 }) (dC, dI) jcl (ctys k tl) jTs [.ref (g 7), .int t, .int x] (cw g k u) 0 0 (jRet (some (.int (b2i (pBound u t x)))) (cw g k (pBind u t x))) := by
  refine jMet.of (by decide) (Nat.le_of_ble_eq_true rfl) ?_
  intro p e s m below meth c A hC hex hr hnm htr
  show jJ p l e ({ frames := 0, cells := 0, slots := 0, locals := 0 }) s m [.ref (g 7), .int t, .int x].toArray below meth c 3 (dC, dI) jcl A (hxQ below (jQ (dC, dI) jcl (jRet (some (.int (b2i (pBound u t x)))) (cw g k (pBind u t x))) A) [.ref (g 7), .int t, .int x].toArray s 0 0 A) 0 0 (cw g k u) [(0, .ref (g 7)), (1, .int t), (2, .int x)] [] 0
  refine j_aload_n hC d_M_bind_0 rfl 0 rfl ?_
  refine j_get hC hin_M (7) (cw_match g k u) rfl 1 (by decide) (hC.2.2.2.2.1 _ wf_M_18) (fun _ h9 => h9) rfl d_M_bind_1 ?_
  refine j_iload_n hC d_M_bind_4 rfl 1 rfl ?_
  refine j_ialdN hC (9) 0 (cw_values g k u) rfl (n := tn t) (ht.1) (ht.2) (by decide) d_M_bind_5 ?_
  refine j_iconst (v := -1) hC d_M_bind_6 (by decide) ?_
  refine j_icmp_ne (tgt := 17) hC d_M_bind_7 (by decide) (fun h7 => ?_) (fun h7 => ?_)
  · refine j_aload_n hC d_M_bind_17 rfl 0 rfl ?_
    refine j_get hC hin_M (7) (cw_match g k u) rfl 1 (by decide) (hC.2.2.2.2.1 _ wf_M_18) (fun _ h9 => h9) rfl d_M_bind_18 ?_
    refine j_iload_n hC d_M_bind_21 rfl 1 rfl ?_
    refine j_ialdN hC (9) 0 (cw_values g k u) rfl (n := tn t) (ht.1) (ht.2) (by decide) d_M_bind_22 ?_
    refine j_iload_n hC d_M_bind_23 rfl 2 rfl ?_
    refine j_icmp_ne (tgt := 31) hC d_M_bind_24 (by decide) (fun h24 => ?_) (fun h24 => ?_)
    · refine j_iconst (v := 0) hC d_M_bind_31 (by decide) ?_
      exact j_zret hC hr rfl ⟨rfl, congrArg (fun z => some (Value.int z)) (by simp only [pBound, pBind]; (try rw [if_pos h7] at *); (try rw [if_neg h7] at *); simp_all [b2i]), congrArg (cw g k) (by unfold pBind; first | rw [if_pos h7] | rw [if_neg h7])⟩ d_M_bind_32
    · refine j_iconst (v := 1) hC d_M_bind_27 (by decide) ?_
      refine j_goto (tgt := 32) hC d_M_bind_28 (by decide) ?_
      exact j_zret hC hr rfl ⟨rfl, congrArg (fun z => some (Value.int z)) (by simp only [pBound, pBind]; (try rw [if_pos h7] at *); (try rw [if_neg h7] at *); simp_all [b2i]), congrArg (cw g k) (by unfold pBind; first | rw [if_pos h7] | rw [if_neg h7])⟩ d_M_bind_32
  · refine j_aload_n hC d_M_bind_10 rfl 0 rfl ?_
    refine j_get hC hin_M (7) (cw_match g k u) rfl 1 (by decide) (hC.2.2.2.2.1 _ wf_M_18) (fun _ h9 => h9) rfl d_M_bind_11 ?_
    refine j_iload_n hC d_M_bind_14 rfl 1 rfl ?_
    refine j_iload_n hC d_M_bind_15 rfl 2 rfl ?_
    refine j_iastN (ws' := cw g k (up u 6 (tn t) x)) hC (9) 0 (cw_values g k u) rfl (n := tn t) (ht.1) (ht.2) (by decide) (cw_set_values g k u (tn t) x) d_M_bind_16 ?_
    refine j_aload_n hC d_M_bind_17 rfl 0 rfl ?_
    refine j_get hC hin_M (7) (cw_match g k (up u 6 (tn t) x)) rfl 1 (by decide) (hC.2.2.2.2.1 _ wf_M_18) (fun _ h9 => h9) rfl d_M_bind_18 ?_
    refine j_iload_n hC d_M_bind_21 rfl 1 rfl ?_
    refine j_ialdN hC (9) 0 (cw_values g k (up u 6 (tn t) x)) rfl (n := tn t) (ht.1) (ht.2) (by decide) d_M_bind_22 ?_
    refine j_iload_n hC d_M_bind_23 rfl 2 rfl ?_
    refine j_icmp_ne (tgt := 31) hC d_M_bind_24 (by decide) (fun h24 => ?_) (fun h24 => ?_)
    · refine j_iconst (v := 0) hC d_M_bind_31 (by decide) ?_
      exact j_zret hC hr rfl ⟨rfl, congrArg (fun z => some (Value.int z)) (by simp only [pBound, pBind]; (try rw [if_pos h7] at *); (try rw [if_neg h7] at *); simp_all [b2i]), congrArg (cw g k) (by unfold pBind; first | rw [if_pos h7] | rw [if_neg h7])⟩ d_M_bind_32
    · refine j_iconst (v := 1) hC d_M_bind_27 (by decide) ?_
      refine j_goto (tgt := 32) hC d_M_bind_28 (by decide) ?_
      exact j_zret hC hr rfl ⟨rfl, congrArg (fun z => some (Value.int z)) (by simp only [pBound, pBind]; (try rw [if_pos h7] at *); (try rw [if_neg h7] at *); simp_all [b2i]), congrArg (cw g k) (by unfold pBind; first | rw [if_pos h7] | rw [if_neg h7])⟩ d_M_bind_32

set_option maxHeartbeats 4000000 in
set_option maxRecDepth 100000 in
theorem k_known (l : Launch) (dC : Nat → ClassId) (dI : Nat → Nat → Nat) (g k : Nat → Nat) (tl : List (ClassId × FieldType)) (u : jU) {i : Nat} (hi : i < 16) (hM : wfM u) : jMet l y_M_knownAgree (.code y_M_knownAgree c_M_knownAgree 6 (some .boolean)) ({ frames := 1, cells := 0, slots := 0, locals := 23 }) (dC, dI) jcl (ctys k tl) jTs [.ref (g 7), .ref (g (15 + i))] (cw g k u) 0 0 (jRet (some (.int (b2i (pKnown u i)))) (cw g k u)) := by
  refine jMet.of (by decide) (Nat.le_of_ble_eq_true rfl) ?_
  intro p e s m below meth c A hC hex hr hnm htr
  show jJ p l e ({ frames := 1, cells := 0, slots := 0, locals := 23 }) s m [.ref (g 7), .ref (g (15 + i))].toArray below meth c 6 (dC, dI) jcl A (hxQ below (jQ (dC, dI) jcl (jRet (some (.int (b2i (pKnown u i)))) (cw g k u)) A) [.ref (g 7), .ref (g (15 + i))].toArray s 0 0 A) 0 0 (cw g k u) [(0, .ref (g 7)), (1, .ref (g (15 + i)))] [] 0
  have hs : wfS u i := hM.1 i hi
  have hA : ∀ q, q < 4 → wfA u (5 * i + 1 + q) := fun q h => hM.2.1 _ (by omega)
  have hV : wfV u := hM.2.2
  have hs5 : tn (u 12 i) < 5 := hs.2
  have loop : ∀ (n q : Nat), q ≤ tn (u 12 i) → tn (u 12 i) < q + n → (∀ q', q' < q → pAgree u (5 * i + 1 + q') = true) → jJ p l e ({ frames := 1, cells := 0, slots := 0, locals := 23 }) s m [.ref (g 7), .ref (g (15 + i))].toArray below meth c 6 (dC, dI) jcl A (hxQ below (jQ (dC, dI) jcl (jRet (some (.int (b2i (pKnown u i)))) (cw g k u)) A) [.ref (g 7), .ref (g (15 + i))].toArray s 0 0 A) 0 0 (cw g k u) [(0, .ref (g 7)), (1, .ref (g (15 + i))), (2, .int (nI q))] [] 2 := by
    intro n
    induction n with
    | zero => intro q h1 h2; exact absurd h2 (by omega)
    | succ n ih =>
      intro q hq hn hall
      refine j_iload_n hC d_M_knownAgree_2 rfl 2 rfl ?_
      refine j_aload_n hC d_M_knownAgree_3 rfl 1 rfl ?_
      refine j_getN hC hin_R (15 + i) (cw_rule g k u (by omega)) rfl 2 (by decide) (hC.2.2.2.2.1 _ wf_M_51) (fun _ h9 => h9) rfl d_M_knownAgree_4 ?_
      refine j_icmp_ge (tgt := 81) hC d_M_knownAgree_7 (by decide) (fun h7 => ?_) (fun h7 => ?_)
      · have hge : tn (u 12 i) ≤ q := (inN_leN hs (by decide) (by omega)).mp h7
        refine j_iconst (v := 1) hC d_M_knownAgree_81 (by decide) ?_
        exact j_zret hC hr rfl ⟨rfl, congrArg (fun z => some (Value.int z)) (pKnown_1 (fun q' h' => hall q' (by omega))), rfl⟩ d_M_knownAgree_82
      · have hlt : q < tn (u 12 i) := Nat.not_le.mp (fun z => h7 ((inN_leN hs (by decide) (by omega)).mpr z))
        have hq4 : q < 4 := by have := hs.2; omega
        refine j_aload_n hC d_M_knownAgree_10 rfl 1 rfl ?_
        refine j_getN hC hin_R (15 + i) (cw_rule g k u (by omega)) rfl 1 (by decide) (hC.2.2.2.2.1 _ wf_M_54) (fun _ h9 => h9) rfl d_M_knownAgree_11 ?_
        refine j_iload_n hC d_M_knownAgree_14 rfl 2 rfl ?_
        refine j_aaldN (v := g (47 + (5 * i + 1 + q))) hC (31 + i) 1 (cw_lits g k u (by omega)) rfl (n := q) (rfl) (hq4) (by decide) (if_pos (hq4)) d_M_knownAgree_15 ?_
        refine j_astore_n (lv' := [(0, .ref (g 7)), (1, .ref (g (15 + i))), (2, .int (nI q)), (3, .ref (g (47 + (5 * i + 1 + q))))]) hC d_M_knownAgree_16 rfl (by decide) rfl rfl ?_
        refine j_aload_n hC d_M_knownAgree_17 rfl 0 rfl ?_
        refine j_get hC hin_M (7) (cw_match g k u) rfl 1 (by decide) (hC.2.2.2.2.1 _ wf_M_18) (fun _ h9 => h9) rfl d_M_knownAgree_18 ?_
        refine j_aload_n hC d_M_knownAgree_21 rfl 3 rfl ?_
        refine j_getN hC hin_A (47 + (5 * i + 1 + q)) (cw_atom g k u (j := 5 * i + 1 + q) (by omega)) rfl 1 (by decide) (hC.2.2.2.2.1 _ wf_M_37) (fun _ h9 => h9) rfl d_M_knownAgree_22 ?_
        refine j_ialdN hC (9) 0 (cw_values g k u) rfl (n := tn (u 17 (5 * i + 1 + q))) ((hA q hq4).2.1.1) ((hA q hq4).2.1.2) (by decide) d_M_knownAgree_25 ?_
        refine j_istore (lv' := [(0, .ref (g 7)), (1, .ref (g (15 + i))), (2, .int (nI q)), (3, .ref (g (47 + (5 * i + 1 + q)))), (4, .int (u 6 (tn (u 17 (5 * i + 1 + q)))))]) hC d_M_knownAgree_26 (by decide) rfl rfl ?_
        refine j_aload_n hC d_M_knownAgree_28 rfl 0 rfl ?_
        refine j_get hC hin_M (7) (cw_match g k u) rfl 1 (by decide) (hC.2.2.2.2.1 _ wf_M_18) (fun _ h9 => h9) rfl d_M_knownAgree_29 ?_
        refine j_aload_n hC d_M_knownAgree_32 rfl 3 rfl ?_
        refine j_getN hC hin_A (47 + (5 * i + 1 + q)) (cw_atom g k u (j := 5 * i + 1 + q) (by omega)) rfl 2 (by decide) (hC.2.2.2.2.1 _ wf_M_44) (fun _ h9 => h9) rfl d_M_knownAgree_33 ?_
        refine j_ialdN hC (9) 0 (cw_values g k u) rfl (n := tn (u 18 (5 * i + 1 + q))) ((hA q hq4).2.2.1.1) ((hA q hq4).2.2.1.2) (by decide) d_M_knownAgree_36 ?_
        refine j_istore (lv' := [(0, .ref (g 7)), (1, .ref (g (15 + i))), (2, .int (nI q)), (3, .ref (g (47 + (5 * i + 1 + q)))), (4, .int (u 6 (tn (u 17 (5 * i + 1 + q))))), (5, .int (u 6 (tn (u 18 (5 * i + 1 + q)))))]) hC d_M_knownAgree_37 (by decide) rfl rfl ?_
        refine j_iload hC d_M_knownAgree_39 4 rfl ?_
        refine j_iconst (v := -1) hC d_M_knownAgree_41 (by decide) ?_
        refine j_icmp_eq (tgt := 75) hC d_M_knownAgree_42 (by decide) (fun h42 => ?_) (fun h42 => ?_)
        · refine j_iinc (lv' := [(0, .ref (g 7)), (1, .ref (g (15 + i))), (2, .int (nI (q + 1))), (3, .ref (g (47 + (5 * i + 1 + q)))), (4, .int (u 6 (tn (u 17 (5 * i + 1 + q))))), (5, .int (u 6 (tn (u 18 (5 * i + 1 + q)))))]) hC d_M_knownAgree_75 2 rfl (nI_1 _) (by decide) rfl rfl ?_
          refine j_goto (tgt := 2) hC d_M_knownAgree_78 (by decide) ?_
          exact j_locals [0, 1, 2] rfl (ih (q + 1) (by omega) (by omega) (lt_s hall (by first | (simp [pAgree, h42]; done) | (simp [pAgree, h48]; done) | (simp [pAgree, h70]; done))))
        · refine j_iload hC d_M_knownAgree_45 5 rfl ?_
          refine j_iconst (v := -1) hC d_M_knownAgree_47 (by decide) ?_
          refine j_icmp_eq (tgt := 75) hC d_M_knownAgree_48 (by decide) (fun h48 => ?_) (fun h48 => ?_)
          · refine j_iinc (lv' := [(0, .ref (g 7)), (1, .ref (g (15 + i))), (2, .int (nI (q + 1))), (3, .ref (g (47 + (5 * i + 1 + q)))), (4, .int (u 6 (tn (u 17 (5 * i + 1 + q))))), (5, .int (u 6 (tn (u 18 (5 * i + 1 + q)))))]) hC d_M_knownAgree_75 2 rfl (nI_1 _) (by decide) rfl rfl ?_
            refine j_goto (tgt := 2) hC d_M_knownAgree_78 (by decide) ?_
            exact j_locals [0, 1, 2] rfl (ih (q + 1) (by omega) (by omega) (lt_s hall (by first | (simp [pAgree, h42]; done) | (simp [pAgree, h48]; done) | (simp [pAgree, h70]; done))))
          · refine j_aload_n hC d_M_knownAgree_51 rfl 0 rfl ?_
            refine j_get hC hin_M (7) (cw_match g k u) rfl 0 (by decide) (hC.2.2.2.2.1 _ wf_M_12) (fun _ h9 => h9) rfl d_M_knownAgree_52 ?_
            refine j_aload_n hC d_M_knownAgree_55 rfl 3 rfl ?_
            refine j_getN hC hin_A (47 + (5 * i + 1 + q)) (cw_atom g k u (j := 5 * i + 1 + q) (by omega)) rfl 0 (by decide) (hC.2.2.2.2.1 _ wf_M_31) (fun _ h9 => h9) rfl d_M_knownAgree_56 ?_
            refine j_iload hC d_M_knownAgree_59 4 rfl ?_
            refine j_iload hC d_M_knownAgree_61 5 rfl ?_
            refine j_callNr (As := [.int (u 16 (5 * i + 1 + q)), .int (u 6 (tn (u 17 (5 * i + 1 + q)))), .int (u 6 (tn (u 18 (5 * i + 1 + q))))]) (rest := []) (st1 := [.int (b2i (pSees u (u 16 (5 * i + 1 + q)) (u 6 (tn (u 17 (5 * i + 1 + q)))) (u 6 (tn (u 18 (5 * i + 1 + q))))))]) hC (k_sees l dC dI g k tl u _ _ _ (hA q hq4).1 ((hV _ (hA q hq4).2.1.2).resolve_left h42)) rfl rfl ww_M_58 yn_S_sees (cw_sight g k u) rfl rfl d_M_knownAgree_63 (Nat.le_of_ble_eq_true rfl) (by decide) (by decide) rfl ?_
            refine j_aload_n hC d_M_knownAgree_66 rfl 3 rfl ?_
            refine j_getN hC hin_A (47 + (5 * i + 1 + q)) (cw_atom g k u (j := 5 * i + 1 + q) (by omega)) rfl 3 (by decide) (hC.2.2.2.2.1 _ wf_M_62) (fun _ h9 => h9) rfl d_M_knownAgree_67 ?_
            refine j_icmp_ne (tgt := 75) hC d_M_knownAgree_70 (by decide) (fun h70 => ?_) (fun h70 => ?_)
            · refine j_iinc (lv' := [(0, .ref (g 7)), (1, .ref (g (15 + i))), (2, .int (nI (q + 1))), (3, .ref (g (47 + (5 * i + 1 + q)))), (4, .int (u 6 (tn (u 17 (5 * i + 1 + q))))), (5, .int (u 6 (tn (u 18 (5 * i + 1 + q)))))]) hC d_M_knownAgree_75 2 rfl (nI_1 _) (by decide) rfl rfl ?_
              refine j_goto (tgt := 2) hC d_M_knownAgree_78 (by decide) ?_
              exact j_locals [0, 1, 2] rfl (ih (q + 1) (by omega) (by omega) (lt_s hall (by first | (simp [pAgree, h42]; done) | (simp [pAgree, h48]; done) | (simp [pAgree, h70]; done))))
            · refine j_iconst (v := 0) hC d_M_knownAgree_73 (by decide) ?_
              exact j_zret hC hr rfl ⟨rfl, congrArg (fun z => some (Value.int z)) (pKnown_0 hlt (by simp [pAgree, h42, h48, h70])), rfl⟩ d_M_knownAgree_74
  refine j_iconst (v := 0) hC d_M_knownAgree_0 (by decide) ?_
  refine j_istore_n (lv' := [(0, .ref (g 7)), (1, .ref (g (15 + i))), (2, .int 0)]) hC d_M_knownAgree_1 rfl (by decide) rfl rfl ?_
  exact loop 6 0 (by omega) (by have := hs.2; omega) (fun _ h => absurd h (by omega))
