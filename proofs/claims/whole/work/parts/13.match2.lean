set_option maxHeartbeats 4000000 in
set_option maxRecDepth 100000 in
theorem k_by (l : Launch) (dC : Nat → ClassId) (dI : Nat → Nat → Nat) (g k : Nat → Nat) (tl : List (ClassId × FieldType)) (u : jU) {j : Nat} (hj : j < 80) (hM : wfM u) (t : Int32) : jMet l y_M_choicesBy (.code y_M_choicesBy c_M_choicesBy 8 (some .int)) ({ frames := 0, cells := 0, slots := 0, locals := 0 }) (dC, dI) jcl (ctys k tl) jTs [.ref (g 7), .ref (g (47 + (j))), .int t] (cw g k u) 0 0 (jRet (some (.int (pBy u j t))) (cw g k u)) := by
  refine jMet.of (by decide) (Nat.le_of_ble_eq_true rfl) ?_
  intro p e s m below meth c A hC hex hr hnm htr
  show jJ p l e ({ frames := 0, cells := 0, slots := 0, locals := 0 }) s m [.ref (g 7), .ref (g (47 + (j))), .int t].toArray below meth c 8 (dC, dI) jcl A (hxQ below (jQ (dC, dI) jcl (jRet (some (.int (pBy u j t))) (cw g k u)) A) [.ref (g 7), .ref (g (47 + (j))), .int t].toArray s 0 0 A) 0 0 (cw g k u) [(0, .ref (g 7)), (1, .ref (g (47 + (j)))), (2, .int t)] [] 0
  have hA : wfA u j := hM.2.1 j hj
  have hV : wfV u := hM.2.2
  refine j_aload_n hC d_M_choicesBy_0 rfl 1 rfl ?_
  refine j_getN hC hin_A (47 + (j)) (cw_atom g k u (j := j) (by omega)) rfl 0 (by decide) (hC.2.2.2.2.1 _ wf_M_31) (fun _ h9 => h9) rfl d_M_choicesBy_1 ?_
  refine j_istore_n (lv' := [(0, .ref (g 7)), (1, .ref (g (47 + (j)))), (2, .int t), (3, .int (u 16 j))]) hC d_M_choicesBy_4 rfl (by decide) rfl rfl ?_
  refine j_aload_n hC d_M_choicesBy_5 rfl 1 rfl ?_
  refine j_getN hC hin_A (47 + (j)) (cw_atom g k u (j := j) (by omega)) rfl 1 (by decide) (hC.2.2.2.2.1 _ wf_M_37) (fun _ h9 => h9) rfl d_M_choicesBy_6 ?_
  refine j_iload_n hC d_M_choicesBy_9 rfl 2 rfl ?_
  refine j_icmp_ne (tgt := 17) hC d_M_choicesBy_10 (by decide) (fun h10 => ?_) (fun h10 => ?_)
  · refine j_iconst (v := 0) hC d_M_choicesBy_17 (by decide) ?_
    refine j_istore (lv' := [(0, .ref (g 7)), (1, .ref (g (47 + (j)))), (2, .int t), (3, .int (u 16 j)), (4, .int 0)]) hC d_M_choicesBy_18 (by decide) rfl rfl ?_
    refine j_aload_n hC d_M_choicesBy_20 rfl 0 rfl ?_
    refine j_get hC hin_M (7) (cw_match g k u) rfl 1 (by decide) (hC.2.2.2.2.1 _ wf_M_18) (fun _ h9 => h9) rfl d_M_choicesBy_21 ?_
    refine j_iload hC d_M_choicesBy_24 4 rfl ?_
    refine j_if_eq (tgt := 36) hC d_M_choicesBy_26 (by decide) (fun h26 => ?_) (fun h26 => absurd h26 (by decide))
    refine j_aload_n hC d_M_choicesBy_36 rfl 1 rfl ?_
    refine j_getN hC hin_A (47 + (j)) (cw_atom g k u (j := j) (by omega)) rfl 1 (by decide) (hC.2.2.2.2.1 _ wf_M_37) (fun _ h9 => h9) rfl d_M_choicesBy_37 ?_
    refine j_ialdN hC (9) 0 (cw_values g k u) rfl (n := tn (u 17 j)) (hA.2.1.1) (hA.2.1.2) (by decide) d_M_choicesBy_40 ?_
    refine j_istore (lv' := [(0, .ref (g 7)), (1, .ref (g (47 + (j)))), (2, .int t), (3, .int (u 16 j)), (4, .int 0), (5, .int (u 6 (tn (u 17 j))))]) hC d_M_choicesBy_41 (by decide) rfl rfl ?_
    refine j_aload_n hC d_M_choicesBy_43 rfl 1 rfl ?_
    refine j_getN hC hin_A (47 + (j)) (cw_atom g k u (j := j) (by omega)) rfl 1 (by decide) (hC.2.2.2.2.1 _ wf_M_37) (fun _ h9 => h9) rfl d_M_choicesBy_44 ?_
    refine j_aload_n hC d_M_choicesBy_47 rfl 1 rfl ?_
    refine j_getN hC hin_A (47 + (j)) (cw_atom g k u (j := j) (by omega)) rfl 2 (by decide) (hC.2.2.2.2.1 _ wf_M_44) (fun _ h9 => h9) rfl d_M_choicesBy_48 ?_
    refine j_icmp_ne (tgt := 68) hC d_M_choicesBy_51 (by decide) (fun h51 => ?_) (fun h51 => ?_)
    · refine j_iload hC d_M_choicesBy_68 5 rfl ?_
      refine j_iconst (v := -1) hC d_M_choicesBy_70 (by decide) ?_
      refine j_icmp_eq (tgt := 116) hC d_M_choicesBy_71 (by decide) (fun h71 => ?_) (fun h71 => ?_)
      · refine j_aload_n hC d_M_choicesBy_116 rfl 1 rfl ?_
        refine j_getN hC hin_A (47 + (j)) (cw_atom g k u (j := j) (by omega)) rfl 3 (by decide) (hC.2.2.2.2.1 _ wf_M_62) (fun _ h9 => h9) rfl d_M_choicesBy_117 ?_
        refine j_if_eq (tgt := 129) hC d_M_choicesBy_120 (by decide) (fun h120 => ?_) (fun h120 => ?_)
        · refine j_iload hC d_M_choicesBy_129 4 rfl ?_
          refine j_if_eq (tgt := 146) hC d_M_choicesBy_131 (by decide) (fun h131 => ?_) (fun h131 => absurd h131 (by decide))
          refine j_aload_n hC d_M_choicesBy_146 rfl 0 rfl ?_
          refine j_get hC hin_M (7) (cw_match g k u) rfl 0 (by decide) (hC.2.2.2.2.1 _ wf_M_12) (fun _ h9 => h9) rfl d_M_choicesBy_147 ?_
          refine j_getN hC hin_S (8) (cw_sight g k u) rfl 3 (by decide) (hC.2.2.2.2.1 _ wf_M_82) (fun _ h9 => h9) rfl d_M_choicesBy_150 ?_
          refine j_iload_n hC d_M_choicesBy_153 rfl 3 rfl ?_
          refine j_ialdN hC (13) 0 (cw_seconds g k u) rfl (n := tn (u 16 j)) (hA.1.1) (hA.1.2) (by decide) d_M_choicesBy_154 ?_
          refine j_istore (lv' := [(0, .ref (g 7)), (1, .ref (g (47 + (j)))), (2, .int t), (3, .int (u 16 j)), (4, .int 0), (5, .int (u 6 (tn (u 17 j)))), (6, .int (u 10 (tn (u 16 j))))]) hC d_M_choicesBy_155 (by decide) rfl rfl ?_
          refine j_aload_n hC d_M_choicesBy_157 rfl 1 rfl ?_
          refine j_getN hC hin_A (47 + (j)) (cw_atom g k u (j := j) (by omega)) rfl 3 (by decide) (hC.2.2.2.2.1 _ wf_M_62) (fun _ h9 => h9) rfl d_M_choicesBy_158 ?_
          refine j_if_eq (tgt := 171) hC d_M_choicesBy_161 (by decide) (fun h161 => ?_) (fun h161 => ?_)
          · refine j_iload hC d_M_choicesBy_171 6 rfl ?_
            exact j_iret hC hr ⟨rfl, congrArg (fun z => some (Value.int z)) (by first | (simp only [pBy, pSeen, if_neg h10, if_neg h51, if_pos h71, if_pos h120, if_pos h161]; done) | exact absurd h120 h161 | exact absurd h161 h120), rfl⟩ d_M_choicesBy_173
          · refine j_iload hC d_M_choicesBy_164 6 rfl ?_
            refine j_iconst (v := -1) hC d_M_choicesBy_166 (by decide) ?_
            refine j_ixor hC d_M_choicesBy_167 ?_
            refine j_goto (tgt := 173) hC d_M_choicesBy_168 (by decide) ?_
            exact j_iret hC hr ⟨rfl, congrArg (fun z => some (Value.int z)) (by first | (simp only [pBy, pSeen, if_neg h10, if_neg h51, if_pos h71, if_pos h120, if_neg h161]; done) | exact absurd h120 h161 | exact absurd h161 h120), rfl⟩ d_M_choicesBy_173
        · refine j_iconst (v := 0) hC d_M_choicesBy_123 (by decide) ?_
          refine j_istore (lv' := [(0, .ref (g 7)), (1, .ref (g (47 + (j)))), (2, .int t), (3, .int (u 16 j)), (4, .int 0), (5, .int (u 6 (tn (u 17 j)))), (6, .int 0)]) hC d_M_choicesBy_124 (by decide) rfl rfl ?_
          refine j_goto (tgt := 157) hC d_M_choicesBy_126 (by decide) ?_
          refine j_aload_n hC d_M_choicesBy_157 rfl 1 rfl ?_
          refine j_getN hC hin_A (47 + (j)) (cw_atom g k u (j := j) (by omega)) rfl 3 (by decide) (hC.2.2.2.2.1 _ wf_M_62) (fun _ h9 => h9) rfl d_M_choicesBy_158 ?_
          refine j_if_eq (tgt := 171) hC d_M_choicesBy_161 (by decide) (fun h161 => ?_) (fun h161 => ?_)
          · refine j_iload hC d_M_choicesBy_171 6 rfl ?_
            exact j_iret hC hr ⟨rfl, congrArg (fun z => some (Value.int z)) (by first | (simp only [pBy, pSeen, if_neg h10, if_neg h51, if_pos h71, if_neg h120, if_pos h161]; done) | exact absurd h120 h161 | exact absurd h161 h120), rfl⟩ d_M_choicesBy_173
          · refine j_iload hC d_M_choicesBy_164 6 rfl ?_
            refine j_iconst (v := -1) hC d_M_choicesBy_166 (by decide) ?_
            refine j_ixor hC d_M_choicesBy_167 ?_
            refine j_goto (tgt := 173) hC d_M_choicesBy_168 (by decide) ?_
            exact j_iret hC hr ⟨rfl, congrArg (fun z => some (Value.int z)) (by first | (simp only [pBy, pSeen, if_neg h10, if_neg h51, if_pos h71, if_neg h120, if_neg h161]; done) | exact absurd h120 h161 | exact absurd h161 h120), rfl⟩ d_M_choicesBy_173
      · refine j_iload_n hC d_M_choicesBy_74 rfl 3 rfl ?_
        refine j_bipush (v := 12) hC d_M_choicesBy_75 (by decide) ?_
        refine j_imul hC d_M_choicesBy_77 ?_
        refine j_iload hC d_M_choicesBy_78 5 rfl ?_
        refine j_iadd hC d_M_choicesBy_80 ?_
        refine j_istore (lv' := [(0, .ref (g 7)), (1, .ref (g (47 + (j)))), (2, .int t), (3, .int (u 16 j)), (4, .int 0), (5, .int (u 6 (tn (u 17 j)))), (7, .int (((u 16 j) * 12) + (u 6 (tn (u 17 j)))))]) hC d_M_choicesBy_81 (by decide) rfl rfl ?_
        refine j_iload hC d_M_choicesBy_83 4 rfl ?_
        refine j_if_eq (tgt := 101) hC d_M_choicesBy_85 (by decide) (fun h85 => ?_) (fun h85 => absurd h85 (by decide))
        refine j_aload_n hC d_M_choicesBy_101 rfl 0 rfl ?_
        refine j_get hC hin_M (7) (cw_match g k u) rfl 0 (by decide) (hC.2.2.2.2.1 _ wf_M_12) (fun _ h9 => h9) rfl d_M_choicesBy_102 ?_
        refine j_getN hC hin_S (8) (cw_sight g k u) rfl 0 (by decide) (hC.2.2.2.2.1 _ wf_M_76) (fun _ h9 => h9) rfl d_M_choicesBy_105 ?_
        refine j_iload hC d_M_choicesBy_108 6 rfl ?_
        refine j_ialdN hC (10) 0 (cw_secondsByFirst g k u) rfl (n := tn (u 16 j) * 12 + tn (u 6 (tn (u 17 j)))) (in_row hA.1 ((hV _ hA.2.1.2).resolve_left h71)) (row_lt hA.1 ((hV _ hA.2.1.2).resolve_left h71)) (by decide) d_M_choicesBy_110 ?_
        refine j_istore (lv' := [(0, .ref (g 7)), (1, .ref (g (47 + (j)))), (2, .int t), (3, .int (u 16 j)), (4, .int 0), (5, .int (u 6 (tn (u 17 j)))), (7, .int (((u 16 j) * 12) + (u 6 (tn (u 17 j))))), (6, .int (u 7 (tn (u 16 j) * 12 + tn (u 6 (tn (u 17 j))))))]) hC d_M_choicesBy_111 (by decide) rfl rfl ?_
        refine j_goto (tgt := 157) hC d_M_choicesBy_113 (by decide) ?_
        refine j_aload_n hC d_M_choicesBy_157 rfl 1 rfl ?_
        refine j_getN hC hin_A (47 + (j)) (cw_atom g k u (j := j) (by omega)) rfl 3 (by decide) (hC.2.2.2.2.1 _ wf_M_62) (fun _ h9 => h9) rfl d_M_choicesBy_158 ?_
        refine j_if_eq (tgt := 171) hC d_M_choicesBy_161 (by decide) (fun h161 => ?_) (fun h161 => ?_)
        · refine j_iload hC d_M_choicesBy_171 7 rfl ?_
          exact j_iret hC hr ⟨rfl, congrArg (fun z => some (Value.int z)) (by first | (simp only [pBy, pSeen, if_neg h10, if_neg h51, if_neg h71, if_pos h161]; done)), rfl⟩ d_M_choicesBy_173
        · refine j_iload hC d_M_choicesBy_164 7 rfl ?_
          refine j_iconst (v := -1) hC d_M_choicesBy_166 (by decide) ?_
          refine j_ixor hC d_M_choicesBy_167 ?_
          refine j_goto (tgt := 173) hC d_M_choicesBy_168 (by decide) ?_
          exact j_iret hC hr ⟨rfl, congrArg (fun z => some (Value.int z)) (by first | (simp only [pBy, pSeen, if_neg h10, if_neg h51, if_neg h71, if_neg h161]; done)), rfl⟩ d_M_choicesBy_173
    · refine j_aload_n hC d_M_choicesBy_54 rfl 0 rfl ?_
      refine j_get hC hin_M (7) (cw_match g k u) rfl 0 (by decide) (hC.2.2.2.2.1 _ wf_M_12) (fun _ h9 => h9) rfl d_M_choicesBy_55 ?_
      refine j_getN hC hin_S (8) (cw_sight g k u) rfl 4 (by decide) (hC.2.2.2.2.1 _ wf_M_70) (fun _ h9 => h9) rfl d_M_choicesBy_58 ?_
      refine j_iload_n hC d_M_choicesBy_61 rfl 3 rfl ?_
      refine j_ialdN hC (14) 0 (cw_doubles g k u) rfl (n := tn (u 16 j)) (hA.1.1) (hA.1.2) (by decide) d_M_choicesBy_62 ?_
      refine j_istore (lv' := [(0, .ref (g 7)), (1, .ref (g (47 + (j)))), (2, .int t), (3, .int (u 16 j)), (4, .int 0), (5, .int (u 6 (tn (u 17 j)))), (6, .int (u 11 (tn (u 16 j))))]) hC d_M_choicesBy_63 (by decide) rfl rfl ?_
      refine j_goto (tgt := 157) hC d_M_choicesBy_65 (by decide) ?_
      refine j_aload_n hC d_M_choicesBy_157 rfl 1 rfl ?_
      refine j_getN hC hin_A (47 + (j)) (cw_atom g k u (j := j) (by omega)) rfl 3 (by decide) (hC.2.2.2.2.1 _ wf_M_62) (fun _ h9 => h9) rfl d_M_choicesBy_158 ?_
      refine j_if_eq (tgt := 171) hC d_M_choicesBy_161 (by decide) (fun h161 => ?_) (fun h161 => ?_)
      · refine j_iload hC d_M_choicesBy_171 6 rfl ?_
        exact j_iret hC hr ⟨rfl, congrArg (fun z => some (Value.int z)) (by first | (simp only [pBy, pSeen, if_neg h10, if_pos h51, if_pos h161]; done)), rfl⟩ d_M_choicesBy_173
      · refine j_iload hC d_M_choicesBy_164 6 rfl ?_
        refine j_iconst (v := -1) hC d_M_choicesBy_166 (by decide) ?_
        refine j_ixor hC d_M_choicesBy_167 ?_
        refine j_goto (tgt := 173) hC d_M_choicesBy_168 (by decide) ?_
        exact j_iret hC hr ⟨rfl, congrArg (fun z => some (Value.int z)) (by first | (simp only [pBy, pSeen, if_neg h10, if_pos h51, if_neg h161]; done)), rfl⟩ d_M_choicesBy_173
  · refine j_iconst (v := 1) hC d_M_choicesBy_13 (by decide) ?_
    refine j_goto (tgt := 18) hC d_M_choicesBy_14 (by decide) ?_
    refine j_istore (lv' := [(0, .ref (g 7)), (1, .ref (g (47 + (j)))), (2, .int t), (3, .int (u 16 j)), (4, .int 1)]) hC d_M_choicesBy_18 (by decide) rfl rfl ?_
    refine j_aload_n hC d_M_choicesBy_20 rfl 0 rfl ?_
    refine j_get hC hin_M (7) (cw_match g k u) rfl 1 (by decide) (hC.2.2.2.2.1 _ wf_M_18) (fun _ h9 => h9) rfl d_M_choicesBy_21 ?_
    refine j_iload hC d_M_choicesBy_24 4 rfl ?_
    refine j_if_eq (tgt := 36) hC d_M_choicesBy_26 (by decide) (fun h26 => absurd h26 (by decide)) (fun h26 => ?_)
    refine j_aload_n hC d_M_choicesBy_29 rfl 1 rfl ?_
    refine j_getN hC hin_A (47 + (j)) (cw_atom g k u (j := j) (by omega)) rfl 2 (by decide) (hC.2.2.2.2.1 _ wf_M_44) (fun _ h9 => h9) rfl d_M_choicesBy_30 ?_
    refine j_goto (tgt := 40) hC d_M_choicesBy_33 (by decide) ?_
    refine j_ialdN hC (9) 0 (cw_values g k u) rfl (n := tn (u 18 j)) (hA.2.2.1.1) (hA.2.2.1.2) (by decide) d_M_choicesBy_40 ?_
    refine j_istore (lv' := [(0, .ref (g 7)), (1, .ref (g (47 + (j)))), (2, .int t), (3, .int (u 16 j)), (4, .int 1), (5, .int (u 6 (tn (u 18 j))))]) hC d_M_choicesBy_41 (by decide) rfl rfl ?_
    refine j_aload_n hC d_M_choicesBy_43 rfl 1 rfl ?_
    refine j_getN hC hin_A (47 + (j)) (cw_atom g k u (j := j) (by omega)) rfl 1 (by decide) (hC.2.2.2.2.1 _ wf_M_37) (fun _ h9 => h9) rfl d_M_choicesBy_44 ?_
    refine j_aload_n hC d_M_choicesBy_47 rfl 1 rfl ?_
    refine j_getN hC hin_A (47 + (j)) (cw_atom g k u (j := j) (by omega)) rfl 2 (by decide) (hC.2.2.2.2.1 _ wf_M_44) (fun _ h9 => h9) rfl d_M_choicesBy_48 ?_
    refine j_icmp_ne (tgt := 68) hC d_M_choicesBy_51 (by decide) (fun h51 => ?_) (fun h51 => ?_)
    · refine j_iload hC d_M_choicesBy_68 5 rfl ?_
      refine j_iconst (v := -1) hC d_M_choicesBy_70 (by decide) ?_
      refine j_icmp_eq (tgt := 116) hC d_M_choicesBy_71 (by decide) (fun h71 => ?_) (fun h71 => ?_)
      · refine j_aload_n hC d_M_choicesBy_116 rfl 1 rfl ?_
        refine j_getN hC hin_A (47 + (j)) (cw_atom g k u (j := j) (by omega)) rfl 3 (by decide) (hC.2.2.2.2.1 _ wf_M_62) (fun _ h9 => h9) rfl d_M_choicesBy_117 ?_
        refine j_if_eq (tgt := 129) hC d_M_choicesBy_120 (by decide) (fun h120 => ?_) (fun h120 => ?_)
        · refine j_iload hC d_M_choicesBy_129 4 rfl ?_
          refine j_if_eq (tgt := 146) hC d_M_choicesBy_131 (by decide) (fun h131 => absurd h131 (by decide)) (fun h131 => ?_)
          refine j_aload_n hC d_M_choicesBy_134 rfl 0 rfl ?_
          refine j_get hC hin_M (7) (cw_match g k u) rfl 0 (by decide) (hC.2.2.2.2.1 _ wf_M_12) (fun _ h9 => h9) rfl d_M_choicesBy_135 ?_
          refine j_getN hC hin_S (8) (cw_sight g k u) rfl 2 (by decide) (hC.2.2.2.2.1 _ wf_M_79) (fun _ h9 => h9) rfl d_M_choicesBy_138 ?_
          refine j_iload_n hC d_M_choicesBy_141 rfl 3 rfl ?_
          refine j_ialdN hC (12) 0 (cw_firsts g k u) rfl (n := tn (u 16 j)) (hA.1.1) (hA.1.2) (by decide) d_M_choicesBy_142 ?_
          refine j_goto (tgt := 155) hC d_M_choicesBy_143 (by decide) ?_
          refine j_istore (lv' := [(0, .ref (g 7)), (1, .ref (g (47 + (j)))), (2, .int t), (3, .int (u 16 j)), (4, .int 1), (5, .int (u 6 (tn (u 18 j)))), (6, .int (u 9 (tn (u 16 j))))]) hC d_M_choicesBy_155 (by decide) rfl rfl ?_
          refine j_aload_n hC d_M_choicesBy_157 rfl 1 rfl ?_
          refine j_getN hC hin_A (47 + (j)) (cw_atom g k u (j := j) (by omega)) rfl 3 (by decide) (hC.2.2.2.2.1 _ wf_M_62) (fun _ h9 => h9) rfl d_M_choicesBy_158 ?_
          refine j_if_eq (tgt := 171) hC d_M_choicesBy_161 (by decide) (fun h161 => ?_) (fun h161 => ?_)
          · refine j_iload hC d_M_choicesBy_171 6 rfl ?_
            exact j_iret hC hr ⟨rfl, congrArg (fun z => some (Value.int z)) (by first | (simp only [pBy, pSeen, if_pos h10, if_neg h51, if_pos h71, if_pos h120, if_pos h161]; done) | exact absurd h120 h161 | exact absurd h161 h120), rfl⟩ d_M_choicesBy_173
          · refine j_iload hC d_M_choicesBy_164 6 rfl ?_
            refine j_iconst (v := -1) hC d_M_choicesBy_166 (by decide) ?_
            refine j_ixor hC d_M_choicesBy_167 ?_
            refine j_goto (tgt := 173) hC d_M_choicesBy_168 (by decide) ?_
            exact j_iret hC hr ⟨rfl, congrArg (fun z => some (Value.int z)) (by first | (simp only [pBy, pSeen, if_pos h10, if_neg h51, if_pos h71, if_pos h120, if_neg h161]; done) | exact absurd h120 h161 | exact absurd h161 h120), rfl⟩ d_M_choicesBy_173
        · refine j_iconst (v := 0) hC d_M_choicesBy_123 (by decide) ?_
          refine j_istore (lv' := [(0, .ref (g 7)), (1, .ref (g (47 + (j)))), (2, .int t), (3, .int (u 16 j)), (4, .int 1), (5, .int (u 6 (tn (u 18 j)))), (6, .int 0)]) hC d_M_choicesBy_124 (by decide) rfl rfl ?_
          refine j_goto (tgt := 157) hC d_M_choicesBy_126 (by decide) ?_
          refine j_aload_n hC d_M_choicesBy_157 rfl 1 rfl ?_
          refine j_getN hC hin_A (47 + (j)) (cw_atom g k u (j := j) (by omega)) rfl 3 (by decide) (hC.2.2.2.2.1 _ wf_M_62) (fun _ h9 => h9) rfl d_M_choicesBy_158 ?_
          refine j_if_eq (tgt := 171) hC d_M_choicesBy_161 (by decide) (fun h161 => ?_) (fun h161 => ?_)
          · refine j_iload hC d_M_choicesBy_171 6 rfl ?_
            exact j_iret hC hr ⟨rfl, congrArg (fun z => some (Value.int z)) (by first | (simp only [pBy, pSeen, if_pos h10, if_neg h51, if_pos h71, if_neg h120, if_pos h161]; done) | exact absurd h120 h161 | exact absurd h161 h120), rfl⟩ d_M_choicesBy_173
          · refine j_iload hC d_M_choicesBy_164 6 rfl ?_
            refine j_iconst (v := -1) hC d_M_choicesBy_166 (by decide) ?_
            refine j_ixor hC d_M_choicesBy_167 ?_
            refine j_goto (tgt := 173) hC d_M_choicesBy_168 (by decide) ?_
            exact j_iret hC hr ⟨rfl, congrArg (fun z => some (Value.int z)) (by first | (simp only [pBy, pSeen, if_pos h10, if_neg h51, if_pos h71, if_neg h120, if_neg h161]; done) | exact absurd h120 h161 | exact absurd h161 h120), rfl⟩ d_M_choicesBy_173
      · refine j_iload_n hC d_M_choicesBy_74 rfl 3 rfl ?_
        refine j_bipush (v := 12) hC d_M_choicesBy_75 (by decide) ?_
        refine j_imul hC d_M_choicesBy_77 ?_
        refine j_iload hC d_M_choicesBy_78 5 rfl ?_
        refine j_iadd hC d_M_choicesBy_80 ?_
        refine j_istore (lv' := [(0, .ref (g 7)), (1, .ref (g (47 + (j)))), (2, .int t), (3, .int (u 16 j)), (4, .int 1), (5, .int (u 6 (tn (u 18 j)))), (7, .int (((u 16 j) * 12) + (u 6 (tn (u 18 j)))))]) hC d_M_choicesBy_81 (by decide) rfl rfl ?_
        refine j_iload hC d_M_choicesBy_83 4 rfl ?_
        refine j_if_eq (tgt := 101) hC d_M_choicesBy_85 (by decide) (fun h85 => absurd h85 (by decide)) (fun h85 => ?_)
        refine j_aload_n hC d_M_choicesBy_88 rfl 0 rfl ?_
        refine j_get hC hin_M (7) (cw_match g k u) rfl 0 (by decide) (hC.2.2.2.2.1 _ wf_M_12) (fun _ h9 => h9) rfl d_M_choicesBy_89 ?_
        refine j_getN hC hin_S (8) (cw_sight g k u) rfl 1 (by decide) (hC.2.2.2.2.1 _ wf_M_73) (fun _ h9 => h9) rfl d_M_choicesBy_92 ?_
        refine j_iload hC d_M_choicesBy_95 6 rfl ?_
        refine j_ialdN hC (11) 0 (cw_firstsBySecond g k u) rfl (n := tn (u 16 j) * 12 + tn (u 6 (tn (u 18 j)))) (in_row hA.1 ((hV _ hA.2.2.1.2).resolve_left h71)) (row_lt hA.1 ((hV _ hA.2.2.1.2).resolve_left h71)) (by decide) d_M_choicesBy_97 ?_
        refine j_goto (tgt := 111) hC d_M_choicesBy_98 (by decide) ?_
        refine j_istore (lv' := [(0, .ref (g 7)), (1, .ref (g (47 + (j)))), (2, .int t), (3, .int (u 16 j)), (4, .int 1), (5, .int (u 6 (tn (u 18 j)))), (7, .int (((u 16 j) * 12) + (u 6 (tn (u 18 j))))), (6, .int (u 8 (tn (u 16 j) * 12 + tn (u 6 (tn (u 18 j))))))]) hC d_M_choicesBy_111 (by decide) rfl rfl ?_
        refine j_goto (tgt := 157) hC d_M_choicesBy_113 (by decide) ?_
        refine j_aload_n hC d_M_choicesBy_157 rfl 1 rfl ?_
        refine j_getN hC hin_A (47 + (j)) (cw_atom g k u (j := j) (by omega)) rfl 3 (by decide) (hC.2.2.2.2.1 _ wf_M_62) (fun _ h9 => h9) rfl d_M_choicesBy_158 ?_
        refine j_if_eq (tgt := 171) hC d_M_choicesBy_161 (by decide) (fun h161 => ?_) (fun h161 => ?_)
        · refine j_iload hC d_M_choicesBy_171 7 rfl ?_
          exact j_iret hC hr ⟨rfl, congrArg (fun z => some (Value.int z)) (by first | (simp only [pBy, pSeen, if_pos h10, if_neg h51, if_neg h71, if_pos h161]; done)), rfl⟩ d_M_choicesBy_173
        · refine j_iload hC d_M_choicesBy_164 7 rfl ?_
          refine j_iconst (v := -1) hC d_M_choicesBy_166 (by decide) ?_
          refine j_ixor hC d_M_choicesBy_167 ?_
          refine j_goto (tgt := 173) hC d_M_choicesBy_168 (by decide) ?_
          exact j_iret hC hr ⟨rfl, congrArg (fun z => some (Value.int z)) (by first | (simp only [pBy, pSeen, if_pos h10, if_neg h51, if_neg h71, if_neg h161]; done)), rfl⟩ d_M_choicesBy_173
    · refine j_aload_n hC d_M_choicesBy_54 rfl 0 rfl ?_
      refine j_get hC hin_M (7) (cw_match g k u) rfl 0 (by decide) (hC.2.2.2.2.1 _ wf_M_12) (fun _ h9 => h9) rfl d_M_choicesBy_55 ?_
      refine j_getN hC hin_S (8) (cw_sight g k u) rfl 4 (by decide) (hC.2.2.2.2.1 _ wf_M_70) (fun _ h9 => h9) rfl d_M_choicesBy_58 ?_
      refine j_iload_n hC d_M_choicesBy_61 rfl 3 rfl ?_
      refine j_ialdN hC (14) 0 (cw_doubles g k u) rfl (n := tn (u 16 j)) (hA.1.1) (hA.1.2) (by decide) d_M_choicesBy_62 ?_
      refine j_istore (lv' := [(0, .ref (g 7)), (1, .ref (g (47 + (j)))), (2, .int t), (3, .int (u 16 j)), (4, .int 1), (5, .int (u 6 (tn (u 18 j)))), (6, .int (u 11 (tn (u 16 j))))]) hC d_M_choicesBy_63 (by decide) rfl rfl ?_
      refine j_goto (tgt := 157) hC d_M_choicesBy_65 (by decide) ?_
      refine j_aload_n hC d_M_choicesBy_157 rfl 1 rfl ?_
      refine j_getN hC hin_A (47 + (j)) (cw_atom g k u (j := j) (by omega)) rfl 3 (by decide) (hC.2.2.2.2.1 _ wf_M_62) (fun _ h9 => h9) rfl d_M_choicesBy_158 ?_
      refine j_if_eq (tgt := 171) hC d_M_choicesBy_161 (by decide) (fun h161 => ?_) (fun h161 => ?_)
      · refine j_iload hC d_M_choicesBy_171 6 rfl ?_
        exact j_iret hC hr ⟨rfl, congrArg (fun z => some (Value.int z)) (by first | (simp only [pBy, pSeen, if_pos h10, if_pos h51, if_pos h161]; done)), rfl⟩ d_M_choicesBy_173
      · refine j_iload hC d_M_choicesBy_164 6 rfl ?_
        refine j_iconst (v := -1) hC d_M_choicesBy_166 (by decide) ?_
        refine j_ixor hC d_M_choicesBy_167 ?_
        refine j_goto (tgt := 173) hC d_M_choicesBy_168 (by decide) ?_
        exact j_iret hC hr ⟨rfl, congrArg (fun z => some (Value.int z)) (by first | (simp only [pBy, pSeen, if_pos h10, if_pos h51, if_neg h161]; done)), rfl⟩ d_M_choicesBy_173

set_option maxHeartbeats 4000000 in
set_option maxRecDepth 100000 in
theorem k_choices (l : Launch) (dC : Nat → ClassId) (dI : Nat → Nat → Nat) (g k : Nat → Nat) (tl : List (ClassId × FieldType)) (u : jU) {i : Nat} (hi : i < 16) (hM : wfM u) (t : Int32) (ht : inN t 24) : jMet l y_M_choices (.code y_M_choices c_M_choices 6 (some .int)) ({ frames := 1, cells := 0, slots := 0, locals := 27 }) (dC, dI) jcl (ctys k tl) jTs [.ref (g 7), .ref (g (15 + i)), .int t] (cw g k u) 0 0 (jRet (some (.int (pChoices u i t))) (cw g k u)) := by
  refine jMet.of (by decide) (Nat.le_of_ble_eq_true rfl) ?_
  intro p e s m below meth c A hC hex hr hnm htr
  show jJ p l e ({ frames := 1, cells := 0, slots := 0, locals := 27 }) s m [.ref (g 7), .ref (g (15 + i)), .int t].toArray below meth c 6 (dC, dI) jcl A (hxQ below (jQ (dC, dI) jcl (jRet (some (.int (pChoices u i t))) (cw g k u)) A) [.ref (g 7), .ref (g (15 + i)), .int t].toArray s 0 0 A) 0 0 (cw g k u) [(0, .ref (g 7)), (1, .ref (g (15 + i))), (2, .int t)] [] 0
  have hs : wfS u i := hM.1 i hi
  have hA : ∀ q, q < 4 → wfA u (5 * i + 1 + q) := fun q h => hM.2.1 _ (by omega)
  have hV : wfV u := hM.2.2
  have hs5 : tn (u 12 i) < 5 := hs.2
  have loop : u 6 (tn t) = -1 → ∀ (n q : Nat), q ≤ tn (u 12 i) → tn (u 12 i) < q + n → jJ p l e ({ frames := 1, cells := 0, slots := 0, locals := 27 }) s m [.ref (g 7), .ref (g (15 + i)), .int t].toArray below meth c 6 (dC, dI) jcl A (hxQ below (jQ (dC, dI) jcl (jRet (some (.int (pChoices u i t))) (cw g k u)) A) [.ref (g 7), .ref (g (15 + i)), .int t].toArray s 0 0 A) 0 0 (cw g k u) [(0, .ref (g 7)), (1, .ref (g (15 + i))), (2, .int t), (3, .int (pCh u i t q)), (4, .int (nI q))] [] 26 := by
    intro hop n
    induction n with
    | zero => intro q h1 h2; exact absurd h2 (by omega)
    | succ n ih =>
      intro q hq hn
      refine j_iload hC d_M_choices_26 4 rfl ?_
      refine j_aload_n hC d_M_choices_28 rfl 1 rfl ?_
      refine j_getN hC hin_R (15 + i) (cw_rule g k u (by omega)) rfl 2 (by decide) (hC.2.2.2.2.1 _ wf_M_51) (fun _ h9 => h9) rfl d_M_choices_29 ?_
      refine j_icmp_ge (tgt := 78) hC d_M_choices_32 (by decide) (fun h32 => ?_) (fun h32 => ?_)
      · have hge : tn (u 12 i) ≤ q := (inN_leN hs (by decide) (by omega)).mp h32
        have hqe : q = tn (u 12 i) := by omega
        refine j_iload_n hC d_M_choices_78 rfl 3 rfl ?_
        exact j_iret hC hr ⟨rfl, congrArg (fun z => some (Value.int z)) (by rw [pChoices, if_pos hop, ← hqe]), rfl⟩ d_M_choices_79
      · have hlt : q < tn (u 12 i) := Nat.not_le.mp (fun z => h32 ((inN_leN hs (by decide) (by omega)).mpr z))
        have hq4 : q < 4 := by omega
        refine j_aload_n hC d_M_choices_35 rfl 1 rfl ?_
        refine j_getN hC hin_R (15 + i) (cw_rule g k u (by omega)) rfl 1 (by decide) (hC.2.2.2.2.1 _ wf_M_54) (fun _ h9 => h9) rfl d_M_choices_36 ?_
        refine j_iload hC d_M_choices_39 4 rfl ?_
        refine j_aaldN (v := g (47 + (5 * i + 1 + q))) hC (31 + i) 1 (cw_lits g k u (by omega)) rfl (n := q) (rfl) (hq4) (by decide) (if_pos (hq4)) d_M_choices_41 ?_
        refine j_astore (lv' := [(0, .ref (g 7)), (1, .ref (g (15 + i))), (2, .int t), (3, .int (pCh u i t q)), (4, .int (nI q)), (5, .ref (g (47 + (5 * i + 1 + q))))]) hC d_M_choices_42 (by decide) rfl rfl ?_
        refine j_aload hC d_M_choices_44 5 rfl ?_
        refine j_getN hC hin_A (47 + (5 * i + 1 + q)) (cw_atom g k u (j := 5 * i + 1 + q) (by omega)) rfl 1 (by decide) (hC.2.2.2.2.1 _ wf_M_37) (fun _ h9 => h9) rfl d_M_choices_46 ?_
        refine j_iload_n hC d_M_choices_49 rfl 2 rfl ?_
        refine j_icmp_eq (tgt := 62) hC d_M_choices_50 (by decide) (fun h50 => ?_) (fun h50 => ?_)
        · refine j_iload_n hC d_M_choices_62 rfl 3 rfl ?_
          refine j_aload_n hC d_M_choices_63 rfl 0 rfl ?_
          refine j_aload hC d_M_choices_64 5 rfl ?_
          refine j_iload_n hC d_M_choices_66 rfl 2 rfl ?_
          refine j_callVr (As := [.ref (g (47 + (5 * i + 1 + q))), .int t]) (rest := [.int (pCh u i t q)]) (st1 := [.int (pBy u (5 * i + 1 + q) t), .int (pCh u i t q)]) hC (k_by l dC dI g k tl u (by omega) hM t) rfl rfl ww_M_66 yn_M_choicesBy (cw_match g k u) rfl rfl d_M_choices_67 (Nat.le_of_ble_eq_true rfl) (by decide) (by decide) rfl ?_
          refine j_iand hC d_M_choices_70 ?_
          refine j_istore_n (lv' := [(0, .ref (g 7)), (1, .ref (g (15 + i))), (2, .int t), (3, .int ((pCh u i t q) &&& (pBy u (5 * i + 1 + q) t))), (4, .int (nI q)), (5, .ref (g (47 + (5 * i + 1 + q))))]) hC d_M_choices_71 rfl (by decide) rfl rfl ?_
          refine j_iinc (lv' := [(0, .ref (g 7)), (1, .ref (g (15 + i))), (2, .int t), (3, .int ((pCh u i t q) &&& (pBy u (5 * i + 1 + q) t))), (4, .int (nI (q + 1))), (5, .ref (g (47 + (5 * i + 1 + q))))]) hC d_M_choices_72 4 rfl (nI_1 _) (by decide) rfl rfl ?_
          refine j_goto (tgt := 26) hC d_M_choices_75 (by decide) ?_
          have e9 : pCh u i t (q + 1) = (pCh u i t q) &&& (pBy u (5 * i + 1 + q) t) := if_pos (Or.inl h50)
          have k9 := ih (q + 1) (by omega) (by omega)
          rw [e9] at k9
          exact j_locals [0, 1, 2, 3, 4] rfl k9
        · refine j_aload hC d_M_choices_53 5 rfl ?_
          refine j_getN hC hin_A (47 + (5 * i + 1 + q)) (cw_atom g k u (j := 5 * i + 1 + q) (by omega)) rfl 2 (by decide) (hC.2.2.2.2.1 _ wf_M_44) (fun _ h9 => h9) rfl d_M_choices_55 ?_
          refine j_iload_n hC d_M_choices_58 rfl 2 rfl ?_
          refine j_icmp_ne (tgt := 72) hC d_M_choices_59 (by decide) (fun h59 => ?_) (fun h59 => ?_)
          · refine j_iinc (lv' := [(0, .ref (g 7)), (1, .ref (g (15 + i))), (2, .int t), (3, .int (pCh u i t q)), (4, .int (nI (q + 1))), (5, .ref (g (47 + (5 * i + 1 + q))))]) hC d_M_choices_72 4 rfl (nI_1 _) (by decide) rfl rfl ?_
            refine j_goto (tgt := 26) hC d_M_choices_75 (by decide) ?_
            have e9 : pCh u i t (q + 1) = pCh u i t q := if_neg (fun z => z.elim h50 h59)
            have k9 := ih (q + 1) (by omega) (by omega)
            rw [e9] at k9
            exact j_locals [0, 1, 2, 3, 4] rfl k9
          · refine j_iload_n hC d_M_choices_62 rfl 3 rfl ?_
            refine j_aload_n hC d_M_choices_63 rfl 0 rfl ?_
            refine j_aload hC d_M_choices_64 5 rfl ?_
            refine j_iload_n hC d_M_choices_66 rfl 2 rfl ?_
            refine j_callVr (As := [.ref (g (47 + (5 * i + 1 + q))), .int t]) (rest := [.int (pCh u i t q)]) (st1 := [.int (pBy u (5 * i + 1 + q) t), .int (pCh u i t q)]) hC (k_by l dC dI g k tl u (by omega) hM t) rfl rfl ww_M_66 yn_M_choicesBy (cw_match g k u) rfl rfl d_M_choices_67 (Nat.le_of_ble_eq_true rfl) (by decide) (by decide) rfl ?_
            refine j_iand hC d_M_choices_70 ?_
            refine j_istore_n (lv' := [(0, .ref (g 7)), (1, .ref (g (15 + i))), (2, .int t), (3, .int ((pCh u i t q) &&& (pBy u (5 * i + 1 + q) t))), (4, .int (nI q)), (5, .ref (g (47 + (5 * i + 1 + q))))]) hC d_M_choices_71 rfl (by decide) rfl rfl ?_
            refine j_iinc (lv' := [(0, .ref (g 7)), (1, .ref (g (15 + i))), (2, .int t), (3, .int ((pCh u i t q) &&& (pBy u (5 * i + 1 + q) t))), (4, .int (nI (q + 1))), (5, .ref (g (47 + (5 * i + 1 + q))))]) hC d_M_choices_72 4 rfl (nI_1 _) (by decide) rfl rfl ?_
            refine j_goto (tgt := 26) hC d_M_choices_75 (by decide) ?_
            have e9 : pCh u i t (q + 1) = (pCh u i t q) &&& (pBy u (5 * i + 1 + q) t) := if_pos (Or.inr h59)
            have k9 := ih (q + 1) (by omega) (by omega)
            rw [e9] at k9
            exact j_locals [0, 1, 2, 3, 4] rfl k9
  refine j_aload_n hC d_M_choices_0 rfl 0 rfl ?_
  refine j_get hC hin_M (7) (cw_match g k u) rfl 1 (by decide) (hC.2.2.2.2.1 _ wf_M_18) (fun _ h9 => h9) rfl d_M_choices_1 ?_
  refine j_iload_n hC d_M_choices_4 rfl 2 rfl ?_
  refine j_ialdN hC (9) 0 (cw_values g k u) rfl (n := tn t) (ht.1) (ht.2) (by decide) d_M_choices_5 ?_
  refine j_iconst (v := -1) hC d_M_choices_6 (by decide) ?_
  refine j_icmp_eq (tgt := 19) hC d_M_choices_7 (by decide) (fun h7 => ?_) (fun h7 => ?_)
  · refine j_sipush (v := 4095) hC d_M_choices_19 (by decide) ?_
    refine j_istore_n (lv' := [(0, .ref (g 7)), (1, .ref (g (15 + i))), (2, .int t), (3, .int 4095)]) hC d_M_choices_22 rfl (by decide) rfl rfl ?_
    refine j_iconst (v := 0) hC d_M_choices_23 (by decide) ?_
    refine j_istore (lv' := [(0, .ref (g 7)), (1, .ref (g (15 + i))), (2, .int t), (3, .int 4095), (4, .int 0)]) hC d_M_choices_24 (by decide) rfl rfl ?_
    exact loop h7 6 0 (by omega) (by omega)
  · refine j_iconst (v := 1) hC d_M_choices_10 (by decide) ?_
    refine j_aload_n hC d_M_choices_11 rfl 0 rfl ?_
    refine j_get hC hin_M (7) (cw_match g k u) rfl 1 (by decide) (hC.2.2.2.2.1 _ wf_M_18) (fun _ h9 => h9) rfl d_M_choices_12 ?_
    refine j_iload_n hC d_M_choices_15 rfl 2 rfl ?_
    refine j_ialdN hC (9) 0 (cw_values g k u) rfl (n := tn t) (ht.1) (ht.2) (by decide) d_M_choices_16 ?_
    refine j_ishl hC d_M_choices_17 ?_
    exact j_iret hC hr ⟨rfl, congrArg (fun z => some (Value.int z)) ((if_neg h7).symm), rfl⟩ d_M_choices_18

set_option maxHeartbeats 4000000 in
set_option maxRecDepth 100000 in
theorem k_nextOpen (l : Launch) (dC : Nat → ClassId) (dI : Nat → Nat → Nat) (g k : Nat → Nat) (tl : List (ClassId × FieldType)) (u : jU) {i n0 : Nat} (hi : i < 16) (hn0 : n0 ≤ 24) : jMet l y_M_nextOpen (.code y_M_nextOpen c_M_nextOpen 4 (some .int)) ({ frames := 1, cells := 0, slots := 0, locals := 21 }) (dC, dI) jcl (ctys k tl) jTs [.ref (g 7), .ref (g (15 + i)), .int (nI n0)] (cw g k u) 0 0 (jRet (some (.int (nI (pNext u i n0)))) (cw g k u)) := by
  refine jMet.of (by decide) (Nat.le_of_ble_eq_true rfl) ?_
  intro p e s m below meth c A hC hex hr hnm htr
  show jJ p l e ({ frames := 1, cells := 0, slots := 0, locals := 21 }) s m [.ref (g 7), .ref (g (15 + i)), .int (nI n0)].toArray below meth c 4 (dC, dI) jcl A (hxQ below (jQ (dC, dI) jcl (jRet (some (.int (nI (pNext u i n0)))) (cw g k u)) A) [.ref (g 7), .ref (g (15 + i)), .int (nI n0)].toArray s 0 0 A) 0 0 (cw g k u) [(0, .ref (g 7)), (1, .ref (g (15 + i))), (2, .int (nI n0))] [] 0
  have loop : ∀ (d n : Nat), n ≤ 24 → 24 < n + d → pNextN u i (24 - n) n = pNext u i n0 → jJ p l e ({ frames := 1, cells := 0, slots := 0, locals := 21 }) s m [.ref (g 7), .ref (g (15 + i)), .int (nI n0)].toArray below meth c 4 (dC, dI) jcl A (hxQ below (jQ (dC, dI) jcl (jRet (some (.int (nI (pNext u i n0)))) (cw g k u)) A) [.ref (g 7), .ref (g (15 + i)), .int (nI n0)].toArray s 0 0 A) 0 0 (cw g k u) [(0, .ref (g 7)), (1, .ref (g (15 + i))), (2, .int (nI n0)), (3, .int (nI n))] [] 2 := by
    intro d
    induction d with
    | zero => intro n h1 h2; exact absurd h2 (by omega)
    | succ d ih =>
      intro n hn hd hinv
      refine j_iload_n hC d_M_nextOpen_2 rfl 3 rfl ?_
      refine j_bipush (v := 24) hC d_M_nextOpen_3 (by decide) ?_
      refine j_icmp_ge (tgt := 37) hC d_M_nextOpen_5 (by decide) (fun h5 => ?_) (fun h5 => ?_)
      · have hge : 24 ≤ n := (nI_leI (by decide) (by omega)).mp h5
        have hne : n = 24 := by omega
        refine j_bipush (v := 24) hC d_M_nextOpen_37 (by decide) ?_
        exact j_iret hC hr ⟨rfl, congrArg (fun z => some (Value.int z)) (by rw [← hinv, hne]; rfl), rfl⟩ d_M_nextOpen_39
      · have hlt : n < 24 := Nat.not_le.mp (fun z => h5 ((nI_leI (a := 24) (by decide) (by omega)).mpr z))
        have e24 : pNextN u i (24 - n) n = pNextN u i ((24 - (n + 1)) + 1) n := by rw [show 24 - n = (24 - (n + 1)) + 1 by omega]
        refine j_aload_n hC d_M_nextOpen_8 rfl 1 rfl ?_
        refine j_getN hC hin_R (15 + i) (cw_rule g k u (by omega)) rfl 3 (by decide) (hC.2.2.2.2.1 _ wf_M_85) (fun _ h9 => h9) rfl d_M_nextOpen_9 ?_
        refine j_iload_n hC d_M_nextOpen_12 rfl 3 rfl ?_
        refine j_callSNr (As := [.int (u 13 i), .int (nI n)]) (rest := []) (st1 := [.int (b2i (hb (u 13 i) (nI n)))]) hC (k_hasBit l dC dI g k tl u (u 13 i) (nI n)) rfl rfl ww_M_88 yn_H_hasBit rfl d_M_nextOpen_13 (Nat.le_of_ble_eq_true rfl) (by decide) (by decide) rfl ?_
        refine j_if_eq (tgt := 31) hC d_M_nextOpen_16 (by decide) (fun h16 => ?_) (fun h16 => ?_)
        · refine j_iinc (lv' := [(0, .ref (g 7)), (1, .ref (g (15 + i))), (2, .int (nI n0)), (3, .int (nI (n + 1)))]) hC d_M_nextOpen_31 3 rfl (nI_1 _) (by decide) rfl rfl ?_
          refine j_goto (tgt := 2) hC d_M_nextOpen_34 (by decide) ?_
          exact j_locals [0, 1, 2, 3] rfl (ih (n + 1) (by omega) (by omega) (by rw [← hinv, e24]; exact (if_neg (fun z => by rw [b2i_0 h16] at z; cases z.1)).symm))
        · refine j_aload_n hC d_M_nextOpen_19 rfl 0 rfl ?_
          refine j_get hC hin_M (7) (cw_match g k u) rfl 1 (by decide) (hC.2.2.2.2.1 _ wf_M_18) (fun _ h9 => h9) rfl d_M_nextOpen_20 ?_
          refine j_iload_n hC d_M_nextOpen_23 rfl 3 rfl ?_
          refine j_ialdN hC (9) 0 (cw_values g k u) rfl (n := n) (rfl) (hlt) (by decide) d_M_nextOpen_24 ?_
          refine j_iconst (v := -1) hC d_M_nextOpen_25 (by decide) ?_
          refine j_icmp_ne (tgt := 31) hC d_M_nextOpen_26 (by decide) (fun h26 => ?_) (fun h26 => ?_)
          · refine j_iinc (lv' := [(0, .ref (g 7)), (1, .ref (g (15 + i))), (2, .int (nI n0)), (3, .int (nI (n + 1)))]) hC d_M_nextOpen_31 3 rfl (nI_1 _) (by decide) rfl rfl ?_
            refine j_goto (tgt := 2) hC d_M_nextOpen_34 (by decide) ?_
            exact j_locals [0, 1, 2, 3] rfl (ih (n + 1) (by omega) (by omega) (by rw [← hinv, e24]; exact (if_neg (fun z => h26 z.2)).symm))
          · refine j_iload_n hC d_M_nextOpen_29 rfl 3 rfl ?_
            exact j_iret hC hr ⟨rfl, congrArg (fun z => some (Value.int z)) (congrArg nI (by rw [← hinv, e24]; exact (if_pos ⟨b2i_1 h16, h26⟩).symm)), rfl⟩ d_M_nextOpen_30
  refine j_iload_n hC d_M_nextOpen_0 rfl 2 rfl ?_
  refine j_istore_n (lv' := [(0, .ref (g 7)), (1, .ref (g (15 + i))), (2, .int (nI n0)), (3, .int (nI n0))]) hC d_M_nextOpen_1 rfl (by decide) rfl rfl ?_
  exact loop 25 n0 hn0 (by omega) rfl
