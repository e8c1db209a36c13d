set_option maxHeartbeats 4000000 in
set_option maxRecDepth 100000 in
theorem r_vars (l : Launch) (dC : Nat → ClassId) (dI : Nat → Nat → Nat) (g k : Nat → Nat) (tl : List (ClassId × FieldType)) (u : jU) {i : Nat} (hi : i < 16) (hc : inN (u 12 i) 5) : jMet l y_D_variables (.code y_D_variables c_D_variables 4 (some .int)) ({ frames := 1, cells := 0, slots := 0, locals := 22 }) (dC, dI) jcl (mtys k tl) jTs [.ref (g 0), .int (nI i)] (mw g k u) 0 0 (jRet (some (.int (mVars u i))) (mw g k u)) := by
  refine jMet.of (by decide) (Nat.le_of_ble_eq_true rfl) ?_
  intro p e s m below meth c A hC hex hr hnm htr
  show jJ p l e ({ frames := 1, cells := 0, slots := 0, locals := 22 }) s m [.ref (g 0), .int (nI i)].toArray below meth c 4 (dC, dI) jcl A (hxQ below (jQ (dC, dI) jcl (jRet (some (.int (mVars u i))) (mw g k u)) A) [.ref (g 0), .int (nI i)].toArray s 0 0 A) 0 0 (mw g k u) [(0, .ref (g 0)), (1, .int (nI i))] [] 0
  have hc5 := hc.2
  have loop : ∀ (n q : Nat), q ≤ tn (u 12 i) + 1 → tn (u 12 i) + 1 < q + n → jJ p l e ({ frames := 1, cells := 0, slots := 0, locals := 22 }) s m [.ref (g 0), .int (nI i)].toArray below meth c 4 (dC, dI) jcl A (hxQ below (jQ (dC, dI) jcl (jRet (some (.int (mVars u i))) (mw g k u)) A) [.ref (g 0), .int (nI i)].toArray s 0 0 A) 0 0 (mw g k u) [(0, .ref (g 0)), (1, .int (nI i)), (2, .int (mVs u i q)), (3, .int (nI q))] [] 4 := by
    intro n
    induction n with
    | zero => intro q h1 h2; exact absurd h2 (by omega)
    | succ n ih =>
      intro q hq hn
      refine j_iload_n hC d_D_variables_4 rfl 3 rfl ?_
      refine j_aload_n hC d_D_variables_5 rfl 0 rfl ?_
      refine j_get hC hin_D (0) (mw_obj g k u) rfl 6 (by decide) (hC.2.2.2.2.1 _ wf_D_20) (fun _ h9 => h9) rfl d_D_variables_6 ?_
      refine j_iload_n hC d_D_variables_9 rfl 1 rfl ?_
      refine j_ialdN hC (4) 0 (mw_counts g k u) rfl (n := i) (rfl) (by omega) (by decide) d_D_variables_10 ?_
      refine j_icmp_gt (tgt := 32) hC d_D_variables_11 (by decide) (fun h11 => ?_) (fun h11 => ?_)
      · have hgt : tn (u 12 i) < q := (inN_ltN hc (by decide) (by omega)).mp h11
        have hqe : q = tn (u 12 i) + 1 := by omega
        refine j_iload_n hC d_D_variables_32 rfl 2 rfl ?_
        exact j_iret hC hr ⟨rfl, congrArg (fun z => some (Value.int z)) (by rw [mVars, hqe]), rfl⟩ d_D_variables_33
      · have hle : q ≤ tn (u 12 i) := Nat.not_lt.mp (fun z => h11 ((inN_ltN hc (by decide) (by omega)).mpr z))
        refine j_iload_n hC d_D_variables_14 rfl 2 rfl ?_
        refine j_aload_n hC d_D_variables_15 rfl 0 rfl ?_
        refine j_iconst (v := 5) hC d_D_variables_16 (by decide) ?_
        refine j_iload_n hC d_D_variables_17 rfl 1 rfl ?_
        refine j_imul hC d_D_variables_18 ?_
        refine j_top (v := nI (5 * i)) (pk_mul 5 i).symm ?_
        refine j_iload_n hC d_D_variables_19 rfl 3 rfl ?_
        refine j_iadd hC d_D_variables_20 ?_
        refine j_top (v := nI ((5 * i) + q)) (nI_add (5 * i) q).symm ?_
        refine j_callVr (As := [.int (nI ((5 * i) + q))]) (rest := [.int (mVs u i q)]) (st1 := [.int (m_vo u (5 * i + q)), .int (mVs u i q)]) hC (r_vo l dC dI g k tl u (j := 5 * i + q) (by omega)) rfl rfl ww_D_84 yn_D_variablesOf (mw_obj g k u) rfl rfl d_D_variables_21 (Nat.le_of_ble_eq_true rfl) (by decide) ⟨Nat.zero_le _, Nat.zero_le _⟩ rfl ?_
        refine j_ior hC d_D_variables_24 ?_
        refine j_istore_n (lv' := [(0, .ref (g 0)), (1, .int (nI i)), (2, .int ((mVs u i q) ||| (m_vo u (5 * i + q)))), (3, .int (nI q))]) hC d_D_variables_25 rfl (by decide) rfl rfl ?_
        refine j_iinc (lv' := [(0, .ref (g 0)), (1, .int (nI i)), (2, .int ((mVs u i q) ||| (m_vo u (5 * i + q)))), (3, .int (nI (q + 1)))]) hC d_D_variables_26 3 rfl (nI_1 _) (by decide) rfl rfl ?_
        refine j_goto (tgt := 4) hC d_D_variables_29 (by decide) ?_
        exact ih (q + 1) (by omega) (by omega)
  refine j_iconst (v := 0) hC d_D_variables_0 (by decide) ?_
  refine j_istore_n (lv' := [(0, .ref (g 0)), (1, .int (nI i)), (2, .int 0)]) hC d_D_variables_1 rfl (by decide) rfl rfl ?_
  refine j_iconst (v := 0) hC d_D_variables_2 (by decide) ?_
  refine j_istore_n (lv' := [(0, .ref (g 0)), (1, .int (nI i)), (2, .int 0), (3, .int 0)]) hC d_D_variables_3 rfl (by decide) rfl rfl ?_
  exact loop 7 0 (by omega) (by omega)

set_option maxHeartbeats 4000000 in
set_option maxRecDepth 100000 in
theorem r_safe (l : Launch) (dC : Nat → ClassId) (dI : Nat → Nat → Nat) (g k : Nat → Nat) (tl : List (ClassId × FieldType)) (u : jU) {i : Nat} (hi : i < 16) (hc : inN (u 12 i) 5) : jMet l y_D_isSafe (.code y_D_isSafe c_D_isSafe 5 (some .boolean)) ({ frames := 1, cells := 0, slots := 0, locals := 22 }) (dC, dI) jcl (mtys k tl) jTs [.ref (g 0), .int (nI i)] (mw g k u) 0 0 (jRet (some (.int (mSafe u i))) (mw g k u)) := by
  refine jMet.of (by decide) (Nat.le_of_ble_eq_true rfl) ?_
  intro p e s m below meth c A hC hex hr hnm htr
  show jJ p l e ({ frames := 1, cells := 0, slots := 0, locals := 22 }) s m [.ref (g 0), .int (nI i)].toArray below meth c 5 (dC, dI) jcl A (hxQ below (jQ (dC, dI) jcl (jRet (some (.int (mSafe u i))) (mw g k u)) A) [.ref (g 0), .int (nI i)].toArray s 0 0 A) 0 0 (mw g k u) [(0, .ref (g 0)), (1, .int (nI i))] [] 0
  have hc5 := hc.2
  have loop : ∀ (n q : Nat), q ≤ tn (u 12 i) → tn (u 12 i) < q + n → jJ p l e ({ frames := 1, cells := 0, slots := 0, locals := 22 }) s m [.ref (g 0), .int (nI i)].toArray below meth c 5 (dC, dI) jcl A (hxQ below (jQ (dC, dI) jcl (jRet (some (.int (mSafe u i))) (mw g k u)) A) [.ref (g 0), .int (nI i)].toArray s 0 0 A) 0 0 (mw g k u) [(0, .ref (g 0)), (1, .int (nI i)), (2, .int ((mSf u i q).1)), (3, .int ((mSf u i q).2)), (4, .int (nI (q + 1)))] [] 13 := by
    intro n
    induction n with
    | zero => intro q h1 h2; exact absurd h2 (by omega)
    | succ n ih =>
      intro q hq hn
      refine j_iload hC d_D_isSafe_13 4 rfl ?_
      refine j_aload_n hC d_D_isSafe_15 rfl 0 rfl ?_
      refine j_get hC hin_D (0) (mw_obj g k u) rfl 6 (by decide) (hC.2.2.2.2.1 _ wf_D_20) (fun _ h9 => h9) rfl d_D_isSafe_16 ?_
      refine j_iload_n hC d_D_isSafe_19 rfl 1 rfl ?_
      refine j_ialdN hC (4) 0 (mw_counts g k u) rfl (n := i) (rfl) (by omega) (by decide) d_D_isSafe_20 ?_
      refine j_icmp_gt (tgt := 92) hC d_D_isSafe_21 (by decide) (fun h21 => ?_) (fun h21 => ?_)
      · have hgt : tn (u 12 i) < q + 1 := (inN_ltN hc (by decide) (by omega)).mp h21
        have hqe : q = tn (u 12 i) := by omega
        subst hqe
        refine j_iload_n hC d_D_isSafe_92 rfl 3 rfl ?_
        refine j_iload_n hC d_D_isSafe_93 rfl 2 rfl ?_
        refine j_iconst (v := -1) hC d_D_isSafe_94 (by decide) ?_
        refine j_ixor hC d_D_isSafe_95 ?_
        refine j_iand hC d_D_isSafe_96 ?_
        suffices hk97 : jJ p l e ({ frames := 1, cells := 0, slots := 0, locals := 22 }) s m [.ref (g 0), .int (nI i)].toArray below meth c 5 (dC, dI) jcl A (hxQ below (jQ (dC, dI) jcl (jRet (some (.int (mSafe u i))) (mw g k u)) A) [.ref (g 0), .int (nI i)].toArray s 0 0 A) 0 0 (mw g k u) [(0, .ref (g 0)), (1, .int (nI i)), (2, .int ((mSf u i (tn (u 12 i))).1)), (3, .int ((mSf u i (tn (u 12 i))).2)), (4, .int (nI ((tn (u 12 i)) + 1)))] [.int (if (((mSf u i (tn (u 12 i))).2) &&& (((mSf u i (tn (u 12 i))).1) ^^^ (-1))) = 0 then (1 : Int32) else (0 : Int32))] 105 by
          refine j_if_ne (tgt := 104) hC d_D_isSafe_97 (by decide) (fun h97 => ?_) (fun h97 => ?_)
          · refine j_iconst (v := 0) hC d_D_isSafe_104 (by decide) ?_
            exact j_top ((if_neg h97)) hk97
          · refine j_iconst (v := 1) hC d_D_isSafe_100 (by decide) ?_
            refine j_goto (tgt := 105) hC d_D_isSafe_101 (by decide) ?_
            exact j_top ((if_pos h97)) hk97
        exact j_zret hC hr (by repeat' (first | rfl | split)) ⟨rfl, rfl, rfl⟩ d_D_isSafe_105
      · have hle : q + 1 ≤ tn (u 12 i) := Nat.not_lt.mp (fun z => h21 ((inN_ltN hc (by decide) (by omega)).mpr z))
        refine j_aload_n hC d_D_isSafe_24 rfl 0 rfl ?_
        refine j_get hC hin_D (0) (mw_obj g k u) rfl 10 (by decide) (hC.2.2.2.2.1 _ wf_D_32) (fun _ h9 => h9) rfl d_D_isSafe_25 ?_
        refine j_iconst (v := 5) hC d_D_isSafe_28 (by decide) ?_
        refine j_iload_n hC d_D_isSafe_29 rfl 1 rfl ?_
        refine j_imul hC d_D_isSafe_30 ?_
        refine j_top (v := nI (5 * i)) (pk_mul 5 i).symm ?_
        refine j_iload hC d_D_isSafe_31 4 rfl ?_
        refine j_iadd hC d_D_isSafe_33 ?_
        refine j_top (v := nI ((5 * i) + (q + 1))) (nI_add (5 * i) (q + 1)).symm ?_
        refine j_zaldN hC (8) 3 (mw_negated g k u) rfl (n := (5 * i) + (q + 1)) (rfl) (by omega) (by decide) d_D_isSafe_34 ?_
        suffices hk35 : jJ p l e ({ frames := 1, cells := 0, slots := 0, locals := 22 }) s m [.ref (g 0), .int (nI i)].toArray below meth c 5 (dC, dI) jcl A (hxQ below (jQ (dC, dI) jcl (jRet (some (.int (mSafe u i))) (mw g k u)) A) [.ref (g 0), .int (nI i)].toArray s 0 0 A) 0 0 (mw g k u) [(0, .ref (g 0)), (1, .int (nI i)), (2, .int ((mSf u i q).1)), (3, .int ((mSf u i q).2)), (4, .int (nI (q + 1)))] [.int (if (u 19 ((5 * i) + (q + 1))) = 0 then (((mSf u i q).1) ||| (m_vo u (5 * i + (q + 1)))) else ((mSf u i q).1))] 54 by
          refine j_if_eq (tgt := 42) hC d_D_isSafe_35 (by decide) (fun h35 => ?_) (fun h35 => ?_)
          · refine j_iload_n hC d_D_isSafe_42 rfl 2 rfl ?_
            refine j_aload_n hC d_D_isSafe_43 rfl 0 rfl ?_
            refine j_iconst (v := 5) hC d_D_isSafe_44 (by decide) ?_
            refine j_iload_n hC d_D_isSafe_45 rfl 1 rfl ?_
            refine j_imul hC d_D_isSafe_46 ?_
            refine j_top (v := nI (5 * i)) (pk_mul 5 i).symm ?_
            refine j_iload hC d_D_isSafe_47 4 rfl ?_
            refine j_iadd hC d_D_isSafe_49 ?_
            refine j_top (v := nI ((5 * i) + (q + 1))) (nI_add (5 * i) (q + 1)).symm ?_
            refine j_callVr (As := [.int (nI ((5 * i) + (q + 1)))]) (rest := [.int ((mSf u i q).1)]) (st1 := [.int (m_vo u (5 * i + (q + 1))), .int ((mSf u i q).1)]) hC (r_vo l dC dI g k tl u (j := 5 * i + (q + 1)) (by omega)) rfl rfl ww_D_84 yn_D_variablesOf (mw_obj g k u) rfl rfl d_D_isSafe_50 (Nat.le_of_ble_eq_true rfl) (by decide) ⟨Nat.zero_le _, Nat.zero_le _⟩ rfl ?_
            refine j_ior hC d_D_isSafe_53 ?_
            exact j_top ((if_pos h35)) hk35
          · refine j_iload_n hC d_D_isSafe_38 rfl 2 rfl ?_
            refine j_goto (tgt := 54) hC d_D_isSafe_39 (by decide) ?_
            exact j_top ((if_neg h35)) hk35
        refine j_istore_n (lv' := [(0, .ref (g 0)), (1, .int (nI i)), (2, .int (if (u 19 ((5 * i) + (q + 1))) = 0 then (((mSf u i q).1) ||| (m_vo u (5 * i + (q + 1)))) else ((mSf u i q).1))), (3, .int ((mSf u i q).2)), (4, .int (nI (q + 1)))]) hC d_D_isSafe_54 rfl (by decide) rfl rfl ?_
        refine j_aload_n hC d_D_isSafe_55 rfl 0 rfl ?_
        refine j_get hC hin_D (0) (mw_obj g k u) rfl 10 (by decide) (hC.2.2.2.2.1 _ wf_D_32) (fun _ h9 => h9) rfl d_D_isSafe_56 ?_
        refine j_iconst (v := 5) hC d_D_isSafe_59 (by decide) ?_
        refine j_iload_n hC d_D_isSafe_60 rfl 1 rfl ?_
        refine j_imul hC d_D_isSafe_61 ?_
        refine j_top (v := nI (5 * i)) (pk_mul 5 i).symm ?_
        refine j_iload hC d_D_isSafe_62 4 rfl ?_
        refine j_iadd hC d_D_isSafe_64 ?_
        refine j_top (v := nI ((5 * i) + (q + 1))) (nI_add (5 * i) (q + 1)).symm ?_
        refine j_zaldN hC (8) 3 (mw_negated g k u) rfl (n := (5 * i) + (q + 1)) (rfl) (by omega) (by decide) d_D_isSafe_65 ?_
        suffices hk66 : jJ p l e ({ frames := 1, cells := 0, slots := 0, locals := 22 }) s m [.ref (g 0), .int (nI i)].toArray below meth c 5 (dC, dI) jcl A (hxQ below (jQ (dC, dI) jcl (jRet (some (.int (mSafe u i))) (mw g k u)) A) [.ref (g 0), .int (nI i)].toArray s 0 0 A) 0 0 (mw g k u) [(0, .ref (g 0)), (1, .int (nI i)), (2, .int (if (u 19 ((5 * i) + (q + 1))) = 0 then (((mSf u i q).1) ||| (m_vo u (5 * i + (q + 1)))) else ((mSf u i q).1))), (3, .int ((mSf u i q).2)), (4, .int (nI (q + 1)))] [.int (if (u 19 ((5 * i) + (q + 1))) = 0 then ((mSf u i q).2) else (((mSf u i q).2) ||| (m_vo u (5 * i + (q + 1)))))] 85 by
          refine j_if_eq (tgt := 84) hC d_D_isSafe_66 (by decide) (fun h66 => ?_) (fun h66 => ?_)
          · refine j_iload_n hC d_D_isSafe_84 rfl 3 rfl ?_
            exact j_top ((if_pos h66)) hk66
          · refine j_iload_n hC d_D_isSafe_69 rfl 3 rfl ?_
            refine j_aload_n hC d_D_isSafe_70 rfl 0 rfl ?_
            refine j_iconst (v := 5) hC d_D_isSafe_71 (by decide) ?_
            refine j_iload_n hC d_D_isSafe_72 rfl 1 rfl ?_
            refine j_imul hC d_D_isSafe_73 ?_
            refine j_top (v := nI (5 * i)) (pk_mul 5 i).symm ?_
            refine j_iload hC d_D_isSafe_74 4 rfl ?_
            refine j_iadd hC d_D_isSafe_76 ?_
            refine j_top (v := nI ((5 * i) + (q + 1))) (nI_add (5 * i) (q + 1)).symm ?_
            refine j_callVr (As := [.int (nI ((5 * i) + (q + 1)))]) (rest := [.int ((mSf u i q).2)]) (st1 := [.int (m_vo u (5 * i + (q + 1))), .int ((mSf u i q).2)]) hC (r_vo l dC dI g k tl u (j := 5 * i + (q + 1)) (by omega)) rfl rfl ww_D_84 yn_D_variablesOf (mw_obj g k u) rfl rfl d_D_isSafe_77 (Nat.le_of_ble_eq_true rfl) (by decide) ⟨Nat.zero_le _, Nat.zero_le _⟩ rfl ?_
            refine j_ior hC d_D_isSafe_80 ?_
            refine j_goto (tgt := 85) hC d_D_isSafe_81 (by decide) ?_
            exact j_top ((if_neg h66)) hk66
        refine j_istore_n (lv' := [(0, .ref (g 0)), (1, .int (nI i)), (2, .int (if (u 19 ((5 * i) + (q + 1))) = 0 then (((mSf u i q).1) ||| (m_vo u (5 * i + (q + 1)))) else ((mSf u i q).1))), (3, .int (if (u 19 ((5 * i) + (q + 1))) = 0 then ((mSf u i q).2) else (((mSf u i q).2) ||| (m_vo u (5 * i + (q + 1)))))), (4, .int (nI (q + 1)))]) hC d_D_isSafe_85 rfl (by decide) rfl rfl ?_
        refine j_iinc (lv' := [(0, .ref (g 0)), (1, .int (nI i)), (2, .int (if (u 19 ((5 * i) + (q + 1))) = 0 then (((mSf u i q).1) ||| (m_vo u (5 * i + (q + 1)))) else ((mSf u i q).1))), (3, .int (if (u 19 ((5 * i) + (q + 1))) = 0 then ((mSf u i q).2) else (((mSf u i q).2) ||| (m_vo u (5 * i + (q + 1)))))), (4, .int (nI (q + 1 + 1)))]) hC d_D_isSafe_86 4 rfl (nI_1 _) (by decide) rfl rfl ?_
        refine j_goto (tgt := 13) hC d_D_isSafe_89 (by decide) ?_
        exact ih (q + 1) (by omega) (by omega)
  refine j_iconst (v := 0) hC d_D_isSafe_0 (by decide) ?_
  refine j_istore_n (lv' := [(0, .ref (g 0)), (1, .int (nI i)), (2, .int 0)]) hC d_D_isSafe_1 rfl (by decide) rfl rfl ?_
  refine j_aload_n hC d_D_isSafe_2 rfl 0 rfl ?_
  refine j_iconst (v := 5) hC d_D_isSafe_3 (by decide) ?_
  refine j_iload_n hC d_D_isSafe_4 rfl 1 rfl ?_
  refine j_imul hC d_D_isSafe_5 ?_
  refine j_top (v := nI (5 * i)) (pk_mul 5 i).symm ?_
  refine j_callVr (As := [.int (nI (5 * i))]) (rest := []) (st1 := [.int (m_vo u (5 * i))]) hC (r_vo l dC dI g k tl u (j := 5 * i) (by omega)) rfl rfl ww_D_84 yn_D_variablesOf (mw_obj g k u) rfl rfl d_D_isSafe_6 (Nat.le_of_ble_eq_true rfl) (by decide) ⟨Nat.zero_le _, Nat.zero_le _⟩ rfl ?_
  refine j_istore_n (lv' := [(0, .ref (g 0)), (1, .int (nI i)), (2, .int 0), (3, .int (m_vo u (5 * i)))]) hC d_D_isSafe_9 rfl (by decide) rfl rfl ?_
  refine j_iconst (v := 1) hC d_D_isSafe_10 (by decide) ?_
  refine j_istore (lv' := [(0, .ref (g 0)), (1, .int (nI i)), (2, .int 0), (3, .int (m_vo u (5 * i))), (4, .int 1)]) hC d_D_isSafe_11 (by decide) rfl rfl ?_
  exact loop 6 0 (by omega) (by omega)

set_option maxHeartbeats 4000000 in
set_option maxRecDepth 100000 in
theorem r_raise (l : Launch) (dC : Nat → ClassId) (dI : Nat → Nat → Nat) (g k : Nat → Nat) (tl : List (ClassId × FieldType)) (u : jU) {i : Nat} (hi : i < 16) (hD : wfD u) : jMet l y_D_raise (.code y_D_raise c_D_raise 7 (some .boolean)) ({ frames := 0, cells := 0, slots := 0, locals := 0 }) (dC, dI) jcl (mtys k tl) jTs [.ref (g 0), .int (nI i)] (mw g k u) 0 0 (jRet (some (.int ((mRaise u i).1))) (mw g k ((mRaise u i).2))) := by
  refine jMet.of (by decide) (Nat.le_of_ble_eq_true rfl) ?_
  intro p e s m below meth c A hC hex hr hnm htr
  show jJ p l e ({ frames := 0, cells := 0, slots := 0, locals := 0 }) s m [.ref (g 0), .int (nI i)].toArray below meth c 7 (dC, dI) jcl A (hxQ below (jQ (dC, dI) jcl (jRet (some (.int ((mRaise u i).1))) (mw g k ((mRaise u i).2))) A) [.ref (g 0), .int (nI i)].toArray s 0 0 A) 0 0 (mw g k u) [(0, .ref (g 0)), (1, .int (nI i))] [] 0
  have hc := hD.2.2.1 i hi
  have hc5 := hc.2
  have loop : ∀ (n q : Nat), q ≤ tn (u 12 i) → tn (u 12 i) < q + n → jJ p l e ({ frames := 0, cells := 0, slots := 0, locals := 0 }) s m [.ref (g 0), .int (nI i)].toArray below meth c 7 (dC, dI) jcl A (hxQ below (jQ (dC, dI) jcl (jRet (some (.int ((mRaise u i).1))) (mw g k ((mRaise u i).2))) A) [.ref (g 0), .int (nI i)].toArray s 0 0 A) 0 0 (mw g k u) [(0, .ref (g 0)), (1, .int (nI i)), (2, .int (u 16 (5 * i))), (3, .int (mLe u i q)), (4, .int (nI (q + 1)))] [] 14 := by
    intro n
    induction n with
    | zero => intro q h1 h2; exact absurd h2 (by omega)
    | succ n ih =>
      intro q hq hn
      refine j_iload hC d_D_raise_14 4 rfl ?_
      refine j_aload_n hC d_D_raise_16 rfl 0 rfl ?_
      refine j_get hC hin_D (0) (mw_obj g k u) rfl 6 (by decide) (hC.2.2.2.2.1 _ wf_D_20) (fun _ h9 => h9) rfl d_D_raise_17 ?_
      refine j_iload_n hC d_D_raise_20 rfl 1 rfl ?_
      refine j_ialdN hC (4) 0 (mw_counts g k u) rfl (n := i) (rfl) (by omega) (by decide) d_D_raise_21 ?_
      refine j_icmp_gt (tgt := 82) hC d_D_raise_22 (by decide) (fun h22 => ?_) (fun h22 => ?_)
      · have hgt : tn (u 12 i) < q + 1 := (inN_ltN hc (by decide) (by omega)).mp h22
        have hqe : q = tn (u 12 i) := by omega
        subst hqe
        refine j_aload_n hC d_D_raise_82 rfl 0 rfl ?_
        refine j_get hC hin_D (0) (mw_obj g k u) rfl 11 (by decide) (hC.2.2.2.2.1 _ wf_D_35) (fun _ h9 => h9) rfl d_D_raise_83 ?_
        refine j_iload_n hC d_D_raise_86 rfl 2 rfl ?_
        refine j_ialdN hC (9) 0 (mw_layers g k u) rfl (n := tn (u 16 (5 * i))) ((hD.2.2.2.1 (5 * i) (by omega)).1.1) ((hD.2.2.2.1 (5 * i) (by omega)).1.2) (by decide) d_D_raise_87 ?_
        refine j_iload_n hC d_D_raise_88 rfl 3 rfl ?_
        suffices hk89 : jJ p l e ({ frames := 0, cells := 0, slots := 0, locals := 0 }) s m [.ref (g 0), .int (nI i)].toArray below meth c 7 (dC, dI) jcl A (hxQ below (jQ (dC, dI) jcl (jRet (some (.int ((mRaise u i).1))) (mw g k ((mRaise u i).2))) A) [.ref (g 0), .int (nI i)].toArray s 0 0 A) 0 0 (mw g k u) [(0, .ref (g 0)), (1, .int (nI i)), (2, .int (u 16 (5 * i))), (3, .int (mLe u i (tn (u 12 i)))), (4, .int (nI ((tn (u 12 i)) + 1)))] [.int (if (mLe u i (tn (u 12 i))) ≤ (u 3 (tn (u 16 (5 * i)))) then (0 : Int32) else (1 : Int32))] 97 by
          refine j_icmp_ge (tgt := 96) hC d_D_raise_89 (by decide) (fun h89 => ?_) (fun h89 => ?_)
          · refine j_iconst (v := 0) hC d_D_raise_96 (by decide) ?_
            exact j_top ((if_pos h89)) hk89
          · refine j_iconst (v := 1) hC d_D_raise_92 (by decide) ?_
            refine j_goto (tgt := 97) hC d_D_raise_93 (by decide) ?_
            exact j_top ((if_neg h89)) hk89
        refine j_istore (lv' := [(0, .ref (g 0)), (1, .int (nI i)), (2, .int (u 16 (5 * i))), (3, .int (mLe u i (tn (u 12 i)))), (4, .int (mLow u i))]) hC d_D_raise_97 (by decide) rfl rfl ?_
        refine j_aload_n hC d_D_raise_99 rfl 0 rfl ?_
        refine j_get hC hin_D (0) (mw_obj g k u) rfl 11 (by decide) (hC.2.2.2.2.1 _ wf_D_35) (fun _ h9 => h9) rfl d_D_raise_100 ?_
        refine j_iload_n hC d_D_raise_103 rfl 2 rfl ?_
        refine j_iload hC d_D_raise_104 4 rfl ?_
        suffices hk106 : jJ p l e ({ frames := 0, cells := 0, slots := 0, locals := 0 }) s m [.ref (g 0), .int (nI i)].toArray below meth c 7 (dC, dI) jcl A (hxQ below (jQ (dC, dI) jcl (jRet (some (.int ((mRaise u i).1))) (mw g k ((mRaise u i).2))) A) [.ref (g 0), .int (nI i)].toArray s 0 0 A) 0 0 (mw g k u) [(0, .ref (g 0)), (1, .int (nI i)), (2, .int (u 16 (5 * i))), (3, .int (mLe u i (tn (u 12 i)))), (4, .int (mLow u i))] [.int (if (mLow u i) = 0 then (u 3 (tn (u 16 (5 * i)))) else (mLe u i (tn (u 12 i)))), .int (u 16 (5 * i)), .ref (g 9)] 119 by
          refine j_if_eq (tgt := 113) hC d_D_raise_106 (by decide) (fun h106 => ?_) (fun h106 => ?_)
          · refine j_aload_n hC d_D_raise_113 rfl 0 rfl ?_
            refine j_get hC hin_D (0) (mw_obj g k u) rfl 11 (by decide) (hC.2.2.2.2.1 _ wf_D_35) (fun _ h9 => h9) rfl d_D_raise_114 ?_
            refine j_iload_n hC d_D_raise_117 rfl 2 rfl ?_
            refine j_ialdN hC (9) 0 (mw_layers g k u) rfl (n := tn (u 16 (5 * i))) ((hD.2.2.2.1 (5 * i) (by omega)).1.1) ((hD.2.2.2.1 (5 * i) (by omega)).1.2) (by decide) d_D_raise_118 ?_
            exact j_top ((if_pos h106)) hk106
          · refine j_iload_n hC d_D_raise_109 rfl 3 rfl ?_
            refine j_goto (tgt := 119) hC d_D_raise_110 (by decide) ?_
            exact j_top ((if_neg h106)) hk106
        refine j_iastN (ws' := mw g k (up u 3 (tn (u 16 (5 * i))) (if (mLow u i) = 0 then (u 3 (tn (u 16 (5 * i)))) else (mLe u i (tn (u 12 i)))))) hC (9) 0 (mw_layers g k u) rfl (n := tn (u 16 (5 * i))) ((hD.2.2.2.1 (5 * i) (by omega)).1.1) ((hD.2.2.2.1 (5 * i) (by omega)).1.2) (by decide) (mw_set_layers g k u (tn (u 16 (5 * i))) (if (mLow u i) = 0 then (u 3 (tn (u 16 (5 * i)))) else (mLe u i (tn (u 12 i))))) d_D_raise_119 ?_
        refine j_iload hC d_D_raise_120 4 rfl ?_
        exact j_zret hC hr (z01_n (mLow_01 u i)) ⟨rfl, rfl, rfl⟩ d_D_raise_122
      · have hle : q + 1 ≤ tn (u 12 i) := Nat.not_lt.mp (fun z => h22 ((inN_ltN hc (by decide) (by omega)).mpr z))
        refine j_iconst (v := 5) hC d_D_raise_25 (by decide) ?_
        refine j_iload_n hC d_D_raise_26 rfl 1 rfl ?_
        refine j_imul hC d_D_raise_27 ?_
        refine j_top (v := nI (5 * i)) (pk_mul 5 i).symm ?_
        refine j_iload hC d_D_raise_28 4 rfl ?_
        refine j_iadd hC d_D_raise_30 ?_
        refine j_top (v := nI ((5 * i) + (q + 1))) (nI_add (5 * i) (q + 1)).symm ?_
        refine j_istore (lv' := [(0, .ref (g 0)), (1, .int (nI i)), (2, .int (u 16 (5 * i))), (3, .int (mLe u i q)), (4, .int (nI (q + 1))), (5, .int (nI ((5 * i) + (q + 1))))]) hC d_D_raise_31 (by decide) rfl rfl ?_
        refine j_aload_n hC d_D_raise_33 rfl 0 rfl ?_
        refine j_get hC hin_D (0) (mw_obj g k u) rfl 11 (by decide) (hC.2.2.2.2.1 _ wf_D_35) (fun _ h9 => h9) rfl d_D_raise_34 ?_
        refine j_aload_n hC d_D_raise_37 rfl 0 rfl ?_
        refine j_get hC hin_D (0) (mw_obj g k u) rfl 7 (by decide) (hC.2.2.2.2.1 _ wf_D_23) (fun _ h9 => h9) rfl d_D_raise_38 ?_
        refine j_iload hC d_D_raise_41 5 rfl ?_
        refine j_ialdN hC (5) 0 (mw_of g k u) rfl (n := (5 * i) + (q + 1)) (rfl) (by omega) (by decide) d_D_raise_43 ?_
        refine j_ialdN hC (9) 0 (mw_layers g k u) rfl (n := tn (u 16 (5 * i + (q + 1)))) ((hD.2.2.2.1 (5 * i + (q + 1)) (by omega)).1.1) ((hD.2.2.2.1 (5 * i + (q + 1)) (by omega)).1.2) (by decide) d_D_raise_44 ?_
        refine j_aload_n hC d_D_raise_45 rfl 0 rfl ?_
        refine j_get hC hin_D (0) (mw_obj g k u) rfl 10 (by decide) (hC.2.2.2.2.1 _ wf_D_32) (fun _ h9 => h9) rfl d_D_raise_46 ?_
        refine j_iload hC d_D_raise_49 5 rfl ?_
        refine j_zaldN hC (8) 3 (mw_negated g k u) rfl (n := (5 * i) + (q + 1)) (rfl) (by omega) (by decide) d_D_raise_51 ?_
        suffices hk52 : jJ p l e ({ frames := 0, cells := 0, slots := 0, locals := 0 }) s m [.ref (g 0), .int (nI i)].toArray below meth c 7 (dC, dI) jcl A (hxQ below (jQ (dC, dI) jcl (jRet (some (.int ((mRaise u i).1))) (mw g k ((mRaise u i).2))) A) [.ref (g 0), .int (nI i)].toArray s 0 0 A) 0 0 (mw g k u) [(0, .ref (g 0)), (1, .int (nI i)), (2, .int (u 16 (5 * i))), (3, .int (mLe u i q)), (4, .int (nI (q + 1))), (5, .int (nI ((5 * i) + (q + 1))))] [.int (if (u 19 ((5 * i) + (q + 1))) = 0 then (0 : Int32) else (1 : Int32)), .int (u 3 (tn (u 16 (5 * i + (q + 1)))))] 60 by
          refine j_if_eq (tgt := 59) hC d_D_raise_52 (by decide) (fun h52 => ?_) (fun h52 => ?_)
          · refine j_iconst (v := 0) hC d_D_raise_59 (by decide) ?_
            exact j_top ((if_pos h52)) hk52
          · refine j_iconst (v := 1) hC d_D_raise_55 (by decide) ?_
            refine j_goto (tgt := 60) hC d_D_raise_56 (by decide) ?_
            exact j_top ((if_neg h52)) hk52
        refine j_iadd hC d_D_raise_60 ?_
        refine j_istore (lv' := [(0, .ref (g 0)), (1, .int (nI i)), (2, .int (u 16 (5 * i))), (3, .int (mLe u i q)), (4, .int (nI (q + 1))), (5, .int (nI ((5 * i) + (q + 1)))), (6, .int (mLy u (5 * i + (q + 1))))]) hC d_D_raise_61 (by decide) rfl rfl ?_
        refine j_iload hC d_D_raise_63 6 rfl ?_
        refine j_iload_n hC d_D_raise_65 rfl 3 rfl ?_
        suffices hk66 : jJ p l e ({ frames := 0, cells := 0, slots := 0, locals := 0 }) s m [.ref (g 0), .int (nI i)].toArray below meth c 7 (dC, dI) jcl A (hxQ below (jQ (dC, dI) jcl (jRet (some (.int ((mRaise u i).1))) (mw g k ((mRaise u i).2))) A) [.ref (g 0), .int (nI i)].toArray s 0 0 A) 0 0 (mw g k u) [(0, .ref (g 0)), (1, .int (nI i)), (2, .int (u 16 (5 * i))), (3, .int (mLe u i q)), (4, .int (nI (q + 1))), (5, .int (nI ((5 * i) + (q + 1)))), (6, .int (mLy u (5 * i + (q + 1))))] [.int (if (mLy u (5 * i + (q + 1))) ≤ (mLe u i q) then (mLe u i q) else (mLy u (5 * i + (q + 1))))] 75 by
          refine j_icmp_le (tgt := 74) hC d_D_raise_66 (by decide) (fun h66 => ?_) (fun h66 => ?_)
          · refine j_iload_n hC d_D_raise_74 rfl 3 rfl ?_
            exact j_top ((if_pos h66)) hk66
          · refine j_iload hC d_D_raise_69 6 rfl ?_
            refine j_goto (tgt := 75) hC d_D_raise_71 (by decide) ?_
            exact j_top ((if_neg h66)) hk66
        refine j_istore_n (lv' := [(0, .ref (g 0)), (1, .int (nI i)), (2, .int (u 16 (5 * i))), (3, .int (if (mLy u (5 * i + (q + 1))) ≤ (mLe u i q) then (mLe u i q) else (mLy u (5 * i + (q + 1))))), (4, .int (nI (q + 1))), (5, .int (nI ((5 * i) + (q + 1)))), (6, .int (mLy u (5 * i + (q + 1))))]) hC d_D_raise_75 rfl (by decide) rfl rfl ?_
        refine j_iinc (lv' := [(0, .ref (g 0)), (1, .int (nI i)), (2, .int (u 16 (5 * i))), (3, .int (if (mLy u (5 * i + (q + 1))) ≤ (mLe u i q) then (mLe u i q) else (mLy u (5 * i + (q + 1))))), (4, .int (nI (q + 1 + 1))), (5, .int (nI ((5 * i) + (q + 1)))), (6, .int (mLy u (5 * i + (q + 1))))]) hC d_D_raise_76 4 rfl (nI_1 _) (by decide) rfl rfl ?_
        refine j_goto (tgt := 14) hC d_D_raise_79 (by decide) ?_
        exact j_locals [0, 1, 2, 3, 4] rfl (ih (q + 1) (by omega) (by omega))
  refine j_aload_n hC d_D_raise_0 rfl 0 rfl ?_
  refine j_get hC hin_D (0) (mw_obj g k u) rfl 7 (by decide) (hC.2.2.2.2.1 _ wf_D_23) (fun _ h9 => h9) rfl d_D_raise_1 ?_
  refine j_iconst (v := 5) hC d_D_raise_4 (by decide) ?_
  refine j_iload_n hC d_D_raise_5 rfl 1 rfl ?_
  refine j_imul hC d_D_raise_6 ?_
  refine j_top (v := nI (5 * i)) (pk_mul 5 i).symm ?_
  refine j_ialdN hC (5) 0 (mw_of g k u) rfl (n := 5 * i) (rfl) (by omega) (by decide) d_D_raise_7 ?_
  refine j_istore_n (lv' := [(0, .ref (g 0)), (1, .int (nI i)), (2, .int (u 16 (5 * i)))]) hC d_D_raise_8 rfl (by decide) rfl rfl ?_
  refine j_iconst (v := 0) hC d_D_raise_9 (by decide) ?_
  refine j_istore_n (lv' := [(0, .ref (g 0)), (1, .int (nI i)), (2, .int (u 16 (5 * i))), (3, .int 0)]) hC d_D_raise_10 rfl (by decide) rfl rfl ?_
  refine j_iconst (v := 1) hC d_D_raise_11 (by decide) ?_
  refine j_istore (lv' := [(0, .ref (g 0)), (1, .int (nI i)), (2, .int (u 16 (5 * i))), (3, .int 0), (4, .int 1)]) hC d_D_raise_12 (by decide) rfl rfl ?_
  exact loop 6 0 (by omega) (by omega)

set_option maxHeartbeats 4000000 in
set_option maxRecDepth 100000 in
theorem r_met (l : Launch) (dC : Nat → ClassId) (dI : Nat → Nat → Nat) (g k : Nat → Nat) (tl : List (ClassId × FieldType)) (u : jU) {i : Nat} (hi : i < 16) (hD : wfD u) : jMet l y_D_isMet (.code y_D_isMet c_D_isMet 5 (some .boolean)) ({ frames := 2, cells := 0, slots := 0, locals := 42 }) (dC, dI) jcl (mtys k tl) jTs [.ref (g 0), .int (nI i)] (mw g k u) 0 0 (jRet (some (.int (mMet u i))) (mw g k u)) := by
  refine jMet.of (by decide) (Nat.le_of_ble_eq_true rfl) ?_
  intro p e s m below meth c A hC hex hr hnm htr
  show jJ p l e ({ frames := 2, cells := 0, slots := 0, locals := 42 }) s m [.ref (g 0), .int (nI i)].toArray below meth c 5 (dC, dI) jcl A (hxQ below (jQ (dC, dI) jcl (jRet (some (.int (mMet u i))) (mw g k u)) A) [.ref (g 0), .int (nI i)].toArray s 0 0 A) 0 0 (mw g k u) [(0, .ref (g 0)), (1, .int (nI i))] [] 0
  have hc := hD.2.2.1 i hi
  have hc5 := hc.2
  have loop : ∀ (n q : Nat), q ≤ tn (u 12 i) → tn (u 12 i) < q + n → jJ p l e ({ frames := 2, cells := 0, slots := 0, locals := 42 }) s m [.ref (g 0), .int (nI i)].toArray below meth c 5 (dC, dI) jcl A (hxQ below (jQ (dC, dI) jcl (jRet (some (.int (mMet u i))) (mw g k u)) A) [.ref (g 0), .int (nI i)].toArray s 0 0 A) 0 0 (mw g k u) [(0, .ref (g 0)), (1, .int (nI i)), (2, .int (mMt u i q)), (3, .int (nI (q + 1)))] [] 4 := by
    intro n
    induction n with
    | zero => intro q h1 h2; exact absurd h2 (by omega)
    | succ n ih =>
      intro q hq hn
      refine j_iload_n hC d_D_isMet_4 rfl 3 rfl ?_
      refine j_aload_n hC d_D_isMet_5 rfl 0 rfl ?_
      refine j_get hC hin_D (0) (mw_obj g k u) rfl 6 (by decide) (hC.2.2.2.2.1 _ wf_D_20) (fun _ h9 => h9) rfl d_D_isMet_6 ?_
      refine j_iload_n hC d_D_isMet_9 rfl 1 rfl ?_
      refine j_ialdN hC (4) 0 (mw_counts g k u) rfl (n := i) (rfl) (by omega) (by decide) d_D_isMet_10 ?_
      refine j_icmp_gt (tgt := 57) hC d_D_isMet_11 (by decide) (fun h11 => ?_) (fun h11 => ?_)
      · have hgt : tn (u 12 i) < q + 1 := (inN_ltN hc (by decide) (by omega)).mp h11
        have hqe : q = tn (u 12 i) := by omega
        subst hqe
        refine j_iload_n hC d_D_isMet_57 rfl 2 rfl ?_
        exact j_zret hC hr (z01_n (mMt_01 u i _)) ⟨rfl, rfl, rfl⟩ d_D_isMet_58
      · have hle : q + 1 ≤ tn (u 12 i) := Nat.not_lt.mp (fun z => h11 ((inN_ltN hc (by decide) (by omega)).mpr z))
        refine j_iconst (v := 5) hC d_D_isMet_14 (by decide) ?_
        refine j_iload_n hC d_D_isMet_15 rfl 1 rfl ?_
        refine j_imul hC d_D_isMet_16 ?_
        refine j_top (v := nI (5 * i)) (pk_mul 5 i).symm ?_
        refine j_iload_n hC d_D_isMet_17 rfl 3 rfl ?_
        refine j_iadd hC d_D_isMet_18 ?_
        refine j_top (v := nI ((5 * i) + (q + 1))) (nI_add (5 * i) (q + 1)).symm ?_
        refine j_istore (lv' := [(0, .ref (g 0)), (1, .int (nI i)), (2, .int (mMt u i q)), (3, .int (nI (q + 1))), (4, .int (nI ((5 * i) + (q + 1))))]) hC d_D_isMet_19 (by decide) rfl rfl ?_
        refine j_iload_n hC d_D_isMet_21 rfl 2 rfl ?_
        suffices hk22 : jJ p l e ({ frames := 2, cells := 0, slots := 0, locals := 42 }) s m [.ref (g 0), .int (nI i)].toArray below meth c 5 (dC, dI) jcl A (hxQ below (jQ (dC, dI) jcl (jRet (some (.int (mMet u i))) (mw g k u)) A) [.ref (g 0), .int (nI i)].toArray s 0 0 A) 0 0 (mw g k u) [(0, .ref (g 0)), (1, .int (nI i)), (2, .int (mMt u i q)), (3, .int (nI (q + 1))), (4, .int (nI ((5 * i) + (q + 1))))] [.int (if (mMt u i q) = 0 then (0 : Int32) else (if (m_holds u (mFact u (5 * i + (q + 1)))) = (u 19 ((5 * i) + (q + 1))) then (0 : Int32) else (1 : Int32)))] 50 by
          refine j_if_eq (tgt := 49) hC d_D_isMet_22 (by decide) (fun h22 => ?_) (fun h22 => ?_)
          · refine j_iconst (v := 0) hC d_D_isMet_49 (by decide) ?_
            exact j_top ((if_pos h22)) hk22
          · refine j_aload_n hC d_D_isMet_25 rfl 0 rfl ?_
            refine j_aload_n hC d_D_isMet_26 rfl 0 rfl ?_
            refine j_iload hC d_D_isMet_27 4 rfl ?_
            refine j_callVr (As := [.int (nI ((5 * i) + (q + 1)))]) (rest := [.ref (g 0)]) (st1 := [.int (nI (mFact u (5 * i + (q + 1)))), .ref (g 0)]) hC (r_factOf l dC dI g k tl u (j := 5 * i + (q + 1)) (by omega) ((hD.2.2.2.1 (5 * i + (q + 1)) (by omega))) hD.2.2.2.2.1) rfl rfl ww_D_100 yn_D_factOf (mw_obj g k u) rfl rfl d_D_isMet_29 (Nat.le_of_ble_eq_true rfl) (by decide) ⟨Nat.zero_le _, Nat.zero_le _⟩ rfl ?_
            refine j_callVr (As := [.int (nI (mFact u (5 * i + (q + 1))))]) (rest := []) (st1 := [.int (m_holds u (mFact u (5 * i + (q + 1))))]) hC (r_holds l dC dI g k tl u (f := mFact u (5 * i + (q + 1))) (mFact_lt (hD.2.2.2.1 (5 * i + (q + 1)) (by omega)) hD.2.2.2.2.1)) rfl rfl ww_D_103 yn_D_holds (mw_obj g k u) rfl rfl d_D_isMet_32 (Nat.le_of_ble_eq_true rfl) (by decide) ⟨Nat.zero_le _, Nat.zero_le _⟩ rfl ?_
            refine j_aload_n hC d_D_isMet_35 rfl 0 rfl ?_
            refine j_get hC hin_D (0) (mw_obj g k u) rfl 10 (by decide) (hC.2.2.2.2.1 _ wf_D_32) (fun _ h9 => h9) rfl d_D_isMet_36 ?_
            refine j_iload hC d_D_isMet_39 4 rfl ?_
            refine j_zaldN hC (8) 3 (mw_negated g k u) rfl (n := (5 * i) + (q + 1)) (rfl) (by omega) (by decide) d_D_isMet_41 ?_
            suffices hk42 : jJ p l e ({ frames := 2, cells := 0, slots := 0, locals := 42 }) s m [.ref (g 0), .int (nI i)].toArray below meth c 5 (dC, dI) jcl A (hxQ below (jQ (dC, dI) jcl (jRet (some (.int (mMet u i))) (mw g k u)) A) [.ref (g 0), .int (nI i)].toArray s 0 0 A) 0 0 (mw g k u) [(0, .ref (g 0)), (1, .int (nI i)), (2, .int (mMt u i q)), (3, .int (nI (q + 1))), (4, .int (nI ((5 * i) + (q + 1))))] [.int (if (m_holds u (mFact u (5 * i + (q + 1)))) = (u 19 ((5 * i) + (q + 1))) then (0 : Int32) else (1 : Int32))] 50 by
              refine j_icmp_eq (tgt := 49) hC d_D_isMet_42 (by decide) (fun h42 => ?_) (fun h42 => ?_)
              · refine j_iconst (v := 0) hC d_D_isMet_49 (by decide) ?_
                exact j_top ((if_pos h42)) hk42
              · refine j_iconst (v := 1) hC d_D_isMet_45 (by decide) ?_
                refine j_goto (tgt := 50) hC d_D_isMet_46 (by decide) ?_
                exact j_top ((if_neg h42)) hk42
            exact j_top ((if_neg h22)) hk22
        refine j_istore_n (lv' := [(0, .ref (g 0)), (1, .int (nI i)), (2, .int (if (mMt u i q) = 0 then (0 : Int32) else (if (m_holds u (mFact u (5 * i + (q + 1)))) = (u 19 ((5 * i) + (q + 1))) then (0 : Int32) else (1 : Int32)))), (3, .int (nI (q + 1))), (4, .int (nI ((5 * i) + (q + 1))))]) hC d_D_isMet_50 rfl (by decide) rfl rfl ?_
        refine j_iinc (lv' := [(0, .ref (g 0)), (1, .int (nI i)), (2, .int (if (mMt u i q) = 0 then (0 : Int32) else (if (m_holds u (mFact u (5 * i + (q + 1)))) = (u 19 ((5 * i) + (q + 1))) then (0 : Int32) else (1 : Int32)))), (3, .int (nI (q + 1 + 1))), (4, .int (nI ((5 * i) + (q + 1))))]) hC d_D_isMet_51 3 rfl (nI_1 _) (by decide) rfl rfl ?_
        refine j_goto (tgt := 4) hC d_D_isMet_54 (by decide) ?_
        exact j_locals [0, 1, 2, 3] rfl (ih (q + 1) (by omega) (by omega))
  refine j_iconst (v := 1) hC d_D_isMet_0 (by decide) ?_
  refine j_istore_n (lv' := [(0, .ref (g 0)), (1, .int (nI i)), (2, .int 1)]) hC d_D_isMet_1 rfl (by decide) rfl rfl ?_
  refine j_iconst (v := 1) hC d_D_isMet_2 (by decide) ?_
  refine j_istore_n (lv' := [(0, .ref (g 0)), (1, .int (nI i)), (2, .int 1), (3, .int 1)]) hC d_D_isMet_3 rfl (by decide) rfl rfl ?_
  exact loop 6 0 (by omega) (by omega)

set_option maxHeartbeats 4000000 in
set_option maxRecDepth 100000 in
theorem r_lower (l : Launch) (dC : Nat → ClassId) (dI : Nat → Nat → Nat) (g k : Nat → Nat) (tl : List (ClassId × FieldType)) (u : jU) {i : Nat} (hi : i < 16) (hD : wfD u) (rk : Int32) : jMet l y_D_isLower (.code y_D_isLower c_D_isLower 6 (some .boolean)) ({ frames := 2, cells := 0, slots := 0, locals := 42 }) (dC, dI) jcl (mtys k tl) jTs [.ref (g 0), .int (nI i), .int rk] (mw g k u) 0 0 (jRet (some (.int (mLower u i rk))) (mw g k u)) := by
  refine jMet.of (by decide) (Nat.le_of_ble_eq_true rfl) ?_
  intro p e s m below meth c A hC hex hr hnm htr
  show jJ p l e ({ frames := 2, cells := 0, slots := 0, locals := 42 }) s m [.ref (g 0), .int (nI i), .int rk].toArray below meth c 6 (dC, dI) jcl A (hxQ below (jQ (dC, dI) jcl (jRet (some (.int (mLower u i rk))) (mw g k u)) A) [.ref (g 0), .int (nI i), .int rk].toArray s 0 0 A) 0 0 (mw g k u) [(0, .ref (g 0)), (1, .int (nI i)), (2, .int rk)] [] 0
  have hc := hD.2.2.1 i hi
  have hc5 := hc.2
  have loop : ∀ (n q : Nat), q ≤ tn (u 12 i) → tn (u 12 i) < q + n → jJ p l e ({ frames := 2, cells := 0, slots := 0, locals := 42 }) s m [.ref (g 0), .int (nI i), .int rk].toArray below meth c 6 (dC, dI) jcl A (hxQ below (jQ (dC, dI) jcl (jRet (some (.int (mLower u i rk))) (mw g k u)) A) [.ref (g 0), .int (nI i), .int rk].toArray s 0 0 A) 0 0 (mw g k u) [(0, .ref (g 0)), (1, .int (nI i)), (2, .int rk), (3, .int (mLw u i rk q)), (4, .int (nI (q + 1)))] [] 5 := by
    intro n
    induction n with
    | zero => intro q h1 h2; exact absurd h2 (by omega)
    | succ n ih =>
      intro q hq hn
      refine j_iload hC d_D_isLower_5 4 rfl ?_
      refine j_aload_n hC d_D_isLower_7 rfl 0 rfl ?_
      refine j_get hC hin_D (0) (mw_obj g k u) rfl 6 (by decide) (hC.2.2.2.2.1 _ wf_D_20) (fun _ h9 => h9) rfl d_D_isLower_8 ?_
      refine j_iload_n hC d_D_isLower_11 rfl 1 rfl ?_
      refine j_ialdN hC (4) 0 (mw_counts g k u) rfl (n := i) (rfl) (by omega) (by decide) d_D_isLower_12 ?_
      refine j_icmp_gt (tgt := 93) hC d_D_isLower_13 (by decide) (fun h13 => ?_) (fun h13 => ?_)
      · have hgt : tn (u 12 i) < q + 1 := (inN_ltN hc (by decide) (by omega)).mp h13
        have hqe : q = tn (u 12 i) := by omega
        subst hqe
        refine j_iload_n hC d_D_isLower_93 rfl 3 rfl ?_
        exact j_zret hC hr (z01_n (mLw_01 u i rk _)) ⟨rfl, rfl, rfl⟩ d_D_isLower_94
      · have hle : q + 1 ≤ tn (u 12 i) := Nat.not_lt.mp (fun z => h13 ((inN_ltN hc (by decide) (by omega)).mpr z))
        refine j_iconst (v := 5) hC d_D_isLower_16 (by decide) ?_
        refine j_iload_n hC d_D_isLower_17 rfl 1 rfl ?_
        refine j_imul hC d_D_isLower_18 ?_
        refine j_top (v := nI (5 * i)) (pk_mul 5 i).symm ?_
        refine j_iload hC d_D_isLower_19 4 rfl ?_
        refine j_iadd hC d_D_isLower_21 ?_
        refine j_top (v := nI ((5 * i) + (q + 1))) (nI_add (5 * i) (q + 1)).symm ?_
        refine j_istore (lv' := [(0, .ref (g 0)), (1, .int (nI i)), (2, .int rk), (3, .int (mLw u i rk q)), (4, .int (nI (q + 1))), (5, .int (nI ((5 * i) + (q + 1))))]) hC d_D_isLower_22 (by decide) rfl rfl ?_
        refine j_iload_n hC d_D_isLower_24 rfl 3 rfl ?_
        suffices hk25 : jJ p l e ({ frames := 2, cells := 0, slots := 0, locals := 42 }) s m [.ref (g 0), .int (nI i), .int rk].toArray below meth c 6 (dC, dI) jcl A (hxQ below (jQ (dC, dI) jcl (jRet (some (.int (mLower u i rk))) (mw g k u)) A) [.ref (g 0), .int (nI i), .int rk].toArray s 0 0 A) 0 0 (mw g k u) [(0, .ref (g 0)), (1, .int (nI i)), (2, .int rk), (3, .int (mLw u i rk q)), (4, .int (nI (q + 1))), (5, .int (nI ((5 * i) + (q + 1))))] [.int (if (mLw u i rk q) = 0 then (0 : Int32) else (if (u 19 ((5 * i) + (q + 1))) = 0 then (if (u 3 (tn (u 16 (5 * i + (q + 1))))) < (u 3 (tn (u 16 (5 * i)))) then (1 : Int32) else (if rk ≤ (u 4 (mFact u (5 * i + (q + 1)))) then (0 : Int32) else (1 : Int32))) else (1 : Int32)))] 86 by
          refine j_if_eq (tgt := 85) hC d_D_isLower_25 (by decide) (fun h25 => ?_) (fun h25 => ?_)
          · refine j_iconst (v := 0) hC d_D_isLower_85 (by decide) ?_
            exact j_top ((if_pos h25)) hk25
          · refine j_aload_n hC d_D_isLower_28 rfl 0 rfl ?_
            refine j_get hC hin_D (0) (mw_obj g k u) rfl 10 (by decide) (hC.2.2.2.2.1 _ wf_D_32) (fun _ h9 => h9) rfl d_D_isLower_29 ?_
            refine j_iload hC d_D_isLower_32 5 rfl ?_
            refine j_zaldN hC (8) 3 (mw_negated g k u) rfl (n := (5 * i) + (q + 1)) (rfl) (by omega) (by decide) d_D_isLower_34 ?_
            suffices hk35 : jJ p l e ({ frames := 2, cells := 0, slots := 0, locals := 42 }) s m [.ref (g 0), .int (nI i), .int rk].toArray below meth c 6 (dC, dI) jcl A (hxQ below (jQ (dC, dI) jcl (jRet (some (.int (mLower u i rk))) (mw g k u)) A) [.ref (g 0), .int (nI i), .int rk].toArray s 0 0 A) 0 0 (mw g k u) [(0, .ref (g 0)), (1, .int (nI i)), (2, .int rk), (3, .int (mLw u i rk q)), (4, .int (nI (q + 1))), (5, .int (nI ((5 * i) + (q + 1))))] [.int (if (u 19 ((5 * i) + (q + 1))) = 0 then (if (u 3 (tn (u 16 (5 * i + (q + 1))))) < (u 3 (tn (u 16 (5 * i)))) then (1 : Int32) else (if rk ≤ (u 4 (mFact u (5 * i + (q + 1)))) then (0 : Int32) else (1 : Int32))) else (1 : Int32))] 86 by
              refine j_if_ne (tgt := 81) hC d_D_isLower_35 (by decide) (fun h35 => ?_) (fun h35 => ?_)
              · refine j_iconst (v := 1) hC d_D_isLower_81 (by decide) ?_
                refine j_goto (tgt := 86) hC d_D_isLower_82 (by decide) ?_
                exact j_top ((if_neg h35)) hk35
              · refine j_aload_n hC d_D_isLower_38 rfl 0 rfl ?_
                refine j_get hC hin_D (0) (mw_obj g k u) rfl 11 (by decide) (hC.2.2.2.2.1 _ wf_D_35) (fun _ h9 => h9) rfl d_D_isLower_39 ?_
                refine j_aload_n hC d_D_isLower_42 rfl 0 rfl ?_
                refine j_get hC hin_D (0) (mw_obj g k u) rfl 7 (by decide) (hC.2.2.2.2.1 _ wf_D_23) (fun _ h9 => h9) rfl d_D_isLower_43 ?_
                refine j_iload hC d_D_isLower_46 5 rfl ?_
                refine j_ialdN hC (5) 0 (mw_of g k u) rfl (n := (5 * i) + (q + 1)) (rfl) (by omega) (by decide) d_D_isLower_48 ?_
                refine j_ialdN hC (9) 0 (mw_layers g k u) rfl (n := tn (u 16 (5 * i + (q + 1)))) ((hD.2.2.2.1 (5 * i + (q + 1)) (by omega)).1.1) ((hD.2.2.2.1 (5 * i + (q + 1)) (by omega)).1.2) (by decide) d_D_isLower_49 ?_
                refine j_aload_n hC d_D_isLower_50 rfl 0 rfl ?_
                refine j_get hC hin_D (0) (mw_obj g k u) rfl 11 (by decide) (hC.2.2.2.2.1 _ wf_D_35) (fun _ h9 => h9) rfl d_D_isLower_51 ?_
                refine j_aload_n hC d_D_isLower_54 rfl 0 rfl ?_
                refine j_get hC hin_D (0) (mw_obj g k u) rfl 7 (by decide) (hC.2.2.2.2.1 _ wf_D_23) (fun _ h9 => h9) rfl d_D_isLower_55 ?_
                refine j_iconst (v := 5) hC d_D_isLower_58 (by decide) ?_
                refine j_iload_n hC d_D_isLower_59 rfl 1 rfl ?_
                refine j_imul hC d_D_isLower_60 ?_
                refine j_top (v := nI (5 * i)) (pk_mul 5 i).symm ?_
                refine j_ialdN hC (5) 0 (mw_of g k u) rfl (n := 5 * i) (rfl) (by omega) (by decide) d_D_isLower_61 ?_
                refine j_ialdN hC (9) 0 (mw_layers g k u) rfl (n := tn (u 16 (5 * i))) ((hD.2.2.2.1 (5 * i) (by omega)).1.1) ((hD.2.2.2.1 (5 * i) (by omega)).1.2) (by decide) d_D_isLower_62 ?_
                suffices hk63 : jJ p l e ({ frames := 2, cells := 0, slots := 0, locals := 42 }) s m [.ref (g 0), .int (nI i), .int rk].toArray below meth c 6 (dC, dI) jcl A (hxQ below (jQ (dC, dI) jcl (jRet (some (.int (mLower u i rk))) (mw g k u)) A) [.ref (g 0), .int (nI i), .int rk].toArray s 0 0 A) 0 0 (mw g k u) [(0, .ref (g 0)), (1, .int (nI i)), (2, .int rk), (3, .int (mLw u i rk q)), (4, .int (nI (q + 1))), (5, .int (nI ((5 * i) + (q + 1))))] [.int (if (u 3 (tn (u 16 (5 * i + (q + 1))))) < (u 3 (tn (u 16 (5 * i)))) then (1 : Int32) else (if rk ≤ (u 4 (mFact u (5 * i + (q + 1)))) then (0 : Int32) else (1 : Int32)))] 86 by
                  refine j_icmp_lt (tgt := 81) hC d_D_isLower_63 (by decide) (fun h63 => ?_) (fun h63 => ?_)
                  · refine j_iconst (v := 1) hC d_D_isLower_81 (by decide) ?_
                    refine j_goto (tgt := 86) hC d_D_isLower_82 (by decide) ?_
                    exact j_top ((if_pos h63)) hk63
                  · refine j_aload_n hC d_D_isLower_66 rfl 0 rfl ?_
                    refine j_get hC hin_D (0) (mw_obj g k u) rfl 4 (by decide) (hC.2.2.2.2.1 _ wf_D_17) (fun _ h9 => h9) rfl d_D_isLower_67 ?_
                    refine j_aload_n hC d_D_isLower_70 rfl 0 rfl ?_
                    refine j_iload hC d_D_isLower_71 5 rfl ?_
                    refine j_callVr (As := [.int (nI ((5 * i) + (q + 1)))]) (rest := [.ref (g 3)]) (st1 := [.int (nI (mFact u (5 * i + (q + 1)))), .ref (g 3)]) hC (r_factOf l dC dI g k tl u (j := 5 * i + (q + 1)) (by omega) ((hD.2.2.2.1 (5 * i + (q + 1)) (by omega))) hD.2.2.2.2.1) rfl rfl ww_D_100 yn_D_factOf (mw_obj g k u) rfl rfl d_D_isLower_73 (Nat.le_of_ble_eq_true rfl) (by decide) ⟨Nat.zero_le _, Nat.zero_le _⟩ rfl ?_
                    refine j_ialdN hC (3) 0 (mw_ranks g k u) rfl (n := mFact u (5 * i + (q + 1))) (rfl) (mFact_lt (hD.2.2.2.1 (5 * i + (q + 1)) (by omega)) hD.2.2.2.2.1) (by decide) d_D_isLower_76 ?_
                    refine j_iload_n hC d_D_isLower_77 rfl 2 rfl ?_
                    suffices hk78 : jJ p l e ({ frames := 2, cells := 0, slots := 0, locals := 42 }) s m [.ref (g 0), .int (nI i), .int rk].toArray below meth c 6 (dC, dI) jcl A (hxQ below (jQ (dC, dI) jcl (jRet (some (.int (mLower u i rk))) (mw g k u)) A) [.ref (g 0), .int (nI i), .int rk].toArray s 0 0 A) 0 0 (mw g k u) [(0, .ref (g 0)), (1, .int (nI i)), (2, .int rk), (3, .int (mLw u i rk q)), (4, .int (nI (q + 1))), (5, .int (nI ((5 * i) + (q + 1))))] [.int (if rk ≤ (u 4 (mFact u (5 * i + (q + 1)))) then (0 : Int32) else (1 : Int32))] 86 by
                      refine j_icmp_ge (tgt := 85) hC d_D_isLower_78 (by decide) (fun h78 => ?_) (fun h78 => ?_)
                      · refine j_iconst (v := 0) hC d_D_isLower_85 (by decide) ?_
                        exact j_top ((if_pos h78)) hk78
                      · refine j_iconst (v := 1) hC d_D_isLower_81 (by decide) ?_
                        refine j_goto (tgt := 86) hC d_D_isLower_82 (by decide) ?_
                        exact j_top ((if_neg h78)) hk78
                    exact j_top ((if_neg h63)) hk63
                exact j_top ((if_pos h35)) hk35
            exact j_top ((if_neg h25)) hk25
        refine j_istore_n (lv' := [(0, .ref (g 0)), (1, .int (nI i)), (2, .int rk), (3, .int (if (mLw u i rk q) = 0 then (0 : Int32) else (if (u 19 ((5 * i) + (q + 1))) = 0 then (if (u 3 (tn (u 16 (5 * i + (q + 1))))) < (u 3 (tn (u 16 (5 * i)))) then (1 : Int32) else (if rk ≤ (u 4 (mFact u (5 * i + (q + 1)))) then (0 : Int32) else (1 : Int32))) else (1 : Int32)))), (4, .int (nI (q + 1))), (5, .int (nI ((5 * i) + (q + 1))))]) hC d_D_isLower_86 rfl (by decide) rfl rfl ?_
        refine j_iinc (lv' := [(0, .ref (g 0)), (1, .int (nI i)), (2, .int rk), (3, .int (if (mLw u i rk q) = 0 then (0 : Int32) else (if (u 19 ((5 * i) + (q + 1))) = 0 then (if (u 3 (tn (u 16 (5 * i + (q + 1))))) < (u 3 (tn (u 16 (5 * i)))) then (1 : Int32) else (if rk ≤ (u 4 (mFact u (5 * i + (q + 1)))) then (0 : Int32) else (1 : Int32))) else (1 : Int32)))), (4, .int (nI (q + 1 + 1))), (5, .int (nI ((5 * i) + (q + 1))))]) hC d_D_isLower_87 4 rfl (nI_1 _) (by decide) rfl rfl ?_
        refine j_goto (tgt := 5) hC d_D_isLower_90 (by decide) ?_
        exact j_locals [0, 1, 2, 3, 4] rfl (ih (q + 1) (by omega) (by omega))
  refine j_iconst (v := 1) hC d_D_isLower_0 (by decide) ?_
  refine j_istore_n (lv' := [(0, .ref (g 0)), (1, .int (nI i)), (2, .int rk), (3, .int 1)]) hC d_D_isLower_1 rfl (by decide) rfl rfl ?_
  refine j_iconst (v := 1) hC d_D_isLower_2 (by decide) ?_
  refine j_istore (lv' := [(0, .ref (g 0)), (1, .int (nI i)), (2, .int rk), (3, .int 1), (4, .int 1)]) hC d_D_isLower_3 (by decide) rfl rfl ?_
  exact loop 6 0 (by omega) (by omega)

set_option maxHeartbeats 4000000 in
set_option maxRecDepth 100000 in
theorem r_inst (l : Launch) (dC : Nat → ClassId) (dI : Nat → Nat → Nat) (g k : Nat → Nat) (tl : List (ClassId × FieldType)) (u : jU) {i : Nat} (hi : i < 16) (hc : inN (u 12 i) 5) {n : Nat} (hn : n < 2 ^ 31) : jMet l y_D_instance (.code y_D_instance c_D_instance 7 (some .boolean)) ({ frames := 2, cells := 0, slots := 0, locals := 45 }) (dC, dI) jcl (mtys k tl) jTs [.ref (g 0), .int (nI i), .int (nI n)] (mw g k u) 0 0 (jRet (some (.int ((mInst u i n).1))) (mw g k ((mInst u i n).2))) := by
  refine jMet.of (by decide) (Nat.le_of_ble_eq_true rfl) ?_
  intro p e s m below meth c A hC hex hr hnm htr
  show jJ p l e ({ frames := 2, cells := 0, slots := 0, locals := 45 }) s m [.ref (g 0), .int (nI i), .int (nI n)].toArray below meth c 7 (dC, dI) jcl A (hxQ below (jQ (dC, dI) jcl (jRet (some (.int ((mInst u i n).1))) (mw g k ((mInst u i n).2))) A) [.ref (g 0), .int (nI i), .int (nI n)].toArray s 0 0 A) 0 0 (mw g k u) [(0, .ref (g 0)), (1, .int (nI i)), (2, .int (nI n))] [] 0
  refine j_iload_n hC d_D_instance_0 rfl 2 rfl ?_
  refine j_istore_n (lv' := [(0, .ref (g 0)), (1, .int (nI i)), (2, .int (nI n)), (3, .int (nI n))]) hC d_D_instance_1 rfl (by decide) rfl rfl ?_
  refine j_aload_n hC d_D_instance_2 rfl 0 rfl ?_
  refine j_iload_n hC d_D_instance_3 rfl 1 rfl ?_
  refine j_callVr (As := [.int (nI i)]) (rest := []) (st1 := [.int (mVars u i)]) hC (r_vars l dC dI g k tl u (i := i) hi hc) rfl rfl ww_D_97 yn_D_variables (mw_obj g k u) rfl rfl d_D_instance_4 (Nat.le_of_ble_eq_true rfl) (by decide) ⟨Nat.zero_le _, Nat.zero_le _⟩ rfl ?_
  refine j_istore (lv' := [(0, .ref (g 0)), (1, .int (nI i)), (2, .int (nI n)), (3, .int (nI n)), (4, .int (mVars u i))]) hC d_D_instance_7 (by decide) rfl rfl ?_
  refine j_iconst (v := 3) hC d_D_instance_9 (by decide) ?_
  refine j_istore (lv' := [(0, .ref (g 0)), (1, .int (nI i)), (2, .int (nI n)), (3, .int (nI n)), (4, .int (mVars u i)), (5, .int 3)]) hC d_D_instance_10 (by decide) rfl rfl ?_
  refine j_iload hC d_D_instance_12 5 rfl ?_
  refine j_if_lt (tgt := 75) hC d_D_instance_14 (by decide) (fun h14 => absurd h14 (by decide)) (fun h14 => ?_)
  refine j_iload hC d_D_instance_17 4 rfl ?_
  refine j_iload hC d_D_instance_19 5 rfl ?_
  refine j_ishr hC d_D_instance_21 ?_
  refine j_iconst (v := 1) hC d_D_instance_22 (by decide) ?_
  refine j_iand hC d_D_instance_23 ?_
  refine j_iconst (v := 1) hC d_D_instance_24 (by decide) ?_
  suffices hk25 : jJ p l e ({ frames := 2, cells := 0, slots := 0, locals := 45 }) s m [.ref (g 0), .int (nI i), .int (nI n)].toArray below meth c 7 (dC, dI) jcl A (hxQ below (jQ (dC, dI) jcl (jRet (some (.int ((mInst u i n).1))) (mw g k ((mInst u i n).2))) A) [.ref (g 0), .int (nI i), .int (nI n)].toArray s 0 0 A) 0 0 (mw g k u) [(0, .ref (g 0)), (1, .int (nI i)), (2, .int (nI n)), (3, .int (nI n)), (4, .int (mVars u i)), (5, .int 3)] [.int (if (((mVars u i) >>> (3 &&& 31)) &&& 1) = 1 then (1 : Int32) else (0 : Int32))] 33 by
    refine j_icmp_ne (tgt := 32) hC d_D_instance_25 (by decide) (fun h25 => ?_) (fun h25 => ?_)
    · refine j_iconst (v := 0) hC d_D_instance_32 (by decide) ?_
      exact j_top ((if_neg h25)) hk25
    · refine j_iconst (v := 1) hC d_D_instance_28 (by decide) ?_
      refine j_goto (tgt := 33) hC d_D_instance_29 (by decide) ?_
      exact j_top ((if_pos h25)) hk25
  refine j_istore (lv' := [(0, .ref (g 0)), (1, .int (nI i)), (2, .int (nI n)), (3, .int (nI n)), (4, .int (mVars u i)), (5, .int 3), (6, .int (mHas (mVars u i) 3))]) hC d_D_instance_33 (by decide) rfl rfl ?_
  refine j_aload_n hC d_D_instance_35 rfl 0 rfl ?_
  refine j_get hC hin_D (0) (mw_obj g k u) rfl 14 (by decide) (hC.2.2.2.2.1 _ wf_D_38) (fun _ h9 => h9) rfl d_D_instance_36 ?_
  refine j_iload hC d_D_instance_39 5 rfl ?_
  refine j_iload hC d_D_instance_41 6 rfl ?_
  suffices hk43 : jJ p l e ({ frames := 2, cells := 0, slots := 0, locals := 45 }) s m [.ref (g 0), .int (nI i), .int (nI n)].toArray below meth c 7 (dC, dI) jcl A (hxQ below (jQ (dC, dI) jcl (jRet (some (.int ((mInst u i n).1))) (mw g k ((mInst u i n).2))) A) [.ref (g 0), .int (nI i), .int (nI n)].toArray s 0 0 A) 0 0 (mw g k u) [(0, .ref (g 0)), (1, .int (nI i)), (2, .int (nI n)), (3, .int (nI n)), (4, .int (mVars u i)), (5, .int 3), (6, .int (mHas (mVars u i) 3))] [.int (nI (if (mHas (mVars u i) 3) = 0 then (0 : Nat) else (n % 12))), .int 3, .ref (g 10)] 54 by
    refine j_if_eq (tgt := 53) hC d_D_instance_43 (by decide) (fun h43 => ?_) (fun h43 => ?_)
    · refine j_iconst (v := 0) hC d_D_instance_53 (by decide) ?_
      exact j_top (congrArg nI (if_pos h43)) hk43
    · refine j_iload_n hC d_D_instance_46 rfl 3 rfl ?_
      refine j_bipush (v := 12) hC d_D_instance_47 (by decide) ?_
      refine j_irem hC d_D_instance_49 (by decide) ?_
      refine j_top (v := nI (n % 12)) (pk_rem (a := n) (d := 12) (by repeat (first | exact hn | refine mLf_lt ?_)) (by decide) (by decide)).symm ?_
      refine j_goto (tgt := 54) hC d_D_instance_50 (by decide) ?_
      exact j_top (congrArg nI (if_neg h43)) hk43
  refine j_iastN (ws' := mw g k (up u 6 3 (nI (mVf (mVars u i) 3 n)))) hC (10) 0 (mw_values g k u) rfl (n := 3) (rfl) (by omega) (by decide) (mw_set_values g k u 3 (nI (mVf (mVars u i) 3 n))) d_D_instance_54 ?_
  refine j_iload hC d_D_instance_55 6 rfl ?_
  suffices hk57 : jJ p l e ({ frames := 2, cells := 0, slots := 0, locals := 45 }) s m [.ref (g 0), .int (nI i), .int (nI n)].toArray below meth c 7 (dC, dI) jcl A (hxQ below (jQ (dC, dI) jcl (jRet (some (.int ((mInst u i n).1))) (mw g k ((mInst u i n).2))) A) [.ref (g 0), .int (nI i), .int (nI n)].toArray s 0 0 A) 0 0 (mw g k (up u 6 3 (nI (mVf (mVars u i) 3 n)))) [(0, .ref (g 0)), (1, .int (nI i)), (2, .int (nI n)), (3, .int (nI n)), (4, .int (mVars u i)), (5, .int 3), (6, .int (mHas (mVars u i) 3))] [.int (nI (if (mHas (mVars u i) 3) = 0 then n else (n / 12)))] 68 by
    refine j_if_eq (tgt := 67) hC d_D_instance_57 (by decide) (fun h57 => ?_) (fun h57 => ?_)
    · refine j_iload_n hC d_D_instance_67 rfl 3 rfl ?_
      exact j_top (congrArg nI (if_pos h57)) hk57
    · refine j_iload_n hC d_D_instance_60 rfl 3 rfl ?_
      refine j_bipush (v := 12) hC d_D_instance_61 (by decide) ?_
      refine j_idiv hC d_D_instance_63 (by decide) ?_
      refine j_top (v := nI (n / 12)) (pk_div (a := n) (d := 12) (by repeat (first | exact hn | refine mLf_lt ?_)) (by decide) (by decide)).symm ?_
      refine j_goto (tgt := 68) hC d_D_instance_64 (by decide) ?_
      exact j_top (congrArg nI (if_neg h57)) hk57
  refine j_istore_n (lv' := [(0, .ref (g 0)), (1, .int (nI i)), (2, .int (nI n)), (3, .int (nI (mLf (mVars u i) 3 n))), (4, .int (mVars u i)), (5, .int 3), (6, .int (mHas (mVars u i) 3))]) hC d_D_instance_68 rfl (by decide) rfl rfl ?_
  refine j_iinc (lv' := [(0, .ref (g 0)), (1, .int (nI i)), (2, .int (nI n)), (3, .int (nI (mLf (mVars u i) 3 n))), (4, .int (mVars u i)), (5, .int 2), (6, .int (mHas (mVars u i) 3))]) hC d_D_instance_69 5 rfl (by decide) (by decide) rfl rfl ?_
  refine j_goto (tgt := 12) hC d_D_instance_72 (by decide) ?_
  refine j_iload hC d_D_instance_12 5 rfl ?_
  refine j_if_lt (tgt := 75) hC d_D_instance_14 (by decide) (fun h14 => absurd h14 (by decide)) (fun h14 => ?_)
  refine j_iload hC d_D_instance_17 4 rfl ?_
  refine j_iload hC d_D_instance_19 5 rfl ?_
  refine j_ishr hC d_D_instance_21 ?_
  refine j_iconst (v := 1) hC d_D_instance_22 (by decide) ?_
  refine j_iand hC d_D_instance_23 ?_
  refine j_iconst (v := 1) hC d_D_instance_24 (by decide) ?_
  suffices hk25 : jJ p l e ({ frames := 2, cells := 0, slots := 0, locals := 45 }) s m [.ref (g 0), .int (nI i), .int (nI n)].toArray below meth c 7 (dC, dI) jcl A (hxQ below (jQ (dC, dI) jcl (jRet (some (.int ((mInst u i n).1))) (mw g k ((mInst u i n).2))) A) [.ref (g 0), .int (nI i), .int (nI n)].toArray s 0 0 A) 0 0 (mw g k (up u 6 3 (nI (mVf (mVars u i) 3 n)))) [(0, .ref (g 0)), (1, .int (nI i)), (2, .int (nI n)), (3, .int (nI (mLf (mVars u i) 3 n))), (4, .int (mVars u i)), (5, .int 2), (6, .int (mHas (mVars u i) 3))] [.int (if (((mVars u i) >>> (2 &&& 31)) &&& 1) = 1 then (1 : Int32) else (0 : Int32))] 33 by
    refine j_icmp_ne (tgt := 32) hC d_D_instance_25 (by decide) (fun h25 => ?_) (fun h25 => ?_)
    · refine j_iconst (v := 0) hC d_D_instance_32 (by decide) ?_
      exact j_top ((if_neg h25)) hk25
    · refine j_iconst (v := 1) hC d_D_instance_28 (by decide) ?_
      refine j_goto (tgt := 33) hC d_D_instance_29 (by decide) ?_
      exact j_top ((if_pos h25)) hk25
  refine j_istore (lv' := [(0, .ref (g 0)), (1, .int (nI i)), (2, .int (nI n)), (3, .int (nI (mLf (mVars u i) 3 n))), (4, .int (mVars u i)), (5, .int 2), (6, .int (mHas (mVars u i) 2))]) hC d_D_instance_33 (by decide) rfl rfl ?_
  refine j_aload_n hC d_D_instance_35 rfl 0 rfl ?_
  refine j_get hC hin_D (0) (mw_obj g k (up u 6 3 (nI (mVf (mVars u i) 3 n)))) rfl 14 (by decide) (hC.2.2.2.2.1 _ wf_D_38) (fun _ h9 => h9) rfl d_D_instance_36 ?_
  refine j_iload hC d_D_instance_39 5 rfl ?_
  refine j_iload hC d_D_instance_41 6 rfl ?_
  suffices hk43 : jJ p l e ({ frames := 2, cells := 0, slots := 0, locals := 45 }) s m [.ref (g 0), .int (nI i), .int (nI n)].toArray below meth c 7 (dC, dI) jcl A (hxQ below (jQ (dC, dI) jcl (jRet (some (.int ((mInst u i n).1))) (mw g k ((mInst u i n).2))) A) [.ref (g 0), .int (nI i), .int (nI n)].toArray s 0 0 A) 0 0 (mw g k (up u 6 3 (nI (mVf (mVars u i) 3 n)))) [(0, .ref (g 0)), (1, .int (nI i)), (2, .int (nI n)), (3, .int (nI (mLf (mVars u i) 3 n))), (4, .int (mVars u i)), (5, .int 2), (6, .int (mHas (mVars u i) 2))] [.int (nI (if (mHas (mVars u i) 2) = 0 then (0 : Nat) else ((mLf (mVars u i) 3 n) % 12))), .int 2, .ref (g 10)] 54 by
    refine j_if_eq (tgt := 53) hC d_D_instance_43 (by decide) (fun h43 => ?_) (fun h43 => ?_)
    · refine j_iconst (v := 0) hC d_D_instance_53 (by decide) ?_
      exact j_top (congrArg nI (if_pos h43)) hk43
    · refine j_iload_n hC d_D_instance_46 rfl 3 rfl ?_
      refine j_bipush (v := 12) hC d_D_instance_47 (by decide) ?_
      refine j_irem hC d_D_instance_49 (by decide) ?_
      refine j_top (v := nI ((mLf (mVars u i) 3 n) % 12)) (pk_rem (a := mLf (mVars u i) 3 n) (d := 12) (by repeat (first | exact hn | refine mLf_lt ?_)) (by decide) (by decide)).symm ?_
      refine j_goto (tgt := 54) hC d_D_instance_50 (by decide) ?_
      exact j_top (congrArg nI (if_neg h43)) hk43
  refine j_iastN (ws' := mw g k (up (up u 6 3 (nI (mVf (mVars u i) 3 n))) 6 2 (nI (mVf (mVars u i) 2 (mLf (mVars u i) 3 n))))) hC (10) 0 (mw_values g k (up u 6 3 (nI (mVf (mVars u i) 3 n)))) rfl (n := 2) (rfl) (by omega) (by decide) (mw_set_values g k (up u 6 3 (nI (mVf (mVars u i) 3 n))) 2 (nI (mVf (mVars u i) 2 (mLf (mVars u i) 3 n)))) d_D_instance_54 ?_
  refine j_iload hC d_D_instance_55 6 rfl ?_
  suffices hk57 : jJ p l e ({ frames := 2, cells := 0, slots := 0, locals := 45 }) s m [.ref (g 0), .int (nI i), .int (nI n)].toArray below meth c 7 (dC, dI) jcl A (hxQ below (jQ (dC, dI) jcl (jRet (some (.int ((mInst u i n).1))) (mw g k ((mInst u i n).2))) A) [.ref (g 0), .int (nI i), .int (nI n)].toArray s 0 0 A) 0 0 (mw g k (up (up u 6 3 (nI (mVf (mVars u i) 3 n))) 6 2 (nI (mVf (mVars u i) 2 (mLf (mVars u i) 3 n))))) [(0, .ref (g 0)), (1, .int (nI i)), (2, .int (nI n)), (3, .int (nI (mLf (mVars u i) 3 n))), (4, .int (mVars u i)), (5, .int 2), (6, .int (mHas (mVars u i) 2))] [.int (nI (if (mHas (mVars u i) 2) = 0 then (mLf (mVars u i) 3 n) else ((mLf (mVars u i) 3 n) / 12)))] 68 by
    refine j_if_eq (tgt := 67) hC d_D_instance_57 (by decide) (fun h57 => ?_) (fun h57 => ?_)
    · refine j_iload_n hC d_D_instance_67 rfl 3 rfl ?_
      exact j_top (congrArg nI (if_pos h57)) hk57
    · refine j_iload_n hC d_D_instance_60 rfl 3 rfl ?_
      refine j_bipush (v := 12) hC d_D_instance_61 (by decide) ?_
      refine j_idiv hC d_D_instance_63 (by decide) ?_
      refine j_top (v := nI ((mLf (mVars u i) 3 n) / 12)) (pk_div (a := mLf (mVars u i) 3 n) (d := 12) (by repeat (first | exact hn | refine mLf_lt ?_)) (by decide) (by decide)).symm ?_
      refine j_goto (tgt := 68) hC d_D_instance_64 (by decide) ?_
      exact j_top (congrArg nI (if_neg h57)) hk57
  refine j_istore_n (lv' := [(0, .ref (g 0)), (1, .int (nI i)), (2, .int (nI n)), (3, .int (nI (mLf (mVars u i) 2 (mLf (mVars u i) 3 n)))), (4, .int (mVars u i)), (5, .int 2), (6, .int (mHas (mVars u i) 2))]) hC d_D_instance_68 rfl (by decide) rfl rfl ?_
  refine j_iinc (lv' := [(0, .ref (g 0)), (1, .int (nI i)), (2, .int (nI n)), (3, .int (nI (mLf (mVars u i) 2 (mLf (mVars u i) 3 n)))), (4, .int (mVars u i)), (5, .int 1), (6, .int (mHas (mVars u i) 2))]) hC d_D_instance_69 5 rfl (by decide) (by decide) rfl rfl ?_
  refine j_goto (tgt := 12) hC d_D_instance_72 (by decide) ?_
  refine j_iload hC d_D_instance_12 5 rfl ?_
  refine j_if_lt (tgt := 75) hC d_D_instance_14 (by decide) (fun h14 => absurd h14 (by decide)) (fun h14 => ?_)
  refine j_iload hC d_D_instance_17 4 rfl ?_
  refine j_iload hC d_D_instance_19 5 rfl ?_
  refine j_ishr hC d_D_instance_21 ?_
  refine j_iconst (v := 1) hC d_D_instance_22 (by decide) ?_
  refine j_iand hC d_D_instance_23 ?_
  refine j_iconst (v := 1) hC d_D_instance_24 (by decide) ?_
  suffices hk25 : jJ p l e ({ frames := 2, cells := 0, slots := 0, locals := 45 }) s m [.ref (g 0), .int (nI i), .int (nI n)].toArray below meth c 7 (dC, dI) jcl A (hxQ below (jQ (dC, dI) jcl (jRet (some (.int ((mInst u i n).1))) (mw g k ((mInst u i n).2))) A) [.ref (g 0), .int (nI i), .int (nI n)].toArray s 0 0 A) 0 0 (mw g k (up (up u 6 3 (nI (mVf (mVars u i) 3 n))) 6 2 (nI (mVf (mVars u i) 2 (mLf (mVars u i) 3 n))))) [(0, .ref (g 0)), (1, .int (nI i)), (2, .int (nI n)), (3, .int (nI (mLf (mVars u i) 2 (mLf (mVars u i) 3 n)))), (4, .int (mVars u i)), (5, .int 1), (6, .int (mHas (mVars u i) 2))] [.int (if (((mVars u i) >>> (1 &&& 31)) &&& 1) = 1 then (1 : Int32) else (0 : Int32))] 33 by
    refine j_icmp_ne (tgt := 32) hC d_D_instance_25 (by decide) (fun h25 => ?_) (fun h25 => ?_)
    · refine j_iconst (v := 0) hC d_D_instance_32 (by decide) ?_
      exact j_top ((if_neg h25)) hk25
    · refine j_iconst (v := 1) hC d_D_instance_28 (by decide) ?_
      refine j_goto (tgt := 33) hC d_D_instance_29 (by decide) ?_
      exact j_top ((if_pos h25)) hk25
  refine j_istore (lv' := [(0, .ref (g 0)), (1, .int (nI i)), (2, .int (nI n)), (3, .int (nI (mLf (mVars u i) 2 (mLf (mVars u i) 3 n)))), (4, .int (mVars u i)), (5, .int 1), (6, .int (mHas (mVars u i) 1))]) hC d_D_instance_33 (by decide) rfl rfl ?_
  refine j_aload_n hC d_D_instance_35 rfl 0 rfl ?_
  refine j_get hC hin_D (0) (mw_obj g k (up (up u 6 3 (nI (mVf (mVars u i) 3 n))) 6 2 (nI (mVf (mVars u i) 2 (mLf (mVars u i) 3 n))))) rfl 14 (by decide) (hC.2.2.2.2.1 _ wf_D_38) (fun _ h9 => h9) rfl d_D_instance_36 ?_
  refine j_iload hC d_D_instance_39 5 rfl ?_
  refine j_iload hC d_D_instance_41 6 rfl ?_
  suffices hk43 : jJ p l e ({ frames := 2, cells := 0, slots := 0, locals := 45 }) s m [.ref (g 0), .int (nI i), .int (nI n)].toArray below meth c 7 (dC, dI) jcl A (hxQ below (jQ (dC, dI) jcl (jRet (some (.int ((mInst u i n).1))) (mw g k ((mInst u i n).2))) A) [.ref (g 0), .int (nI i), .int (nI n)].toArray s 0 0 A) 0 0 (mw g k (up (up u 6 3 (nI (mVf (mVars u i) 3 n))) 6 2 (nI (mVf (mVars u i) 2 (mLf (mVars u i) 3 n))))) [(0, .ref (g 0)), (1, .int (nI i)), (2, .int (nI n)), (3, .int (nI (mLf (mVars u i) 2 (mLf (mVars u i) 3 n)))), (4, .int (mVars u i)), (5, .int 1), (6, .int (mHas (mVars u i) 1))] [.int (nI (if (mHas (mVars u i) 1) = 0 then (0 : Nat) else ((mLf (mVars u i) 2 (mLf (mVars u i) 3 n)) % 12))), .int 1, .ref (g 10)] 54 by
    refine j_if_eq (tgt := 53) hC d_D_instance_43 (by decide) (fun h43 => ?_) (fun h43 => ?_)
    · refine j_iconst (v := 0) hC d_D_instance_53 (by decide) ?_
      exact j_top (congrArg nI (if_pos h43)) hk43
    · refine j_iload_n hC d_D_instance_46 rfl 3 rfl ?_
      refine j_bipush (v := 12) hC d_D_instance_47 (by decide) ?_
      refine j_irem hC d_D_instance_49 (by decide) ?_
      refine j_top (v := nI ((mLf (mVars u i) 2 (mLf (mVars u i) 3 n)) % 12)) (pk_rem (a := mLf (mVars u i) 2 (mLf (mVars u i) 3 n)) (d := 12) (by repeat (first | exact hn | refine mLf_lt ?_)) (by decide) (by decide)).symm ?_
      refine j_goto (tgt := 54) hC d_D_instance_50 (by decide) ?_
      exact j_top (congrArg nI (if_neg h43)) hk43
  refine j_iastN (ws' := mw g k (up (up (up u 6 3 (nI (mVf (mVars u i) 3 n))) 6 2 (nI (mVf (mVars u i) 2 (mLf (mVars u i) 3 n)))) 6 1 (nI (mVf (mVars u i) 1 (mLf (mVars u i) 2 (mLf (mVars u i) 3 n)))))) hC (10) 0 (mw_values g k (up (up u 6 3 (nI (mVf (mVars u i) 3 n))) 6 2 (nI (mVf (mVars u i) 2 (mLf (mVars u i) 3 n))))) rfl (n := 1) (rfl) (by omega) (by decide) (mw_set_values g k (up (up u 6 3 (nI (mVf (mVars u i) 3 n))) 6 2 (nI (mVf (mVars u i) 2 (mLf (mVars u i) 3 n)))) 1 (nI (mVf (mVars u i) 1 (mLf (mVars u i) 2 (mLf (mVars u i) 3 n))))) d_D_instance_54 ?_
  refine j_iload hC d_D_instance_55 6 rfl ?_
  suffices hk57 : jJ p l e ({ frames := 2, cells := 0, slots := 0, locals := 45 }) s m [.ref (g 0), .int (nI i), .int (nI n)].toArray below meth c 7 (dC, dI) jcl A (hxQ below (jQ (dC, dI) jcl (jRet (some (.int ((mInst u i n).1))) (mw g k ((mInst u i n).2))) A) [.ref (g 0), .int (nI i), .int (nI n)].toArray s 0 0 A) 0 0 (mw g k (up (up (up u 6 3 (nI (mVf (mVars u i) 3 n))) 6 2 (nI (mVf (mVars u i) 2 (mLf (mVars u i) 3 n)))) 6 1 (nI (mVf (mVars u i) 1 (mLf (mVars u i) 2 (mLf (mVars u i) 3 n)))))) [(0, .ref (g 0)), (1, .int (nI i)), (2, .int (nI n)), (3, .int (nI (mLf (mVars u i) 2 (mLf (mVars u i) 3 n)))), (4, .int (mVars u i)), (5, .int 1), (6, .int (mHas (mVars u i) 1))] [.int (nI (if (mHas (mVars u i) 1) = 0 then (mLf (mVars u i) 2 (mLf (mVars u i) 3 n)) else ((mLf (mVars u i) 2 (mLf (mVars u i) 3 n)) / 12)))] 68 by
    refine j_if_eq (tgt := 67) hC d_D_instance_57 (by decide) (fun h57 => ?_) (fun h57 => ?_)
    · refine j_iload_n hC d_D_instance_67 rfl 3 rfl ?_
      exact j_top (congrArg nI (if_pos h57)) hk57
    · refine j_iload_n hC d_D_instance_60 rfl 3 rfl ?_
      refine j_bipush (v := 12) hC d_D_instance_61 (by decide) ?_
      refine j_idiv hC d_D_instance_63 (by decide) ?_
      refine j_top (v := nI ((mLf (mVars u i) 2 (mLf (mVars u i) 3 n)) / 12)) (pk_div (a := mLf (mVars u i) 2 (mLf (mVars u i) 3 n)) (d := 12) (by repeat (first | exact hn | refine mLf_lt ?_)) (by decide) (by decide)).symm ?_
      refine j_goto (tgt := 68) hC d_D_instance_64 (by decide) ?_
      exact j_top (congrArg nI (if_neg h57)) hk57
  refine j_istore_n (lv' := [(0, .ref (g 0)), (1, .int (nI i)), (2, .int (nI n)), (3, .int (nI (mLf (mVars u i) 1 (mLf (mVars u i) 2 (mLf (mVars u i) 3 n))))), (4, .int (mVars u i)), (5, .int 1), (6, .int (mHas (mVars u i) 1))]) hC d_D_instance_68 rfl (by decide) rfl rfl ?_
  refine j_iinc (lv' := [(0, .ref (g 0)), (1, .int (nI i)), (2, .int (nI n)), (3, .int (nI (mLf (mVars u i) 1 (mLf (mVars u i) 2 (mLf (mVars u i) 3 n))))), (4, .int (mVars u i)), (5, .int 0), (6, .int (mHas (mVars u i) 1))]) hC d_D_instance_69 5 rfl (by decide) (by decide) rfl rfl ?_
  refine j_goto (tgt := 12) hC d_D_instance_72 (by decide) ?_
  refine j_iload hC d_D_instance_12 5 rfl ?_
  refine j_if_lt (tgt := 75) hC d_D_instance_14 (by decide) (fun h14 => absurd h14 (by decide)) (fun h14 => ?_)
  refine j_iload hC d_D_instance_17 4 rfl ?_
  refine j_iload hC d_D_instance_19 5 rfl ?_
  refine j_ishr hC d_D_instance_21 ?_
  refine j_iconst (v := 1) hC d_D_instance_22 (by decide) ?_
  refine j_iand hC d_D_instance_23 ?_
  refine j_iconst (v := 1) hC d_D_instance_24 (by decide) ?_
  suffices hk25 : jJ p l e ({ frames := 2, cells := 0, slots := 0, locals := 45 }) s m [.ref (g 0), .int (nI i), .int (nI n)].toArray below meth c 7 (dC, dI) jcl A (hxQ below (jQ (dC, dI) jcl (jRet (some (.int ((mInst u i n).1))) (mw g k ((mInst u i n).2))) A) [.ref (g 0), .int (nI i), .int (nI n)].toArray s 0 0 A) 0 0 (mw g k (up (up (up u 6 3 (nI (mVf (mVars u i) 3 n))) 6 2 (nI (mVf (mVars u i) 2 (mLf (mVars u i) 3 n)))) 6 1 (nI (mVf (mVars u i) 1 (mLf (mVars u i) 2 (mLf (mVars u i) 3 n)))))) [(0, .ref (g 0)), (1, .int (nI i)), (2, .int (nI n)), (3, .int (nI (mLf (mVars u i) 1 (mLf (mVars u i) 2 (mLf (mVars u i) 3 n))))), (4, .int (mVars u i)), (5, .int 0), (6, .int (mHas (mVars u i) 1))] [.int (if (((mVars u i) >>> (0 &&& 31)) &&& 1) = 1 then (1 : Int32) else (0 : Int32))] 33 by
    refine j_icmp_ne (tgt := 32) hC d_D_instance_25 (by decide) (fun h25 => ?_) (fun h25 => ?_)
    · refine j_iconst (v := 0) hC d_D_instance_32 (by decide) ?_
      exact j_top ((if_neg h25)) hk25
    · refine j_iconst (v := 1) hC d_D_instance_28 (by decide) ?_
      refine j_goto (tgt := 33) hC d_D_instance_29 (by decide) ?_
      exact j_top ((if_pos h25)) hk25
  refine j_istore (lv' := [(0, .ref (g 0)), (1, .int (nI i)), (2, .int (nI n)), (3, .int (nI (mLf (mVars u i) 1 (mLf (mVars u i) 2 (mLf (mVars u i) 3 n))))), (4, .int (mVars u i)), (5, .int 0), (6, .int (mHas (mVars u i) 0))]) hC d_D_instance_33 (by decide) rfl rfl ?_
  refine j_aload_n hC d_D_instance_35 rfl 0 rfl ?_
  refine j_get hC hin_D (0) (mw_obj g k (up (up (up u 6 3 (nI (mVf (mVars u i) 3 n))) 6 2 (nI (mVf (mVars u i) 2 (mLf (mVars u i) 3 n)))) 6 1 (nI (mVf (mVars u i) 1 (mLf (mVars u i) 2 (mLf (mVars u i) 3 n)))))) rfl 14 (by decide) (hC.2.2.2.2.1 _ wf_D_38) (fun _ h9 => h9) rfl d_D_instance_36 ?_
  refine j_iload hC d_D_instance_39 5 rfl ?_
  refine j_iload hC d_D_instance_41 6 rfl ?_
  suffices hk43 : jJ p l e ({ frames := 2, cells := 0, slots := 0, locals := 45 }) s m [.ref (g 0), .int (nI i), .int (nI n)].toArray below meth c 7 (dC, dI) jcl A (hxQ below (jQ (dC, dI) jcl (jRet (some (.int ((mInst u i n).1))) (mw g k ((mInst u i n).2))) A) [.ref (g 0), .int (nI i), .int (nI n)].toArray s 0 0 A) 0 0 (mw g k (up (up (up u 6 3 (nI (mVf (mVars u i) 3 n))) 6 2 (nI (mVf (mVars u i) 2 (mLf (mVars u i) 3 n)))) 6 1 (nI (mVf (mVars u i) 1 (mLf (mVars u i) 2 (mLf (mVars u i) 3 n)))))) [(0, .ref (g 0)), (1, .int (nI i)), (2, .int (nI n)), (3, .int (nI (mLf (mVars u i) 1 (mLf (mVars u i) 2 (mLf (mVars u i) 3 n))))), (4, .int (mVars u i)), (5, .int 0), (6, .int (mHas (mVars u i) 0))] [.int (nI (if (mHas (mVars u i) 0) = 0 then (0 : Nat) else ((mLf (mVars u i) 1 (mLf (mVars u i) 2 (mLf (mVars u i) 3 n))) % 12))), .int 0, .ref (g 10)] 54 by
    refine j_if_eq (tgt := 53) hC d_D_instance_43 (by decide) (fun h43 => ?_) (fun h43 => ?_)
    · refine j_iconst (v := 0) hC d_D_instance_53 (by decide) ?_
      exact j_top (congrArg nI (if_pos h43)) hk43
    · refine j_iload_n hC d_D_instance_46 rfl 3 rfl ?_
      refine j_bipush (v := 12) hC d_D_instance_47 (by decide) ?_
      refine j_irem hC d_D_instance_49 (by decide) ?_
      refine j_top (v := nI ((mLf (mVars u i) 1 (mLf (mVars u i) 2 (mLf (mVars u i) 3 n))) % 12)) (pk_rem (a := mLf (mVars u i) 1 (mLf (mVars u i) 2 (mLf (mVars u i) 3 n))) (d := 12) (by repeat (first | exact hn | refine mLf_lt ?_)) (by decide) (by decide)).symm ?_
      refine j_goto (tgt := 54) hC d_D_instance_50 (by decide) ?_
      exact j_top (congrArg nI (if_neg h43)) hk43
  refine j_iastN (ws' := mw g k (up (up (up (up u 6 3 (nI (mVf (mVars u i) 3 n))) 6 2 (nI (mVf (mVars u i) 2 (mLf (mVars u i) 3 n)))) 6 1 (nI (mVf (mVars u i) 1 (mLf (mVars u i) 2 (mLf (mVars u i) 3 n))))) 6 0 (nI (mVf (mVars u i) 0 (mLf (mVars u i) 1 (mLf (mVars u i) 2 (mLf (mVars u i) 3 n))))))) hC (10) 0 (mw_values g k (up (up (up u 6 3 (nI (mVf (mVars u i) 3 n))) 6 2 (nI (mVf (mVars u i) 2 (mLf (mVars u i) 3 n)))) 6 1 (nI (mVf (mVars u i) 1 (mLf (mVars u i) 2 (mLf (mVars u i) 3 n)))))) rfl (n := 0) (rfl) (by omega) (by decide) (mw_set_values g k (up (up (up u 6 3 (nI (mVf (mVars u i) 3 n))) 6 2 (nI (mVf (mVars u i) 2 (mLf (mVars u i) 3 n)))) 6 1 (nI (mVf (mVars u i) 1 (mLf (mVars u i) 2 (mLf (mVars u i) 3 n))))) 0 (nI (mVf (mVars u i) 0 (mLf (mVars u i) 1 (mLf (mVars u i) 2 (mLf (mVars u i) 3 n)))))) d_D_instance_54 ?_
  refine j_iload hC d_D_instance_55 6 rfl ?_
  suffices hk57 : jJ p l e ({ frames := 2, cells := 0, slots := 0, locals := 45 }) s m [.ref (g 0), .int (nI i), .int (nI n)].toArray below meth c 7 (dC, dI) jcl A (hxQ below (jQ (dC, dI) jcl (jRet (some (.int ((mInst u i n).1))) (mw g k ((mInst u i n).2))) A) [.ref (g 0), .int (nI i), .int (nI n)].toArray s 0 0 A) 0 0 (mw g k (up (up (up (up u 6 3 (nI (mVf (mVars u i) 3 n))) 6 2 (nI (mVf (mVars u i) 2 (mLf (mVars u i) 3 n)))) 6 1 (nI (mVf (mVars u i) 1 (mLf (mVars u i) 2 (mLf (mVars u i) 3 n))))) 6 0 (nI (mVf (mVars u i) 0 (mLf (mVars u i) 1 (mLf (mVars u i) 2 (mLf (mVars u i) 3 n))))))) [(0, .ref (g 0)), (1, .int (nI i)), (2, .int (nI n)), (3, .int (nI (mLf (mVars u i) 1 (mLf (mVars u i) 2 (mLf (mVars u i) 3 n))))), (4, .int (mVars u i)), (5, .int 0), (6, .int (mHas (mVars u i) 0))] [.int (nI (if (mHas (mVars u i) 0) = 0 then (mLf (mVars u i) 1 (mLf (mVars u i) 2 (mLf (mVars u i) 3 n))) else ((mLf (mVars u i) 1 (mLf (mVars u i) 2 (mLf (mVars u i) 3 n))) / 12)))] 68 by
    refine j_if_eq (tgt := 67) hC d_D_instance_57 (by decide) (fun h57 => ?_) (fun h57 => ?_)
    · refine j_iload_n hC d_D_instance_67 rfl 3 rfl ?_
      exact j_top (congrArg nI (if_pos h57)) hk57
    · refine j_iload_n hC d_D_instance_60 rfl 3 rfl ?_
      refine j_bipush (v := 12) hC d_D_instance_61 (by decide) ?_
      refine j_idiv hC d_D_instance_63 (by decide) ?_
      refine j_top (v := nI ((mLf (mVars u i) 1 (mLf (mVars u i) 2 (mLf (mVars u i) 3 n))) / 12)) (pk_div (a := mLf (mVars u i) 1 (mLf (mVars u i) 2 (mLf (mVars u i) 3 n))) (d := 12) (by repeat (first | exact hn | refine mLf_lt ?_)) (by decide) (by decide)).symm ?_
      refine j_goto (tgt := 68) hC d_D_instance_64 (by decide) ?_
      exact j_top (congrArg nI (if_neg h57)) hk57
  refine j_istore_n (lv' := [(0, .ref (g 0)), (1, .int (nI i)), (2, .int (nI n)), (3, .int (nI (mLf (mVars u i) 0 (mLf (mVars u i) 1 (mLf (mVars u i) 2 (mLf (mVars u i) 3 n)))))), (4, .int (mVars u i)), (5, .int 0), (6, .int (mHas (mVars u i) 0))]) hC d_D_instance_68 rfl (by decide) rfl rfl ?_
  refine j_iinc (lv' := [(0, .ref (g 0)), (1, .int (nI i)), (2, .int (nI n)), (3, .int (nI (mLf (mVars u i) 0 (mLf (mVars u i) 1 (mLf (mVars u i) 2 (mLf (mVars u i) 3 n)))))), (4, .int (mVars u i)), (5, .int (-1)), (6, .int (mHas (mVars u i) 0))]) hC d_D_instance_69 5 rfl (by decide) (by decide) rfl rfl ?_
  refine j_goto (tgt := 12) hC d_D_instance_72 (by decide) ?_
  refine j_iload hC d_D_instance_12 5 rfl ?_
  refine j_if_lt (tgt := 75) hC d_D_instance_14 (by decide) (fun h14 => ?_) (fun h14 => absurd h14 (by decide))
  refine j_iload_n hC d_D_instance_75 rfl 3 rfl ?_
  suffices hk76 : jJ p l e ({ frames := 2, cells := 0, slots := 0, locals := 45 }) s m [.ref (g 0), .int (nI i), .int (nI n)].toArray below meth c 7 (dC, dI) jcl A (hxQ below (jQ (dC, dI) jcl (jRet (some (.int ((mInst u i n).1))) (mw g k ((mInst u i n).2))) A) [.ref (g 0), .int (nI i), .int (nI n)].toArray s 0 0 A) 0 0 (mw g k (up (up (up (up u 6 3 (nI (mVf (mVars u i) 3 n))) 6 2 (nI (mVf (mVars u i) 2 (mLf (mVars u i) 3 n)))) 6 1 (nI (mVf (mVars u i) 1 (mLf (mVars u i) 2 (mLf (mVars u i) 3 n))))) 6 0 (nI (mVf (mVars u i) 0 (mLf (mVars u i) 1 (mLf (mVars u i) 2 (mLf (mVars u i) 3 n))))))) [(0, .ref (g 0)), (1, .int (nI i)), (2, .int (nI n)), (3, .int (nI (mLf (mVars u i) 0 (mLf (mVars u i) 1 (mLf (mVars u i) 2 (mLf (mVars u i) 3 n)))))), (4, .int (mVars u i)), (5, .int (-1)), (6, .int (mHas (mVars u i) 0))] [.int (if (nI (mLf (mVars u i) 0 (mLf (mVars u i) 1 (mLf (mVars u i) 2 (mLf (mVars u i) 3 n))))) = 0 then (1 : Int32) else (0 : Int32))] 84 by
    refine j_if_ne (tgt := 83) hC d_D_instance_76 (by decide) (fun h76 => ?_) (fun h76 => ?_)
    · refine j_iconst (v := 0) hC d_D_instance_83 (by decide) ?_
      exact j_top ((if_neg h76)) hk76
    · refine j_iconst (v := 1) hC d_D_instance_79 (by decide) ?_
      refine j_goto (tgt := 84) hC d_D_instance_80 (by decide) ?_
      exact j_top ((if_pos h76)) hk76
  exact j_zret hC hr (by repeat' (first | rfl | split)) ⟨rfl, rfl, rfl⟩ d_D_instance_84

set_option maxHeartbeats 4000000 in
set_option maxRecDepth 100000 in
theorem r_behind (l : Launch) (dC : Nat → ClassId) (dI : Nat → Nat → Nat) (g k : Nat → Nat) (tl : List (ClassId × FieldType)) (u : jU) {i : Nat} (hi : i < 16) (hD : wfD u) {n : Nat} (hn : n < 100000) : jMet l y_D_behind (.code y_D_behind c_D_behind 9 (some .int)) ({ frames := 2, cells := 0, slots := 0, locals := 45 }) (dC, dI) jcl (mtys k tl) jTs [.ref (g 0), .int (nI i), .int (nI n)] (mw g k u) 0 0 (jRet (some (.int (nI (mBeh u i n)))) (mw g k u)) := by
  refine jMet.of (by decide) (Nat.le_of_ble_eq_true rfl) ?_
  intro p e s m below meth c A hC hex hr hnm htr
  show jJ p l e ({ frames := 2, cells := 0, slots := 0, locals := 45 }) s m [.ref (g 0), .int (nI i), .int (nI n)].toArray below meth c 9 (dC, dI) jcl A (hxQ below (jQ (dC, dI) jcl (jRet (some (.int (nI (mBeh u i n)))) (mw g k u)) A) [.ref (g 0), .int (nI i), .int (nI n)].toArray s 0 0 A) 0 0 (mw g k u) [(0, .ref (g 0)), (1, .int (nI i)), (2, .int (nI n))] [] 0
  have hc := hD.2.2.1 i hi
  have hc5 := hc.2
  have loop : ∀ (f q : Nat), q ≤ tn (u 12 i) → tn (u 12 i) < q + f → jJ p l e ({ frames := 2, cells := 0, slots := 0, locals := 45 }) s m [.ref (g 0), .int (nI i), .int (nI n)].toArray below meth c 9 (dC, dI) jcl A (hxQ below (jQ (dC, dI) jcl (jRet (some (.int (nI (mBeh u i n)))) (mw g k u)) A) [.ref (g 0), .int (nI i), .int (nI n)].toArray s 0 0 A) 0 0 (mw g k u) [(0, .ref (g 0)), (1, .int (nI i)), (2, .int (nI n)), (3, .int (nI (mSk u i q))), (4, .int (mVars u i)), (5, .int (nI (q + 1)))] [] 12 := by
    intro f
    induction f with
    | zero => intro q h1 h2; exact absurd h2 (by omega)
    | succ f ih =>
      intro q hq hf
      refine j_iload hC d_D_behind_12 5 rfl ?_
      refine j_aload_n hC d_D_behind_14 rfl 0 rfl ?_
      refine j_get hC hin_D (0) (mw_obj g k u) rfl 6 (by decide) (hC.2.2.2.2.1 _ wf_D_20) (fun _ h9 => h9) rfl d_D_behind_15 ?_
      refine j_iload_n hC d_D_behind_18 rfl 1 rfl ?_
      refine j_ialdN hC (4) 0 (mw_counts g k u) rfl (n := i) (rfl) (by omega) (by decide) d_D_behind_19 ?_
      refine j_icmp_gt (tgt := 124) hC d_D_behind_20 (by decide) (fun h20 => ?_) (fun h20 => ?_)
      · have hgt : tn (u 12 i) < q + 1 := (inN_ltN hc (by decide) (by omega)).mp h20
        have hqe : q = tn (u 12 i) := by omega
        subst hqe
        refine j_iload_n hC d_D_behind_124 rfl 2 rfl ?_
        refine j_iload_n hC d_D_behind_125 rfl 2 rfl ?_
        refine j_iload_n hC d_D_behind_126 rfl 3 rfl ?_
        refine j_irem hC d_D_behind_127 (nI_ne (by have := mSk_b u i (tn (u 12 i)); omega) (by have := mSk_b u i (tn (u 12 i)); omega)) ?_
        refine j_top (v := nI (n % (mSk u i (tn (u 12 i))))) (pk_rem (a := n) (d := mSk u i (tn (u 12 i))) (by omega) (by have := mSk_b u i (tn (u 12 i)); omega) (by have := mSk_b u i (tn (u 12 i)); omega)).symm ?_
        refine j_isub hC d_D_behind_128 ?_
        refine j_top (v := nI (n - (n % (mSk u i (tn (u 12 i)))))) (pk_sub (Nat.mod_le _ _)).symm ?_
        refine j_iload_n hC d_D_behind_129 rfl 3 rfl ?_
        refine j_iadd hC d_D_behind_130 ?_
        refine j_top (v := nI ((n - (n % (mSk u i (tn (u 12 i))))) + (mSk u i (tn (u 12 i))))) (nI_add (n - (n % (mSk u i (tn (u 12 i))))) (mSk u i (tn (u 12 i)))).symm ?_
        exact j_iret hC hr ⟨rfl, rfl, rfl⟩ d_D_behind_131
      · have hle : q + 1 ≤ tn (u 12 i) := Nat.not_lt.mp (fun z => h20 ((inN_ltN hc (by decide) (by omega)).mpr z))
        refine j_iconst (v := 5) hC d_D_behind_23 (by decide) ?_
        refine j_iload_n hC d_D_behind_24 rfl 1 rfl ?_
        refine j_imul hC d_D_behind_25 ?_
        refine j_top (v := nI (5 * i)) (pk_mul 5 i).symm ?_
        refine j_iload hC d_D_behind_26 5 rfl ?_
        refine j_iadd hC d_D_behind_28 ?_
        refine j_top (v := nI ((5 * i) + (q + 1))) (nI_add (5 * i) (q + 1)).symm ?_
        refine j_istore (lv' := [(0, .ref (g 0)), (1, .int (nI i)), (2, .int (nI n)), (3, .int (nI (mSk u i q))), (4, .int (mVars u i)), (5, .int (nI (q + 1))), (6, .int (nI ((5 * i) + (q + 1))))]) hC d_D_behind_29 (by decide) rfl rfl ?_
        refine j_aload_n hC d_D_behind_31 rfl 0 rfl ?_
        refine j_aload_n hC d_D_behind_32 rfl 0 rfl ?_
        refine j_iload hC d_D_behind_33 6 rfl ?_
        refine j_callVr (As := [.int (nI ((5 * i) + (q + 1)))]) (rest := [.ref (g 0)]) (st1 := [.int (nI (mFact u (5 * i + (q + 1)))), .ref (g 0)]) hC (r_factOf l dC dI g k tl u (j := 5 * i + (q + 1)) (by omega) ((hD.2.2.2.1 (5 * i + (q + 1)) (by omega))) hD.2.2.2.2.1) rfl rfl ww_D_100 yn_D_factOf (mw_obj g k u) rfl rfl d_D_behind_35 (Nat.le_of_ble_eq_true rfl) (by decide) ⟨Nat.zero_le _, Nat.zero_le _⟩ rfl ?_
        refine j_callVr (As := [.int (nI (mFact u (5 * i + (q + 1))))]) (rest := []) (st1 := [.int (m_holds u (mFact u (5 * i + (q + 1))))]) hC (r_holds l dC dI g k tl u (f := mFact u (5 * i + (q + 1))) (mFact_lt (hD.2.2.2.1 (5 * i + (q + 1)) (by omega)) hD.2.2.2.2.1)) rfl rfl ww_D_103 yn_D_holds (mw_obj g k u) rfl rfl d_D_behind_38 (Nat.le_of_ble_eq_true rfl) (by decide) ⟨Nat.zero_le _, Nat.zero_le _⟩ rfl ?_
        refine j_aload_n hC d_D_behind_41 rfl 0 rfl ?_
        refine j_get hC hin_D (0) (mw_obj g k u) rfl 10 (by decide) (hC.2.2.2.2.1 _ wf_D_32) (fun _ h9 => h9) rfl d_D_behind_42 ?_
        refine j_iload hC d_D_behind_45 6 rfl ?_
        refine j_zaldN hC (8) 3 (mw_negated g k u) rfl (n := (5 * i) + (q + 1)) (rfl) (by omega) (by decide) d_D_behind_47 ?_
        refine j_icmp_ne (tgt := 118) hC d_D_behind_48 (by decide) (fun h48 => ?_) (fun h48 => ?_)
        · refine j_iinc (lv' := [(0, .ref (g 0)), (1, .int (nI i)), (2, .int (nI n)), (3, .int (nI (mSk u i q))), (4, .int (mVars u i)), (5, .int (nI (q + 1 + 1))), (6, .int (nI ((5 * i) + (q + 1))))]) hC d_D_behind_118 5 rfl (nI_1 _) (by decide) rfl rfl ?_
          refine j_goto (tgt := 12) hC d_D_behind_121 (by decide) ?_
          have e9 : nI (mSk u i (q + 1)) = nI (mSk u i q) := congrArg nI (by rw [mSk, if_neg h48])
          have k9 := ih (q + 1) (by omega) (by omega)
          rw [e9] at k9
          exact j_locals [0, 1, 2, 3, 4, 5] rfl k9
        · refine j_iconst (v := 1) hC d_D_behind_51 (by decide) ?_
          refine j_istore (lv' := [(0, .ref (g 0)), (1, .int (nI i)), (2, .int (nI n)), (3, .int (nI (mSk u i q))), (4, .int (mVars u i)), (5, .int (nI (q + 1))), (6, .int (nI ((5 * i) + (q + 1)))), (7, .int 1)]) hC d_D_behind_52 (by decide) rfl rfl ?_
          refine j_iconst (v := 3) hC d_D_behind_54 (by decide) ?_
          refine j_istore (lv' := [(0, .ref (g 0)), (1, .int (nI i)), (2, .int (nI n)), (3, .int (nI (mSk u i q))), (4, .int (mVars u i)), (5, .int (nI (q + 1))), (6, .int (nI ((5 * i) + (q + 1)))), (7, .int 1), (8, .int 3)]) hC d_D_behind_55 (by decide) rfl rfl ?_
          refine j_iload hC d_D_behind_57 8 rfl ?_
          refine j_if_lt (tgt := 105) hC d_D_behind_59 (by decide) (fun h59 => absurd h59 (by decide)) (fun h59 => ?_)
          refine j_aload_n hC d_D_behind_62 rfl 0 rfl ?_
          refine j_iload hC d_D_behind_63 6 rfl ?_
          refine j_callVr (As := [.int (nI ((5 * i) + (q + 1)))]) (rest := []) (st1 := [.int (m_vo u (5 * i + (q + 1)))]) hC (r_vo l dC dI g k tl u (j := 5 * i + (q + 1)) (by omega)) rfl rfl ww_D_84 yn_D_variablesOf (mw_obj g k u) rfl rfl d_D_behind_65 (Nat.le_of_ble_eq_true rfl) (by decide) ⟨Nat.zero_le _, Nat.zero_le _⟩ rfl ?_
          refine j_iload hC d_D_behind_68 8 rfl ?_
          refine j_ishr hC d_D_behind_70 ?_
          refine j_iconst (v := 1) hC d_D_behind_71 (by decide) ?_
          refine j_iand hC d_D_behind_72 ?_
          refine j_if_ne (tgt := 105) hC d_D_behind_73 (by decide) (fun h73 => ?_) (fun h73 => ?_)
          · refine j_iload hC d_D_behind_105 7 rfl ?_
            refine j_iload_n hC d_D_behind_107 rfl 3 rfl ?_
            suffices hk108 : jJ p l e ({ frames := 2, cells := 0, slots := 0, locals := 45 }) s m [.ref (g 0), .int (nI i), .int (nI n)].toArray below meth c 9 (dC, dI) jcl A (hxQ below (jQ (dC, dI) jcl (jRet (some (.int (nI (mBeh u i n)))) (mw g k u)) A) [.ref (g 0), .int (nI i), .int (nI n)].toArray s 0 0 A) 0 0 (mw g k u) [(0, .ref (g 0)), (1, .int (nI i)), (2, .int (nI n)), (3, .int (nI (mSk u i q))), (4, .int (mVars u i)), (5, .int (nI (q + 1))), (6, .int (nI ((5 * i) + (q + 1)))), (7, .int 1), (8, .int 3)] [.int (nI (if 1 ≤ (nI (mSk u i q)) then (mSk u i q) else (1 : Nat)))] 117 by
              refine j_icmp_le (tgt := 116) hC d_D_behind_108 (by decide) (fun h108 => ?_) (fun h108 => ?_)
              · refine j_iload_n hC d_D_behind_116 rfl 3 rfl ?_
                exact j_top (congrArg nI (if_pos h108)) hk108
              · refine j_iload hC d_D_behind_111 7 rfl ?_
                refine j_goto (tgt := 117) hC d_D_behind_113 (by decide) ?_
                exact j_top (congrArg nI (if_neg h108)) hk108
            refine j_istore_n (lv' := [(0, .ref (g 0)), (1, .int (nI i)), (2, .int (nI n)), (3, .int (nI (if 1 ≤ (nI (mSk u i q)) then (mSk u i q) else (1 : Nat)))), (4, .int (mVars u i)), (5, .int (nI (q + 1))), (6, .int (nI ((5 * i) + (q + 1)))), (7, .int 1), (8, .int 3)]) hC d_D_behind_117 rfl (by decide) rfl rfl ?_
            refine j_iinc (lv' := [(0, .ref (g 0)), (1, .int (nI i)), (2, .int (nI n)), (3, .int (nI (if 1 ≤ (nI (mSk u i q)) then (mSk u i q) else (1 : Nat)))), (4, .int (mVars u i)), (5, .int (nI (q + 1 + 1))), (6, .int (nI ((5 * i) + (q + 1)))), (7, .int 1), (8, .int 3)]) hC d_D_behind_118 5 rfl (nI_1 _) (by decide) rfl rfl ?_
            refine j_goto (tgt := 12) hC d_D_behind_121 (by decide) ?_
            have e9 : nI (mSk u i (q + 1)) = nI (if 1 ≤ (nI (mSk u i q)) then (mSk u i q) else (1 : Nat)) := congrArg nI (by rw [mSk, if_pos h48, mUnit, if_neg h73] <;> rfl)
            have k9 := ih (q + 1) (by omega) (by omega)
            rw [e9] at k9
            exact j_locals [0, 1, 2, 3, 4, 5] rfl k9
          · refine j_iload hC d_D_behind_76 4 rfl ?_
            refine j_iload hC d_D_behind_78 8 rfl ?_
            refine j_ishr hC d_D_behind_80 ?_
            refine j_iconst (v := 1) hC d_D_behind_81 (by decide) ?_
            refine j_iand hC d_D_behind_82 ?_
            refine j_iconst (v := 1) hC d_D_behind_83 (by decide) ?_
            suffices hk84 : jJ p l e ({ frames := 2, cells := 0, slots := 0, locals := 45 }) s m [.ref (g 0), .int (nI i), .int (nI n)].toArray below meth c 9 (dC, dI) jcl A (hxQ below (jQ (dC, dI) jcl (jRet (some (.int (nI (mBeh u i n)))) (mw g k u)) A) [.ref (g 0), .int (nI i), .int (nI n)].toArray s 0 0 A) 0 0 (mw g k u) [(0, .ref (g 0)), (1, .int (nI i)), (2, .int (nI n)), (3, .int (nI (mSk u i q))), (4, .int (mVars u i)), (5, .int (nI (q + 1))), (6, .int (nI ((5 * i) + (q + 1)))), (7, .int 1), (8, .int 3)] [.int (nI (if (((mVars u i) >>> (3 &&& 31)) &&& 1) = 1 then (12 : Nat) else (1 : Nat)))] 97 by
              refine j_icmp_ne (tgt := 95) hC d_D_behind_84 (by decide) (fun h84 => ?_) (fun h84 => ?_)
              · refine j_iload hC d_D_behind_95 7 rfl ?_
                exact j_top (congrArg nI (if_neg h84)) hk84
              · refine j_bipush (v := 12) hC d_D_behind_87 (by decide) ?_
                refine j_iload hC d_D_behind_89 7 rfl ?_
                refine j_imul hC d_D_behind_91 ?_
                refine j_top (v := 12) (by decide) ?_
                refine j_goto (tgt := 97) hC d_D_behind_92 (by decide) ?_
                exact j_top (congrArg nI (if_pos h84)) hk84
            refine j_istore (lv' := [(0, .ref (g 0)), (1, .int (nI i)), (2, .int (nI n)), (3, .int (nI (mSk u i q))), (4, .int (mVars u i)), (5, .int (nI (q + 1))), (6, .int (nI ((5 * i) + (q + 1)))), (7, .int (nI (mU1 (mVars u i) 3 1))), (8, .int 3)]) hC d_D_behind_97 (by decide) rfl rfl ?_
            refine j_iinc (lv' := [(0, .ref (g 0)), (1, .int (nI i)), (2, .int (nI n)), (3, .int (nI (mSk u i q))), (4, .int (mVars u i)), (5, .int (nI (q + 1))), (6, .int (nI ((5 * i) + (q + 1)))), (7, .int (nI (mU1 (mVars u i) 3 1))), (8, .int 2)]) hC d_D_behind_99 8 rfl (by decide) (by decide) rfl rfl ?_
            refine j_goto (tgt := 57) hC d_D_behind_102 (by decide) ?_
            refine j_iload hC d_D_behind_57 8 rfl ?_
            refine j_if_lt (tgt := 105) hC d_D_behind_59 (by decide) (fun h59 => absurd h59 (by decide)) (fun h59 => ?_)
            refine j_aload_n hC d_D_behind_62 rfl 0 rfl ?_
            refine j_iload hC d_D_behind_63 6 rfl ?_
            refine j_callVr (As := [.int (nI ((5 * i) + (q + 1)))]) (rest := []) (st1 := [.int (m_vo u (5 * i + (q + 1)))]) hC (r_vo l dC dI g k tl u (j := 5 * i + (q + 1)) (by omega)) rfl rfl ww_D_84 yn_D_variablesOf (mw_obj g k u) rfl rfl d_D_behind_65 (Nat.le_of_ble_eq_true rfl) (by decide) ⟨Nat.zero_le _, Nat.zero_le _⟩ rfl ?_
            refine j_iload hC d_D_behind_68 8 rfl ?_
            refine j_ishr hC d_D_behind_70 ?_
            refine j_iconst (v := 1) hC d_D_behind_71 (by decide) ?_
            refine j_iand hC d_D_behind_72 ?_
            refine j_if_ne (tgt := 105) hC d_D_behind_73 (by decide) (fun h73_1 => ?_) (fun h73_1 => ?_)
            · refine j_iload hC d_D_behind_105 7 rfl ?_
              refine j_iload_n hC d_D_behind_107 rfl 3 rfl ?_
              suffices hk108 : jJ p l e ({ frames := 2, cells := 0, slots := 0, locals := 45 }) s m [.ref (g 0), .int (nI i), .int (nI n)].toArray below meth c 9 (dC, dI) jcl A (hxQ below (jQ (dC, dI) jcl (jRet (some (.int (nI (mBeh u i n)))) (mw g k u)) A) [.ref (g 0), .int (nI i), .int (nI n)].toArray s 0 0 A) 0 0 (mw g k u) [(0, .ref (g 0)), (1, .int (nI i)), (2, .int (nI n)), (3, .int (nI (mSk u i q))), (4, .int (mVars u i)), (5, .int (nI (q + 1))), (6, .int (nI ((5 * i) + (q + 1)))), (7, .int (nI (mU1 (mVars u i) 3 1))), (8, .int 2)] [.int (nI (if (nI (mU1 (mVars u i) 3 1)) ≤ (nI (mSk u i q)) then (mSk u i q) else (mU1 (mVars u i) 3 1)))] 117 by
                refine j_icmp_le (tgt := 116) hC d_D_behind_108 (by decide) (fun h108 => ?_) (fun h108 => ?_)
                · refine j_iload_n hC d_D_behind_116 rfl 3 rfl ?_
                  exact j_top (congrArg nI (if_pos h108)) hk108
                · refine j_iload hC d_D_behind_111 7 rfl ?_
                  refine j_goto (tgt := 117) hC d_D_behind_113 (by decide) ?_
                  exact j_top (congrArg nI (if_neg h108)) hk108
              refine j_istore_n (lv' := [(0, .ref (g 0)), (1, .int (nI i)), (2, .int (nI n)), (3, .int (nI (if (nI (mU1 (mVars u i) 3 1)) ≤ (nI (mSk u i q)) then (mSk u i q) else (mU1 (mVars u i) 3 1)))), (4, .int (mVars u i)), (5, .int (nI (q + 1))), (6, .int (nI ((5 * i) + (q + 1)))), (7, .int (nI (mU1 (mVars u i) 3 1))), (8, .int 2)]) hC d_D_behind_117 rfl (by decide) rfl rfl ?_
              refine j_iinc (lv' := [(0, .ref (g 0)), (1, .int (nI i)), (2, .int (nI n)), (3, .int (nI (if (nI (mU1 (mVars u i) 3 1)) ≤ (nI (mSk u i q)) then (mSk u i q) else (mU1 (mVars u i) 3 1)))), (4, .int (mVars u i)), (5, .int (nI (q + 1 + 1))), (6, .int (nI ((5 * i) + (q + 1)))), (7, .int (nI (mU1 (mVars u i) 3 1))), (8, .int 2)]) hC d_D_behind_118 5 rfl (nI_1 _) (by decide) rfl rfl ?_
              refine j_goto (tgt := 12) hC d_D_behind_121 (by decide) ?_
              have e9 : nI (mSk u i (q + 1)) = nI (if (nI (mU1 (mVars u i) 3 1)) ≤ (nI (mSk u i q)) then (mSk u i q) else (mU1 (mVars u i) 3 1)) := congrArg nI (by rw [mSk, if_pos h48, mUnit, if_pos h73, if_neg h73_1] <;> rfl)
              have k9 := ih (q + 1) (by omega) (by omega)
              rw [e9] at k9
              exact j_locals [0, 1, 2, 3, 4, 5] rfl k9
            · refine j_iload hC d_D_behind_76 4 rfl ?_
              refine j_iload hC d_D_behind_78 8 rfl ?_
              refine j_ishr hC d_D_behind_80 ?_
              refine j_iconst (v := 1) hC d_D_behind_81 (by decide) ?_
              refine j_iand hC d_D_behind_82 ?_
              refine j_iconst (v := 1) hC d_D_behind_83 (by decide) ?_
              suffices hk84 : jJ p l e ({ frames := 2, cells := 0, slots := 0, locals := 45 }) s m [.ref (g 0), .int (nI i), .int (nI n)].toArray below meth c 9 (dC, dI) jcl A (hxQ below (jQ (dC, dI) jcl (jRet (some (.int (nI (mBeh u i n)))) (mw g k u)) A) [.ref (g 0), .int (nI i), .int (nI n)].toArray s 0 0 A) 0 0 (mw g k u) [(0, .ref (g 0)), (1, .int (nI i)), (2, .int (nI n)), (3, .int (nI (mSk u i q))), (4, .int (mVars u i)), (5, .int (nI (q + 1))), (6, .int (nI ((5 * i) + (q + 1)))), (7, .int (nI (mU1 (mVars u i) 3 1))), (8, .int 2)] [.int (nI (if (((mVars u i) >>> (2 &&& 31)) &&& 1) = 1 then (12 * (mU1 (mVars u i) 3 1)) else (mU1 (mVars u i) 3 1)))] 97 by
                refine j_icmp_ne (tgt := 95) hC d_D_behind_84 (by decide) (fun h84 => ?_) (fun h84 => ?_)
                · refine j_iload hC d_D_behind_95 7 rfl ?_
                  exact j_top (congrArg nI (if_neg h84)) hk84
                · refine j_bipush (v := 12) hC d_D_behind_87 (by decide) ?_
                  refine j_iload hC d_D_behind_89 7 rfl ?_
                  refine j_imul hC d_D_behind_91 ?_
                  refine j_top (v := nI (12 * (mU1 (mVars u i) 3 1))) (pk_mul 12 (mU1 (mVars u i) 3 1)).symm ?_
                  refine j_goto (tgt := 97) hC d_D_behind_92 (by decide) ?_
                  exact j_top (congrArg nI (if_pos h84)) hk84
              refine j_istore (lv' := [(0, .ref (g 0)), (1, .int (nI i)), (2, .int (nI n)), (3, .int (nI (mSk u i q))), (4, .int (mVars u i)), (5, .int (nI (q + 1))), (6, .int (nI ((5 * i) + (q + 1)))), (7, .int (nI (mU1 (mVars u i) 2 (mU1 (mVars u i) 3 1)))), (8, .int 2)]) hC d_D_behind_97 (by decide) rfl rfl ?_
              refine j_iinc (lv' := [(0, .ref (g 0)), (1, .int (nI i)), (2, .int (nI n)), (3, .int (nI (mSk u i q))), (4, .int (mVars u i)), (5, .int (nI (q + 1))), (6, .int (nI ((5 * i) + (q + 1)))), (7, .int (nI (mU1 (mVars u i) 2 (mU1 (mVars u i) 3 1)))), (8, .int 1)]) hC d_D_behind_99 8 rfl (by decide) (by decide) rfl rfl ?_
              refine j_goto (tgt := 57) hC d_D_behind_102 (by decide) ?_
              refine j_iload hC d_D_behind_57 8 rfl ?_
              refine j_if_lt (tgt := 105) hC d_D_behind_59 (by decide) (fun h59 => absurd h59 (by decide)) (fun h59 => ?_)
              refine j_aload_n hC d_D_behind_62 rfl 0 rfl ?_
              refine j_iload hC d_D_behind_63 6 rfl ?_
              refine j_callVr (As := [.int (nI ((5 * i) + (q + 1)))]) (rest := []) (st1 := [.int (m_vo u (5 * i + (q + 1)))]) hC (r_vo l dC dI g k tl u (j := 5 * i + (q + 1)) (by omega)) rfl rfl ww_D_84 yn_D_variablesOf (mw_obj g k u) rfl rfl d_D_behind_65 (Nat.le_of_ble_eq_true rfl) (by decide) ⟨Nat.zero_le _, Nat.zero_le _⟩ rfl ?_
              refine j_iload hC d_D_behind_68 8 rfl ?_
              refine j_ishr hC d_D_behind_70 ?_
              refine j_iconst (v := 1) hC d_D_behind_71 (by decide) ?_
              refine j_iand hC d_D_behind_72 ?_
              refine j_if_ne (tgt := 105) hC d_D_behind_73 (by decide) (fun h73_2 => ?_) (fun h73_2 => ?_)
              · refine j_iload hC d_D_behind_105 7 rfl ?_
                refine j_iload_n hC d_D_behind_107 rfl 3 rfl ?_
                suffices hk108 : jJ p l e ({ frames := 2, cells := 0, slots := 0, locals := 45 }) s m [.ref (g 0), .int (nI i), .int (nI n)].toArray below meth c 9 (dC, dI) jcl A (hxQ below (jQ (dC, dI) jcl (jRet (some (.int (nI (mBeh u i n)))) (mw g k u)) A) [.ref (g 0), .int (nI i), .int (nI n)].toArray s 0 0 A) 0 0 (mw g k u) [(0, .ref (g 0)), (1, .int (nI i)), (2, .int (nI n)), (3, .int (nI (mSk u i q))), (4, .int (mVars u i)), (5, .int (nI (q + 1))), (6, .int (nI ((5 * i) + (q + 1)))), (7, .int (nI (mU1 (mVars u i) 2 (mU1 (mVars u i) 3 1)))), (8, .int 1)] [.int (nI (if (nI (mU1 (mVars u i) 2 (mU1 (mVars u i) 3 1))) ≤ (nI (mSk u i q)) then (mSk u i q) else (mU1 (mVars u i) 2 (mU1 (mVars u i) 3 1))))] 117 by
                  refine j_icmp_le (tgt := 116) hC d_D_behind_108 (by decide) (fun h108 => ?_) (fun h108 => ?_)
                  · refine j_iload_n hC d_D_behind_116 rfl 3 rfl ?_
                    exact j_top (congrArg nI (if_pos h108)) hk108
                  · refine j_iload hC d_D_behind_111 7 rfl ?_
                    refine j_goto (tgt := 117) hC d_D_behind_113 (by decide) ?_
                    exact j_top (congrArg nI (if_neg h108)) hk108
                refine j_istore_n (lv' := [(0, .ref (g 0)), (1, .int (nI i)), (2, .int (nI n)), (3, .int (nI (if (nI (mU1 (mVars u i) 2 (mU1 (mVars u i) 3 1))) ≤ (nI (mSk u i q)) then (mSk u i q) else (mU1 (mVars u i) 2 (mU1 (mVars u i) 3 1))))), (4, .int (mVars u i)), (5, .int (nI (q + 1))), (6, .int (nI ((5 * i) + (q + 1)))), (7, .int (nI (mU1 (mVars u i) 2 (mU1 (mVars u i) 3 1)))), (8, .int 1)]) hC d_D_behind_117 rfl (by decide) rfl rfl ?_
                refine j_iinc (lv' := [(0, .ref (g 0)), (1, .int (nI i)), (2, .int (nI n)), (3, .int (nI (if (nI (mU1 (mVars u i) 2 (mU1 (mVars u i) 3 1))) ≤ (nI (mSk u i q)) then (mSk u i q) else (mU1 (mVars u i) 2 (mU1 (mVars u i) 3 1))))), (4, .int (mVars u i)), (5, .int (nI (q + 1 + 1))), (6, .int (nI ((5 * i) + (q + 1)))), (7, .int (nI (mU1 (mVars u i) 2 (mU1 (mVars u i) 3 1)))), (8, .int 1)]) hC d_D_behind_118 5 rfl (nI_1 _) (by decide) rfl rfl ?_
                refine j_goto (tgt := 12) hC d_D_behind_121 (by decide) ?_
                have e9 : nI (mSk u i (q + 1)) = nI (if (nI (mU1 (mVars u i) 2 (mU1 (mVars u i) 3 1))) ≤ (nI (mSk u i q)) then (mSk u i q) else (mU1 (mVars u i) 2 (mU1 (mVars u i) 3 1))) := congrArg nI (by rw [mSk, if_pos h48, mUnit, if_pos h73, if_pos h73_1, if_neg h73_2] <;> rfl)
                have k9 := ih (q + 1) (by omega) (by omega)
                rw [e9] at k9
                exact j_locals [0, 1, 2, 3, 4, 5] rfl k9
              · refine j_iload hC d_D_behind_76 4 rfl ?_
                refine j_iload hC d_D_behind_78 8 rfl ?_
                refine j_ishr hC d_D_behind_80 ?_
                refine j_iconst (v := 1) hC d_D_behind_81 (by decide) ?_
                refine j_iand hC d_D_behind_82 ?_
                refine j_iconst (v := 1) hC d_D_behind_83 (by decide) ?_
                suffices hk84 : jJ p l e ({ frames := 2, cells := 0, slots := 0, locals := 45 }) s m [.ref (g 0), .int (nI i), .int (nI n)].toArray below meth c 9 (dC, dI) jcl A (hxQ below (jQ (dC, dI) jcl (jRet (some (.int (nI (mBeh u i n)))) (mw g k u)) A) [.ref (g 0), .int (nI i), .int (nI n)].toArray s 0 0 A) 0 0 (mw g k u) [(0, .ref (g 0)), (1, .int (nI i)), (2, .int (nI n)), (3, .int (nI (mSk u i q))), (4, .int (mVars u i)), (5, .int (nI (q + 1))), (6, .int (nI ((5 * i) + (q + 1)))), (7, .int (nI (mU1 (mVars u i) 2 (mU1 (mVars u i) 3 1)))), (8, .int 1)] [.int (nI (if (((mVars u i) >>> (1 &&& 31)) &&& 1) = 1 then (12 * (mU1 (mVars u i) 2 (mU1 (mVars u i) 3 1))) else (mU1 (mVars u i) 2 (mU1 (mVars u i) 3 1))))] 97 by
                  refine j_icmp_ne (tgt := 95) hC d_D_behind_84 (by decide) (fun h84 => ?_) (fun h84 => ?_)
                  · refine j_iload hC d_D_behind_95 7 rfl ?_
                    exact j_top (congrArg nI (if_neg h84)) hk84
                  · refine j_bipush (v := 12) hC d_D_behind_87 (by decide) ?_
                    refine j_iload hC d_D_behind_89 7 rfl ?_
                    refine j_imul hC d_D_behind_91 ?_
                    refine j_top (v := nI (12 * (mU1 (mVars u i) 2 (mU1 (mVars u i) 3 1)))) (pk_mul 12 (mU1 (mVars u i) 2 (mU1 (mVars u i) 3 1))).symm ?_
                    refine j_goto (tgt := 97) hC d_D_behind_92 (by decide) ?_
                    exact j_top (congrArg nI (if_pos h84)) hk84
                refine j_istore (lv' := [(0, .ref (g 0)), (1, .int (nI i)), (2, .int (nI n)), (3, .int (nI (mSk u i q))), (4, .int (mVars u i)), (5, .int (nI (q + 1))), (6, .int (nI ((5 * i) + (q + 1)))), (7, .int (nI (mU1 (mVars u i) 1 (mU1 (mVars u i) 2 (mU1 (mVars u i) 3 1))))), (8, .int 1)]) hC d_D_behind_97 (by decide) rfl rfl ?_
                refine j_iinc (lv' := [(0, .ref (g 0)), (1, .int (nI i)), (2, .int (nI n)), (3, .int (nI (mSk u i q))), (4, .int (mVars u i)), (5, .int (nI (q + 1))), (6, .int (nI ((5 * i) + (q + 1)))), (7, .int (nI (mU1 (mVars u i) 1 (mU1 (mVars u i) 2 (mU1 (mVars u i) 3 1))))), (8, .int 0)]) hC d_D_behind_99 8 rfl (by decide) (by decide) rfl rfl ?_
                refine j_goto (tgt := 57) hC d_D_behind_102 (by decide) ?_
                refine j_iload hC d_D_behind_57 8 rfl ?_
                refine j_if_lt (tgt := 105) hC d_D_behind_59 (by decide) (fun h59 => absurd h59 (by decide)) (fun h59 => ?_)
                refine j_aload_n hC d_D_behind_62 rfl 0 rfl ?_
                refine j_iload hC d_D_behind_63 6 rfl ?_
                refine j_callVr (As := [.int (nI ((5 * i) + (q + 1)))]) (rest := []) (st1 := [.int (m_vo u (5 * i + (q + 1)))]) hC (r_vo l dC dI g k tl u (j := 5 * i + (q + 1)) (by omega)) rfl rfl ww_D_84 yn_D_variablesOf (mw_obj g k u) rfl rfl d_D_behind_65 (Nat.le_of_ble_eq_true rfl) (by decide) ⟨Nat.zero_le _, Nat.zero_le _⟩ rfl ?_
                refine j_iload hC d_D_behind_68 8 rfl ?_
                refine j_ishr hC d_D_behind_70 ?_
                refine j_iconst (v := 1) hC d_D_behind_71 (by decide) ?_
                refine j_iand hC d_D_behind_72 ?_
                refine j_if_ne (tgt := 105) hC d_D_behind_73 (by decide) (fun h73_3 => ?_) (fun h73_3 => ?_)
                · refine j_iload hC d_D_behind_105 7 rfl ?_
                  refine j_iload_n hC d_D_behind_107 rfl 3 rfl ?_
                  suffices hk108 : jJ p l e ({ frames := 2, cells := 0, slots := 0, locals := 45 }) s m [.ref (g 0), .int (nI i), .int (nI n)].toArray below meth c 9 (dC, dI) jcl A (hxQ below (jQ (dC, dI) jcl (jRet (some (.int (nI (mBeh u i n)))) (mw g k u)) A) [.ref (g 0), .int (nI i), .int (nI n)].toArray s 0 0 A) 0 0 (mw g k u) [(0, .ref (g 0)), (1, .int (nI i)), (2, .int (nI n)), (3, .int (nI (mSk u i q))), (4, .int (mVars u i)), (5, .int (nI (q + 1))), (6, .int (nI ((5 * i) + (q + 1)))), (7, .int (nI (mU1 (mVars u i) 1 (mU1 (mVars u i) 2 (mU1 (mVars u i) 3 1))))), (8, .int 0)] [.int (nI (if (nI (mU1 (mVars u i) 1 (mU1 (mVars u i) 2 (mU1 (mVars u i) 3 1)))) ≤ (nI (mSk u i q)) then (mSk u i q) else (mU1 (mVars u i) 1 (mU1 (mVars u i) 2 (mU1 (mVars u i) 3 1)))))] 117 by
                    refine j_icmp_le (tgt := 116) hC d_D_behind_108 (by decide) (fun h108 => ?_) (fun h108 => ?_)
                    · refine j_iload_n hC d_D_behind_116 rfl 3 rfl ?_
                      exact j_top (congrArg nI (if_pos h108)) hk108
                    · refine j_iload hC d_D_behind_111 7 rfl ?_
                      refine j_goto (tgt := 117) hC d_D_behind_113 (by decide) ?_
                      exact j_top (congrArg nI (if_neg h108)) hk108
                  refine j_istore_n (lv' := [(0, .ref (g 0)), (1, .int (nI i)), (2, .int (nI n)), (3, .int (nI (if (nI (mU1 (mVars u i) 1 (mU1 (mVars u i) 2 (mU1 (mVars u i) 3 1)))) ≤ (nI (mSk u i q)) then (mSk u i q) else (mU1 (mVars u i) 1 (mU1 (mVars u i) 2 (mU1 (mVars u i) 3 1)))))), (4, .int (mVars u i)), (5, .int (nI (q + 1))), (6, .int (nI ((5 * i) + (q + 1)))), (7, .int (nI (mU1 (mVars u i) 1 (mU1 (mVars u i) 2 (mU1 (mVars u i) 3 1))))), (8, .int 0)]) hC d_D_behind_117 rfl (by decide) rfl rfl ?_
                  refine j_iinc (lv' := [(0, .ref (g 0)), (1, .int (nI i)), (2, .int (nI n)), (3, .int (nI (if (nI (mU1 (mVars u i) 1 (mU1 (mVars u i) 2 (mU1 (mVars u i) 3 1)))) ≤ (nI (mSk u i q)) then (mSk u i q) else (mU1 (mVars u i) 1 (mU1 (mVars u i) 2 (mU1 (mVars u i) 3 1)))))), (4, .int (mVars u i)), (5, .int (nI (q + 1 + 1))), (6, .int (nI ((5 * i) + (q + 1)))), (7, .int (nI (mU1 (mVars u i) 1 (mU1 (mVars u i) 2 (mU1 (mVars u i) 3 1))))), (8, .int 0)]) hC d_D_behind_118 5 rfl (nI_1 _) (by decide) rfl rfl ?_
                  refine j_goto (tgt := 12) hC d_D_behind_121 (by decide) ?_
                  have e9 : nI (mSk u i (q + 1)) = nI (if (nI (mU1 (mVars u i) 1 (mU1 (mVars u i) 2 (mU1 (mVars u i) 3 1)))) ≤ (nI (mSk u i q)) then (mSk u i q) else (mU1 (mVars u i) 1 (mU1 (mVars u i) 2 (mU1 (mVars u i) 3 1)))) := congrArg nI (by rw [mSk, if_pos h48, mUnit, if_pos h73, if_pos h73_1, if_pos h73_2, if_neg h73_3] <;> rfl)
                  have k9 := ih (q + 1) (by omega) (by omega)
                  rw [e9] at k9
                  exact j_locals [0, 1, 2, 3, 4, 5] rfl k9
                · refine j_iload hC d_D_behind_76 4 rfl ?_
                  refine j_iload hC d_D_behind_78 8 rfl ?_
                  refine j_ishr hC d_D_behind_80 ?_
                  refine j_iconst (v := 1) hC d_D_behind_81 (by decide) ?_
                  refine j_iand hC d_D_behind_82 ?_
                  refine j_iconst (v := 1) hC d_D_behind_83 (by decide) ?_
                  suffices hk84 : jJ p l e ({ frames := 2, cells := 0, slots := 0, locals := 45 }) s m [.ref (g 0), .int (nI i), .int (nI n)].toArray below meth c 9 (dC, dI) jcl A (hxQ below (jQ (dC, dI) jcl (jRet (some (.int (nI (mBeh u i n)))) (mw g k u)) A) [.ref (g 0), .int (nI i), .int (nI n)].toArray s 0 0 A) 0 0 (mw g k u) [(0, .ref (g 0)), (1, .int (nI i)), (2, .int (nI n)), (3, .int (nI (mSk u i q))), (4, .int (mVars u i)), (5, .int (nI (q + 1))), (6, .int (nI ((5 * i) + (q + 1)))), (7, .int (nI (mU1 (mVars u i) 1 (mU1 (mVars u i) 2 (mU1 (mVars u i) 3 1))))), (8, .int 0)] [.int (nI (if (((mVars u i) >>> (0 &&& 31)) &&& 1) = 1 then (12 * (mU1 (mVars u i) 1 (mU1 (mVars u i) 2 (mU1 (mVars u i) 3 1)))) else (mU1 (mVars u i) 1 (mU1 (mVars u i) 2 (mU1 (mVars u i) 3 1)))))] 97 by
                    refine j_icmp_ne (tgt := 95) hC d_D_behind_84 (by decide) (fun h84 => ?_) (fun h84 => ?_)
                    · refine j_iload hC d_D_behind_95 7 rfl ?_
                      exact j_top (congrArg nI (if_neg h84)) hk84
                    · refine j_bipush (v := 12) hC d_D_behind_87 (by decide) ?_
                      refine j_iload hC d_D_behind_89 7 rfl ?_
                      refine j_imul hC d_D_behind_91 ?_
                      refine j_top (v := nI (12 * (mU1 (mVars u i) 1 (mU1 (mVars u i) 2 (mU1 (mVars u i) 3 1))))) (pk_mul 12 (mU1 (mVars u i) 1 (mU1 (mVars u i) 2 (mU1 (mVars u i) 3 1)))).symm ?_
                      refine j_goto (tgt := 97) hC d_D_behind_92 (by decide) ?_
                      exact j_top (congrArg nI (if_pos h84)) hk84
                  refine j_istore (lv' := [(0, .ref (g 0)), (1, .int (nI i)), (2, .int (nI n)), (3, .int (nI (mSk u i q))), (4, .int (mVars u i)), (5, .int (nI (q + 1))), (6, .int (nI ((5 * i) + (q + 1)))), (7, .int (nI (mU1 (mVars u i) 0 (mU1 (mVars u i) 1 (mU1 (mVars u i) 2 (mU1 (mVars u i) 3 1)))))), (8, .int 0)]) hC d_D_behind_97 (by decide) rfl rfl ?_
                  refine j_iinc (lv' := [(0, .ref (g 0)), (1, .int (nI i)), (2, .int (nI n)), (3, .int (nI (mSk u i q))), (4, .int (mVars u i)), (5, .int (nI (q + 1))), (6, .int (nI ((5 * i) + (q + 1)))), (7, .int (nI (mU1 (mVars u i) 0 (mU1 (mVars u i) 1 (mU1 (mVars u i) 2 (mU1 (mVars u i) 3 1)))))), (8, .int (-1))]) hC d_D_behind_99 8 rfl (by decide) (by decide) rfl rfl ?_
                  refine j_goto (tgt := 57) hC d_D_behind_102 (by decide) ?_
                  refine j_iload hC d_D_behind_57 8 rfl ?_
                  refine j_if_lt (tgt := 105) hC d_D_behind_59 (by decide) (fun h59 => ?_) (fun h59 => absurd h59 (by decide))
                  refine j_iload hC d_D_behind_105 7 rfl ?_
                  refine j_iload_n hC d_D_behind_107 rfl 3 rfl ?_
                  suffices hk108 : jJ p l e ({ frames := 2, cells := 0, slots := 0, locals := 45 }) s m [.ref (g 0), .int (nI i), .int (nI n)].toArray below meth c 9 (dC, dI) jcl A (hxQ below (jQ (dC, dI) jcl (jRet (some (.int (nI (mBeh u i n)))) (mw g k u)) A) [.ref (g 0), .int (nI i), .int (nI n)].toArray s 0 0 A) 0 0 (mw g k u) [(0, .ref (g 0)), (1, .int (nI i)), (2, .int (nI n)), (3, .int (nI (mSk u i q))), (4, .int (mVars u i)), (5, .int (nI (q + 1))), (6, .int (nI ((5 * i) + (q + 1)))), (7, .int (nI (mU1 (mVars u i) 0 (mU1 (mVars u i) 1 (mU1 (mVars u i) 2 (mU1 (mVars u i) 3 1)))))), (8, .int (-1))] [.int (nI (if (nI (mU1 (mVars u i) 0 (mU1 (mVars u i) 1 (mU1 (mVars u i) 2 (mU1 (mVars u i) 3 1))))) ≤ (nI (mSk u i q)) then (mSk u i q) else (mU1 (mVars u i) 0 (mU1 (mVars u i) 1 (mU1 (mVars u i) 2 (mU1 (mVars u i) 3 1))))))] 117 by
                    refine j_icmp_le (tgt := 116) hC d_D_behind_108 (by decide) (fun h108 => ?_) (fun h108 => ?_)
                    · refine j_iload_n hC d_D_behind_116 rfl 3 rfl ?_
                      exact j_top (congrArg nI (if_pos h108)) hk108
                    · refine j_iload hC d_D_behind_111 7 rfl ?_
                      refine j_goto (tgt := 117) hC d_D_behind_113 (by decide) ?_
                      exact j_top (congrArg nI (if_neg h108)) hk108
                  refine j_istore_n (lv' := [(0, .ref (g 0)), (1, .int (nI i)), (2, .int (nI n)), (3, .int (nI (if (nI (mU1 (mVars u i) 0 (mU1 (mVars u i) 1 (mU1 (mVars u i) 2 (mU1 (mVars u i) 3 1))))) ≤ (nI (mSk u i q)) then (mSk u i q) else (mU1 (mVars u i) 0 (mU1 (mVars u i) 1 (mU1 (mVars u i) 2 (mU1 (mVars u i) 3 1))))))), (4, .int (mVars u i)), (5, .int (nI (q + 1))), (6, .int (nI ((5 * i) + (q + 1)))), (7, .int (nI (mU1 (mVars u i) 0 (mU1 (mVars u i) 1 (mU1 (mVars u i) 2 (mU1 (mVars u i) 3 1)))))), (8, .int (-1))]) hC d_D_behind_117 rfl (by decide) rfl rfl ?_
                  refine j_iinc (lv' := [(0, .ref (g 0)), (1, .int (nI i)), (2, .int (nI n)), (3, .int (nI (if (nI (mU1 (mVars u i) 0 (mU1 (mVars u i) 1 (mU1 (mVars u i) 2 (mU1 (mVars u i) 3 1))))) ≤ (nI (mSk u i q)) then (mSk u i q) else (mU1 (mVars u i) 0 (mU1 (mVars u i) 1 (mU1 (mVars u i) 2 (mU1 (mVars u i) 3 1))))))), (4, .int (mVars u i)), (5, .int (nI (q + 1 + 1))), (6, .int (nI ((5 * i) + (q + 1)))), (7, .int (nI (mU1 (mVars u i) 0 (mU1 (mVars u i) 1 (mU1 (mVars u i) 2 (mU1 (mVars u i) 3 1)))))), (8, .int (-1))]) hC d_D_behind_118 5 rfl (nI_1 _) (by decide) rfl rfl ?_
                  refine j_goto (tgt := 12) hC d_D_behind_121 (by decide) ?_
                  have e9 : nI (mSk u i (q + 1)) = nI (if (nI (mU1 (mVars u i) 0 (mU1 (mVars u i) 1 (mU1 (mVars u i) 2 (mU1 (mVars u i) 3 1))))) ≤ (nI (mSk u i q)) then (mSk u i q) else (mU1 (mVars u i) 0 (mU1 (mVars u i) 1 (mU1 (mVars u i) 2 (mU1 (mVars u i) 3 1))))) := congrArg nI (by rw [mSk, if_pos h48, mUnit, if_pos h73, if_pos h73_1, if_pos h73_2, if_pos h73_3] <;> rfl)
                  have k9 := ih (q + 1) (by omega) (by omega)
                  rw [e9] at k9
                  exact j_locals [0, 1, 2, 3, 4, 5] rfl k9
  refine j_iconst (v := 1) hC d_D_behind_0 (by decide) ?_
  refine j_istore_n (lv' := [(0, .ref (g 0)), (1, .int (nI i)), (2, .int (nI n)), (3, .int 1)]) hC d_D_behind_1 rfl (by decide) rfl rfl ?_
  refine j_aload_n hC d_D_behind_2 rfl 0 rfl ?_
  refine j_iload_n hC d_D_behind_3 rfl 1 rfl ?_
  refine j_callVr (As := [.int (nI i)]) (rest := []) (st1 := [.int (mVars u i)]) hC (r_vars l dC dI g k tl u (i := i) hi hc) rfl rfl ww_D_97 yn_D_variables (mw_obj g k u) rfl rfl d_D_behind_4 (Nat.le_of_ble_eq_true rfl) (by decide) ⟨Nat.zero_le _, Nat.zero_le _⟩ rfl ?_
  refine j_istore (lv' := [(0, .ref (g 0)), (1, .int (nI i)), (2, .int (nI n)), (3, .int 1), (4, .int (mVars u i))]) hC d_D_behind_7 (by decide) rfl rfl ?_
  refine j_iconst (v := 1) hC d_D_behind_9 (by decide) ?_
  refine j_istore (lv' := [(0, .ref (g 0)), (1, .int (nI i)), (2, .int (nI n)), (3, .int 1), (4, .int (mVars u i)), (5, .int 1)]) hC d_D_behind_10 (by decide) rfl rfl ?_
  exact loop 6 0 (by omega) (by omega)
