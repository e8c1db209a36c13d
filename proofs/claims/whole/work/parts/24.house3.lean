set_option maxHeartbeats 4000000 in
set_option maxRecDepth 100000 in
theorem k_showFresh (l : Launch) (dC : Nat → ClassId) (dI : Nat → Nat → Nat) (g k : Nat → Nat) (tl : List (ClassId × FieldType)) (u : jU)  : jMet l y_H_showFresh (.code y_H_showFresh c_H_showFresh 4 (some .int)) ({ frames := 2, cells := 0, slots := 0, locals := 44 }) (dC, dI) jcl (ctys k tl) jTs [.ref (g 0)] (cw g k u) 0 0 (jRet (some (.int ((pShowFresh u).1))) (cw g k ((pShowFresh u).2))) := by
  refine jMet.of (by decide) (Nat.le_of_ble_eq_true rfl) ?_
  intro p e s m below meth c A hC hex hr hnm htr
  show jJ p l e ({ frames := 2, cells := 0, slots := 0, locals := 44 }) s m [.ref (g 0)].toArray below meth c 4 (dC, dI) jcl A (hxQ below (jQ (dC, dI) jcl (jRet (some (.int ((pShowFresh u).1))) (cw g k ((pShowFresh u).2))) A) [.ref (g 0)].toArray s 0 0 A) 0 0 (cw g k u) [(0, .ref (g 0))] [] 0
  have inner : ∀ (row : Nat), row < 96 → ∀ (w : Int32 × jU), jJ p l e ({ frames := 2, cells := 0, slots := 0, locals := 44 }) s m [.ref (g 0)].toArray below meth c 4 (dC, dI) jcl A (hxQ below (jQ (dC, dI) jcl (jRet (some (.int ((pShowFresh u).1))) (cw g k ((pShowFresh u).2))) A) [.ref (g 0)].toArray s 0 0 A) 0 0 (cw g k (itS (pSh row) 12 w).2) [(0, .ref (g 0)), (1, .int ((itS (pSh row) 12 w).1)), (2, .int (nI row))] [] 74 → ∀ (n q : Nat), q ≤ 12 → 12 < q + n → jJ p l e ({ frames := 2, cells := 0, slots := 0, locals := 44 }) s m [.ref (g 0)].toArray below meth c 4 (dC, dI) jcl A (hxQ below (jQ (dC, dI) jcl (jRet (some (.int ((pShowFresh u).1))) (cw g k ((pShowFresh u).2))) A) [.ref (g 0)].toArray s 0 0 A) 0 0 (cw g k ((itS (pSh row) q w).2)) [(0, .ref (g 0)), (1, .int ((itS (pSh row) q w).1)), (2, .int (nI row)), (3, .int (nI q))] [] 12 := by
    intro row hrow w hk n
    induction n with
    | zero => intro q h1 h2; exact absurd h2 (by omega)
    | succ n ih =>
      intro q hq hn
      refine j_aload_n hC d_H_showFresh_12 rfl 0 rfl ?_
      refine j_get hC hin_H (0) (cw_house g k ((itS (pSh row) q w).2)) rfl 7 (by decide) (hC.2.2.2.2.1 _ wf_H_30) (fun _ h9 => h9) rfl d_H_showFresh_13 ?_
      refine j_iload_n hC d_H_showFresh_16 rfl 2 rfl ?_
      refine j_ialdN hC (6) 0 (cw_fresh g k ((itS (pSh row) q w).2)) rfl (n := row) (rfl) (hrow) (by decide) d_H_showFresh_17 ?_
      refine j_if_eq (tgt := 74) hC d_H_showFresh_18 (by decide) (fun h18 => ?_) (fun h18 => ?_)
      · have hz : w.2 5 row = 0 := by rw [← pSh_kp row w q 5 (by decide)]; exact h18
        rw [pSh_zero hz] at hk
        rw [pSh_zero hz]
        exact j_locals [0, 1, 2] rfl hk
      · refine j_iload_n hC d_H_showFresh_21 rfl 3 rfl ?_
        refine j_bipush (v := 12) hC d_H_showFresh_22 (by decide) ?_
        refine j_icmp_ge (tgt := 74) hC d_H_showFresh_24 (by decide) (fun h24 => ?_) (fun h24 => ?_)
        · have hge : 12 ≤ q := (nI_leI (a := 12) (by decide) (by omega)).mp h24
          have hqe : q = 12 := by omega
          subst hqe
          exact j_locals [0, 1, 2] rfl hk
        · have hlt : q < 12 := Nat.not_le.mp (fun z => h24 ((nI_leI (a := 12) (by decide) (by omega)).mpr z))
          refine j_aload_n hC d_H_showFresh_27 rfl 0 rfl ?_
          refine j_get hC hin_H (0) (cw_house g k ((itS (pSh row) q w).2)) rfl 7 (by decide) (hC.2.2.2.2.1 _ wf_H_30) (fun _ h9 => h9) rfl d_H_showFresh_28 ?_
          refine j_iload_n hC d_H_showFresh_31 rfl 2 rfl ?_
          refine j_ialdN hC (6) 0 (cw_fresh g k ((itS (pSh row) q w).2)) rfl (n := row) (rfl) (hrow) (by decide) d_H_showFresh_32 ?_
          refine j_iload_n hC d_H_showFresh_33 rfl 3 rfl ?_
          refine j_callSr (As := [.int (((itS (pSh row) q w).2) 5 row), .int (nI q)]) (rest := []) (st1 := [.int (b2i (hb ((itS (pSh row) q w).2 5 row) (nI q)))]) hC (k_hasBit l dC dI g k tl ((itS (pSh row) q w).2) ((itS (pSh row) q w).2 5 row) (nI q)) rfl rfl ww_H_184 yn_H_hasBit rfl d_H_showFresh_34 (Nat.le_of_ble_eq_true rfl) (by decide) ⟨Nat.zero_le _, Nat.zero_le _⟩ rfl ?_
          refine j_if_eq (tgt := 68) hC d_H_showFresh_37 (by decide) (fun h37 => ?_) (fun h37 => ?_)
          · refine j_iinc (lv' := [(0, .ref (g 0)), (1, .int ((itS (pSh row) q w).1)), (2, .int (nI row)), (3, .int (nI (q + 1)))]) hC d_H_showFresh_68 3 rfl (nI_1 _) (by decide) rfl rfl ?_
            refine j_goto (tgt := 12) hC d_H_showFresh_71 (by decide) ?_
            have e9 : itS (pSh row) (q + 1) w = itS (pSh row) q w := by rw [itS_s, pSh, if_pos h37]
            have k9 := ih (q + 1) (by omega) (by omega)
            rw [e9] at k9
            exact k9
          · refine j_aload_n hC d_H_showFresh_40 rfl 0 rfl ?_
            refine j_get hC hin_H (0) (cw_house g k ((itS (pSh row) q w).2)) rfl 8 (by decide) (hC.2.2.2.2.1 _ wf_H_36) (fun _ h9 => h9) rfl d_H_showFresh_41 ?_
            refine j_getN hC hin_M (7) (cw_match g k ((itS (pSh row) q w).2)) rfl 0 (by decide) (hC.2.2.2.2.1 _ wf_H_247) (fun _ h9 => h9) rfl d_H_showFresh_44 ?_
            refine j_iload_n hC d_H_showFresh_47 rfl 2 rfl ?_
            refine j_bipush (v := 12) hC d_H_showFresh_48 (by decide) ?_
            refine j_idiv hC d_H_showFresh_50 (by decide) ?_
            refine j_iload_n hC d_H_showFresh_51 rfl 2 rfl ?_
            refine j_bipush (v := 12) hC d_H_showFresh_52 (by decide) ?_
            refine j_irem hC d_H_showFresh_54 (by decide) ?_
            refine j_iload_n hC d_H_showFresh_55 rfl 3 rfl ?_
            rw [show nI row - nI row / 12 * 12 = nI (row % 12) from pk_rem (d := 12) (by omega) (by decide) (by decide), show nI row / 12 = nI (row / 12) from pk_div (d := 12) (by omega) (by decide) (by decide)]
            refine j_callNr (As := [.int (nI (row / 12)), .int (nI (row % 12)), .int (nI q)]) (rest := []) (st1 := []) hC (k_show l dC dI g k tl ((itS (pSh row) q w).2) (nI (row / 12)) (nI (row % 12)) (nI q) (inN_nI (by omega) (by decide)) (inN_nI (by omega) (by decide)) (inN_nI hlt (by decide))) rfl rfl ww_H_266 yn_S_show (cw_sight g k ((itS (pSh row) q w).2)) rfl rfl d_H_showFresh_56 (Nat.le_of_ble_eq_true rfl) (by decide) ⟨Nat.zero_le _, Nat.zero_le _⟩ rfl ?_
            refine j_iload_n hC d_H_showFresh_59 rfl 1 rfl ?_
            refine j_iconst (v := 1) hC d_H_showFresh_60 (by decide) ?_
            refine j_iload_n hC d_H_showFresh_61 rfl 2 rfl ?_
            refine j_bipush (v := 12) hC d_H_showFresh_62 (by decide) ?_
            refine j_idiv hC d_H_showFresh_64 (by decide) ?_
            rw [show nI row / 12 = nI (row / 12) from pk_div (d := 12) (by omega) (by decide) (by decide)]
            refine j_ishl hC d_H_showFresh_65 ?_
            refine j_ior hC d_H_showFresh_66 ?_
            refine j_istore_n (lv' := [(0, .ref (g 0)), (1, .int (((itS (pSh row) q w).1) ||| (1 <<< ((nI (row / 12)) &&& 31)))), (2, .int (nI row)), (3, .int (nI q))]) hC d_H_showFresh_67 rfl (by decide) rfl rfl ?_
            refine j_iinc (lv' := [(0, .ref (g 0)), (1, .int (((itS (pSh row) q w).1) ||| (1 <<< ((nI (row / 12)) &&& 31)))), (2, .int (nI row)), (3, .int (nI (q + 1)))]) hC d_H_showFresh_68 3 rfl (nI_1 _) (by decide) rfl rfl ?_
            refine j_goto (tgt := 12) hC d_H_showFresh_71 (by decide) ?_
            have e9 : itS (pSh row) (q + 1) w = (((itS (pSh row) q w).1) ||| (1 <<< ((nI (row / 12)) &&& 31)), pShow ((itS (pSh row) q w).2) (nI (row / 12)) (nI (row % 12)) (nI q)) := by rw [itS_s, pSh, if_neg h37]
            have k9 := ih (q + 1) (by omega) (by omega)
            rw [e9] at k9
            exact k9
  have outer : ∀ (n row : Nat), row ≤ 96 → 96 < row + n → jJ p l e ({ frames := 2, cells := 0, slots := 0, locals := 44 }) s m [.ref (g 0)].toArray below meth c 4 (dC, dI) jcl A (hxQ below (jQ (dC, dI) jcl (jRet (some (.int ((pShowFresh u).1))) (cw g k ((pShowFresh u).2))) A) [.ref (g 0)].toArray s 0 0 A) 0 0 (cw g k (itS pSh1 row (0, u)).2) [(0, .ref (g 0)), (1, .int ((itS pSh1 row (0, u)).1)), (2, .int (nI row))] [] 4 := by
    intro n
    induction n with
    | zero => intro row h1 h2; exact absurd h2 (by omega)
    | succ n ih =>
      intro row hrow hn
      refine j_iload_n hC d_H_showFresh_4 rfl 2 rfl ?_
      refine j_bipush (v := 96) hC d_H_showFresh_5 (by decide) ?_
      refine j_icmp_ge (tgt := 87) hC d_H_showFresh_7 (by decide) (fun h7 => ?_) (fun h7 => ?_)
      · have hge : 96 ≤ row := (nI_leI (a := 96) (by decide) (by omega)).mp h7
        have hqe : row = 96 := by omega
        subst hqe
        refine j_iload_n hC d_H_showFresh_87 rfl 1 rfl ?_
        exact j_iret hC hr ⟨rfl, rfl, rfl⟩ d_H_showFresh_88
      · have hlt : row < 96 := Nat.not_le.mp (fun z => h7 ((nI_leI (a := 96) (by decide) (by omega)).mpr z))
        refine j_iconst (v := 0) hC d_H_showFresh_10 (by decide) ?_
        refine j_istore_n (lv' := [(0, .ref (g 0)), (1, .int ((itS pSh1 row (0, u)).1)), (2, .int (nI row)), (3, .int 0)]) hC d_H_showFresh_11 rfl (by decide) rfl rfl ?_
        rw [← itS_0 (pSh row) (itS pSh1 row (0, u))]
        refine inner row hlt (itS pSh1 row (0, u)) ?_ 13 0 (by omega) (by omega)
        refine j_aload_n hC d_H_showFresh_74 rfl 0 rfl ?_
        refine j_get hC hin_H (0) (cw_house g k ((itS (pSh row) 12 (itS pSh1 row (0, u))).2)) rfl 7 (by decide) (hC.2.2.2.2.1 _ wf_H_30) (fun _ h9 => h9) rfl d_H_showFresh_75 ?_
        refine j_iload_n hC d_H_showFresh_78 rfl 2 rfl ?_
        refine j_iconst (v := 0) hC d_H_showFresh_79 (by decide) ?_
        refine j_iastN (ws' := cw g k (up ((itS (pSh row) 12 (itS pSh1 row (0, u))).2) 5 row 0)) hC (6) 0 (cw_fresh g k ((itS (pSh row) 12 (itS pSh1 row (0, u))).2)) rfl (n := row) (rfl) (hlt) (by decide) (cw_set_fresh g k ((itS (pSh row) 12 (itS pSh1 row (0, u))).2) row 0) d_H_showFresh_80 ?_
        refine j_iinc (lv' := [(0, .ref (g 0)), (1, .int ((itS (pSh row) 12 (itS pSh1 row (0, u))).1)), (2, .int (nI (row + 1)))]) hC d_H_showFresh_81 2 rfl (nI_1 _) (by decide) rfl rfl ?_
        refine j_goto (tgt := 4) hC d_H_showFresh_84 (by decide) ?_
        have k9 := ih (row + 1) (by omega) (by omega)
        rw [itS_s, pSh1] at k9
        exact k9
  refine j_iconst (v := 0) hC d_H_showFresh_0 (by decide) ?_
  refine j_istore_n (lv' := [(0, .ref (g 0)), (1, .int 0)]) hC d_H_showFresh_1 rfl (by decide) rfl rfl ?_
  refine j_iconst (v := 0) hC d_H_showFresh_2 (by decide) ?_
  refine j_istore_n (lv' := [(0, .ref (g 0)), (1, .int 0), (2, .int 0)]) hC d_H_showFresh_3 rfl (by decide) rfl rfl ?_
  exact outer 97 0 (by omega) (by omega)
