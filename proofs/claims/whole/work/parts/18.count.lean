set_option maxHeartbeats 4000000 in
set_option maxRecDepth 100000 in
theorem k_count (l : Launch) (dC : Nat → ClassId) (dI : Nat → Nat → Nat) (g k : Nat → Nat) (tl : List (ClassId × FieldType)) {i : Nat} (hi : i < 16) : ∀ (d : Nat) (u : jU) (n0 : Nat), n0 ≤ 24 → 25 ≤ n0 + d → wfM u → jMet l y_M_countInstances (.code y_M_countInstances c_M_countInstances 7 (some .int)) ({ frames := d + 2, cells := 0, slots := 0, locals := 30 * d + 200 }) (dC, dI) jcl (ctys k tl) jTs [.ref (g 7), .ref (g (15 + i)), .int (nI n0)] (cw g k u) 0 0 (jRet (some (.int (pCount i d n0 u).1)) (cw g k (pCount i d n0 u).2)) := by
  intro d
  induction d with
  | zero => intro u n0 h1 h2; exact absurd h2 (by omega)
  | succ d ih =>
    intro u n0 hn0 hd hM
    refine jMet.of (by decide) (Nat.le_of_ble_eq_true rfl) ?_
    intro p e s m below meth c A hC hex hr hnm htr
    show jJ p l e ({ frames := (d + 1) + 2, cells := 0, slots := 0, locals := 30 * (d + 1) + 200 }) s m [.ref (g 7), .ref (g (15 + i)), .int (nI n0)].toArray below meth c 7 (dC, dI) jcl A (hxQ below (jQ (dC, dI) jcl (jRet (some (.int (pCount i (d + 1) n0 u).1)) (cw g k (pCount i (d + 1) n0 u).2)) A) [.ref (g 7), .ref (g (15 + i)), .int (nI n0)].toArray s 0 0 A) 0 0 (cw g k u) [(0, .ref (g 7)), (1, .ref (g (15 + i))), (2, .int (nI n0))] [] 0
    have hnx := pNext_le (u := u) (i := i) hn0
    have loop : pNext u i n0 < 24 → ∀ (n q : Nat) (z : Int32) (v : jU), q ≤ 12 → 12 < q + n → only6 u v → wfV v → pSum (fun v => pCount i d (pNext u i n0 + 1) v) (pNext u i n0) (pChoices u i (nI (pNext u i n0))) (12 - q) q z v = pCount i (d + 1) n0 u → jJ p l e ({ frames := (d + 1) + 2, cells := 0, slots := 0, locals := 30 * (d + 1) + 200 }) s m [.ref (g 7), .ref (g (15 + i)), .int (nI n0)].toArray below meth c 7 (dC, dI) jcl A (hxQ below (jQ (dC, dI) jcl (jRet (some (.int (pCount i (d + 1) n0 u).1)) (cw g k (pCount i (d + 1) n0 u).2)) A) [.ref (g 7), .ref (g (15 + i)), .int (nI n0)].toArray s 0 0 A) 0 0 (cw g k v) [(0, .ref (g 7)), (1, .ref (g (15 + i))), (2, .int (nI n0)), (3, .int (nI (pNext u i n0))), (4, .int (pChoices u i (nI (pNext u i n0)))), (5, .int z), (6, .int (nI q))] [] 48 := by
      intro hlt n
      induction n with
      | zero => intro q z v h1 h2; exact absurd h2 (by omega)
      | succ n ih2 =>
        intro q z v hq hn ho hv hinv
        refine j_iload hC d_M_countInstances_48 6 rfl ?_
        refine j_bipush (v := 12) hC d_M_countInstances_50 (by decide) ?_
        refine j_icmp_ge (tgt := 92) hC d_M_countInstances_52 (by decide) (fun h52 => ?_) (fun h52 => ?_)
        · have hge : 12 ≤ q := (nI_leI (a := 12) (by decide) (by omega)).mp h52
          have hqe : q = 12 := by omega
          refine j_aload_n hC d_M_countInstances_92 rfl 0 rfl ?_
          refine j_get hC hin_M (7) (cw_match g k v) rfl 1 (by decide) (hC.2.2.2.2.1 _ wf_M_18) (fun _ h9 => h9) rfl d_M_countInstances_93 ?_
          refine j_iload_n hC d_M_countInstances_96 rfl 3 rfl ?_
          refine j_iconst (v := -1) hC d_M_countInstances_97 (by decide) ?_
          refine j_iastN (ws' := cw g k (up v 6 (pNext u i n0) (-1))) hC (9) 0 (cw_values g k v) rfl (n := pNext u i n0) (rfl) (hlt) (by decide) (cw_set_values g k v (pNext u i n0) (-1)) d_M_countInstances_98 ?_
          refine j_iload hC d_M_countInstances_99 5 rfl ?_
          exact j_iret hC hr (by rw [← hinv, hqe]; exact ⟨rfl, rfl, rfl⟩) d_M_countInstances_101
        · have hq12 : q < 12 := Nat.not_le.mp (fun z => h52 ((nI_leI (a := 12) (by decide) (by omega)).mpr z))
          have e12 : pSum (fun v => pCount i d (pNext u i n0 + 1) v) (pNext u i n0) (pChoices u i (nI (pNext u i n0))) (12 - q) q z v = pSum (fun v => pCount i d (pNext u i n0 + 1) v) (pNext u i n0) (pChoices u i (nI (pNext u i n0))) ((12 - (q + 1)) + 1) q z v := by rw [show 12 - q = (12 - (q + 1)) + 1 by omega]
          refine j_iload hC d_M_countInstances_55 4 rfl ?_
          refine j_iload hC d_M_countInstances_57 6 rfl ?_
          refine j_callSNr (As := [.int (pChoices u i (nI (pNext u i n0))), .int (nI q)]) (rest := []) (st1 := [.int (b2i (hb (pChoices u i (nI (pNext u i n0))) (nI q)))]) hC (k_hasBit l dC dI g k tl v (pChoices u i (nI (pNext u i n0))) (nI q)) rfl rfl ww_M_88 yn_H_hasBit rfl d_M_countInstances_59 (Nat.le_of_ble_eq_true rfl) ⟨by show 0 + 1 ≤ d + 1 + 2; omega, by show 8 + (2 + 11) + 0 ≤ 30 * (d + 1) + 200; omega⟩ ⟨Nat.zero_le _, Nat.zero_le _⟩ rfl ?_
          refine j_if_eq (tgt := 86) hC d_M_countInstances_62 (by decide) (fun h62 => ?_) (fun h62 => ?_)
          · refine j_iinc (lv' := [(0, .ref (g 7)), (1, .ref (g (15 + i))), (2, .int (nI n0)), (3, .int (nI (pNext u i n0))), (4, .int (pChoices u i (nI (pNext u i n0)))), (5, .int z), (6, .int (nI (q + 1)))]) hC d_M_countInstances_86 6 rfl (nI_1 _) (by decide) rfl rfl ?_
            refine j_goto (tgt := 48) hC d_M_countInstances_89 (by decide) ?_
            exact j_locals [0, 1, 2, 3, 4, 5, 6] rfl (ih2 (q + 1) z v (by omega) (by omega) ho hv (by rw [← hinv, e12, pSum, if_pos h62]))
          · refine j_aload_n hC d_M_countInstances_65 rfl 0 rfl ?_
            refine j_get hC hin_M (7) (cw_match g k v) rfl 1 (by decide) (hC.2.2.2.2.1 _ wf_M_18) (fun _ h9 => h9) rfl d_M_countInstances_66 ?_
            refine j_iload_n hC d_M_countInstances_69 rfl 3 rfl ?_
            refine j_iload hC d_M_countInstances_70 6 rfl ?_
            refine j_iastN (ws' := cw g k (up v 6 (pNext u i n0) (nI q))) hC (9) 0 (cw_values g k v) rfl (n := pNext u i n0) (rfl) (hlt) (by decide) (cw_set_values g k v (pNext u i n0) (nI q)) d_M_countInstances_72 ?_
            refine j_iload hC d_M_countInstances_73 5 rfl ?_
            refine j_aload_n hC d_M_countInstances_75 rfl 0 rfl ?_
            refine j_aload_n hC d_M_countInstances_76 rfl 1 rfl ?_
            refine j_iload_n hC d_M_countInstances_77 rfl 3 rfl ?_
            refine j_iconst (v := 1) hC d_M_countInstances_78 (by decide) ?_
            refine j_iadd hC d_M_countInstances_79 ?_
            have hv2 : wfV (up v 6 (pNext u i n0) (nI q)) := wfV_up hv _ (Or.inr (inN_nI hq12 (by decide)))
            have hfr := pCount_frame i d (pNext u i n0 + 1) (up v 6 (pNext u i n0) (nI q))
            rw [show nI (pNext u i n0) + 1 = nI (pNext u i n0 + 1) from nI_1 _]
            refine j_callVr (As := [.ref (g (15 + i)), .int (nI (pNext u i n0 + 1))]) (rest := [.int z]) (st1 := [.int ((pCount i d (pNext u i n0 + 1) (up v 6 (pNext u i n0) (nI q))).1), .int z]) hC (ih (up v 6 (pNext u i n0) (nI q)) (pNext u i n0 + 1) (by omega) (by omega) (hM.of (ho.tr (only6_up v _ _)) hv2)) rfl rfl ww_M_108 yn_M_countInstances (cw_match g k (up v 6 (pNext u i n0) (nI q))) rfl rfl d_M_countInstances_80 (Nat.le_of_ble_eq_true rfl) ⟨by show d + 2 + 1 ≤ d + 1 + 2; omega, by show 8 + (7 + 11) + (30 * d + 200) ≤ 30 * (d + 1) + 200; omega⟩ ⟨Nat.zero_le _, Nat.zero_le _⟩ rfl ?_
            refine j_iadd hC d_M_countInstances_83 ?_
            refine j_istore (lv' := [(0, .ref (g 7)), (1, .ref (g (15 + i))), (2, .int (nI n0)), (3, .int (nI (pNext u i n0))), (4, .int (pChoices u i (nI (pNext u i n0)))), (5, .int (z + ((pCount i d (pNext u i n0 + 1) (up v 6 (pNext u i n0) (nI q))).1))), (6, .int (nI q))]) hC d_M_countInstances_84 (by decide) rfl rfl ?_
            refine j_iinc (lv' := [(0, .ref (g 7)), (1, .ref (g (15 + i))), (2, .int (nI n0)), (3, .int (nI (pNext u i n0))), (4, .int (pChoices u i (nI (pNext u i n0)))), (5, .int (z + ((pCount i d (pNext u i n0 + 1) (up v 6 (pNext u i n0) (nI q))).1))), (6, .int (nI (q + 1)))]) hC d_M_countInstances_86 6 rfl (nI_1 _) (by decide) rfl rfl ?_
            refine j_goto (tgt := 48) hC d_M_countInstances_89 (by decide) ?_
            exact j_locals [0, 1, 2, 3, 4, 5, 6] rfl (ih2 (q + 1) (z + (pCount i d (pNext u i n0 + 1) (up v 6 (pNext u i n0) (nI q))).1) (pCount i d (pNext u i n0 + 1) (up v 6 (pNext u i n0) (nI q))).2 (by omega) (by omega) ((ho.tr (only6_up v _ _)).tr hfr.1) (hfr.2 hv2) (by rw [← hinv, e12, pSum, if_neg h62]))
    refine j_aload_n hC d_M_countInstances_0 rfl 0 rfl ?_
    refine j_aload_n hC d_M_countInstances_1 rfl 1 rfl ?_
    refine j_iload_n hC d_M_countInstances_2 rfl 2 rfl ?_
    refine j_callVr (As := [.ref (g (15 + i)), .int (nI n0)]) (rest := []) (st1 := [.int (nI (pNext u i n0))]) hC (k_nextOpen l dC dI g k tl u hi hn0) rfl rfl ww_M_91 yn_M_nextOpen (cw_match g k u) rfl rfl d_M_countInstances_3 (Nat.le_of_ble_eq_true rfl) ⟨by show 1 + 1 ≤ d + 1 + 2; omega, by show 8 + (4 + 11) + 21 ≤ 30 * (d + 1) + 200; omega⟩ ⟨Nat.zero_le _, Nat.zero_le _⟩ rfl ?_
    refine j_istore_n (lv' := [(0, .ref (g 7)), (1, .ref (g (15 + i))), (2, .int (nI n0)), (3, .int (nI (pNext u i n0)))]) hC d_M_countInstances_6 rfl (by decide) rfl rfl ?_
    refine j_iload_n hC d_M_countInstances_7 rfl 3 rfl ?_
    refine j_bipush (v := 24) hC d_M_countInstances_8 (by decide) ?_
    refine j_icmp_lt (tgt := 15) hC d_M_countInstances_10 (by decide) (fun h10 => ?_) (fun h10 => ?_)
    · have hlt : pNext u i n0 < 24 := (nI_ltI (b := 24) (by omega) (by decide)).mp h10
      refine j_aload_n hC d_M_countInstances_15 rfl 0 rfl ?_
      refine j_aload_n hC d_M_countInstances_16 rfl 1 rfl ?_
      refine j_iload_n hC d_M_countInstances_17 rfl 3 rfl ?_
      refine j_callVr (As := [.ref (g (15 + i)), .int (nI (pNext u i n0))]) (rest := []) (st1 := [.int (pChoices u i (nI (pNext u i n0)))]) hC (k_choices l dC dI g k tl u hi hM (nI (pNext u i n0)) (inN_nI hlt (by decide))) rfl rfl ww_M_95 yn_M_choices (cw_match g k u) rfl rfl d_M_countInstances_18 (Nat.le_of_ble_eq_true rfl) ⟨by show 1 + 1 ≤ d + 1 + 2; omega, by show 8 + (6 + 11) + 27 ≤ 30 * (d + 1) + 200; omega⟩ ⟨Nat.zero_le _, Nat.zero_le _⟩ rfl ?_
      refine j_istore (lv' := [(0, .ref (g 7)), (1, .ref (g (15 + i))), (2, .int (nI n0)), (3, .int (nI (pNext u i n0))), (4, .int (pChoices u i (nI (pNext u i n0))))]) hC d_M_countInstances_21 (by decide) rfl rfl ?_
      refine j_aload_n hC d_M_countInstances_23 rfl 0 rfl ?_
      refine j_aload_n hC d_M_countInstances_24 rfl 1 rfl ?_
      refine j_iload_n hC d_M_countInstances_25 rfl 3 rfl ?_
      refine j_iconst (v := 1) hC d_M_countInstances_26 (by decide) ?_
      refine j_iadd hC d_M_countInstances_27 ?_
      rw [show nI (pNext u i n0) + 1 = nI (pNext u i n0 + 1) from nI_1 _]
      refine j_callVr (As := [.ref (g (15 + i)), .int (nI (pNext u i n0 + 1))]) (rest := []) (st1 := [.int (nI (pNext u i (pNext u i n0 + 1)))]) hC (k_nextOpen l dC dI g k tl u hi (by omega)) rfl rfl ww_M_91 yn_M_nextOpen (cw_match g k u) rfl rfl d_M_countInstances_28 (Nat.le_of_ble_eq_true rfl) ⟨by show 1 + 1 ≤ d + 1 + 2; omega, by show 8 + (4 + 11) + 21 ≤ 30 * (d + 1) + 200; omega⟩ ⟨Nat.zero_le _, Nat.zero_le _⟩ rfl ?_
      refine j_bipush (v := 24) hC d_M_countInstances_31 (by decide) ?_
      refine j_icmp_lt (tgt := 42) hC d_M_countInstances_33 (by decide) (fun h33 => ?_) (fun h33 => ?_)
      · refine j_iconst (v := 0) hC d_M_countInstances_42 (by decide) ?_
        refine j_istore (lv' := [(0, .ref (g 7)), (1, .ref (g (15 + i))), (2, .int (nI n0)), (3, .int (nI (pNext u i n0))), (4, .int (pChoices u i (nI (pNext u i n0)))), (5, .int 0)]) hC d_M_countInstances_43 (by decide) rfl rfl ?_
        refine j_iconst (v := 0) hC d_M_countInstances_45 (by decide) ?_
        refine j_istore (lv' := [(0, .ref (g 7)), (1, .ref (g (15 + i))), (2, .int (nI n0)), (3, .int (nI (pNext u i n0))), (4, .int (pChoices u i (nI (pNext u i n0)))), (5, .int 0), (6, .int 0)]) hC d_M_countInstances_46 (by decide) rfl rfl ?_
        exact loop hlt 13 0 0 u (by omega) (by omega) (only6.rf u) hM.2.2 (by rw [pCount, if_pos h10, if_pos h33])
      · refine j_iload hC d_M_countInstances_36 4 rfl ?_
        refine j_callSr (As := [.int (pChoices u i (nI (pNext u i n0)))]) (rest := []) (st1 := [.int (pBC (pChoices u i (nI (pNext u i n0))))]) hC (k_bitCount l dC dI g k tl u (pChoices u i (nI (pNext u i n0)))) rfl rfl ww_M_102 yn_Integer_bitCount rfl d_M_countInstances_38 (Nat.le_of_ble_eq_true rfl) ⟨by show 0 + 1 ≤ d + 1 + 2; omega, by show 8 + (1 + 11) + 0 ≤ 30 * (d + 1) + 200; omega⟩ ⟨Nat.zero_le _, Nat.zero_le _⟩ rfl ?_
        exact j_iret hC hr (by rw [pCount, if_pos h10, if_neg h33]; exact ⟨rfl, rfl, rfl⟩) d_M_countInstances_41
    · refine j_iconst (v := 1) hC d_M_countInstances_13 (by decide) ?_
      exact j_iret hC hr (by rw [pCount, if_neg h10]; exact ⟨rfl, rfl, rfl⟩) d_M_countInstances_14
