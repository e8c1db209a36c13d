set_option maxHeartbeats 4000000 in
set_option maxRecDepth 100000 in
theorem k_rankGiven (l : Launch) (dC : Nat → ClassId) (dI : Nat → Nat → Nat) (g k : Nat → Nat) (tl : List (ClassId × FieldType)) (u : jU)  : jMet l y_H_rankGiven (.code y_H_rankGiven c_H_rankGiven 3 none) ({ frames := 1, cells := 0, slots := 0, locals := 21 }) (dC, dI) jcl (ctys k tl) jTs [.ref (g 0)] (cw g k u) 0 0 (jRet none (cw g k (pRankGiven u))) := by
  refine jMet.of (by decide) (Nat.le_of_ble_eq_true rfl) ?_
  intro p e s m below meth c A hC hex hr hnm htr
  show jJ p l e ({ frames := 1, cells := 0, slots := 0, locals := 21 }) s m [.ref (g 0)].toArray below meth c 3 (dC, dI) jcl A (hxQ below (jQ (dC, dI) jcl (jRet none (cw g k (pRankGiven u))) A) [.ref (g 0)].toArray s 0 0 A) 0 0 (cw g k u) [(0, .ref (g 0))] [] 0
  have inner : ∀ (row : Nat), row < 96 → ∀ (w : jU), jJ p l e ({ frames := 1, cells := 0, slots := 0, locals := 21 }) s m [.ref (g 0)].toArray below meth c 3 (dC, dI) jcl A (hxQ below (jQ (dC, dI) jcl (jRet none (cw g k (pRankGiven u))) A) [.ref (g 0)].toArray s 0 0 A) 0 0 (cw g k (itN (pRG row) 12 w)) [(0, .ref (g 0)), (1, .int (nI row))] [] 51 → ∀ (n q : Nat), q ≤ 12 → 12 < q + n → jJ p l e ({ frames := 1, cells := 0, slots := 0, locals := 21 }) s m [.ref (g 0)].toArray below meth c 3 (dC, dI) jcl A (hxQ below (jQ (dC, dI) jcl (jRet none (cw g k (pRankGiven u))) A) [.ref (g 0)].toArray s 0 0 A) 0 0 (cw g k (itN (pRG row) q w)) [(0, .ref (g 0)), (1, .int (nI row)), (2, .int (nI q))] [] 10 := by
    intro row hrow w hk n
    induction n with
    | zero => intro q h1 h2; exact absurd h2 (by omega)
    | succ n ih =>
      intro q hq hn
      refine j_iload_n hC d_H_rankGiven_10 rfl 2 rfl ?_
      refine j_bipush (v := 12) hC d_H_rankGiven_11 (by decide) ?_
      refine j_icmp_ge (tgt := 51) hC d_H_rankGiven_13 (by decide) (fun h13 => ?_) (fun h13 => ?_)
      · have hge : 12 ≤ q := (nI_leI (a := 12) (by decide) (by omega)).mp h13
        have hqe : q = 12 := by omega
        subst hqe
        exact j_locals [0, 1] rfl hk
      · have hlt : q < 12 := Nat.not_le.mp (fun z => h13 ((nI_leI (a := 12) (by decide) (by omega)).mpr z))
        refine j_aload_n hC d_H_rankGiven_16 rfl 0 rfl ?_
        refine j_get hC hin_H (0) (cw_house g k (itN (pRG row) q w)) rfl 6 (by decide) (hC.2.2.2.2.1 _ wf_H_27) (fun _ h9 => h9) rfl d_H_rankGiven_17 ?_
        refine j_iload_n hC d_H_rankGiven_20 rfl 1 rfl ?_
        refine j_bipush (v := 12) hC d_H_rankGiven_21 (by decide) ?_
        refine j_imul hC d_H_rankGiven_23 ?_
        refine j_iload_n hC d_H_rankGiven_24 rfl 2 rfl ?_
        refine j_iadd hC d_H_rankGiven_25 ?_
        refine j_aload_n hC d_H_rankGiven_26 rfl 0 rfl ?_
        refine j_get hC hin_H (0) (cw_house g k (itN (pRG row) q w)) rfl 1 (by decide) (hC.2.2.2.2.1 _ wf_H_15) (fun _ h9 => h9) rfl d_H_rankGiven_27 ?_
        refine j_iload_n hC d_H_rankGiven_30 rfl 1 rfl ?_
        refine j_ialdN hC (2) 0 (cw_given g k (itN (pRG row) q w)) rfl (n := row) (rfl) (hrow) (by decide) d_H_rankGiven_31 ?_
        refine j_iload_n hC d_H_rankGiven_32 rfl 2 rfl ?_
        refine j_callSr (As := [.int ((itN (pRG row) q w) 2 row), .int (nI q)]) (rest := [.int (((nI row) * 12) + (nI q)), .ref (g 5)]) (st1 := [.int (b2i (hb ((itN (pRG row) q w) 2 row) (nI q))), .int (((nI row) * 12) + (nI q)), .ref (g 5)]) hC (k_hasBit l dC dI g k tl (itN (pRG row) q w) ((itN (pRG row) q w) 2 row) (nI q)) rfl rfl ww_H_184 yn_H_hasBit rfl d_H_rankGiven_33 (Nat.le_of_ble_eq_true rfl) (by decide) ⟨Nat.zero_le _, Nat.zero_le _⟩ rfl ?_
        refine j_if_eq (tgt := 43) hC d_H_rankGiven_36 (by decide) (fun h36 => ?_) (fun h36 => ?_)
        · refine j_iconst (v := -1) hC d_H_rankGiven_43 (by decide) ?_
          refine j_iastN (ws' := cw g k (up (itN (pRG row) q w) 4 (row * 12 + q) (-1))) hC (5) 0 (cw_ranks g k (itN (pRG row) q w)) rfl (n := row * 12 + q) (nI_row row q) (by omega) (by decide) (cw_set_ranks g k (itN (pRG row) q w) (row * 12 + q) (-1)) d_H_rankGiven_44 ?_
          refine j_iinc (lv' := [(0, .ref (g 0)), (1, .int (nI row)), (2, .int (nI (q + 1)))]) hC d_H_rankGiven_45 2 rfl (nI_1 _) (by decide) rfl rfl ?_
          refine j_goto (tgt := 10) hC d_H_rankGiven_48 (by decide) ?_
          have e9 : itN (pRG row) (q + 1) w = up (itN (pRG row) q w) 4 (row * 12 + q) (-1) := by rw [itN_s, pRG, if_pos h36]
          have k9 := ih (q + 1) (by omega) (by omega)
          rw [e9] at k9
          exact k9
        · refine j_iconst (v := 0) hC d_H_rankGiven_39 (by decide) ?_
          refine j_goto (tgt := 44) hC d_H_rankGiven_40 (by decide) ?_
          refine j_iastN (ws' := cw g k (up (itN (pRG row) q w) 4 (row * 12 + q) 0)) hC (5) 0 (cw_ranks g k (itN (pRG row) q w)) rfl (n := row * 12 + q) (nI_row row q) (by omega) (by decide) (cw_set_ranks g k (itN (pRG row) q w) (row * 12 + q) 0) d_H_rankGiven_44 ?_
          refine j_iinc (lv' := [(0, .ref (g 0)), (1, .int (nI row)), (2, .int (nI (q + 1)))]) hC d_H_rankGiven_45 2 rfl (nI_1 _) (by decide) rfl rfl ?_
          refine j_goto (tgt := 10) hC d_H_rankGiven_48 (by decide) ?_
          have e9 : itN (pRG row) (q + 1) w = up (itN (pRG row) q w) 4 (row * 12 + q) 0 := by rw [itN_s, pRG, if_neg h36]
          have k9 := ih (q + 1) (by omega) (by omega)
          rw [e9] at k9
          exact k9
  have outer : ∀ (n row : Nat), row ≤ 96 → 96 < row + n → jJ p l e ({ frames := 1, cells := 0, slots := 0, locals := 21 }) s m [.ref (g 0)].toArray below meth c 3 (dC, dI) jcl A (hxQ below (jQ (dC, dI) jcl (jRet none (cw g k (pRankGiven u))) A) [.ref (g 0)].toArray s 0 0 A) 0 0 (cw g k (itN pRow row u)) [(0, .ref (g 0)), (1, .int (nI row))] [] 2 := by
    intro n
    induction n with
    | zero => intro row h1 h2; exact absurd h2 (by omega)
    | succ n ih =>
      intro row hrow hn
      refine j_iload_n hC d_H_rankGiven_2 rfl 1 rfl ?_
      refine j_bipush (v := 96) hC d_H_rankGiven_3 (by decide) ?_
      refine j_icmp_ge (tgt := 57) hC d_H_rankGiven_5 (by decide) (fun h5 => ?_) (fun h5 => ?_)
      · have hge : 96 ≤ row := (nI_leI (a := 96) (by decide) (by omega)).mp h5
        have hqe : row = 96 := by omega
        subst hqe
        exact j_vret hC hr ⟨rfl, rfl, rfl⟩ d_H_rankGiven_57
      · have hlt : row < 96 := Nat.not_le.mp (fun z => h5 ((nI_leI (a := 96) (by decide) (by omega)).mpr z))
        refine j_iconst (v := 0) hC d_H_rankGiven_8 (by decide) ?_
        refine j_istore_n (lv' := [(0, .ref (g 0)), (1, .int (nI row)), (2, .int 0)]) hC d_H_rankGiven_9 rfl (by decide) rfl rfl ?_
        rw [← itN_0 (pRG row) (itN pRow row u)]
        refine inner row hlt (itN pRow row u) ?_ 13 0 (by omega) (by omega)
        refine j_iinc (lv' := [(0, .ref (g 0)), (1, .int (nI (row + 1)))]) hC d_H_rankGiven_51 1 rfl (nI_1 _) (by decide) rfl rfl ?_
        refine j_goto (tgt := 2) hC d_H_rankGiven_54 (by decide) ?_
        have k9 := ih (row + 1) (by omega) (by omega)
        rw [itN_s, pRow] at k9
        exact k9
  refine j_iconst (v := 0) hC d_H_rankGiven_0 (by decide) ?_
  refine j_istore_n (lv' := [(0, .ref (g 0)), (1, .int 0)]) hC d_H_rankGiven_1 rfl (by decide) rfl rfl ?_
  exact outer 97 0 (by omega) (by omega)

set_option maxHeartbeats 4000000 in
set_option maxRecDepth 100000 in
theorem k_lookAt (l : Launch) (dC : Nat → ClassId) (dI : Nat → Nat → Nat) (g k : Nat → Nat) (tl : List (ClassId × FieldType)) (u : jU) {r : Nat} (hr8 : r < 8) (lim : Int32) : jMet l y_H_lookAt (.code y_H_lookAt c_H_lookAt 6 none) ({ frames := 2, cells := 0, slots := 0, locals := 44 }) (dC, dI) jcl (ctys k tl) jTs [.ref (g 0), .int (nI r), .int lim] (cw g k u) 0 0 (jRet none (cw g k (pLookAt r lim u))) := by
  refine jMet.of (by decide) (Nat.le_of_ble_eq_true rfl) ?_
  intro p e s m below meth c A hC hex hr hnm htr
  show jJ p l e ({ frames := 2, cells := 0, slots := 0, locals := 44 }) s m [.ref (g 0), .int (nI r), .int lim].toArray below meth c 6 (dC, dI) jcl A (hxQ below (jQ (dC, dI) jcl (jRet none (cw g k (pLookAt r lim u))) A) [.ref (g 0), .int (nI r), .int lim].toArray s 0 0 A) 0 0 (cw g k u) [(0, .ref (g 0)), (1, .int (nI r)), (2, .int lim)] [] 0
  have inner : ∀ (a : Nat), a < 12 → ∀ (w : jU), jJ p l e ({ frames := 2, cells := 0, slots := 0, locals := 44 }) s m [.ref (g 0), .int (nI r), .int lim].toArray below meth c 6 (dC, dI) jcl A (hxQ below (jQ (dC, dI) jcl (jRet none (cw g k (pLookAt r lim u))) A) [.ref (g 0), .int (nI r), .int lim].toArray s 0 0 A) 0 0 (cw g k (itN (pLk r lim a) 12 w)) [(0, .ref (g 0)), (1, .int (nI r)), (2, .int lim), (3, .int (nI a))] [] 64 → ∀ (n b : Nat), b ≤ 12 → 12 < b + n → jJ p l e ({ frames := 2, cells := 0, slots := 0, locals := 44 }) s m [.ref (g 0), .int (nI r), .int lim].toArray below meth c 6 (dC, dI) jcl A (hxQ below (jQ (dC, dI) jcl (jRet none (cw g k (pLookAt r lim u))) A) [.ref (g 0), .int (nI r), .int lim].toArray s 0 0 A) 0 0 (cw g k (itN (pLk r lim a) b w)) [(0, .ref (g 0)), (1, .int (nI r)), (2, .int lim), (3, .int (nI a)), (4, .int (nI b))] [] 11 := by
    intro a ha w hk n
    induction n with
    | zero => intro b h1 h2; exact absurd h2 (by omega)
    | succ n ih =>
      intro b hq hn
      refine j_iload hC d_H_lookAt_11 4 rfl ?_
      refine j_bipush (v := 12) hC d_H_lookAt_13 (by decide) ?_
      refine j_icmp_ge (tgt := 64) hC d_H_lookAt_15 (by decide) (fun h15 => ?_) (fun h15 => ?_)
      · have hge : 12 ≤ b := (nI_leI (a := 12) (by decide) (by omega)).mp h15
        have hqe : b = 12 := by omega
        subst hqe
        exact j_locals [0, 1, 2, 3] rfl hk
      · have hlt : b < 12 := Nat.not_le.mp (fun z => h15 ((nI_leI (a := 12) (by decide) (by omega)).mpr z))
        refine j_aload_n hC d_H_lookAt_18 rfl 0 rfl ?_
        refine j_get hC hin_H (0) (cw_house g k (itN (pLk r lim a) b w)) rfl 6 (by decide) (hC.2.2.2.2.1 _ wf_H_27) (fun _ h9 => h9) rfl d_H_lookAt_19 ?_
        refine j_iload_n hC d_H_lookAt_22 rfl 1 rfl ?_
        refine j_iload_n hC d_H_lookAt_23 rfl 3 rfl ?_
        refine j_iload hC d_H_lookAt_24 4 rfl ?_
        refine j_callSr (As := [.int (nI r), .int (nI a), .int (nI b)]) (rest := [.ref (g 5)]) (st1 := [.int ((nI r * 12 + nI a) * 12 + nI b), .ref (g 5)]) hC (k_factAt l dC dI g k tl (itN (pLk r lim a) b w) (nI r) (nI a) (nI b)) rfl rfl ww_H_124 yn_H_factAt rfl d_H_lookAt_26 (Nat.le_of_ble_eq_true rfl) (by decide) ⟨Nat.zero_le _, Nat.zero_le _⟩ rfl ?_
        refine j_ialdN hC (5) 0 (cw_ranks g k (itN (pLk r lim a) b w)) rfl (n := (r * 12 + a) * 12 + b) (by rw [nI_row, nI_row]) (by omega) (by decide) d_H_lookAt_29 ?_
        refine j_istore (lv' := [(0, .ref (g 0)), (1, .int (nI r)), (2, .int lim), (3, .int (nI a)), (4, .int (nI b)), (5, .int ((itN (pLk r lim a) b w) 4 ((r * 12 + a) * 12 + b)))]) hC d_H_lookAt_30 (by decide) rfl rfl ?_
        refine j_iload hC d_H_lookAt_32 5 rfl ?_
        refine j_iconst (v := -1) hC d_H_lookAt_34 (by decide) ?_
        refine j_icmp_eq (tgt := 58) hC d_H_lookAt_35 (by decide) (fun h35 => ?_) (fun h35 => ?_)
        · refine j_iinc (lv' := [(0, .ref (g 0)), (1, .int (nI r)), (2, .int lim), (3, .int (nI a)), (4, .int (nI (b + 1))), (5, .int ((itN (pLk r lim a) b w) 4 ((r * 12 + a) * 12 + b)))]) hC d_H_lookAt_58 4 rfl (nI_1 _) (by decide) rfl rfl ?_
          refine j_goto (tgt := 11) hC d_H_lookAt_61 (by decide) ?_
          have e9 : itN (pLk r lim a) (b + 1) w = itN (pLk r lim a) b w := by rw [itN_s, pLk, if_pos h35]
          have k9 := ih (b + 1) (by omega) (by omega)
          rw [e9] at k9
          exact j_locals [0, 1, 2, 3, 4] rfl k9
        · refine j_iload hC d_H_lookAt_38 5 rfl ?_
          refine j_iload_n hC d_H_lookAt_40 rfl 2 rfl ?_
          refine j_icmp_ge (tgt := 58) hC d_H_lookAt_41 (by decide) (fun h41 => ?_) (fun h41 => ?_)
          · refine j_iinc (lv' := [(0, .ref (g 0)), (1, .int (nI r)), (2, .int lim), (3, .int (nI a)), (4, .int (nI (b + 1))), (5, .int ((itN (pLk r lim a) b w) 4 ((r * 12 + a) * 12 + b)))]) hC d_H_lookAt_58 4 rfl (nI_1 _) (by decide) rfl rfl ?_
            refine j_goto (tgt := 11) hC d_H_lookAt_61 (by decide) ?_
            have e9 : itN (pLk r lim a) (b + 1) w = itN (pLk r lim a) b w := by rw [itN_s, pLk, if_neg h35, if_pos h41]
            have k9 := ih (b + 1) (by omega) (by omega)
            rw [e9] at k9
            exact j_locals [0, 1, 2, 3, 4] rfl k9
          · refine j_aload_n hC d_H_lookAt_44 rfl 0 rfl ?_
            refine j_get hC hin_H (0) (cw_house g k (itN (pLk r lim a) b w)) rfl 8 (by decide) (hC.2.2.2.2.1 _ wf_H_36) (fun _ h9 => h9) rfl d_H_lookAt_45 ?_
            refine j_getN hC hin_M (7) (cw_match g k (itN (pLk r lim a) b w)) rfl 0 (by decide) (hC.2.2.2.2.1 _ wf_H_247) (fun _ h9 => h9) rfl d_H_lookAt_48 ?_
            refine j_iload_n hC d_H_lookAt_51 rfl 1 rfl ?_
            refine j_iload_n hC d_H_lookAt_52 rfl 3 rfl ?_
            refine j_iload hC d_H_lookAt_53 4 rfl ?_
            refine j_callNr (As := [.int (nI r), .int (nI a), .int (nI b)]) (rest := []) (st1 := []) hC (k_show l dC dI g k tl (itN (pLk r lim a) b w) (nI r) (nI a) (nI b) (inN_nI hr8 (by decide)) (inN_nI ha (by decide)) (inN_nI hlt (by decide))) rfl rfl ww_H_266 yn_S_show (cw_sight g k (itN (pLk r lim a) b w)) rfl rfl d_H_lookAt_55 (Nat.le_of_ble_eq_true rfl) (by decide) ⟨Nat.zero_le _, Nat.zero_le _⟩ rfl ?_
            refine j_iinc (lv' := [(0, .ref (g 0)), (1, .int (nI r)), (2, .int lim), (3, .int (nI a)), (4, .int (nI (b + 1))), (5, .int ((itN (pLk r lim a) b w) 4 ((r * 12 + a) * 12 + b)))]) hC d_H_lookAt_58 4 rfl (nI_1 _) (by decide) rfl rfl ?_
            refine j_goto (tgt := 11) hC d_H_lookAt_61 (by decide) ?_
            have e9 : itN (pLk r lim a) (b + 1) w = pShow (itN (pLk r lim a) b w) (nI r) (nI a) (nI b) := by rw [itN_s, pLk, if_neg h35, if_neg h41]
            have k9 := ih (b + 1) (by omega) (by omega)
            rw [e9] at k9
            exact j_locals [0, 1, 2, 3, 4] rfl k9
  have outer : ∀ (n a : Nat), a ≤ 12 → 12 < a + n → jJ p l e ({ frames := 2, cells := 0, slots := 0, locals := 44 }) s m [.ref (g 0), .int (nI r), .int lim].toArray below meth c 6 (dC, dI) jcl A (hxQ below (jQ (dC, dI) jcl (jRet none (cw g k (pLookAt r lim u))) A) [.ref (g 0), .int (nI r), .int lim].toArray s 0 0 A) 0 0 (cw g k (itN (pLk1 r lim) a u)) [(0, .ref (g 0)), (1, .int (nI r)), (2, .int lim), (3, .int (nI a))] [] 2 := by
    intro n
    induction n with
    | zero => intro a h1 h2; exact absurd h2 (by omega)
    | succ n ih =>
      intro a hrow hn
      refine j_iload_n hC d_H_lookAt_2 rfl 3 rfl ?_
      refine j_bipush (v := 12) hC d_H_lookAt_3 (by decide) ?_
      refine j_icmp_ge (tgt := 70) hC d_H_lookAt_5 (by decide) (fun h5 => ?_) (fun h5 => ?_)
      · have hge : 12 ≤ a := (nI_leI (a := 12) (by decide) (by omega)).mp h5
        have hqe : a = 12 := by omega
        subst hqe
        exact j_vret hC hr ⟨rfl, rfl, rfl⟩ d_H_lookAt_70
      · have hlt : a < 12 := Nat.not_le.mp (fun z => h5 ((nI_leI (a := 12) (by decide) (by omega)).mpr z))
        refine j_iconst (v := 0) hC d_H_lookAt_8 (by decide) ?_
        refine j_istore (lv' := [(0, .ref (g 0)), (1, .int (nI r)), (2, .int lim), (3, .int (nI a)), (4, .int 0)]) hC d_H_lookAt_9 (by decide) rfl rfl ?_
        rw [← itN_0 (pLk r lim a) (itN (pLk1 r lim) a u)]
        refine inner a hlt (itN (pLk1 r lim) a u) ?_ 13 0 (by omega) (by omega)
        refine j_iinc (lv' := [(0, .ref (g 0)), (1, .int (nI r)), (2, .int lim), (3, .int (nI (a + 1)))]) hC d_H_lookAt_64 3 rfl (nI_1 _) (by decide) rfl rfl ?_
        refine j_goto (tgt := 2) hC d_H_lookAt_67 (by decide) ?_
        have k9 := ih (a + 1) (by omega) (by omega)
        rw [itN_s, pLk1] at k9
        exact k9
  refine j_iconst (v := 0) hC d_H_lookAt_0 (by decide) ?_
  refine j_istore_n (lv' := [(0, .ref (g 0)), (1, .int (nI r)), (2, .int lim), (3, .int 0)]) hC d_H_lookAt_1 rfl (by decide) rfl rfl ?_
  exact outer 13 0 (by omega) (by omega)

set_option maxHeartbeats 4000000 in
set_option maxRecDepth 100000 in
theorem k_look (l : Launch) (dC : Nat → ClassId) (dI : Nat → Nat → Nat) (g k : Nat → Nat) (tl : List (ClassId × FieldType)) (u : jU) (hH : wfH u) (ly lim : Int32) : jMet l y_H_look (.code y_H_look c_H_look 4 none) ({ frames := 3, cells := 0, slots := 0, locals := 69 }) (dC, dI) jcl (ctys k tl) jTs [.ref (g 0), .int ly, .int lim] (cw g k u) 0 0 (jRet none (cw g k (pLook ly lim u))) := by
  refine jMet.of (by decide) (Nat.le_of_ble_eq_true rfl) ?_
  intro p e s m below meth c A hC hex hr hnm htr
  show jJ p l e ({ frames := 3, cells := 0, slots := 0, locals := 69 }) s m [.ref (g 0), .int ly, .int lim].toArray below meth c 4 (dC, dI) jcl A (hxQ below (jQ (dC, dI) jcl (jRet none (cw g k (pLook ly lim u))) A) [.ref (g 0), .int ly, .int lim].toArray s 0 0 A) 0 0 (cw g k u) [(0, .ref (g 0)), (1, .int ly), (2, .int lim)] [] 0
  have hk9 := hH.2.1
  have hk := hk9.2
  have loop : ∀ (n i : Nat), i ≤ tn (u 0 0) → tn (u 0 0) < i + n → jJ p l e ({ frames := 3, cells := 0, slots := 0, locals := 69 }) s m [.ref (g 0), .int ly, .int lim].toArray below meth c 4 (dC, dI) jcl A (hxQ below (jQ (dC, dI) jcl (jRet none (cw g k (pLook ly lim u))) A) [.ref (g 0), .int ly, .int lim].toArray s 0 0 A) 0 0 (cw g k (itN (pLook1 ly lim) i (pBlind u))) [(0, .ref (g 0)), (1, .int ly), (2, .int lim), (3, .int (nI i))] [] 12 := by
    intro n
    induction n with
    | zero => intro i h1 h2; exact absurd h2 (by omega)
    | succ n ih =>
      intro i hi hn
      have hkv : kp [7, 8, 9, 10, 11] u (itN (pLook1 ly lim) i (pBlind u)) := itN_inv (P := fun w => kp [7, 8, 9, 10, 11] u w) (pBlind_kp u) i (fun q w _ hw => hw.tr (pLook1_kp ly lim q w))
      have hk0 : (itN (pLook1 ly lim) i (pBlind u)) 0 0 = u 0 0 := by rw [hkv 0 (by decide)]
      refine j_iload_n hC d_H_look_12 rfl 3 rfl ?_
      refine j_aload_n hC d_H_look_13 rfl 0 rfl ?_
      refine j_get hC hin_H (0) (cw_house g k (itN (pLook1 ly lim) i (pBlind u))) rfl 3 (by decide) (hC.2.2.2.2.1 _ wf_H_51) (fun _ h9 => h9) rfl d_H_look_14 ?_
      refine j_icmp_ge (tgt := 57) hC d_H_look_17 (by decide) (fun h17 => ?_) (fun h17 => ?_)
      · have hge : tn (u 0 0) ≤ i := (inN_leN hk9 (by decide) (by omega)).mp (by rw [← hk0]; exact h17)
        have hie : i = tn (u 0 0) := by omega
        exact j_vret hC hr ⟨rfl, rfl, by rw [hie]; rfl⟩ d_H_look_57
      · have hlt : i < tn (u 0 0) := Nat.not_le.mp (fun z => h17 (by rw [hk0]; exact (inN_leN hk9 (by decide) (by omega)).mpr z))
        have hi8 : i < 8 := by omega
        refine j_aload_n hC d_H_look_20 rfl 0 rfl ?_
        refine j_get hC hin_H (0) (cw_house g k (itN (pLook1 ly lim) i (pBlind u))) rfl 5 (by decide) (hC.2.2.2.2.1 _ wf_H_24) (fun _ h9 => h9) rfl d_H_look_21 ?_
        refine j_iload_n hC d_H_look_24 rfl 3 rfl ?_
        refine j_ialdN hC (4) 0 (cw_layers g k (itN (pLook1 ly lim) i (pBlind u))) rfl (n := i) (rfl) (hi8) (by decide) d_H_look_25 ?_
        refine j_iload_n hC d_H_look_26 rfl 1 rfl ?_
        refine j_icmp_gt (tgt := 51) hC d_H_look_27 (by decide) (fun h27 => ?_) (fun h27 => ?_)
        · refine j_iinc (lv' := [(0, .ref (g 0)), (1, .int ly), (2, .int lim), (3, .int (nI (i + 1)))]) hC d_H_look_51 3 rfl (nI_1 _) (by decide) rfl rfl ?_
          refine j_goto (tgt := 12) hC d_H_look_54 (by decide) ?_
          have e9 : itN (pLook1 ly lim) (i + 1) (pBlind u) = itN (pLook1 ly lim) i (pBlind u) := by rw [itN_s, pLook1, if_pos h27]
          have k9 := ih (i + 1) (by omega) (by omega)
          rw [e9] at k9
          exact k9
        · refine j_aload_n hC d_H_look_30 rfl 0 rfl ?_
          refine j_iload_n hC d_H_look_31 rfl 3 rfl ?_
          refine j_aload_n hC d_H_look_32 rfl 0 rfl ?_
          refine j_get hC hin_H (0) (cw_house g k (itN (pLook1 ly lim) i (pBlind u))) rfl 5 (by decide) (hC.2.2.2.2.1 _ wf_H_24) (fun _ h9 => h9) rfl d_H_look_33 ?_
          refine j_iload_n hC d_H_look_36 rfl 3 rfl ?_
          refine j_ialdN hC (4) 0 (cw_layers g k (itN (pLook1 ly lim) i (pBlind u))) rfl (n := i) (rfl) (hi8) (by decide) d_H_look_37 ?_
          refine j_iload_n hC d_H_look_38 rfl 1 rfl ?_
          refine j_icmp_ge (tgt := 47) hC d_H_look_39 (by decide) (fun h39 => ?_) (fun h39 => ?_)
          · refine j_iload_n hC d_H_look_47 rfl 2 rfl ?_
            refine j_callVr (As := [.int (nI i), .int lim]) (rest := []) (st1 := []) hC (k_lookAt l dC dI g k tl (itN (pLook1 ly lim) i (pBlind u)) (r := i) hi8 lim) rfl rfl ww_H_270 yn_H_lookAt (cw_house g k (itN (pLook1 ly lim) i (pBlind u))) rfl rfl d_H_look_48 (Nat.le_of_ble_eq_true rfl) (by decide) ⟨Nat.zero_le _, Nat.zero_le _⟩ rfl ?_
            refine j_iinc (lv' := [(0, .ref (g 0)), (1, .int ly), (2, .int lim), (3, .int (nI (i + 1)))]) hC d_H_look_51 3 rfl (nI_1 _) (by decide) rfl rfl ?_
            refine j_goto (tgt := 12) hC d_H_look_54 (by decide) ?_
            have e9 : itN (pLook1 ly lim) (i + 1) (pBlind u) = pLookAt i lim (itN (pLook1 ly lim) i (pBlind u)) := by rw [itN_s, pLook1, if_neg h27, if_pos h39]
            have k9 := ih (i + 1) (by omega) (by omega)
            rw [e9] at k9
            exact k9
          · refine j_ldc (v := 2147483647) hC (hC.2.2.2.2.1 _ wc_H_128) d_H_look_42 ?_
            refine j_goto (tgt := 48) hC d_H_look_44 (by decide) ?_
            refine j_callVr (As := [.int (nI i), .int 2147483647]) (rest := []) (st1 := []) hC (k_lookAt l dC dI g k tl (itN (pLook1 ly lim) i (pBlind u)) (r := i) hi8 2147483647) rfl rfl ww_H_270 yn_H_lookAt (cw_house g k (itN (pLook1 ly lim) i (pBlind u))) rfl rfl d_H_look_48 (Nat.le_of_ble_eq_true rfl) (by decide) ⟨Nat.zero_le _, Nat.zero_le _⟩ rfl ?_
            refine j_iinc (lv' := [(0, .ref (g 0)), (1, .int ly), (2, .int lim), (3, .int (nI (i + 1)))]) hC d_H_look_51 3 rfl (nI_1 _) (by decide) rfl rfl ?_
            refine j_goto (tgt := 12) hC d_H_look_54 (by decide) ?_
            have e9 : itN (pLook1 ly lim) (i + 1) (pBlind u) = pLookAt i 2147483647 (itN (pLook1 ly lim) i (pBlind u)) := by rw [itN_s, pLook1, if_neg h27, if_neg h39]
            have k9 := ih (i + 1) (by omega) (by omega)
            rw [e9] at k9
            exact k9
  refine j_aload_n hC d_H_look_0 rfl 0 rfl ?_
  refine j_get hC hin_H (0) (cw_house g k u) rfl 8 (by decide) (hC.2.2.2.2.1 _ wf_H_36) (fun _ h9 => h9) rfl d_H_look_1 ?_
  refine j_getN hC hin_M (7) (cw_match g k u) rfl 0 (by decide) (hC.2.2.2.2.1 _ wf_H_247) (fun _ h9 => h9) rfl d_H_look_4 ?_
  refine j_callNr (As := []) (rest := []) (st1 := []) hC (k_blind l dC dI g k tl u) rfl rfl ww_H_269 yn_S_forget (cw_sight g k u) rfl rfl d_H_look_7 (Nat.le_of_ble_eq_true rfl) (by decide) ⟨Nat.zero_le _, Nat.zero_le _⟩ rfl ?_
  refine j_iconst (v := 0) hC d_H_look_10 (by decide) ?_
  refine j_istore_n (lv' := [(0, .ref (g 0)), (1, .int ly), (2, .int lim), (3, .int 0)]) hC d_H_look_11 rfl (by decide) rfl rfl ?_
  exact loop 10 0 (by omega) (by omega)
