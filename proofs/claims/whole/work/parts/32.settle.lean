set_option maxHeartbeats 4000000 in
set_option maxRecDepth 100000 in
theorem k_settle (l : Launch) (dC : Nat → ClassId) (dI : Nat → Nat → Nat) (g k : Nat → Nat) (tl : List (ClassId × FieldType)) (u : jU) (hH : wfH u) (hT : wfT u) : jMet l y_H_settle (.code y_H_settle c_H_settle 5 none) ({ frames := 10, cells := 0, slots := 0, locals := 429 }) (dC, dI) jcl (ctys k tl) jTs [.ref (g 0)] (cw g k u) 0 0 (jRet none (cw g k (pSettle u))) := by
  refine jMet.of (by decide) (Nat.le_of_ble_eq_true rfl) ?_
  intro p e s m below meth c A hC hex hr hnm htr
  show jJ p l e ({ frames := 10, cells := 0, slots := 0, locals := 429 }) s m [.ref (g 0)].toArray below meth c 5 (dC, dI) jcl A (hxQ below (jQ (dC, dI) jcl (jRet none (cw g k (pSettle u))) A) [.ref (g 0)].toArray s 0 0 A) 0 0 (cw g k u) [(0, .ref (g 0))] [] 0
  have inner : ∀ (q : Nat), q < 9 → ∀ (w : jU), jJ p l e ({ frames := 10, cells := 0, slots := 0, locals := 429 }) s m [.ref (g 0)].toArray below meth c 5 (dC, dI) jcl A (hxQ below (jQ (dC, dI) jcl (jRet none (cw g k (pSettle u))) A) [.ref (g 0)].toArray s 0 0 A) 0 0 (cw g k w) [(0, .ref (g 0)), (1, .int (pTop (pRankGiven u) (tn ((pRankGiven u) 0 0)))), (2, .int (nI q))] [] 68 → ∀ (n rd : Nat) (ch : Int32) (v : jU), 1154 < rd + n → rd ≤ 1154 → wfH v → pRd (nI q) (1154 - rd) rd ch v = w → jJ p l e ({ frames := 10, cells := 0, slots := 0, locals := 429 }) s m [.ref (g 0)].toArray below meth c 5 (dC, dI) jcl A (hxQ below (jQ (dC, dI) jcl (jRet none (cw g k (pSettle u))) A) [.ref (g 0)].toArray s 0 0 A) 0 0 (cw g k v) [(0, .ref (g 0)), (1, .int (pTop (pRankGiven u) (tn ((pRankGiven u) 0 0)))), (2, .int (nI q)), (3, .int ch), (4, .int (nI rd))] [] 37 := by
    intro q hq w hk n
    induction n with
    | zero => intro rd ch v h1 h2; exact absurd h2 (by omega)
    | succ n ih =>
      intro rd ch v hn hrd hv hinv
      refine j_iload_n hC d_H_settle_37 rfl 3 rfl ?_
      refine j_if_eq (tgt := 68) hC d_H_settle_38 (by decide) (fun h38 => ?_) (fun h38 => ?_)
      · subst h38
        rw [pRd_zero] at hinv
        subst hinv
        exact j_locals [0, 1, 2] rfl hk
      · refine j_iload hC d_H_settle_41 4 rfl ?_
        refine j_sipush (v := 1153) hC d_H_settle_43 (by decide) ?_
        refine j_icmp_gt (tgt := 68) hC d_H_settle_46 (by decide) (fun h46 => ?_) (fun h46 => ?_)
        · have hgt : 1153 < rd := (rd_gt (by omega)).mp h46
          have hrz : 1154 - rd = 0 := by omega
          rw [hrz] at hinv
          subst hinv
          exact j_locals [0, 1, 2] rfl hk
        · have hle : rd ≤ 1153 := Nat.not_lt.mp (fun z => h46 ((rd_gt (by omega)).mpr z))
          have e12 : pRd (nI q) (1154 - rd) rd ch v = pRd (nI q) ((1154 - (rd + 1)) + 1) rd ch v := by rw [show 1154 - rd = (1154 - (rd + 1)) + 1 by omega]
          refine j_aload_n hC d_H_settle_49 rfl 0 rfl ?_
          refine j_iload_n hC d_H_settle_50 rfl 2 rfl ?_
          refine j_iload hC d_H_settle_51 4 rfl ?_
          refine j_iload_n hC d_H_settle_53 rfl 3 rfl ?_
          refine j_callVr (As := [.int (nI q), .int (nI rd), .int ch]) (rest := []) (st1 := []) hC (k_round l dC dI g k tl v hv (nI q) (nI rd) ch) rfl rfl ww_H_225 yn_H_bringRound (cw_house g k v) rfl rfl d_H_settle_54 (Nat.le_of_ble_eq_true rfl) (by decide) ⟨Nat.zero_le _, Nat.zero_le _⟩ rfl ?_
          refine j_aload_n hC d_H_settle_57 rfl 0 rfl ?_
          refine j_callVr (As := []) (rest := []) (st1 := [.int ((pShowFresh (pRound (nI q) (nI rd) ch v)).1)]) hC (k_showFresh l dC dI g k tl (pRound (nI q) (nI rd) ch v)) rfl rfl ww_H_228 yn_H_showFresh (cw_house g k (pRound (nI q) (nI rd) ch v)) rfl rfl d_H_settle_58 (Nat.le_of_ble_eq_true rfl) (by decide) ⟨Nat.zero_le _, Nat.zero_le _⟩ rfl ?_
          refine j_istore_n (lv' := [(0, .ref (g 0)), (1, .int (pTop (pRankGiven u) (tn ((pRankGiven u) 0 0)))), (2, .int (nI q)), (3, .int ((pShowFresh (pRound (nI q) (nI rd) ch v)).1)), (4, .int (nI rd))]) hC d_H_settle_61 rfl (by decide) rfl rfl ?_
          refine j_iinc (lv' := [(0, .ref (g 0)), (1, .int (pTop (pRankGiven u) (tn ((pRankGiven u) 0 0)))), (2, .int (nI q)), (3, .int ((pShowFresh (pRound (nI q) (nI rd) ch v)).1)), (4, .int (nI (rd + 1)))]) hC d_H_settle_62 4 rfl (nI_1 _) (by decide) rfl rfl ?_
          refine j_goto (tgt := 37) hC d_H_settle_65 (by decide) ?_
          exact ih (rd + 1) _ _ (by omega) (by omega) ((pE.rd ⟨kp.rf _ v, hv.1.2.2⟩ _ _ _).wfH hv) (by rw [← hinv, e12, pRd, if_neg h38])
  have outer : u 0 4 = 0 → ∀ (n q : Nat), q ≤ tn (pTop (pRankGiven u) (tn ((pRankGiven u) 0 0))) + 1 → tn (pTop (pRankGiven u) (tn ((pRankGiven u) 0 0))) + 1 < q + n → jJ p l e ({ frames := 10, cells := 0, slots := 0, locals := 429 }) s m [.ref (g 0)].toArray below meth c 5 (dC, dI) jcl A (hxQ below (jQ (dC, dI) jcl (jRet none (cw g k (pSettle u))) A) [.ref (g 0)].toArray s 0 0 A) 0 0 (cw g k (itN pLayer q (pRankGiven u))) [(0, .ref (g 0)), (1, .int (pTop (pRankGiven u) (tn ((pRankGiven u) 0 0)))), (2, .int (nI q))] [] 19 := by
    intro h4 n
    have hT9 := hT h4
    have hT8 := hT9.2
    have hHg : wfH (pRankGiven u) := (pRankGiven_ok hH.1.2.2).wfH hH
    induction n with
    | zero => intro q h1 h2; exact absurd h2 (by omega)
    | succ n ih =>
      intro q hqt hn
      have hHw : wfH (itN pLayer q (pRankGiven u)) := (itN_inv (P := pE u) (pRankGiven_ok hH.1.2.2) q (fun z v _ hv => pLayer_ok hv)).wfH hH
      refine j_iload_n hC d_H_settle_19 rfl 2 rfl ?_
      refine j_iload_n hC d_H_settle_20 rfl 1 rfl ?_
      refine j_icmp_gt (tgt := 74) hC d_H_settle_21 (by decide) (fun h21 => ?_) (fun h21 => ?_)
      · have hgt : tn (pTop (pRankGiven u) (tn ((pRankGiven u) 0 0))) < q := (inN_ltN hT9 (by decide) (by omega)).mp h21
        have hqe : q = tn (pTop (pRankGiven u) (tn ((pRankGiven u) 0 0))) + 1 := by omega
        refine j_aload_n hC d_H_settle_74 rfl 0 rfl ?_
        refine j_iconst (v := 1) hC d_H_settle_75 (by decide) ?_
        refine j_put (ty := .boolean) (ws' := cw g k (up (itN pLayer q (pRankGiven u)) 0 4 1)) hC hin_H tyX4 tyX4_ok nmX4 (0) (cw_house g k (itN pLayer q (pRankGiven u))) rfl 11 (by decide) (hC.2.2.2.2.1 _ wf_H_181) (fun _ h9 => h9) rfl (by decide +kernel) (rfl) (rfl) (Nat.le_of_ble_eq_true rfl) (cw_set_settled g k (itN pLayer q (pRankGiven u)) 1) d_H_settle_76 ?_
        exact j_vret hC hr ⟨rfl, rfl, congrArg (cw g k) (by rw [pSettle, if_pos h4, pSettle1, ← hqe])⟩ d_H_settle_79
      · have hle : q ≤ tn (pTop (pRankGiven u) (tn ((pRankGiven u) 0 0))) := Nat.not_lt.mp (fun z => h21 ((inN_ltN hT9 (by decide) (by omega)).mpr z))
        have hq9 : q < 9 := Nat.lt_of_le_of_lt hle hT9.2
        refine j_aload_n hC d_H_settle_24 rfl 0 rfl ?_
        refine j_iload_n hC d_H_settle_25 rfl 2 rfl ?_
        refine j_iconst (v := 1) hC d_H_settle_26 (by decide) ?_
        refine j_callVr (As := [.int (nI q), .int 1]) (rest := []) (st1 := []) hC (k_look l dC dI g k tl (itN pLayer q (pRankGiven u)) hHw (nI q) 1) rfl rfl ww_H_129 yn_H_look (cw_house g k (itN pLayer q (pRankGiven u))) rfl rfl d_H_settle_27 (Nat.le_of_ble_eq_true rfl) (by decide) ⟨Nat.zero_le _, Nat.zero_le _⟩ rfl ?_
        refine j_sipush (v := 255) hC d_H_settle_30 (by decide) ?_
        refine j_istore_n (lv' := [(0, .ref (g 0)), (1, .int (pTop (pRankGiven u) (tn ((pRankGiven u) 0 0)))), (2, .int (nI q)), (3, .int 255)]) hC d_H_settle_33 rfl (by decide) rfl rfl ?_
        refine j_iconst (v := 1) hC d_H_settle_34 (by decide) ?_
        refine j_istore (lv' := [(0, .ref (g 0)), (1, .int (pTop (pRankGiven u) (tn ((pRankGiven u) 0 0)))), (2, .int (nI q)), (3, .int 255), (4, .int 1)]) hC d_H_settle_35 (by decide) rfl rfl ?_
        refine inner q hq9 (pLayer q (itN pLayer q (pRankGiven u))) ?_ 1154 1 255 (pLook (nI q) 1 (itN pLayer q (pRankGiven u))) (by omega) (by omega) ((pLook_ok (u := itN pLayer q (pRankGiven u)) _ _ ⟨kp.rf _ _, hHw.1.2.2⟩).wfH hHw) (pLayer_eq q _)
        refine j_iinc (lv' := [(0, .ref (g 0)), (1, .int (pTop (pRankGiven u) (tn ((pRankGiven u) 0 0)))), (2, .int (nI (q + 1)))]) hC d_H_settle_68 2 rfl (nI_1 _) (by decide) rfl rfl ?_
        refine j_goto (tgt := 19) hC d_H_settle_71 (by decide) ?_
        have k9 := ih (q + 1) (by omega) (by omega)
        rw [itN_s] at k9
        exact k9
  refine j_aload_n hC d_H_settle_0 rfl 0 rfl ?_
  refine j_get hC hin_H (0) (cw_house g k u) rfl 11 (by decide) (hC.2.2.2.2.1 _ wf_H_181) (fun _ h9 => h9) rfl d_H_settle_1 ?_
  refine j_if_eq (tgt := 8) hC d_H_settle_4 (by decide) (fun h4 => ?_) (fun h4 => ?_)
  · have hT9 := hT h4
    have hHg : wfH (pRankGiven u) := (pRankGiven_ok hH.1.2.2).wfH hH
    refine j_aload_n hC d_H_settle_8 rfl 0 rfl ?_
    refine j_callVr (As := []) (rest := []) (st1 := []) hC (k_rankGiven l dC dI g k tl u) rfl rfl ww_H_219 yn_H_rankGiven (cw_house g k u) rfl rfl d_H_settle_9 (Nat.le_of_ble_eq_true rfl) (by decide) ⟨Nat.zero_le _, Nat.zero_le _⟩ rfl ?_
    refine j_aload_n hC d_H_settle_12 rfl 0 rfl ?_
    refine j_callVr (As := []) (rest := []) (st1 := [.int (pTop (pRankGiven u) (tn ((pRankGiven u) 0 0)))]) hC (k_top l dC dI g k tl (pRankGiven u) hHg) rfl rfl ww_H_222 yn_H_topLayer (cw_house g k (pRankGiven u)) rfl rfl d_H_settle_13 (Nat.le_of_ble_eq_true rfl) (by decide) ⟨Nat.zero_le _, Nat.zero_le _⟩ rfl ?_
    refine j_istore_n (lv' := [(0, .ref (g 0)), (1, .int (pTop (pRankGiven u) (tn ((pRankGiven u) 0 0))))]) hC d_H_settle_16 rfl (by decide) rfl rfl ?_
    refine j_iconst (v := 0) hC d_H_settle_17 (by decide) ?_
    refine j_istore_n (lv' := [(0, .ref (g 0)), (1, .int (pTop (pRankGiven u) (tn ((pRankGiven u) 0 0)))), (2, .int 0)]) hC d_H_settle_18 rfl (by decide) rfl rfl ?_
    have hT8 := hT9.2
    exact outer h4 11 0 (by omega) (by omega)
  · exact j_vret hC hr ⟨rfl, rfl, congrArg (cw g k) (if_neg h4).symm⟩ d_H_settle_7
