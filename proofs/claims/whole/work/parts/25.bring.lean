set_option maxHeartbeats 4000000 in
set_option maxRecDepth 100000 in
theorem k_bring (l : Launch) (dC : Nat → ClassId) (dI : Nat → Nat → Nat) (g k : Nat → Nat) (tl : List (ClassId × FieldType)) (u : jU) {i : Nat} (hi : i < 16) (hM : wfM u) (rd : Int32) : jMet l y_H_bringByRule (.code y_H_bringByRule c_H_bringByRule 10 none) ({ frames := 8, cells := 0, slots := 0, locals := 375 }) (dC, dI) jcl (ctys k tl) jTs [.ref (g 0), .ref (g (15 + i)), .int rd] (cw g k u) 0 0 (jRet none (cw g k (pBring i rd u))) := by
  refine jMet.of (by decide) (Nat.le_of_ble_eq_true rfl) ?_
  intro p e s m below meth c A hC hex hr hnm htr
  show jJ p l e ({ frames := 8, cells := 0, slots := 0, locals := 375 }) s m [.ref (g 0), .ref (g (15 + i)), .int rd].toArray below meth c 10 (dC, dI) jcl A (hxQ below (jQ (dC, dI) jcl (jRet none (cw g k (pBring i rd u))) A) [.ref (g 0), .ref (g (15 + i)), .int rd].toArray s 0 0 A) 0 0 (cw g k u) [(0, .ref (g 0)), (1, .ref (g (15 + i))), (2, .int rd)] [] 0
  have inner : ∀ (a : Nat), a < 12 → ∀ (fs : Int32) (row : Nat), row < 96 → ∀ (hd sc : Int32) (w : jU), pR u w → jJ p l e ({ frames := 8, cells := 0, slots := 0, locals := 375 }) s m [.ref (g 0), .ref (g (15 + i)), .int rd].toArray below meth c 10 (dC, dI) jcl A (hxQ below (jQ (dC, dI) jcl (jRet none (cw g k (pBring i rd u))) A) [.ref (g 0), .ref (g (15 + i)), .int rd].toArray s 0 0 A) 0 0 (cw g k (itN (pB2 i rd a row sc) 12 w)) [(0, .ref (g 0)), (1, .ref (g (15 + i))), (2, .int rd), (3, .ref (g (47 + (5 * i)))), (4, .int fs), (5, .int (nI a))] [] 214 → ∀ (n q : Nat), q ≤ 12 → 12 < q + n → jJ p l e ({ frames := 8, cells := 0, slots := 0, locals := 375 }) s m [.ref (g 0), .ref (g (15 + i)), .int rd].toArray below meth c 10 (dC, dI) jcl A (hxQ below (jQ (dC, dI) jcl (jRet none (cw g k (pBring i rd u))) A) [.ref (g 0), .ref (g (15 + i)), .int rd].toArray s 0 0 A) 0 0 (cw g k (itN (pB2 i rd a row sc) q w)) [(0, .ref (g 0)), (1, .ref (g (15 + i))), (2, .int rd), (3, .ref (g (47 + (5 * i)))), (4, .int fs), (5, .int (nI a)), (6, .int (nI row)), (7, .int hd), (8, .int sc), (9, .int (nI q))] [] 126 := by
    intro a ha fs row hrow hd sc w hw hk n
    induction n with
    | zero => intro q h1 h2; exact absurd h2 (by omega)
    | succ n ih =>
      intro q hq hn
      have hRv : pR u (itN (pB2 i rd a row sc) q w) := itN_inv (P := pR u) hw q (fun z v hz hv => pB2_ok ha (by omega) hv)
      have hMv := hRv.wfM hM
      refine j_iload hC d_H_bringByRule_126 8 rfl ?_
      refine j_if_eq (tgt := 214) hC d_H_bringByRule_128 (by decide) (fun h128 => ?_) (fun h128 => ?_)
      · subst h128
        rw [pB2_zero] at hk
        rw [pB2_zero]
        exact j_locals [0, 1, 2, 3, 4, 5] rfl hk
      · refine j_iload hC d_H_bringByRule_131 9 rfl ?_
        refine j_bipush (v := 12) hC d_H_bringByRule_133 (by decide) ?_
        refine j_icmp_ge (tgt := 214) hC d_H_bringByRule_135 (by decide) (fun h135 => ?_) (fun h135 => ?_)
        · have hge : 12 ≤ q := (nI_leI (a := 12) (by decide) (by omega)).mp h135
          have hqe : q = 12 := by omega
          subst hqe
          exact j_locals [0, 1, 2, 3, 4, 5] rfl hk
        · have hq12 : q < 12 := Nat.not_le.mp (fun z => h135 ((nI_leI (a := 12) (by decide) (by omega)).mpr z))
          refine j_iload hC d_H_bringByRule_138 8 rfl ?_
          refine j_iload hC d_H_bringByRule_140 9 rfl ?_
          refine j_callSr (As := [.int sc, .int (nI q)]) (rest := []) (st1 := [.int (b2i (hb sc (nI q)))]) hC (k_hasBit l dC dI g k tl (itN (pB2 i rd a row sc) q w) sc (nI q)) rfl rfl ww_H_184 yn_H_hasBit rfl d_H_bringByRule_142 (Nat.le_of_ble_eq_true rfl) (by decide) ⟨Nat.zero_le _, Nat.zero_le _⟩ rfl ?_
          refine j_if_eq (tgt := 208) hC d_H_bringByRule_145 (by decide) (fun h145 => ?_) (fun h145 => ?_)
          · refine j_iinc (lv' := [(0, .ref (g 0)), (1, .ref (g (15 + i))), (2, .int rd), (3, .ref (g (47 + (5 * i)))), (4, .int fs), (5, .int (nI a)), (6, .int (nI row)), (7, .int hd), (8, .int sc), (9, .int (nI (q + 1)))]) hC d_H_bringByRule_208 9 rfl (nI_1 _) (by decide) rfl rfl ?_
            refine j_goto (tgt := 126) hC d_H_bringByRule_211 (by decide) ?_
            have e9 : itN (pB2 i rd a row sc) (q + 1) w = itN (pB2 i rd a row sc) q w := by rw [itN_s, pB2, if_pos h145]
            have k9 := ih (q + 1) (by omega) (by omega)
            rw [e9] at k9
            exact k9
          · refine j_aload_n hC d_H_bringByRule_148 rfl 0 rfl ?_
            refine j_get hC hin_H (0) (cw_house g k (itN (pB2 i rd a row sc) q w)) rfl 8 (by decide) (hC.2.2.2.2.1 _ wf_H_36) (fun _ h9 => h9) rfl d_H_bringByRule_149 ?_
            refine j_aload_n hC d_H_bringByRule_152 rfl 1 rfl ?_
            refine j_aload_n hC d_H_bringByRule_153 rfl 3 rfl ?_
            refine j_getN hC hin_A (47 + (5 * i)) (cw_atom g k (itN (pB2 i rd a row sc) q w) (j := 5 * i) (by omega)) rfl 0 (by decide) (hC.2.2.2.2.1 _ wf_H_205) (fun _ h9 => h9) rfl d_H_bringByRule_154 ?_
            refine j_iload hC d_H_bringByRule_157 5 rfl ?_
            refine j_iload hC d_H_bringByRule_159 9 rfl ?_
            refine j_callNr (As := [.ref (g (15 + i)), .int ((itN (pB2 i rd a row sc) q w) 16 (5 * i)), .int (nI a), .int (nI q)]) (rest := []) (st1 := [.int (b2i (pMeets (itN (pB2 i rd a row sc) q w) i ((itN (pB2 i rd a row sc) q w) 16 (5 * i)) (nI a) (nI q)).1)]) hC (k_meets l dC dI g k tl (itN (pB2 i rd a row sc) q w) hi hMv ((itN (pB2 i rd a row sc) q w) 16 (5 * i)) (nI a) (nI q) (inN_nI ha (by decide)) (inN_nI hq12 (by decide))) rfl rfl ww_H_133 yn_M_meets (cw_match g k (itN (pB2 i rd a row sc) q w)) rfl rfl d_H_bringByRule_161 (Nat.le_of_ble_eq_true rfl) (by decide) ⟨Nat.zero_le _, Nat.zero_le _⟩ rfl ?_
            refine j_if_eq (tgt := 208) hC d_H_bringByRule_164 (by decide) (fun h164 => ?_) (fun h164 => ?_)
            · refine j_iinc (lv' := [(0, .ref (g 0)), (1, .ref (g (15 + i))), (2, .int rd), (3, .ref (g (47 + (5 * i)))), (4, .int fs), (5, .int (nI a)), (6, .int (nI row)), (7, .int hd), (8, .int sc), (9, .int (nI (q + 1)))]) hC d_H_bringByRule_208 9 rfl (nI_1 _) (by decide) rfl rfl ?_
              refine j_goto (tgt := 126) hC d_H_bringByRule_211 (by decide) ?_
              have e9 : itN (pB2 i rd a row sc) (q + 1) w = (pMeets (itN (pB2 i rd a row sc) q w) i ((itN (pB2 i rd a row sc) q w) 16 (5 * i)) (nI a) (nI q)).2 := by rw [itN_s, pB2, if_neg h145, if_pos h164]
              have k9 := ih (q + 1) (by omega) (by omega)
              rw [e9] at k9
              exact k9
            · refine j_aload_n hC d_H_bringByRule_167 rfl 0 rfl ?_
              refine j_get hC hin_H (0) (cw_house g k ((pMeets (itN (pB2 i rd a row sc) q w) i ((itN (pB2 i rd a row sc) q w) 16 (5 * i)) (nI a) (nI q)).2)) rfl 8 (by decide) (hC.2.2.2.2.1 _ wf_H_36) (fun _ h9 => h9) rfl d_H_bringByRule_168 ?_
              refine j_aload_n hC d_H_bringByRule_171 rfl 1 rfl ?_
              refine j_bipush (v := 20) hC d_H_bringByRule_172 (by decide) ?_
              have hmo := pMeets_ok (u := itN (pB2 i rd a row sc) q w) i ((itN (pB2 i rd a row sc) q w) 16 (5 * i)) (nI a) (nI q) (inN_nI ha (by decide)) (inN_nI hq12 (by decide))
              refine j_callNr (As := [.ref (g (15 + i)), .int 20]) (rest := []) (st1 := [.int (b2i (pFind i 5 20 (pMeets (itN (pB2 i rd a row sc) q w) i ((itN (pB2 i rd a row sc) q w) 16 (5 * i)) (nI a) (nI q)).2).1)]) hC (k_find l dC dI g k tl hi 5 (pMeets (itN (pB2 i rd a row sc) q w) i ((itN (pB2 i rd a row sc) q w) 16 (5 * i)) (nI a) (nI q)).2 20 (by decide) (by decide) (hMv.of hmo.1 (hmo.2 hMv.2.2))) rfl rfl ww_H_262 yn_M_findLeast (cw_match g k ((pMeets (itN (pB2 i rd a row sc) q w) i ((itN (pB2 i rd a row sc) q w) 16 (5 * i)) (nI a) (nI q)).2)) rfl rfl d_H_bringByRule_174 (Nat.le_of_ble_eq_true rfl) (by decide) ⟨Nat.zero_le _, Nat.zero_le _⟩ rfl ?_
              refine j_if_eq (tgt := 208) hC d_H_bringByRule_177 (by decide) (fun h177 => ?_) (fun h177 => ?_)
              · refine j_iinc (lv' := [(0, .ref (g 0)), (1, .ref (g (15 + i))), (2, .int rd), (3, .ref (g (47 + (5 * i)))), (4, .int fs), (5, .int (nI a)), (6, .int (nI row)), (7, .int hd), (8, .int sc), (9, .int (nI (q + 1)))]) hC d_H_bringByRule_208 9 rfl (nI_1 _) (by decide) rfl rfl ?_
                refine j_goto (tgt := 126) hC d_H_bringByRule_211 (by decide) ?_
                have e9 : itN (pB2 i rd a row sc) (q + 1) w = (pFind i 5 20 (pMeets (itN (pB2 i rd a row sc) q w) i ((itN (pB2 i rd a row sc) q w) 16 (5 * i)) (nI a) (nI q)).2).2 := by rw [itN_s, pB2, if_neg h145, if_neg h164, if_pos h177]
                have k9 := ih (q + 1) (by omega) (by omega)
                rw [e9] at k9
                exact k9
              · refine j_aload_n hC d_H_bringByRule_180 rfl 0 rfl ?_
                refine j_get hC hin_H (0) (cw_house g k ((pFind i 5 20 (pMeets (itN (pB2 i rd a row sc) q w) i ((itN (pB2 i rd a row sc) q w) 16 (5 * i)) (nI a) (nI q)).2).2)) rfl 6 (by decide) (hC.2.2.2.2.1 _ wf_H_27) (fun _ h9 => h9) rfl d_H_bringByRule_181 ?_
                refine j_iload hC d_H_bringByRule_184 6 rfl ?_
                refine j_bipush (v := 12) hC d_H_bringByRule_186 (by decide) ?_
                refine j_imul hC d_H_bringByRule_188 ?_
                refine j_iload hC d_H_bringByRule_189 9 rfl ?_
                refine j_iadd hC d_H_bringByRule_191 ?_
                refine j_iload_n hC d_H_bringByRule_192 rfl 2 rfl ?_
                refine j_iastN (ws' := cw g k (up ((pFind i 5 20 (pMeets (itN (pB2 i rd a row sc) q w) i ((itN (pB2 i rd a row sc) q w) 16 (5 * i)) (nI a) (nI q)).2).2) 4 (row * 12 + q) rd)) hC (5) 0 (cw_ranks g k ((pFind i 5 20 (pMeets (itN (pB2 i rd a row sc) q w) i ((itN (pB2 i rd a row sc) q w) 16 (5 * i)) (nI a) (nI q)).2).2)) rfl (n := row * 12 + q) (nI_row row q) (by omega) (by decide) (cw_set_ranks g k ((pFind i 5 20 (pMeets (itN (pB2 i rd a row sc) q w) i ((itN (pB2 i rd a row sc) q w) 16 (5 * i)) (nI a) (nI q)).2).2) (row * 12 + q) rd) d_H_bringByRule_193 ?_
                refine j_aload_n hC d_H_bringByRule_194 rfl 0 rfl ?_
                refine j_get hC hin_H (0) (cw_house g k (up ((pFind i 5 20 (pMeets (itN (pB2 i rd a row sc) q w) i ((itN (pB2 i rd a row sc) q w) 16 (5 * i)) (nI a) (nI q)).2).2) 4 (row * 12 + q) rd)) rfl 7 (by decide) (hC.2.2.2.2.1 _ wf_H_30) (fun _ h9 => h9) rfl d_H_bringByRule_195 ?_
                refine j_iload hC d_H_bringByRule_198 6 rfl ?_
                refine j_dup2_11 hC d_H_bringByRule_200 rfl rfl ?_
                refine j_ialdN hC (6) 0 (cw_fresh g k (up ((pFind i 5 20 (pMeets (itN (pB2 i rd a row sc) q w) i ((itN (pB2 i rd a row sc) q w) 16 (5 * i)) (nI a) (nI q)).2).2) 4 (row * 12 + q) rd)) rfl (n := row) (rfl) (hrow) (by decide) d_H_bringByRule_201 ?_
                refine j_iconst (v := 1) hC d_H_bringByRule_202 (by decide) ?_
                refine j_iload hC d_H_bringByRule_203 9 rfl ?_
                refine j_ishl hC d_H_bringByRule_205 ?_
                refine j_ior hC d_H_bringByRule_206 ?_
                refine j_iastN (ws' := cw g k (up (up ((pFind i 5 20 (pMeets (itN (pB2 i rd a row sc) q w) i ((itN (pB2 i rd a row sc) q w) 16 (5 * i)) (nI a) (nI q)).2).2) 4 (row * 12 + q) rd) 5 row (((up ((pFind i 5 20 (pMeets (itN (pB2 i rd a row sc) q w) i ((itN (pB2 i rd a row sc) q w) 16 (5 * i)) (nI a) (nI q)).2).2) 4 (row * 12 + q) rd) 5 row) ||| (1 <<< ((nI q) &&& 31))))) hC (6) 0 (cw_fresh g k (up ((pFind i 5 20 (pMeets (itN (pB2 i rd a row sc) q w) i ((itN (pB2 i rd a row sc) q w) 16 (5 * i)) (nI a) (nI q)).2).2) 4 (row * 12 + q) rd)) rfl (n := row) (rfl) (hrow) (by decide) (cw_set_fresh g k (up ((pFind i 5 20 (pMeets (itN (pB2 i rd a row sc) q w) i ((itN (pB2 i rd a row sc) q w) 16 (5 * i)) (nI a) (nI q)).2).2) 4 (row * 12 + q) rd) row (((up ((pFind i 5 20 (pMeets (itN (pB2 i rd a row sc) q w) i ((itN (pB2 i rd a row sc) q w) 16 (5 * i)) (nI a) (nI q)).2).2) 4 (row * 12 + q) rd) 5 row) ||| (1 <<< ((nI q) &&& 31)))) d_H_bringByRule_207 ?_
                refine j_iinc (lv' := [(0, .ref (g 0)), (1, .ref (g (15 + i))), (2, .int rd), (3, .ref (g (47 + (5 * i)))), (4, .int fs), (5, .int (nI a)), (6, .int (nI row)), (7, .int hd), (8, .int sc), (9, .int (nI (q + 1)))]) hC d_H_bringByRule_208 9 rfl (nI_1 _) (by decide) rfl rfl ?_
                refine j_goto (tgt := 126) hC d_H_bringByRule_211 (by decide) ?_
                have e9 : itN (pB2 i rd a row sc) (q + 1) w = up (up ((pFind i 5 20 (pMeets (itN (pB2 i rd a row sc) q w) i ((itN (pB2 i rd a row sc) q w) 16 (5 * i)) (nI a) (nI q)).2).2) 4 (row * 12 + q) rd) 5 row (((up ((pFind i 5 20 (pMeets (itN (pB2 i rd a row sc) q w) i ((itN (pB2 i rd a row sc) q w) 16 (5 * i)) (nI a) (nI q)).2).2) 4 (row * 12 + q) rd) 5 row) ||| (1 <<< ((nI q) &&& 31))) := by rw [itN_s, pB2, if_neg h145, if_neg h164, if_neg h177] <;> rfl
                have k9 := ih (q + 1) (by omega) (by omega)
                rw [e9] at k9
                exact k9
  have outer : ∀ (n a : Nat), a ≤ 12 → 12 < a + n → jJ p l e ({ frames := 8, cells := 0, slots := 0, locals := 375 }) s m [.ref (g 0), .ref (g (15 + i)), .int rd].toArray below meth c 10 (dC, dI) jcl A (hxQ below (jQ (dC, dI) jcl (jRet none (cw g k (pBring i rd u))) A) [.ref (g 0), .ref (g (15 + i)), .int rd].toArray s 0 0 A) 0 0 (cw g k (itN (pB1 i rd (pChoices (pForget u) i (pForget u 17 (5 * i)))) a (pForget u))) [(0, .ref (g 0)), (1, .ref (g (15 + i))), (2, .int rd), (3, .ref (g (47 + (5 * i)))), (4, .int (pChoices (pForget u) i (pForget u 17 (5 * i)))), (5, .int (nI a))] [] 29 := by
    intro n
    induction n with
    | zero => intro a h1 h2; exact absurd h2 (by omega)
    | succ n ih =>
      intro a ha12 hn
      have hRw : pR u (itN (pB1 i rd (pChoices (pForget u) i (pForget u 17 (5 * i)))) a (pForget u)) := itN_inv (P := pR u) ⟨(only6_forget u).kp (by decide), wfV_forget hM.2.2⟩ a (fun z v hz hv => pB1_ok (by omega) hv)
      have hMw := hRw.wfM hM
      refine j_iload hC d_H_bringByRule_29 5 rfl ?_
      refine j_bipush (v := 12) hC d_H_bringByRule_31 (by decide) ?_
      refine j_icmp_ge (tgt := 220) hC d_H_bringByRule_33 (by decide) (fun h33 => ?_) (fun h33 => ?_)
      · have hge : 12 ≤ a := (nI_leI (a := 12) (by decide) (by omega)).mp h33
        have hqe : a = 12 := by omega
        subst hqe
        exact j_vret hC hr ⟨rfl, rfl, rfl⟩ d_H_bringByRule_220
      · have hlt : a < 12 := Nat.not_le.mp (fun z => h33 ((nI_leI (a := 12) (by decide) (by omega)).mpr z))
        refine j_iload hC d_H_bringByRule_36 4 rfl ?_
        refine j_iload hC d_H_bringByRule_38 5 rfl ?_
        refine j_callSr (As := [.int (pChoices (pForget u) i (pForget u 17 (5 * i))), .int (nI a)]) (rest := []) (st1 := [.int (b2i (hb (pChoices (pForget u) i (pForget u 17 (5 * i))) (nI a)))]) hC (k_hasBit l dC dI g k tl (itN (pB1 i rd (pChoices (pForget u) i (pForget u 17 (5 * i)))) a (pForget u)) (pChoices (pForget u) i (pForget u 17 (5 * i))) (nI a)) rfl rfl ww_H_184 yn_H_hasBit rfl d_H_bringByRule_40 (Nat.le_of_ble_eq_true rfl) (by decide) ⟨Nat.zero_le _, Nat.zero_le _⟩ rfl ?_
        refine j_if_ne (tgt := 49) hC d_H_bringByRule_43 (by decide) (fun h43 => ?_) (fun h43 => ?_)
        · refine j_aload_n hC d_H_bringByRule_49 rfl 3 rfl ?_
          refine j_getN hC hin_A (47 + (5 * i)) (cw_atom g k (itN (pB1 i rd (pChoices (pForget u) i (pForget u 17 (5 * i)))) a (pForget u)) (j := 5 * i) (by omega)) rfl 0 (by decide) (hC.2.2.2.2.1 _ wf_H_205) (fun _ h9 => h9) rfl d_H_bringByRule_50 ?_
          refine j_iload hC d_H_bringByRule_53 5 rfl ?_
          refine j_callSr (As := [.int ((itN (pB1 i rd (pChoices (pForget u) i (pForget u 17 (5 * i)))) a (pForget u)) 16 (5 * i)), .int (nI a)]) (rest := []) (st1 := [.int ((itN (pB1 i rd (pChoices (pForget u) i (pForget u 17 (5 * i)))) a (pForget u)) 16 (5 * i) * 12 + nI a)]) hC (k_rowAt l dC dI g k tl (itN (pB1 i rd (pChoices (pForget u) i (pForget u 17 (5 * i)))) a (pForget u)) ((itN (pB1 i rd (pChoices (pForget u) i (pForget u 17 (5 * i)))) a (pForget u)) 16 (5 * i)) (nI a)) rfl rfl ww_H_174 yn_H_rowAt rfl d_H_bringByRule_55 (Nat.le_of_ble_eq_true rfl) (by decide) ⟨Nat.zero_le _, Nat.zero_le _⟩ rfl ?_
          have hr8 : inN ((itN (pB1 i rd (pChoices (pForget u) i (pForget u 17 (5 * i)))) a (pForget u)) 16 (5 * i)) 8 := (hMw.2.1 (5 * i) (by omega)).1
          have hrow : pRowOf i a (itN (pB1 i rd (pChoices (pForget u) i (pForget u 17 (5 * i)))) a (pForget u)) < 96 := by have := hr8.2; unfold pRowOf; omega
          rw [show (itN (pB1 i rd (pChoices (pForget u) i (pForget u 17 (5 * i)))) a (pForget u)) 16 (5 * i) * 12 + nI a = nI (pRowOf i a (itN (pB1 i rd (pChoices (pForget u) i (pForget u 17 (5 * i)))) a (pForget u))) from in_rowN hr8 a]
          refine j_istore (lv' := [(0, .ref (g 0)), (1, .ref (g (15 + i))), (2, .int rd), (3, .ref (g (47 + (5 * i)))), (4, .int (pChoices (pForget u) i (pForget u 17 (5 * i)))), (5, .int (nI a)), (6, .int (nI (pRowOf i a (itN (pB1 i rd (pChoices (pForget u) i (pForget u 17 (5 * i)))) a (pForget u)))))]) hC d_H_bringByRule_58 (by decide) rfl rfl ?_
          refine j_aload_n hC d_H_bringByRule_60 rfl 0 rfl ?_
          refine j_get hC hin_H (0) (cw_house g k (itN (pB1 i rd (pChoices (pForget u) i (pForget u 17 (5 * i)))) a (pForget u))) rfl 8 (by decide) (hC.2.2.2.2.1 _ wf_H_36) (fun _ h9 => h9) rfl d_H_bringByRule_61 ?_
          refine j_getN hC hin_M (7) (cw_match g k (itN (pB1 i rd (pChoices (pForget u) i (pForget u 17 (5 * i)))) a (pForget u))) rfl 0 (by decide) (hC.2.2.2.2.1 _ wf_H_247) (fun _ h9 => h9) rfl d_H_bringByRule_64 ?_
          refine j_getN hC hin_S (8) (cw_sight g k (itN (pB1 i rd (pChoices (pForget u) i (pForget u 17 (5 * i)))) a (pForget u))) rfl 0 (by decide) (hC.2.2.2.2.1 _ wf_H_251) (fun _ h9 => h9) rfl d_H_bringByRule_67 ?_
          refine j_iload hC d_H_bringByRule_70 6 rfl ?_
          refine j_ialdN hC (10) 0 (cw_secondsByFirst g k (itN (pB1 i rd (pChoices (pForget u) i (pForget u 17 (5 * i)))) a (pForget u))) rfl (n := pRowOf i a (itN (pB1 i rd (pChoices (pForget u) i (pForget u 17 (5 * i)))) a (pForget u))) (rfl) (hrow) (by decide) d_H_bringByRule_72 ?_
          refine j_aload_n hC d_H_bringByRule_73 rfl 0 rfl ?_
          refine j_get hC hin_H (0) (cw_house g k (itN (pB1 i rd (pChoices (pForget u) i (pForget u 17 (5 * i)))) a (pForget u))) rfl 7 (by decide) (hC.2.2.2.2.1 _ wf_H_30) (fun _ h9 => h9) rfl d_H_bringByRule_74 ?_
          refine j_iload hC d_H_bringByRule_77 6 rfl ?_
          refine j_ialdN hC (6) 0 (cw_fresh g k (itN (pB1 i rd (pChoices (pForget u) i (pForget u 17 (5 * i)))) a (pForget u))) rfl (n := pRowOf i a (itN (pB1 i rd (pChoices (pForget u) i (pForget u 17 (5 * i)))) a (pForget u))) (rfl) (hrow) (by decide) d_H_bringByRule_79 ?_
          refine j_ior hC d_H_bringByRule_80 ?_
          refine j_istore (lv' := [(0, .ref (g 0)), (1, .ref (g (15 + i))), (2, .int rd), (3, .ref (g (47 + (5 * i)))), (4, .int (pChoices (pForget u) i (pForget u 17 (5 * i)))), (5, .int (nI a)), (6, .int (nI (pRowOf i a (itN (pB1 i rd (pChoices (pForget u) i (pForget u 17 (5 * i)))) a (pForget u))))), (7, .int (((itN (pB1 i rd (pChoices (pForget u) i (pForget u 17 (5 * i)))) a (pForget u)) 7 (pRowOf i a (itN (pB1 i rd (pChoices (pForget u) i (pForget u 17 (5 * i)))) a (pForget u)))) ||| ((itN (pB1 i rd (pChoices (pForget u) i (pForget u 17 (5 * i)))) a (pForget u)) 5 (pRowOf i a (itN (pB1 i rd (pChoices (pForget u) i (pForget u 17 (5 * i)))) a (pForget u))))))]) hC d_H_bringByRule_81 (by decide) rfl rfl ?_
          refine j_aload_n hC d_H_bringByRule_83 rfl 0 rfl ?_
          refine j_get hC hin_H (0) (cw_house g k (itN (pB1 i rd (pChoices (pForget u) i (pForget u 17 (5 * i)))) a (pForget u))) rfl 8 (by decide) (hC.2.2.2.2.1 _ wf_H_36) (fun _ h9 => h9) rfl d_H_bringByRule_84 ?_
          refine j_callNr (As := []) (rest := []) (st1 := []) hC (k_forget l dC dI g k tl (itN (pB1 i rd (pChoices (pForget u) i (pForget u 17 (5 * i)))) a (pForget u))) rfl rfl ww_H_238 yn_M_forget (cw_match g k (itN (pB1 i rd (pChoices (pForget u) i (pForget u 17 (5 * i)))) a (pForget u))) rfl rfl d_H_bringByRule_87 (Nat.le_of_ble_eq_true rfl) (by decide) ⟨Nat.zero_le _, Nat.zero_le _⟩ rfl ?_
          refine j_aload_n hC d_H_bringByRule_90 rfl 0 rfl ?_
          refine j_get hC hin_H (0) (cw_house g k (pForget (itN (pB1 i rd (pChoices (pForget u) i (pForget u 17 (5 * i)))) a (pForget u)))) rfl 8 (by decide) (hC.2.2.2.2.1 _ wf_H_36) (fun _ h9 => h9) rfl d_H_bringByRule_91 ?_
          refine j_aload_n hC d_H_bringByRule_94 rfl 3 rfl ?_
          refine j_getN hC hin_A (47 + (5 * i)) (cw_atom g k (pForget (itN (pB1 i rd (pChoices (pForget u) i (pForget u 17 (5 * i)))) a (pForget u))) (j := 5 * i) (by omega)) rfl 1 (by decide) (hC.2.2.2.2.1 _ wf_H_241) (fun _ h9 => h9) rfl d_H_bringByRule_95 ?_
          refine j_iload hC d_H_bringByRule_98 5 rfl ?_
          refine j_callNr (As := [.int ((pForget (itN (pB1 i rd (pChoices (pForget u) i (pForget u 17 (5 * i)))) a (pForget u))) 17 (5 * i)), .int (nI a)]) (rest := []) (st1 := [.int (b2i (pBound (pForget (itN (pB1 i rd (pChoices (pForget u) i (pForget u 17 (5 * i)))) a (pForget u))) (pForget (itN (pB1 i rd (pChoices (pForget u) i (pForget u 17 (5 * i)))) a (pForget u)) 17 (5 * i)) (nI a)))]) hC (k_bind l dC dI g k tl (pForget (itN (pB1 i rd (pChoices (pForget u) i (pForget u 17 (5 * i)))) a (pForget u))) (pForget (itN (pB1 i rd (pChoices (pForget u) i (pForget u 17 (5 * i)))) a (pForget u)) 17 (5 * i)) (nI a) (by rw [only6_forget _ 17 (by decide)]; exact (hMw.2.1 (5 * i) (by omega)).2.1)) rfl rfl ww_H_256 yn_M_bind (cw_match g k (pForget (itN (pB1 i rd (pChoices (pForget u) i (pForget u 17 (5 * i)))) a (pForget u)))) rfl rfl d_H_bringByRule_100 (Nat.le_of_ble_eq_true rfl) (by decide) ⟨Nat.zero_le _, Nat.zero_le _⟩ rfl ?_
          refine j_pop hC d_H_bringByRule_103 rfl ?_
          refine j_aload_n hC d_H_bringByRule_104 rfl 0 rfl ?_
          refine j_get hC hin_H (0) (cw_house g k (pB1w i a (itN (pB1 i rd (pChoices (pForget u) i (pForget u 17 (5 * i)))) a (pForget u)))) rfl 8 (by decide) (hC.2.2.2.2.1 _ wf_H_36) (fun _ h9 => h9) rfl d_H_bringByRule_105 ?_
          refine j_aload_n hC d_H_bringByRule_108 rfl 1 rfl ?_
          refine j_aload_n hC d_H_bringByRule_109 rfl 3 rfl ?_
          refine j_getN hC hin_A (47 + (5 * i)) (cw_atom g k (pB1w i a (itN (pB1 i rd (pChoices (pForget u) i (pForget u 17 (5 * i)))) a (pForget u))) (j := 5 * i) (by omega)) rfl 2 (by decide) (hC.2.2.2.2.1 _ wf_H_259) (fun _ h9 => h9) rfl d_H_bringByRule_110 ?_
          have hR1 : pR u (pB1w i a (itN (pB1 i rd (pChoices (pForget u) i (pForget u 17 (5 * i)))) a (pForget u))) := pB1w_ok hlt hRw
          have hM1 := hR1.wfM hM
          refine j_callNr (As := [.ref (g (15 + i)), .int ((pB1w i a (itN (pB1 i rd (pChoices (pForget u) i (pForget u 17 (5 * i)))) a (pForget u))) 18 (5 * i))]) (rest := []) (st1 := [.int (pChoices (pB1w i a (itN (pB1 i rd (pChoices (pForget u) i (pForget u 17 (5 * i)))) a (pForget u))) i (pB1w i a (itN (pB1 i rd (pChoices (pForget u) i (pForget u 17 (5 * i)))) a (pForget u)) 18 (5 * i)))]) hC (k_choices l dC dI g k tl (pB1w i a (itN (pB1 i rd (pChoices (pForget u) i (pForget u 17 (5 * i)))) a (pForget u))) hi hM1 (pB1w i a (itN (pB1 i rd (pChoices (pForget u) i (pForget u 17 (5 * i)))) a (pForget u)) 18 (5 * i)) (hM1.2.1 (5 * i) (by omega)).2.2.1) rfl rfl ww_H_244 yn_M_choices (cw_match g k (pB1w i a (itN (pB1 i rd (pChoices (pForget u) i (pForget u 17 (5 * i)))) a (pForget u)))) rfl rfl d_H_bringByRule_113 (Nat.le_of_ble_eq_true rfl) (by decide) ⟨Nat.zero_le _, Nat.zero_le _⟩ rfl ?_
          refine j_iload hC d_H_bringByRule_116 7 rfl ?_
          refine j_iconst (v := -1) hC d_H_bringByRule_118 (by decide) ?_
          refine j_ixor hC d_H_bringByRule_119 ?_
          refine j_iand hC d_H_bringByRule_120 ?_
          refine j_istore (lv' := [(0, .ref (g 0)), (1, .ref (g (15 + i))), (2, .int rd), (3, .ref (g (47 + (5 * i)))), (4, .int (pChoices (pForget u) i (pForget u 17 (5 * i)))), (5, .int (nI a)), (6, .int (nI (pRowOf i a (itN (pB1 i rd (pChoices (pForget u) i (pForget u 17 (5 * i)))) a (pForget u))))), (7, .int (((itN (pB1 i rd (pChoices (pForget u) i (pForget u 17 (5 * i)))) a (pForget u)) 7 (pRowOf i a (itN (pB1 i rd (pChoices (pForget u) i (pForget u 17 (5 * i)))) a (pForget u)))) ||| ((itN (pB1 i rd (pChoices (pForget u) i (pForget u 17 (5 * i)))) a (pForget u)) 5 (pRowOf i a (itN (pB1 i rd (pChoices (pForget u) i (pForget u 17 (5 * i)))) a (pForget u)))))), (8, .int ((pChoices (pB1w i a (itN (pB1 i rd (pChoices (pForget u) i (pForget u 17 (5 * i)))) a (pForget u))) i (pB1w i a (itN (pB1 i rd (pChoices (pForget u) i (pForget u 17 (5 * i)))) a (pForget u)) 18 (5 * i))) &&& ((((itN (pB1 i rd (pChoices (pForget u) i (pForget u 17 (5 * i)))) a (pForget u)) 7 (pRowOf i a (itN (pB1 i rd (pChoices (pForget u) i (pForget u 17 (5 * i)))) a (pForget u)))) ||| ((itN (pB1 i rd (pChoices (pForget u) i (pForget u 17 (5 * i)))) a (pForget u)) 5 (pRowOf i a (itN (pB1 i rd (pChoices (pForget u) i (pForget u 17 (5 * i)))) a (pForget u))))) ^^^ (-1))))]) hC d_H_bringByRule_121 (by decide) rfl rfl ?_
          refine j_iconst (v := 0) hC d_H_bringByRule_123 (by decide) ?_
          refine j_istore (lv' := [(0, .ref (g 0)), (1, .ref (g (15 + i))), (2, .int rd), (3, .ref (g (47 + (5 * i)))), (4, .int (pChoices (pForget u) i (pForget u 17 (5 * i)))), (5, .int (nI a)), (6, .int (nI (pRowOf i a (itN (pB1 i rd (pChoices (pForget u) i (pForget u 17 (5 * i)))) a (pForget u))))), (7, .int (((itN (pB1 i rd (pChoices (pForget u) i (pForget u 17 (5 * i)))) a (pForget u)) 7 (pRowOf i a (itN (pB1 i rd (pChoices (pForget u) i (pForget u 17 (5 * i)))) a (pForget u)))) ||| ((itN (pB1 i rd (pChoices (pForget u) i (pForget u 17 (5 * i)))) a (pForget u)) 5 (pRowOf i a (itN (pB1 i rd (pChoices (pForget u) i (pForget u 17 (5 * i)))) a (pForget u)))))), (8, .int ((pChoices (pB1w i a (itN (pB1 i rd (pChoices (pForget u) i (pForget u 17 (5 * i)))) a (pForget u))) i (pB1w i a (itN (pB1 i rd (pChoices (pForget u) i (pForget u 17 (5 * i)))) a (pForget u)) 18 (5 * i))) &&& ((((itN (pB1 i rd (pChoices (pForget u) i (pForget u 17 (5 * i)))) a (pForget u)) 7 (pRowOf i a (itN (pB1 i rd (pChoices (pForget u) i (pForget u 17 (5 * i)))) a (pForget u)))) ||| ((itN (pB1 i rd (pChoices (pForget u) i (pForget u 17 (5 * i)))) a (pForget u)) 5 (pRowOf i a (itN (pB1 i rd (pChoices (pForget u) i (pForget u 17 (5 * i)))) a (pForget u))))) ^^^ (-1)))), (9, .int 0)]) hC d_H_bringByRule_124 (by decide) rfl rfl ?_
          rw [← itN_0 (pB2 i rd a (pRowOf i a (itN (pB1 i rd (pChoices (pForget u) i (pForget u 17 (5 * i)))) a (pForget u))) (pB1s i a (itN (pB1 i rd (pChoices (pForget u) i (pForget u 17 (5 * i)))) a (pForget u)))) (pB1w i a (itN (pB1 i rd (pChoices (pForget u) i (pForget u 17 (5 * i)))) a (pForget u)))]
          refine inner a hlt (pChoices (pForget u) i (pForget u 17 (5 * i))) (pRowOf i a (itN (pB1 i rd (pChoices (pForget u) i (pForget u 17 (5 * i)))) a (pForget u))) hrow _ (pB1s i a (itN (pB1 i rd (pChoices (pForget u) i (pForget u 17 (5 * i)))) a (pForget u))) (pB1w i a (itN (pB1 i rd (pChoices (pForget u) i (pForget u 17 (5 * i)))) a (pForget u))) hR1 ?_ 13 0 (by omega) (by omega)
          refine j_iinc (lv' := [(0, .ref (g 0)), (1, .ref (g (15 + i))), (2, .int rd), (3, .ref (g (47 + (5 * i)))), (4, .int (pChoices (pForget u) i (pForget u 17 (5 * i)))), (5, .int (nI (a + 1)))]) hC d_H_bringByRule_214 5 rfl (nI_1 _) (by decide) rfl rfl ?_
          refine j_goto (tgt := 29) hC d_H_bringByRule_217 (by decide) ?_
          have e9 : itN (pB1 i rd (pChoices (pForget u) i (pForget u 17 (5 * i)))) (a + 1) (pForget u) = itN (pB2 i rd a (pRowOf i a (itN (pB1 i rd (pChoices (pForget u) i (pForget u 17 (5 * i)))) a (pForget u))) (pB1s i a (itN (pB1 i rd (pChoices (pForget u) i (pForget u 17 (5 * i)))) a (pForget u)))) 12 (pB1w i a (itN (pB1 i rd (pChoices (pForget u) i (pForget u 17 (5 * i)))) a (pForget u))) := by rw [itN_s, pB1, if_neg h43]
          have k9 := ih (a + 1) (by omega) (by omega)
          rw [e9] at k9
          exact k9
        · refine j_goto (tgt := 214) hC d_H_bringByRule_46 (by decide) ?_
          refine j_iinc (lv' := [(0, .ref (g 0)), (1, .ref (g (15 + i))), (2, .int rd), (3, .ref (g (47 + (5 * i)))), (4, .int (pChoices (pForget u) i (pForget u 17 (5 * i)))), (5, .int (nI (a + 1)))]) hC d_H_bringByRule_214 5 rfl (nI_1 _) (by decide) rfl rfl ?_
          refine j_goto (tgt := 29) hC d_H_bringByRule_217 (by decide) ?_
          have e9 : itN (pB1 i rd (pChoices (pForget u) i (pForget u 17 (5 * i)))) (a + 1) (pForget u) = itN (pB1 i rd (pChoices (pForget u) i (pForget u 17 (5 * i)))) a (pForget u) := by rw [itN_s, pB1, if_pos h43]
          have k9 := ih (a + 1) (by omega) (by omega)
          rw [e9] at k9
          exact k9
  refine j_aload_n hC d_H_bringByRule_0 rfl 1 rfl ?_
  refine j_getN hC hin_R (15 + i) (cw_rule g k u (by omega)) rfl 0 (by decide) (hC.2.2.2.2.1 _ wf_H_201) (fun _ h9 => h9) rfl d_H_bringByRule_1 ?_
  refine j_astore_n (lv' := [(0, .ref (g 0)), (1, .ref (g (15 + i))), (2, .int rd), (3, .ref (g (47 + (5 * i))))]) hC d_H_bringByRule_4 rfl (by decide) rfl rfl ?_
  refine j_aload_n hC d_H_bringByRule_5 rfl 0 rfl ?_
  refine j_get hC hin_H (0) (cw_house g k u) rfl 8 (by decide) (hC.2.2.2.2.1 _ wf_H_36) (fun _ h9 => h9) rfl d_H_bringByRule_6 ?_
  refine j_callNr (As := []) (rest := []) (st1 := []) hC (k_forget l dC dI g k tl u) rfl rfl ww_H_238 yn_M_forget (cw_match g k u) rfl rfl d_H_bringByRule_9 (Nat.le_of_ble_eq_true rfl) (by decide) ⟨Nat.zero_le _, Nat.zero_le _⟩ rfl ?_
  refine j_aload_n hC d_H_bringByRule_12 rfl 0 rfl ?_
  refine j_get hC hin_H (0) (cw_house g k (pForget u)) rfl 8 (by decide) (hC.2.2.2.2.1 _ wf_H_36) (fun _ h9 => h9) rfl d_H_bringByRule_13 ?_
  refine j_aload_n hC d_H_bringByRule_16 rfl 1 rfl ?_
  refine j_aload_n hC d_H_bringByRule_17 rfl 3 rfl ?_
  refine j_getN hC hin_A (47 + (5 * i)) (cw_atom g k (pForget u) (j := 5 * i) (by omega)) rfl 1 (by decide) (hC.2.2.2.2.1 _ wf_H_241) (fun _ h9 => h9) rfl d_H_bringByRule_18 ?_
  refine j_callNr (As := [.ref (g (15 + i)), .int ((pForget u) 17 (5 * i))]) (rest := []) (st1 := [.int (pChoices (pForget u) i (pForget u 17 (5 * i)))]) hC (k_choices l dC dI g k tl (pForget u) hi (hM.of (only6_forget u) (wfV_forget hM.2.2)) (pForget u 17 (5 * i)) (by rw [only6_forget u 17 (by decide)]; exact (hM.2.1 (5 * i) (by omega)).2.1)) rfl rfl ww_H_244 yn_M_choices (cw_match g k (pForget u)) rfl rfl d_H_bringByRule_21 (Nat.le_of_ble_eq_true rfl) (by decide) ⟨Nat.zero_le _, Nat.zero_le _⟩ rfl ?_
  refine j_istore (lv' := [(0, .ref (g 0)), (1, .ref (g (15 + i))), (2, .int rd), (3, .ref (g (47 + (5 * i)))), (4, .int (pChoices (pForget u) i (pForget u 17 (5 * i))))]) hC d_H_bringByRule_24 (by decide) rfl rfl ?_
  refine j_iconst (v := 0) hC d_H_bringByRule_26 (by decide) ?_
  refine j_istore (lv' := [(0, .ref (g 0)), (1, .ref (g (15 + i))), (2, .int rd), (3, .ref (g (47 + (5 * i)))), (4, .int (pChoices (pForget u) i (pForget u 17 (5 * i)))), (5, .int 0)]) hC d_H_bringByRule_27 (by decide) rfl rfl ?_
  exact outer 13 0 (by omega) (by omega)

set_option maxHeartbeats 4000000 in
set_option maxRecDepth 100000 in
theorem k_round (l : Launch) (dC : Nat → ClassId) (dI : Nat → Nat → Nat) (g k : Nat → Nat) (tl : List (ClassId × FieldType)) (u : jU) (hH : wfH u) (ly rd ch : Int32) : jMet l y_H_bringRound (.code y_H_bringRound c_H_bringRound 6 none) ({ frames := 9, cells := 0, slots := 0, locals := 404 }) (dC, dI) jcl (ctys k tl) jTs [.ref (g 0), .int ly, .int rd, .int ch] (cw g k u) 0 0 (jRet none (cw g k (pRound ly rd ch u))) := by
  refine jMet.of (by decide) (Nat.le_of_ble_eq_true rfl) ?_
  intro p e s m below meth c A hC hex hr hnm htr
  show jJ p l e ({ frames := 9, cells := 0, slots := 0, locals := 404 }) s m [.ref (g 0), .int ly, .int rd, .int ch].toArray below meth c 6 (dC, dI) jcl A (hxQ below (jQ (dC, dI) jcl (jRet none (cw g k (pRound ly rd ch u))) A) [.ref (g 0), .int ly, .int rd, .int ch].toArray s 0 0 A) 0 0 (cw g k u) [(0, .ref (g 0)), (1, .int ly), (2, .int rd), (3, .int ch)] [] 0
  have hk17 := hH.2.2
  have hk := hk17.2
  have loop : ∀ (n i : Nat), i ≤ tn (u 0 1) → tn (u 0 1) < i + n → jJ p l e ({ frames := 9, cells := 0, slots := 0, locals := 404 }) s m [.ref (g 0), .int ly, .int rd, .int ch].toArray below meth c 6 (dC, dI) jcl A (hxQ below (jQ (dC, dI) jcl (jRet none (cw g k (pRound ly rd ch u))) A) [.ref (g 0), .int ly, .int rd, .int ch].toArray s 0 0 A) 0 0 (cw g k (itN (pBR ly rd ch) i u)) [(0, .ref (g 0)), (1, .int ly), (2, .int rd), (3, .int ch), (4, .int (nI i))] [] 3 := by
    intro n
    induction n with
    | zero => intro i h1 h2; exact absurd h2 (by omega)
    | succ n ih =>
      intro i hi hn
      have hRv : pR u (itN (pBR ly rd ch) i u) := itN_inv (P := pR u) ⟨kp.rf _ u, hH.1.2.2⟩ i (fun q w _ hw => pBR_ok hw)
      have hMv := hRv.wfM hH.1
      have hk0 : (itN (pBR ly rd ch) i u) 0 1 = u 0 1 := by rw [hRv.1 0 (by decide)]
      refine j_iload hC d_H_bringRound_3 4 rfl ?_
      refine j_aload_n hC d_H_bringRound_5 rfl 0 rfl ?_
      refine j_get hC hin_H (0) (cw_house g k (itN (pBR ly rd ch) i u)) rfl 4 (by decide) (hC.2.2.2.2.1 _ wf_H_54) (fun _ h9 => h9) rfl d_H_bringRound_6 ?_
      refine j_icmp_ge (tgt := 66) hC d_H_bringRound_9 (by decide) (fun h9 => ?_) (fun h9 => ?_)
      · have hge : tn (u 0 1) ≤ i := (inN_leN hk17 (by decide) (by omega)).mp (by rw [← hk0]; exact h9)
        have hie : i = tn (u 0 1) := by omega
        exact j_vret hC hr ⟨rfl, rfl, by rw [hie]; rfl⟩ d_H_bringRound_66
      · have hlt : i < tn (u 0 1) := Nat.not_le.mp (fun z => h9 (by rw [hk0]; exact (inN_leN hk17 (by decide) (by omega)).mpr z))
        have hi16 : i < 16 := by omega
        refine j_aload_n hC d_H_bringRound_12 rfl 0 rfl ?_
        refine j_get hC hin_H (0) (cw_house g k (itN (pBR ly rd ch) i u)) rfl 2 (by decide) (hC.2.2.2.2.1 _ wf_H_20) (fun _ h9 => h9) rfl d_H_bringRound_13 ?_
        refine j_iload hC d_H_bringRound_16 4 rfl ?_
        refine j_aaldN (v := g (15 + i)) hC (3) 2 (cw_rules g k (itN (pBR ly rd ch) i u)) rfl (n := i) (rfl) (hi16) (by decide) (if_pos (hi16)) d_H_bringRound_18 ?_
        refine j_astore (lv' := [(0, .ref (g 0)), (1, .int ly), (2, .int rd), (3, .int ch), (4, .int (nI i)), (5, .ref (g (15 + i)))]) hC d_H_bringRound_19 (by decide) rfl rfl ?_
        refine j_aload_n hC d_H_bringRound_21 rfl 0 rfl ?_
        refine j_get hC hin_H (0) (cw_house g k (itN (pBR ly rd ch) i u)) rfl 5 (by decide) (hC.2.2.2.2.1 _ wf_H_24) (fun _ h9 => h9) rfl d_H_bringRound_22 ?_
        refine j_aload hC d_H_bringRound_25 5 rfl ?_
        refine j_getN hC hin_R (15 + i) (cw_rule g k (itN (pBR ly rd ch) i u) (by omega)) rfl 0 (by decide) (hC.2.2.2.2.1 _ wf_H_201) (fun _ h9 => h9) rfl d_H_bringRound_27 ?_
        refine j_getN hC hin_A (47 + (5 * i)) (cw_atom g k (itN (pBR ly rd ch) i u) (j := 5 * i) (by omega)) rfl 0 (by decide) (hC.2.2.2.2.1 _ wf_H_205) (fun _ h9 => h9) rfl d_H_bringRound_30 ?_
        refine j_ialdN hC (4) 0 (cw_layers g k (itN (pBR ly rd ch) i u)) rfl (n := tn ((itN (pBR ly rd ch) i u) 16 (5 * i))) ((hMv.2.1 (5 * i) (by omega)).1.1) ((hMv.2.1 (5 * i) (by omega)).1.2) (by decide) d_H_bringRound_33 ?_
        refine j_iload_n hC d_H_bringRound_34 rfl 1 rfl ?_
        refine j_icmp_ne (tgt := 60) hC d_H_bringRound_35 (by decide) (fun h35 => ?_) (fun h35 => ?_)
        · refine j_iinc (lv' := [(0, .ref (g 0)), (1, .int ly), (2, .int rd), (3, .int ch), (4, .int (nI (i + 1))), (5, .ref (g (15 + i)))]) hC d_H_bringRound_60 4 rfl (nI_1 _) (by decide) rfl rfl ?_
          refine j_goto (tgt := 3) hC d_H_bringRound_63 (by decide) ?_
          have e9 : itN (pBR ly rd ch) (i + 1) u = itN (pBR ly rd ch) i u := by rw [itN_s, pBR, if_neg h35]
          have k9 := ih (i + 1) (by omega) (by omega)
          rw [e9] at k9
          exact j_locals [0, 1, 2, 3, 4] rfl k9
        · refine j_iload_n hC d_H_bringRound_38 rfl 2 rfl ?_
          refine j_iconst (v := 1) hC d_H_bringRound_39 (by decide) ?_
          refine j_icmp_eq (tgt := 53) hC d_H_bringRound_40 (by decide) (fun h40 => ?_) (fun h40 => ?_)
          · refine j_aload_n hC d_H_bringRound_53 rfl 0 rfl ?_
            refine j_aload hC d_H_bringRound_54 5 rfl ?_
            refine j_iload_n hC d_H_bringRound_56 rfl 2 rfl ?_
            refine j_callVr (As := [.ref (g (15 + i)), .int rd]) (rest := []) (st1 := []) hC (k_bring l dC dI g k tl (itN (pBR ly rd ch) i u) (i := i) hi16 hMv rd) rfl rfl ww_H_234 yn_H_bringByRule (cw_house g k (itN (pBR ly rd ch) i u)) rfl rfl d_H_bringRound_57 (Nat.le_of_ble_eq_true rfl) (by decide) ⟨Nat.zero_le _, Nat.zero_le _⟩ rfl ?_
            refine j_iinc (lv' := [(0, .ref (g 0)), (1, .int ly), (2, .int rd), (3, .int ch), (4, .int (nI (i + 1))), (5, .ref (g (15 + i)))]) hC d_H_bringRound_60 4 rfl (nI_1 _) (by decide) rfl rfl ?_
            refine j_goto (tgt := 3) hC d_H_bringRound_63 (by decide) ?_
            have e9 : itN (pBR ly rd ch) (i + 1) u = pBring i rd (itN (pBR ly rd ch) i u) := by rw [itN_s, pBR, if_pos h35, if_pos h40]
            have k9 := ih (i + 1) (by omega) (by omega)
            rw [e9] at k9
            exact j_locals [0, 1, 2, 3, 4] rfl k9
          · refine j_aload hC d_H_bringRound_43 5 rfl ?_
            refine j_getN hC hin_R (15 + i) (cw_rule g k (itN (pBR ly rd ch) i u) (by omega)) rfl 5 (by decide) (hC.2.2.2.2.1 _ wf_H_231) (fun _ h9 => h9) rfl d_H_bringRound_45 ?_
            refine j_iload_n hC d_H_bringRound_48 rfl 3 rfl ?_
            refine j_iand hC d_H_bringRound_49 ?_
            refine j_if_eq (tgt := 60) hC d_H_bringRound_50 (by decide) (fun h50 => ?_) (fun h50 => ?_)
            · refine j_iinc (lv' := [(0, .ref (g 0)), (1, .int ly), (2, .int rd), (3, .int ch), (4, .int (nI (i + 1))), (5, .ref (g (15 + i)))]) hC d_H_bringRound_60 4 rfl (nI_1 _) (by decide) rfl rfl ?_
              refine j_goto (tgt := 3) hC d_H_bringRound_63 (by decide) ?_
              have e9 : itN (pBR ly rd ch) (i + 1) u = itN (pBR ly rd ch) i u := by rw [itN_s, pBR, if_pos h35, if_neg h40, if_pos h50]
              have k9 := ih (i + 1) (by omega) (by omega)
              rw [e9] at k9
              exact j_locals [0, 1, 2, 3, 4] rfl k9
            · refine j_aload_n hC d_H_bringRound_53 rfl 0 rfl ?_
              refine j_aload hC d_H_bringRound_54 5 rfl ?_
              refine j_iload_n hC d_H_bringRound_56 rfl 2 rfl ?_
              refine j_callVr (As := [.ref (g (15 + i)), .int rd]) (rest := []) (st1 := []) hC (k_bring l dC dI g k tl (itN (pBR ly rd ch) i u) (i := i) hi16 hMv rd) rfl rfl ww_H_234 yn_H_bringByRule (cw_house g k (itN (pBR ly rd ch) i u)) rfl rfl d_H_bringRound_57 (Nat.le_of_ble_eq_true rfl) (by decide) ⟨Nat.zero_le _, Nat.zero_le _⟩ rfl ?_
              refine j_iinc (lv' := [(0, .ref (g 0)), (1, .int ly), (2, .int rd), (3, .int ch), (4, .int (nI (i + 1))), (5, .ref (g (15 + i)))]) hC d_H_bringRound_60 4 rfl (nI_1 _) (by decide) rfl rfl ?_
              refine j_goto (tgt := 3) hC d_H_bringRound_63 (by decide) ?_
              have e9 : itN (pBR ly rd ch) (i + 1) u = pBring i rd (itN (pBR ly rd ch) i u) := by rw [itN_s, pBR, if_pos h35, if_neg h40, if_neg h50]
              have k9 := ih (i + 1) (by omega) (by omega)
              rw [e9] at k9
              exact j_locals [0, 1, 2, 3, 4] rfl k9
  refine j_iconst (v := 0) hC d_H_bringRound_0 (by decide) ?_
  refine j_istore (lv' := [(0, .ref (g 0)), (1, .int ly), (2, .int rd), (3, .int ch), (4, .int 0)]) hC d_H_bringRound_1 (by decide) rfl rfl ?_
  exact loop 18 0 (by omega) (by omega)

set_option maxHeartbeats 4000000 in
set_option maxRecDepth 100000 in
theorem k_leastRule (l : Launch) (dC : Nat → ClassId) (dI : Nat → Nat → Nat) (g k : Nat → Nat) (tl : List (ClassId × FieldType)) (u : jU) (hH : wfH u) (r a b : Int32) (ha : inN a 12) (hb12 : inN b 12) : jMet l y_H_leastRule (.code y_H_leastRule c_H_leastRule 5 (some .int)) ({ frames := 8, cells := 0, slots := 0, locals := 375 }) (dC, dI) jcl (ctys k tl) jTs [.ref (g 0), .int r, .int a, .int b] (cw g k u) 0 0 (jRet (some (.int ((pLR r a b (tn (u 0 1)) 0 u).1))) (cw g k ((pLR r a b (tn (u 0 1)) 0 u).2))) := by
  refine jMet.of (by decide) (Nat.le_of_ble_eq_true rfl) ?_
  intro p e s m below meth c A hC hex hr hnm htr
  show jJ p l e ({ frames := 8, cells := 0, slots := 0, locals := 375 }) s m [.ref (g 0), .int r, .int a, .int b].toArray below meth c 5 (dC, dI) jcl A (hxQ below (jQ (dC, dI) jcl (jRet (some (.int ((pLR r a b (tn (u 0 1)) 0 u).1))) (cw g k ((pLR r a b (tn (u 0 1)) 0 u).2))) A) [.ref (g 0), .int r, .int a, .int b].toArray s 0 0 A) 0 0 (cw g k u) [(0, .ref (g 0)), (1, .int r), (2, .int a), (3, .int b)] [] 0
  have hk17 := hH.2.2
  have hk := hk17.2
  have loop : ∀ (n i : Nat) (v : jU), i ≤ tn (u 0 1) → tn (u 0 1) < i + n → only6 u v → wfV v → pLR r a b (tn (u 0 1) - i) i v = pLR r a b (tn (u 0 1)) 0 u → jJ p l e ({ frames := 8, cells := 0, slots := 0, locals := 375 }) s m [.ref (g 0), .int r, .int a, .int b].toArray below meth c 5 (dC, dI) jcl A (hxQ below (jQ (dC, dI) jcl (jRet (some (.int ((pLR r a b (tn (u 0 1)) 0 u).1))) (cw g k ((pLR r a b (tn (u 0 1)) 0 u).2))) A) [.ref (g 0), .int r, .int a, .int b].toArray s 0 0 A) 0 0 (cw g k v) [(0, .ref (g 0)), (1, .int r), (2, .int a), (3, .int b), (4, .int (nI i))] [] 3 := by
    intro n
    induction n with
    | zero => intro i v h1 h2; exact absurd h2 (by omega)
    | succ n ih =>
      intro i v hi hn ho hv hinv
      have hMv : wfM v := hH.1.of ho hv
      have hk0 : v 0 1 = u 0 1 := by rw [ho 0 (by decide)]
      have hmo := pMeets_ok (u := v) i r a b ha hb12
      have hfo := pFind_frame i 5 20 (pMeets v i r a b).2
      refine j_iload hC d_H_leastRule_3 4 rfl ?_
      refine j_aload_n hC d_H_leastRule_5 rfl 0 rfl ?_
      refine j_get hC hin_H (0) (cw_house g k v) rfl 4 (by decide) (hC.2.2.2.2.1 _ wf_H_54) (fun _ h9 => h9) rfl d_H_leastRule_6 ?_
      refine j_icmp_ge (tgt := 60) hC d_H_leastRule_9 (by decide) (fun h9 => ?_) (fun h9 => ?_)
      · have hge : tn (u 0 1) ≤ i := (inN_leN hk17 (by decide) (by omega)).mp (by rw [← hk0]; exact h9)
        have hie : tn (u 0 1) - i = 0 := by omega
        refine j_iconst (v := -1) hC d_H_leastRule_60 (by decide) ?_
        exact j_iret hC hr (by rw [← hinv, hie]; exact ⟨rfl, rfl, rfl⟩) d_H_leastRule_61
      · have hlt : i < tn (u 0 1) := Nat.not_le.mp (fun z => h9 (by rw [hk0]; exact (inN_leN hk17 (by decide) (by omega)).mpr z))
        have hi16 : i < 16 := by omega
        have e12 : pLR r a b (tn (u 0 1) - i) i v = pLR r a b ((tn (u 0 1) - (i + 1)) + 1) i v := by rw [show tn (u 0 1) - i = (tn (u 0 1) - (i + 1)) + 1 by omega]
        refine j_aload_n hC d_H_leastRule_12 rfl 0 rfl ?_
        refine j_get hC hin_H (0) (cw_house g k v) rfl 8 (by decide) (hC.2.2.2.2.1 _ wf_H_36) (fun _ h9 => h9) rfl d_H_leastRule_13 ?_
        refine j_aload_n hC d_H_leastRule_16 rfl 0 rfl ?_
        refine j_get hC hin_H (0) (cw_house g k v) rfl 2 (by decide) (hC.2.2.2.2.1 _ wf_H_20) (fun _ h9 => h9) rfl d_H_leastRule_17 ?_
        refine j_iload hC d_H_leastRule_20 4 rfl ?_
        refine j_aaldN (v := g (15 + i)) hC (3) 2 (cw_rules g k v) rfl (n := i) (rfl) (hi16) (by decide) (if_pos (hi16)) d_H_leastRule_22 ?_
        refine j_iload_n hC d_H_leastRule_23 rfl 1 rfl ?_
        refine j_iload_n hC d_H_leastRule_24 rfl 2 rfl ?_
        refine j_iload_n hC d_H_leastRule_25 rfl 3 rfl ?_
        refine j_callNr (As := [.ref (g (15 + i)), .int r, .int a, .int b]) (rest := []) (st1 := [.int (b2i (pMeets v i r a b).1)]) hC (k_meets l dC dI g k tl v (i := i) hi16 hMv r a b ha hb12) rfl rfl ww_H_133 yn_M_meets (cw_match g k v) rfl rfl d_H_leastRule_26 (Nat.le_of_ble_eq_true rfl) (by decide) ⟨Nat.zero_le _, Nat.zero_le _⟩ rfl ?_
        refine j_if_eq (tgt := 54) hC d_H_leastRule_29 (by decide) (fun h29 => ?_) (fun h29 => ?_)
        · refine j_iinc (lv' := [(0, .ref (g 0)), (1, .int r), (2, .int a), (3, .int b), (4, .int (nI (i + 1)))]) hC d_H_leastRule_54 4 rfl (nI_1 _) (by decide) rfl rfl ?_
          refine j_goto (tgt := 3) hC d_H_leastRule_57 (by decide) ?_
          exact ih (i + 1) (pMeets v i r a b).2 (by omega) (by omega) (ho.tr hmo.1) (hmo.2 hv) (by rw [← hinv, e12, pLR, if_pos h29])
        · refine j_aload_n hC d_H_leastRule_32 rfl 0 rfl ?_
          refine j_get hC hin_H (0) (cw_house g k ((pMeets v i r a b).2)) rfl 8 (by decide) (hC.2.2.2.2.1 _ wf_H_36) (fun _ h9 => h9) rfl d_H_leastRule_33 ?_
          refine j_aload_n hC d_H_leastRule_36 rfl 0 rfl ?_
          refine j_get hC hin_H (0) (cw_house g k ((pMeets v i r a b).2)) rfl 2 (by decide) (hC.2.2.2.2.1 _ wf_H_20) (fun _ h9 => h9) rfl d_H_leastRule_37 ?_
          refine j_iload hC d_H_leastRule_40 4 rfl ?_
          refine j_aaldN (v := g (15 + i)) hC (3) 2 (cw_rules g k ((pMeets v i r a b).2)) rfl (n := i) (rfl) (hi16) (by decide) (if_pos (hi16)) d_H_leastRule_42 ?_
          refine j_bipush (v := 20) hC d_H_leastRule_43 (by decide) ?_
          refine j_callNr (As := [.ref (g (15 + i)), .int 20]) (rest := []) (st1 := [.int (b2i (pFind i 5 20 (pMeets v i r a b).2).1)]) hC (k_find l dC dI g k tl hi16 5 (pMeets v i r a b).2 20 (by decide) (by decide) (hMv.of hmo.1 (hmo.2 hv))) rfl rfl ww_H_262 yn_M_findLeast (cw_match g k ((pMeets v i r a b).2)) rfl rfl d_H_leastRule_45 (Nat.le_of_ble_eq_true rfl) (by decide) ⟨Nat.zero_le _, Nat.zero_le _⟩ rfl ?_
          refine j_if_eq (tgt := 54) hC d_H_leastRule_48 (by decide) (fun h48 => ?_) (fun h48 => ?_)
          · refine j_iinc (lv' := [(0, .ref (g 0)), (1, .int r), (2, .int a), (3, .int b), (4, .int (nI (i + 1)))]) hC d_H_leastRule_54 4 rfl (nI_1 _) (by decide) rfl rfl ?_
            refine j_goto (tgt := 3) hC d_H_leastRule_57 (by decide) ?_
            exact ih (i + 1) (pFind i 5 20 (pMeets v i r a b).2).2 (by omega) (by omega) ((ho.tr hmo.1).tr hfo.1) (hfo.2 (hmo.2 hv)) (by rw [← hinv, e12, pLR, if_neg h29, if_pos h48])
          · refine j_iload hC d_H_leastRule_51 4 rfl ?_
            exact j_iret hC hr (by rw [← hinv, e12, pLR, if_neg h29, if_neg h48]; exact ⟨rfl, rfl, rfl⟩) d_H_leastRule_53
  refine j_iconst (v := 0) hC d_H_leastRule_0 (by decide) ?_
  refine j_istore (lv' := [(0, .ref (g 0)), (1, .int r), (2, .int a), (3, .int b), (4, .int 0)]) hC d_H_leastRule_1 (by decide) rfl rfl ?_
  exact loop 18 0 u (by omega) (by omega) (only6.rf u) hH.1.2.2 rfl
