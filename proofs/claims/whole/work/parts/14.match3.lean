set_option maxHeartbeats 4000000 in
set_option maxRecDepth 100000 in
theorem k_meets (l : Launch) (dC : Nat → ClassId) (dI : Nat → Nat → Nat) (g k : Nat → Nat) (tl : List (ClassId × FieldType)) (u : jU) {i : Nat} (hi : i < 16) (hM : wfM u) (r a b : Int32) (ha : inN a 12) (hb12 : inN b 12) : jMet l y_M_meets (.code y_M_meets c_M_meets 5 (some .boolean)) ({ frames := 2, cells := 0, slots := 0, locals := 48 }) (dC, dI) jcl (ctys k tl) jTs [.ref (g 7), .ref (g (15 + i)), .int r, .int a, .int b] (cw g k u) 0 0 (jRet (some (.int (b2i (pMeets u i r a b).1))) (cw g k ((pMeets u i r a b).2))) := by
  refine jMet.of (by decide) (Nat.le_of_ble_eq_true rfl) ?_
  intro p e s m below meth c A hC hex hr hnm htr
  show jJ p l e ({ frames := 2, cells := 0, slots := 0, locals := 48 }) s m [.ref (g 7), .ref (g (15 + i)), .int r, .int a, .int b].toArray below meth c 5 (dC, dI) jcl A (hxQ below (jQ (dC, dI) jcl (jRet (some (.int (b2i (pMeets u i r a b).1))) (cw g k ((pMeets u i r a b).2))) A) [.ref (g 7), .ref (g (15 + i)), .int r, .int a, .int b].toArray s 0 0 A) 0 0 (cw g k u) [(0, .ref (g 7)), (1, .ref (g (15 + i))), (2, .int r), (3, .int a), (4, .int b)] [] 0
  have hH : wfA u (5 * i) := hM.2.1 _ (by omega)
  have hh1 : inN (pForget u 17 (5 * i)) 24 := by rw [only6_forget u 17 (by decide)]; exact hH.2.1
  have o1 : only6 u (pMeets1 u i a) := (only6_forget u).tr (only6_bind _ _ _)
  have hh2 : inN (pMeets1 u i a 18 (5 * i)) 24 := by rw [o1 18 (by decide)]; exact hH.2.2.1
  have hM2 : wfM (pMeets2 u i a b) := hM.of (o1.tr (only6_bind _ _ _)) (wfV_bind (wfV_bind (wfV_forget hM.2.2) _ ha) _ hb12)
  refine j_aload_n hC d_M_meets_0 rfl 0 rfl ?_
  refine j_callVr (As := []) (rest := []) (st1 := []) hC (k_forget l dC dI g k tl u) rfl rfl ww_M_22 yn_M_forget (cw_match g k u) rfl rfl d_M_meets_1 (Nat.le_of_ble_eq_true rfl) (by decide) ⟨Nat.zero_le _, Nat.zero_le _⟩ rfl ?_
  refine j_aload_n hC d_M_meets_4 rfl 1 rfl ?_
  refine j_getN hC hin_R (15 + i) (cw_rule g k (pForget u) (by omega)) rfl 0 (by decide) (hC.2.2.2.2.1 _ wf_M_25) (fun _ h9 => h9) rfl d_M_meets_5 ?_
  refine j_getN hC hin_A (47 + (5 * i)) (cw_atom g k (pForget u) (j := 5 * i) (by omega)) rfl 0 (by decide) (hC.2.2.2.2.1 _ wf_M_31) (fun _ h9 => h9) rfl d_M_meets_8 ?_
  refine j_iload_n hC d_M_meets_11 rfl 2 rfl ?_
  refine j_icmp_ne (tgt := 58) hC d_M_meets_12 (by decide) (fun h12 => ?_) (fun h12 => ?_)
  · refine j_iconst (v := 0) hC d_M_meets_58 (by decide) ?_
    exact j_zret hC hr rfl (by have e8 : pMeets u i r a b = (false, pForget u) := (by simp only [pMeets, if_neg h12]); exact ⟨rfl, by rw [e8]; rfl, by rw [e8] <;> rfl⟩) d_M_meets_59
  · refine j_aload_n hC d_M_meets_15 rfl 0 rfl ?_
    refine j_aload_n hC d_M_meets_16 rfl 1 rfl ?_
    refine j_getN hC hin_R (15 + i) (cw_rule g k (pForget u) (by omega)) rfl 0 (by decide) (hC.2.2.2.2.1 _ wf_M_25) (fun _ h9 => h9) rfl d_M_meets_17 ?_
    refine j_getN hC hin_A (47 + (5 * i)) (cw_atom g k (pForget u) (j := 5 * i) (by omega)) rfl 1 (by decide) (hC.2.2.2.2.1 _ wf_M_37) (fun _ h9 => h9) rfl d_M_meets_20 ?_
    refine j_iload_n hC d_M_meets_23 rfl 3 rfl ?_
    refine j_callVr (As := [.int ((pForget u) 17 (5 * i)), .int a]) (rest := []) (st1 := [.int (b2i (pBound (pForget u) (pForget u 17 (5 * i)) a))]) hC (k_bind l dC dI g k tl (pForget u) (pForget u 17 (5 * i)) a hh1) rfl rfl ww_M_40 yn_M_bind (cw_match g k (pForget u)) rfl rfl d_M_meets_24 (Nat.le_of_ble_eq_true rfl) (by decide) ⟨Nat.zero_le _, Nat.zero_le _⟩ rfl ?_
    refine j_if_eq (tgt := 58) hC d_M_meets_27 (by decide) (fun h27 => ?_) (fun h27 => ?_)
    · refine j_iconst (v := 0) hC d_M_meets_58 (by decide) ?_
      exact j_zret hC hr rfl (by have e8 : pMeets u i r a b = (false, pMeets1 u i a) := (by simp only [pMeets, if_pos h12, if_pos h27]); exact ⟨rfl, by rw [e8]; rfl, by rw [e8] <;> rfl⟩) d_M_meets_59
    · refine j_aload_n hC d_M_meets_30 rfl 0 rfl ?_
      refine j_aload_n hC d_M_meets_31 rfl 1 rfl ?_
      refine j_getN hC hin_R (15 + i) (cw_rule g k (pMeets1 u i a) (by omega)) rfl 0 (by decide) (hC.2.2.2.2.1 _ wf_M_25) (fun _ h9 => h9) rfl d_M_meets_32 ?_
      refine j_getN hC hin_A (47 + (5 * i)) (cw_atom g k (pMeets1 u i a) (j := 5 * i) (by omega)) rfl 2 (by decide) (hC.2.2.2.2.1 _ wf_M_44) (fun _ h9 => h9) rfl d_M_meets_35 ?_
      refine j_iload hC d_M_meets_38 4 rfl ?_
      refine j_callVr (As := [.int ((pMeets1 u i a) 18 (5 * i)), .int b]) (rest := []) (st1 := [.int (b2i (pBound (pMeets1 u i a) (pMeets1 u i a 18 (5 * i)) b))]) hC (k_bind l dC dI g k tl (pMeets1 u i a) (pMeets1 u i a 18 (5 * i)) b hh2) rfl rfl ww_M_40 yn_M_bind (cw_match g k (pMeets1 u i a)) rfl rfl d_M_meets_40 (Nat.le_of_ble_eq_true rfl) (by decide) ⟨Nat.zero_le _, Nat.zero_le _⟩ rfl ?_
      refine j_if_eq (tgt := 58) hC d_M_meets_43 (by decide) (fun h43 => ?_) (fun h43 => ?_)
      · refine j_iconst (v := 0) hC d_M_meets_58 (by decide) ?_
        exact j_zret hC hr rfl (by have e8 : pMeets u i r a b = (false, pMeets2 u i a b) := (by simp only [pMeets, if_pos h12, if_neg h27, if_pos h43]); exact ⟨rfl, by rw [e8]; rfl, by rw [e8] <;> rfl⟩) d_M_meets_59
      · refine j_aload_n hC d_M_meets_46 rfl 0 rfl ?_
        refine j_aload_n hC d_M_meets_47 rfl 1 rfl ?_
        refine j_callVr (As := [.ref (g (15 + i))]) (rest := []) (st1 := [.int (b2i (pKnown (pMeets2 u i a b) i))]) hC (k_known l dC dI g k tl (pMeets2 u i a b) hi hM2) rfl rfl ww_M_47 yn_M_knownAgree (cw_match g k (pMeets2 u i a b)) rfl rfl d_M_meets_48 (Nat.le_of_ble_eq_true rfl) (by decide) ⟨Nat.zero_le _, Nat.zero_le _⟩ rfl ?_
        refine j_if_eq (tgt := 58) hC d_M_meets_51 (by decide) (fun h51 => ?_) (fun h51 => ?_)
        · refine j_iconst (v := 0) hC d_M_meets_58 (by decide) ?_
          exact j_zret hC hr rfl (by have e8 : pMeets u i r a b = (pKnown (pMeets2 u i a b) i, pMeets2 u i a b) := (by simp only [pMeets, if_pos h12, if_neg h27, if_neg h43]); have e9 : pKnown (pMeets2 u i a b) i = false := b2i_0 h51; exact ⟨rfl, by rw [e8]; show _ = some (Value.int (b2i (pKnown (pMeets2 u i a b) i))); rw [e9]; rfl, by rw [e8] <;> rfl⟩) d_M_meets_59
        · refine j_iconst (v := 1) hC d_M_meets_54 (by decide) ?_
          refine j_goto (tgt := 59) hC d_M_meets_55 (by decide) ?_
          exact j_zret hC hr rfl (by have e8 : pMeets u i r a b = (pKnown (pMeets2 u i a b) i, pMeets2 u i a b) := (by simp only [pMeets, if_pos h12, if_neg h27, if_neg h43]); have e9 : pKnown (pMeets2 u i a b) i = true := b2i_1 h51; exact ⟨rfl, by rw [e8]; show _ = some (Value.int (b2i (pKnown (pMeets2 u i a b) i))); rw [e9]; rfl, by rw [e8] <;> rfl⟩) d_M_meets_59

set_option maxHeartbeats 4000000 in
set_option maxRecDepth 100000 in
theorem k_find (l : Launch) (dC : Nat → ClassId) (dI : Nat → Nat → Nat) (g k : Nat → Nat) (tl : List (ClassId × FieldType)) {i : Nat} (hi : i < 16) : ∀ (d : Nat) (u : jU) (n0 : Nat), n0 ≤ 24 → 25 ≤ n0 + d → wfM u → jMet l y_M_findLeast (.code y_M_findLeast c_M_findLeast 6 (some .boolean)) ({ frames := d + 2, cells := 0, slots := 0, locals := 30 * d + 200 }) (dC, dI) jcl (ctys k tl) jTs [.ref (g 7), .ref (g (15 + i)), .int (nI n0)] (cw g k u) 0 0 (jRet (some (.int (b2i (pFind i d n0 u).1))) (cw g k (pFind i d n0 u).2)) := by
  intro d
  induction d with
  | zero => intro u n0 h1 h2; exact absurd h2 (by omega)
  | succ d ih =>
    intro u n0 hn0 hd hM
    refine jMet.of (by decide) (Nat.le_of_ble_eq_true rfl) ?_
    intro p e s m below meth c A hC hex hr hnm htr
    show jJ p l e ({ frames := (d + 1) + 2, cells := 0, slots := 0, locals := 30 * (d + 1) + 200 }) s m [.ref (g 7), .ref (g (15 + i)), .int (nI n0)].toArray below meth c 6 (dC, dI) jcl A (hxQ below (jQ (dC, dI) jcl (jRet (some (.int (b2i (pFind i (d + 1) n0 u).1))) (cw g k (pFind i (d + 1) n0 u).2)) A) [.ref (g 7), .ref (g (15 + i)), .int (nI n0)].toArray s 0 0 A) 0 0 (cw g k u) [(0, .ref (g 7)), (1, .ref (g (15 + i))), (2, .int (nI n0))] [] 0
    have hnx := pNext_le (u := u) (i := i) hn0
    have loop : pNext u i n0 < 24 → ∀ (n q : Nat) (v : jU), q ≤ 12 → 12 < q + n → only6 u v → wfV v → pTry (fun v => pFind i d (pNext u i n0 + 1) v) (pNext u i n0) (pChoices u i (nI (pNext u i n0))) (12 - q) q v = pFind i (d + 1) n0 u → jJ p l e ({ frames := (d + 1) + 2, cells := 0, slots := 0, locals := 30 * (d + 1) + 200 }) s m [.ref (g 7), .ref (g (15 + i)), .int (nI n0)].toArray below meth c 6 (dC, dI) jcl A (hxQ below (jQ (dC, dI) jcl (jRet (some (.int (b2i (pFind i (d + 1) n0 u).1))) (cw g k (pFind i (d + 1) n0 u).2)) A) [.ref (g 7), .ref (g (15 + i)), .int (nI n0)].toArray s 0 0 A) 0 0 (cw g k v) [(0, .ref (g 7)), (1, .ref (g (15 + i))), (2, .int (nI n0)), (3, .int (nI (pNext u i n0))), (4, .int (pChoices u i (nI (pNext u i n0)))), (5, .int (nI q))] [] 26 := by
      intro hlt n
      induction n with
      | zero => intro q v h1 h2; exact absurd h2 (by omega)
      | succ n ih2 =>
        intro q v hq hn ho hv hinv
        refine j_iload hC d_M_findLeast_26 5 rfl ?_
        refine j_bipush (v := 12) hC d_M_findLeast_28 (by decide) ?_
        refine j_icmp_ge (tgt := 70) hC d_M_findLeast_30 (by decide) (fun h30 => ?_) (fun h30 => ?_)
        · have hge : 12 ≤ q := (nI_leI (a := 12) (by decide) (by omega)).mp h30
          have hqe : q = 12 := by omega
          refine j_aload_n hC d_M_findLeast_70 rfl 0 rfl ?_
          refine j_get hC hin_M (7) (cw_match g k v) rfl 1 (by decide) (hC.2.2.2.2.1 _ wf_M_18) (fun _ h9 => h9) rfl d_M_findLeast_71 ?_
          refine j_iload_n hC d_M_findLeast_74 rfl 3 rfl ?_
          refine j_iconst (v := -1) hC d_M_findLeast_75 (by decide) ?_
          refine j_iastN (ws' := cw g k (up v 6 (pNext u i n0) (-1))) hC (9) 0 (cw_values g k v) rfl (n := pNext u i n0) (rfl) (hlt) (by decide) (cw_set_values g k v (pNext u i n0) (-1)) d_M_findLeast_76 ?_
          refine j_iconst (v := 0) hC d_M_findLeast_77 (by decide) ?_
          exact j_zret hC hr rfl (by rw [← hinv, hqe]; exact ⟨rfl, rfl, rfl⟩) d_M_findLeast_78
        · have hq12 : q < 12 := Nat.not_le.mp (fun z => h30 ((nI_leI (a := 12) (by decide) (by omega)).mpr z))
          have e12 : pTry (fun v => pFind i d (pNext u i n0 + 1) v) (pNext u i n0) (pChoices u i (nI (pNext u i n0))) (12 - q) q v = pTry (fun v => pFind i d (pNext u i n0 + 1) v) (pNext u i n0) (pChoices u i (nI (pNext u i n0))) ((12 - (q + 1)) + 1) q v := by rw [show 12 - q = (12 - (q + 1)) + 1 by omega]
          refine j_iload hC d_M_findLeast_33 4 rfl ?_
          refine j_iload hC d_M_findLeast_35 5 rfl ?_
          refine j_callSNr (As := [.int (pChoices u i (nI (pNext u i n0))), .int (nI q)]) (rest := []) (st1 := [.int (b2i (hb (pChoices u i (nI (pNext u i n0))) (nI q)))]) hC (k_hasBit l dC dI g k tl v (pChoices u i (nI (pNext u i n0))) (nI q)) rfl rfl ww_M_88 yn_H_hasBit rfl d_M_findLeast_37 (Nat.le_of_ble_eq_true rfl) ⟨by show 0 + 1 ≤ d + 1 + 2; omega, by show 8 + (2 + 11) + 0 ≤ 30 * (d + 1) + 200; omega⟩ ⟨Nat.zero_le _, Nat.zero_le _⟩ rfl ?_
          refine j_if_eq (tgt := 64) hC d_M_findLeast_40 (by decide) (fun h40 => ?_) (fun h40 => ?_)
          · refine j_iinc (lv' := [(0, .ref (g 7)), (1, .ref (g (15 + i))), (2, .int (nI n0)), (3, .int (nI (pNext u i n0))), (4, .int (pChoices u i (nI (pNext u i n0)))), (5, .int (nI (q + 1)))]) hC d_M_findLeast_64 5 rfl (nI_1 _) (by decide) rfl rfl ?_
            refine j_goto (tgt := 26) hC d_M_findLeast_67 (by decide) ?_
            exact j_locals [0, 1, 2, 3, 4, 5] rfl (ih2 (q + 1) v (by omega) (by omega) ho hv (by rw [← hinv, e12, pTry, if_pos h40]))
          · refine j_aload_n hC d_M_findLeast_43 rfl 0 rfl ?_
            refine j_get hC hin_M (7) (cw_match g k v) rfl 1 (by decide) (hC.2.2.2.2.1 _ wf_M_18) (fun _ h9 => h9) rfl d_M_findLeast_44 ?_
            refine j_iload_n hC d_M_findLeast_47 rfl 3 rfl ?_
            refine j_iload hC d_M_findLeast_48 5 rfl ?_
            refine j_iastN (ws' := cw g k (up v 6 (pNext u i n0) (nI q))) hC (9) 0 (cw_values g k v) rfl (n := pNext u i n0) (rfl) (hlt) (by decide) (cw_set_values g k v (pNext u i n0) (nI q)) d_M_findLeast_50 ?_
            refine j_aload_n hC d_M_findLeast_51 rfl 0 rfl ?_
            refine j_aload_n hC d_M_findLeast_52 rfl 1 rfl ?_
            refine j_iload_n hC d_M_findLeast_53 rfl 3 rfl ?_
            refine j_iconst (v := 1) hC d_M_findLeast_54 (by decide) ?_
            refine j_iadd hC d_M_findLeast_55 ?_
            have hv2 : wfV (up v 6 (pNext u i n0) (nI q)) := wfV_up hv _ (Or.inr (inN_nI hq12 (by decide)))
            have hfr := pFind_frame i d (pNext u i n0 + 1) (up v 6 (pNext u i n0) (nI q))
            rw [show nI (pNext u i n0) + 1 = nI (pNext u i n0 + 1) from nI_1 _]
            refine j_callVr (As := [.ref (g (15 + i)), .int (nI (pNext u i n0 + 1))]) (rest := []) (st1 := [.int (b2i (pFind i d (pNext u i n0 + 1) (up v 6 (pNext u i n0) (nI q))).1)]) hC (ih (up v 6 (pNext u i n0) (nI q)) (pNext u i n0 + 1) (by omega) (by omega) (hM.of (ho.tr (only6_up v _ _)) hv2)) rfl rfl ww_M_98 yn_M_findLeast (cw_match g k (up v 6 (pNext u i n0) (nI q))) rfl rfl d_M_findLeast_56 (Nat.le_of_ble_eq_true rfl) ⟨by show d + 2 + 1 ≤ d + 1 + 2; omega, by show 8 + (6 + 11) + (30 * d + 200) ≤ 30 * (d + 1) + 200; omega⟩ ⟨Nat.zero_le _, Nat.zero_le _⟩ rfl ?_
            refine j_if_eq (tgt := 64) hC d_M_findLeast_59 (by decide) (fun h59 => ?_) (fun h59 => ?_)
            · refine j_iinc (lv' := [(0, .ref (g 7)), (1, .ref (g (15 + i))), (2, .int (nI n0)), (3, .int (nI (pNext u i n0))), (4, .int (pChoices u i (nI (pNext u i n0)))), (5, .int (nI (q + 1)))]) hC d_M_findLeast_64 5 rfl (nI_1 _) (by decide) rfl rfl ?_
              refine j_goto (tgt := 26) hC d_M_findLeast_67 (by decide) ?_
              exact j_locals [0, 1, 2, 3, 4, 5] rfl (ih2 (q + 1) (pFind i d (pNext u i n0 + 1) (up v 6 (pNext u i n0) (nI q))).2 (by omega) (by omega) ((ho.tr (only6_up v _ _)).tr hfr.1) (hfr.2 hv2) (by rw [← hinv, e12, pTry, if_neg h40, if_pos h59]))
            · refine j_iconst (v := 1) hC d_M_findLeast_62 (by decide) ?_
              exact j_zret hC hr rfl (by rw [← hinv, e12, pTry, if_neg h40, if_neg h59]; exact ⟨rfl, rfl, rfl⟩) d_M_findLeast_63
    refine j_aload_n hC d_M_findLeast_0 rfl 0 rfl ?_
    refine j_aload_n hC d_M_findLeast_1 rfl 1 rfl ?_
    refine j_iload_n hC d_M_findLeast_2 rfl 2 rfl ?_
    refine j_callVr (As := [.ref (g (15 + i)), .int (nI n0)]) (rest := []) (st1 := [.int (nI (pNext u i n0))]) hC (k_nextOpen l dC dI g k tl u hi hn0) rfl rfl ww_M_91 yn_M_nextOpen (cw_match g k u) rfl rfl d_M_findLeast_3 (Nat.le_of_ble_eq_true rfl) ⟨by show 1 + 1 ≤ d + 1 + 2; omega, by show 8 + (4 + 11) + 21 ≤ 30 * (d + 1) + 200; omega⟩ ⟨Nat.zero_le _, Nat.zero_le _⟩ rfl ?_
    refine j_istore_n (lv' := [(0, .ref (g 7)), (1, .ref (g (15 + i))), (2, .int (nI n0)), (3, .int (nI (pNext u i n0)))]) hC d_M_findLeast_6 rfl (by decide) rfl rfl ?_
    refine j_iload_n hC d_M_findLeast_7 rfl 3 rfl ?_
    refine j_bipush (v := 24) hC d_M_findLeast_8 (by decide) ?_
    refine j_icmp_lt (tgt := 15) hC d_M_findLeast_10 (by decide) (fun h10 => ?_) (fun h10 => ?_)
    · have hlt : pNext u i n0 < 24 := (nI_ltI (b := 24) (by omega) (by decide)).mp h10
      refine j_aload_n hC d_M_findLeast_15 rfl 0 rfl ?_
      refine j_aload_n hC d_M_findLeast_16 rfl 1 rfl ?_
      refine j_iload_n hC d_M_findLeast_17 rfl 3 rfl ?_
      refine j_callVr (As := [.ref (g (15 + i)), .int (nI (pNext u i n0))]) (rest := []) (st1 := [.int (pChoices u i (nI (pNext u i n0)))]) hC (k_choices l dC dI g k tl u hi hM (nI (pNext u i n0)) (inN_nI hlt (by decide))) rfl rfl ww_M_95 yn_M_choices (cw_match g k u) rfl rfl d_M_findLeast_18 (Nat.le_of_ble_eq_true rfl) ⟨by show 1 + 1 ≤ d + 1 + 2; omega, by show 8 + (6 + 11) + 27 ≤ 30 * (d + 1) + 200; omega⟩ ⟨Nat.zero_le _, Nat.zero_le _⟩ rfl ?_
      refine j_istore (lv' := [(0, .ref (g 7)), (1, .ref (g (15 + i))), (2, .int (nI n0)), (3, .int (nI (pNext u i n0))), (4, .int (pChoices u i (nI (pNext u i n0))))]) hC d_M_findLeast_21 (by decide) rfl rfl ?_
      refine j_iconst (v := 0) hC d_M_findLeast_23 (by decide) ?_
      refine j_istore (lv' := [(0, .ref (g 7)), (1, .ref (g (15 + i))), (2, .int (nI n0)), (3, .int (nI (pNext u i n0))), (4, .int (pChoices u i (nI (pNext u i n0)))), (5, .int 0)]) hC d_M_findLeast_24 (by decide) rfl rfl ?_
      exact loop hlt 13 0 u (by omega) (by omega) (only6.rf u) hM.2.2 (by rw [pFind, if_pos h10])
    · refine j_iconst (v := 1) hC d_M_findLeast_13 (by decide) ?_
      exact j_zret hC hr rfl (by rw [pFind, if_neg h10]; exact ⟨rfl, rfl, rfl⟩) d_M_findLeast_14
