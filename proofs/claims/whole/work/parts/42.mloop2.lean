set_option maxHeartbeats 4000000 in
set_option maxRecDepth 100000 in
theorem r_clear (l : Launch) (dC : Nat → ClassId) (dI : Nat → Nat → Nat) (g k : Nat → Nat) (tl : List (ClassId × FieldType)) (u : jU)  : jMet l y_D_clear (.code y_D_clear c_D_clear 2 none) ({ frames := 0, cells := 0, slots := 0, locals := 0 }) (dC, dI) jcl (mtys k tl) jTs [.ref (g 0)] (mw g k u) 0 0 (jRet none (mw g k (mClear u))) := by
  refine jMet.of (by decide) (Nat.le_of_ble_eq_true rfl) ?_
  intro p e s m below meth c A hC hex hr hnm htr
  show jJ p l e ({ frames := 0, cells := 0, slots := 0, locals := 0 }) s m [.ref (g 0)].toArray below meth c 2 (dC, dI) jcl A (hxQ below (jQ (dC, dI) jcl (jRet none (mw g k (mClear u))) A) [.ref (g 0)].toArray s 0 0 A) 0 0 (mw g k u) [(0, .ref (g 0))] [] 0
  have loop : ∀ (n q : Nat), q ≤ 1152 → 1152 < q + n → jJ p l e ({ frames := 0, cells := 0, slots := 0, locals := 0 }) s m [.ref (g 0)].toArray below meth c 2 (dC, dI) jcl A (hxQ below (jQ (dC, dI) jcl (jRet none (mw g k (mClear u))) A) [.ref (g 0)].toArray s 0 0 A) 0 0 (mw g k (itN mC1 q (mC0 u))) [(0, .ref (g 0)), (1, .int (nI q))] [] 17 := by
    intro n
    induction n with
    | zero => intro q h1 h2; exact absurd h2 (by omega)
    | succ n ih =>
      intro q hq hn
      refine j_iload_n hC d_D_clear_17 rfl 1 rfl ?_
      refine j_sipush (v := 1152) hC d_D_clear_18 (by decide) ?_
      refine j_icmp_ge (tgt := 37) hC d_D_clear_21 (by decide) (fun h21 => ?_) (fun h21 => ?_)
      · have hge : 1152 ≤ q := (ge1152 (by omega)).mp h21
        have hqe : q = 1152 := by omega
        refine j_aload_n hC d_D_clear_37 rfl 0 rfl ?_
        refine j_iconst (v := 0) hC d_D_clear_38 (by decide) ?_
        refine j_put (ty := .boolean) (ws' := mw g k (up (itN mC1 q (mC0 u)) 0 3 0)) hC hin_D tyX5 tyX5_ok nmX5 (0) (mw_obj g k (itN mC1 q (mC0 u))) rfl 12 (by decide) (hC.2.2.2.2.1 _ wf_D_54) (fun _ h9 => h9) rfl (by decide +kernel) (rfl) (rfl) (Nat.le_of_ble_eq_true rfl) (mw_set_known g k (itN mC1 q (mC0 u)) 0) d_D_clear_39 ?_
        exact j_vret hC hr ⟨rfl, rfl, congrArg (mw g k) (by rw [mClear, hqe])⟩ d_D_clear_42
      · have hlt : q < 1152 := Nat.not_le.mp (fun z => h21 ((ge1152 (by omega)).mpr z))
        refine j_aload_n hC d_D_clear_24 rfl 0 rfl ?_
        refine j_get hC hin_D (0) (mw_obj g k (itN mC1 q (mC0 u))) rfl 3 (by decide) (hC.2.2.2.2.1 _ wf_D_13) (fun _ h9 => h9) rfl d_D_clear_25 ?_
        refine j_iload_n hC d_D_clear_28 rfl 1 rfl ?_
        refine j_iconst (v := 0) hC d_D_clear_29 (by decide) ?_
        refine j_zastN (ws' := mw g k (up (itN mC1 q (mC0 u)) 2 q 0)) hC (2) 3 (mw_given g k (itN mC1 q (mC0 u))) rfl (n := q) (nar_0) (rfl) (by omega) (by decide) (mw_set_given g k (itN mC1 q (mC0 u)) q 0) d_D_clear_30 ?_
        refine j_iinc (lv' := [(0, .ref (g 0)), (1, .int (nI (q + 1)))]) hC d_D_clear_31 1 rfl (nI_1 _) (by decide) rfl rfl ?_
        refine j_goto (tgt := 17) hC d_D_clear_34 (by decide) ?_
        have k9 := ih (q + 1) (by omega) (by omega)
        rw [itN_s] at k9
        exact k9
  refine j_aload_n hC d_D_clear_0 rfl 0 rfl ?_
  refine j_iconst (v := 0) hC d_D_clear_1 (by decide) ?_
  refine j_put (ty := .int) (ws' := mw g k (up u 0 4 0)) hC hin_D tyX5 tyX5_ok nmX5 (0) (mw_obj g k u) rfl 0 (by decide) (hC.2.2.2.2.1 _ wf_D_44) (fun _ h9 => h9) rfl (by decide +kernel) (rfl) (rfl) (Nat.le_of_ble_eq_true rfl) (mw_set_thrown g k u 0) d_D_clear_2 ?_
  refine j_aload_n hC d_D_clear_5 rfl 0 rfl ?_
  refine j_iconst (v := 0) hC d_D_clear_6 (by decide) ?_
  refine j_put (ty := .int) (ws' := mw g k (up (up u 0 4 0) 0 0 0)) hC hin_D tyX5 tyX5_ok nmX5 (0) (mw_obj g k (up u 0 4 0)) rfl 1 (by decide) (hC.2.2.2.2.1 _ wf_D_48) (fun _ h9 => h9) rfl (by decide +kernel) (rfl) (rfl) (Nat.le_of_ble_eq_true rfl) (mw_set_relations g k (up u 0 4 0) 0) d_D_clear_7 ?_
  refine j_aload_n hC d_D_clear_10 rfl 0 rfl ?_
  refine j_iconst (v := 0) hC d_D_clear_11 (by decide) ?_
  refine j_put (ty := .int) (ws' := mw g k (up (up (up u 0 4 0) 0 0 0) 0 1 0)) hC hin_D tyX5 tyX5_ok nmX5 (0) (mw_obj g k (up (up u 0 4 0) 0 0 0)) rfl 5 (by decide) (hC.2.2.2.2.1 _ wf_D_51) (fun _ h9 => h9) rfl (by decide +kernel) (rfl) (rfl) (Nat.le_of_ble_eq_true rfl) (mw_set_rules g k (up (up u 0 4 0) 0 0 0) 0) d_D_clear_12 ?_
  refine j_iconst (v := 0) hC d_D_clear_15 (by decide) ?_
  refine j_istore_n (lv' := [(0, .ref (g 0)), (1, .int 0)]) hC d_D_clear_16 rfl (by decide) rfl rfl ?_
  exact loop 1153 0 (by omega) (by omega)

set_option maxHeartbeats 4000000 in
set_option maxRecDepth 100000 in
theorem r_findFault (l : Launch) (dC : Nat → ClassId) (dI : Nat → Nat → Nat) (g k : Nat → Nat) (tl : List (ClassId × FieldType)) (u : jU) (hD : wfD u) (hE : mEnd (mWl mWlf (1, 1, mZ u))) : jMet l y_D_findFault (.code y_D_findFault c_D_findFault 6 (some .int)) ({ frames := 2, cells := 0, slots := 0, locals := 46 }) (dC, dI) jcl (mtys k tl) jTs [.ref (g 0)] (mw g k u) 0 0 (jRet (some (.int ((mFF u).1))) (mw g k ((mFF u).2))) := by
  refine jMet.of (by decide) (Nat.le_of_ble_eq_true rfl) ?_
  intro p e s m below meth c A hC hex hr hnm htr
  show jJ p l e ({ frames := 2, cells := 0, slots := 0, locals := 46 }) s m [.ref (g 0)].toArray below meth c 6 (dC, dI) jcl A (hxQ below (jQ (dC, dI) jcl (jRet (some (.int ((mFF u).1))) (mw g k ((mFF u).2))) A) [.ref (g 0)].toArray s 0 0 A) 0 0 (mw g k u) [(0, .ref (g 0))] [] 0
  have hK := hD.2.1
  have hK2 := hK.2
  have first : jJ p l e ({ frames := 2, cells := 0, slots := 0, locals := 46 }) s m [.ref (g 0)].toArray below meth c 6 (dC, dI) jcl A (hxQ below (jQ (dC, dI) jcl (jRet (some (.int ((mFF u).1))) (mw g k ((mFF u).2))) A) [.ref (g 0)].toArray s 0 0 A) 0 0 (mw g k u) [(0, .ref (g 0)), (1, .int (mUn u (tn (u 0 1)) (tn (u 0 1))))] [] 33 → ∀ (q : Nat) (fd : Int32), q ≤ tn (u 0 1) → fd = mUn u (tn (u 0 1)) (tn (u 0 1) - q) → jJ p l e ({ frames := 2, cells := 0, slots := 0, locals := 46 }) s m [.ref (g 0)].toArray below meth c 6 (dC, dI) jcl A (hxQ below (jQ (dC, dI) jcl (jRet (some (.int ((mFF u).1))) (mw g k ((mFF u).2))) A) [.ref (g 0)].toArray s 0 0 A) 0 0 (mw g k u) [(0, .ref (g 0)), (1, .int fd), (2, .int (pI q))] [] 9 := by
    intro hk q
    induction q with
    | zero =>
      intro fd hq hfd
      show jJ p l e ({ frames := 2, cells := 0, slots := 0, locals := 46 }) s m [.ref (g 0)].toArray below meth c 6 (dC, dI) jcl A (hxQ below (jQ (dC, dI) jcl (jRet (some (.int ((mFF u).1))) (mw g k ((mFF u).2))) A) [.ref (g 0)].toArray s 0 0 A) 0 0 (mw g k u) [(0, .ref (g 0)), (1, .int fd), (2, .int (-1))] [] 9
      replace hfd : fd = mUn u (tn (u 0 1)) (tn (u 0 1)) := hfd
      refine j_iload_n hC d_D_findFault_9 rfl 2 rfl ?_
      refine j_if_lt (tgt := 33) hC d_D_findFault_10 (by decide) (fun h10 => ?_) (fun h10 => absurd h10 (by decide))
      subst hfd
      exact j_locals [0, 1] rfl hk
    | succ q ih =>
      intro fd hq hfd
      have hq16 : q < 16 := by omega
      show jJ p l e ({ frames := 2, cells := 0, slots := 0, locals := 46 }) s m [.ref (g 0)].toArray below meth c 6 (dC, dI) jcl A (hxQ below (jQ (dC, dI) jcl (jRet (some (.int ((mFF u).1))) (mw g k ((mFF u).2))) A) [.ref (g 0)].toArray s 0 0 A) 0 0 (mw g k u) [(0, .ref (g 0)), (1, .int fd), (2, .int (nI q))] [] 9
      refine j_iload_n hC d_D_findFault_9 rfl 2 rfl ?_
      refine j_if_lt (tgt := 33) hC d_D_findFault_10 (by decide) (fun h10 => ?_) (fun h10 => ?_)
      · exact absurd h10 (nI_nn (by omega))
      · refine j_aload_n hC d_D_findFault_13 rfl 0 rfl ?_
        refine j_iload_n hC d_D_findFault_14 rfl 2 rfl ?_
        refine j_callVr (As := [.int (nI q)]) (rest := []) (st1 := [.int (mSafe u q)]) hC (r_safe l dC dI g k tl u (i := q) hq16 (hD.2.2.1 q hq16)) rfl rfl ww_D_88 yn_D_isSafe (mw_obj g k u) rfl rfl d_D_findFault_15 (Nat.le_of_ble_eq_true rfl) (by decide) ⟨Nat.zero_le _, Nat.zero_le _⟩ rfl ?_
        suffices hk18 : jJ p l e ({ frames := 2, cells := 0, slots := 0, locals := 46 }) s m [.ref (g 0)].toArray below meth c 6 (dC, dI) jcl A (hxQ below (jQ (dC, dI) jcl (jRet (some (.int ((mFF u).1))) (mw g k ((mFF u).2))) A) [.ref (g 0)].toArray s 0 0 A) 0 0 (mw g k u) [(0, .ref (g 0)), (1, .int fd), (2, .int (nI q))] [.int (if (mSafe u q) = 0 then (nI q) else fd)] 26 by
          refine j_if_eq (tgt := 25) hC d_D_findFault_18 (by decide) (fun h18 => ?_) (fun h18 => ?_)
          · refine j_iload_n hC d_D_findFault_25 rfl 2 rfl ?_
            exact j_top ((if_pos h18)) hk18
          · refine j_iload_n hC d_D_findFault_21 rfl 1 rfl ?_
            refine j_goto (tgt := 26) hC d_D_findFault_22 (by decide) ?_
            exact j_top ((if_neg h18)) hk18
        refine j_istore_n (lv' := [(0, .ref (g 0)), (1, .int (if (mSafe u q) = 0 then (nI q) else fd)), (2, .int (nI q))]) hC d_D_findFault_26 rfl (by decide) rfl rfl ?_
        refine j_iinc (lv' := [(0, .ref (g 0)), (1, .int (if (mSafe u q) = 0 then (nI q) else fd)), (2, .int ((nI q) + (-1)))]) hC d_D_findFault_27 2 rfl rfl (by decide) rfl rfl ?_
        refine j_goto (tgt := 9) hC d_D_findFault_30 (by decide) ?_
        have k9 := ih (if mSafe u q = 0 then nI q else fd) (by omega) (by rw [mUn_s u (by omega), ← hfd])
        rw [← pI_dec] at k9
        exact k9
  have pass : ∀ (x : Int32 × Int32 × jU), kp [3] u x.2.2 → jJ p l e ({ frames := 2, cells := 0, slots := 0, locals := 46 }) s m [.ref (g 0)].toArray below meth c 6 (dC, dI) jcl A (hxQ below (jQ (dC, dI) jcl (jRet (some (.int ((mFF u).1))) (mw g k ((mFF u).2))) A) [.ref (g 0)].toArray s 0 0 A) 0 0 (mw g k (mPass x).2.2) [(0, .ref (g 0)), (1, .int (mUn u (tn (u 0 1)) (tn (u 0 1)))), (2, .int ((mPass x).1)), (3, .int ((mPass x).2.1))] [] 138 → ∀ (n q : Nat), q ≤ tn (u 0 1) → tn (u 0 1) < q + n → jJ p l e ({ frames := 2, cells := 0, slots := 0, locals := 46 }) s m [.ref (g 0)].toArray below meth c 6 (dC, dI) jcl A (hxQ below (jQ (dC, dI) jcl (jRet (some (.int ((mFF u).1))) (mw g k ((mFF u).2))) A) [.ref (g 0)].toArray s 0 0 A) 0 0 (mw g k (itG mPs q (0, x.2.1, x.2.2)).2.2) [(0, .ref (g 0)), (1, .int (mUn u (tn (u 0 1)) (tn (u 0 1)))), (2, .int ((itG mPs q (0, x.2.1, x.2.2)).1)), (3, .int ((itG mPs q (0, x.2.1, x.2.2)).2.1)), (4, .int (nI q))] [] 71 := by
    intro x hx3 hk n
    have hxK : tn (x.2.2 0 1) = tn (u 0 1) := by rw [hx3 0 (by decide)]
    rw [mPass, hxK] at hk
    induction n with
    | zero => intro q h1 h2; exact absurd h2 (by omega)
    | succ n ih =>
      intro q hq hn
      have hkz : kp [3] u (itG mPs q (0, x.2.1, x.2.2)).2.2 := itPs_kp u (0, x.2.1, x.2.2) hx3 q
      have hz0 : (itG mPs q (0, x.2.1, x.2.2)).2.2 0 1 = u 0 1 := by rw [hkz 0 (by decide)]
      refine j_iload hC d_D_findFault_71 4 rfl ?_
      refine j_aload_n hC d_D_findFault_73 rfl 0 rfl ?_
      refine j_get hC hin_D (0) (mw_obj g k ((itG mPs q (0, x.2.1, x.2.2)).2.2)) rfl 5 (by decide) (hC.2.2.2.2.1 _ wf_D_51) (fun _ h9 => h9) rfl d_D_findFault_74 ?_
      refine j_icmp_ge (tgt := 138) hC d_D_findFault_77 (by decide) (fun h77 => ?_) (fun h77 => ?_)
      · have hge : tn (u 0 1) ≤ q := (inN_leN hK (by decide) (by omega)).mp (by rw [← hz0]; exact h77)
        have hqe : q = tn (u 0 1) := by omega
        subst hqe
        exact j_locals [0, 1, 2, 3] rfl hk
      · have hlt : q < tn (u 0 1) := Nat.not_le.mp (fun z => h77 (by rw [hz0]; exact (inN_leN hK (by decide) (by omega)).mpr z))
        have hq16 : q < 16 := by omega
        have hkr : kp [3] u (mRaise (itG mPs q (0, x.2.1, x.2.2)).2.2 q).2 := hkz.tr (mRaise_kp _ _)
        have hBz := (wfD_3 hD hkr).2.2.2.1 (5 * q) (by omega)
        refine j_aload_n hC d_D_findFault_80 rfl 0 rfl ?_
        refine j_iload hC d_D_findFault_81 4 rfl ?_
        refine j_callVr (As := [.int (nI q)]) (rest := []) (st1 := [.int ((mRaise (itG mPs q (0, x.2.1, x.2.2)).2.2 q).1)]) hC (r_raise l dC dI g k tl (itG mPs q (0, x.2.1, x.2.2)).2.2 (i := q) hq16 (wfD_3 hD hkz)) rfl rfl ww_D_91 yn_D_raise (mw_obj g k ((itG mPs q (0, x.2.1, x.2.2)).2.2)) rfl rfl d_D_findFault_83 (Nat.le_of_ble_eq_true rfl) (by decide) ⟨Nat.zero_le _, Nat.zero_le _⟩ rfl ?_
        refine j_istore (lv' := [(0, .ref (g 0)), (1, .int (mUn u (tn (u 0 1)) (tn (u 0 1)))), (2, .int ((itG mPs q (0, x.2.1, x.2.2)).1)), (3, .int ((itG mPs q (0, x.2.1, x.2.2)).2.1)), (4, .int (nI q)), (5, .int ((mRaise (itG mPs q (0, x.2.1, x.2.2)).2.2 q).1))]) hC d_D_findFault_86 (by decide) rfl rfl ?_
        refine j_iload_n hC d_D_findFault_88 rfl 2 rfl ?_
        suffices hk89 : jJ p l e ({ frames := 2, cells := 0, slots := 0, locals := 46 }) s m [.ref (g 0)].toArray below meth c 6 (dC, dI) jcl A (hxQ below (jQ (dC, dI) jcl (jRet (some (.int ((mFF u).1))) (mw g k ((mFF u).2))) A) [.ref (g 0)].toArray s 0 0 A) 0 0 (mw g k ((mRaise (itG mPs q (0, x.2.1, x.2.2)).2.2 q).2)) [(0, .ref (g 0)), (1, .int (mUn u (tn (u 0 1)) (tn (u 0 1)))), (2, .int ((itG mPs q (0, x.2.1, x.2.2)).1)), (3, .int ((itG mPs q (0, x.2.1, x.2.2)).2.1)), (4, .int (nI q)), (5, .int ((mRaise (itG mPs q (0, x.2.1, x.2.2)).2.2 q).1))] [.int (if ((itG mPs q (0, x.2.1, x.2.2)).1) = 0 then (if ((mRaise (itG mPs q (0, x.2.1, x.2.2)).2.2 q).1) = 0 then (0 : Int32) else (1 : Int32)) else (1 : Int32))] 102 by
          refine j_if_ne (tgt := 97) hC d_D_findFault_89 (by decide) (fun h89 => ?_) (fun h89 => ?_)
          · refine j_iconst (v := 1) hC d_D_findFault_97 (by decide) ?_
            refine j_goto (tgt := 102) hC d_D_findFault_98 (by decide) ?_
            exact j_top ((if_neg h89)) hk89
          · refine j_iload hC d_D_findFault_92 5 rfl ?_
            suffices hk94 : jJ p l e ({ frames := 2, cells := 0, slots := 0, locals := 46 }) s m [.ref (g 0)].toArray below meth c 6 (dC, dI) jcl A (hxQ below (jQ (dC, dI) jcl (jRet (some (.int ((mFF u).1))) (mw g k ((mFF u).2))) A) [.ref (g 0)].toArray s 0 0 A) 0 0 (mw g k ((mRaise (itG mPs q (0, x.2.1, x.2.2)).2.2 q).2)) [(0, .ref (g 0)), (1, .int (mUn u (tn (u 0 1)) (tn (u 0 1)))), (2, .int ((itG mPs q (0, x.2.1, x.2.2)).1)), (3, .int ((itG mPs q (0, x.2.1, x.2.2)).2.1)), (4, .int (nI q)), (5, .int ((mRaise (itG mPs q (0, x.2.1, x.2.2)).2.2 q).1))] [.int (if ((mRaise (itG mPs q (0, x.2.1, x.2.2)).2.2 q).1) = 0 then (0 : Int32) else (1 : Int32))] 102 by
              refine j_if_eq (tgt := 101) hC d_D_findFault_94 (by decide) (fun h94 => ?_) (fun h94 => ?_)
              · refine j_iconst (v := 0) hC d_D_findFault_101 (by decide) ?_
                exact j_top ((if_pos h94)) hk94
              · refine j_iconst (v := 1) hC d_D_findFault_97 (by decide) ?_
                refine j_goto (tgt := 102) hC d_D_findFault_98 (by decide) ?_
                exact j_top ((if_neg h94)) hk94
            exact j_top ((if_pos h89)) hk89
        refine j_istore_n (lv' := [(0, .ref (g 0)), (1, .int (mUn u (tn (u 0 1)) (tn (u 0 1)))), (2, .int (if ((itG mPs q (0, x.2.1, x.2.2)).1) = 0 then (if ((mRaise (itG mPs q (0, x.2.1, x.2.2)).2.2 q).1) = 0 then (0 : Int32) else (1 : Int32)) else (1 : Int32))), (3, .int ((itG mPs q (0, x.2.1, x.2.2)).2.1)), (4, .int (nI q)), (5, .int ((mRaise (itG mPs q (0, x.2.1, x.2.2)).2.2 q).1))]) hC d_D_findFault_102 rfl (by decide) rfl rfl ?_
        refine j_iload_n hC d_D_findFault_103 rfl 3 rfl ?_
        suffices hk104 : jJ p l e ({ frames := 2, cells := 0, slots := 0, locals := 46 }) s m [.ref (g 0)].toArray below meth c 6 (dC, dI) jcl A (hxQ below (jQ (dC, dI) jcl (jRet (some (.int ((mFF u).1))) (mw g k ((mFF u).2))) A) [.ref (g 0)].toArray s 0 0 A) 0 0 (mw g k ((mRaise (itG mPs q (0, x.2.1, x.2.2)).2.2 q).2)) [(0, .ref (g 0)), (1, .int (mUn u (tn (u 0 1)) (tn (u 0 1)))), (2, .int (if ((itG mPs q (0, x.2.1, x.2.2)).1) = 0 then (if ((mRaise (itG mPs q (0, x.2.1, x.2.2)).2.2 q).1) = 0 then (0 : Int32) else (1 : Int32)) else (1 : Int32))), (3, .int ((itG mPs q (0, x.2.1, x.2.2)).2.1)), (4, .int (nI q)), (5, .int ((mRaise (itG mPs q (0, x.2.1, x.2.2)).2.2 q).1))] [.int (if ((itG mPs q (0, x.2.1, x.2.2)).2.1) = 0 then (0 : Int32) else (if 8 < (((mRaise (itG mPs q (0, x.2.1, x.2.2)).2.2 q).2) 3 (tn ((mRaise (itG mPs q (0, x.2.1, x.2.2)).2.2 q).2 16 (5 * q)))) then (0 : Int32) else (1 : Int32)))] 131 by
          refine j_if_eq (tgt := 130) hC d_D_findFault_104 (by decide) (fun h104 => ?_) (fun h104 => ?_)
          · refine j_iconst (v := 0) hC d_D_findFault_130 (by decide) ?_
            exact j_top ((if_pos h104)) hk104
          · refine j_aload_n hC d_D_findFault_107 rfl 0 rfl ?_
            refine j_get hC hin_D (0) (mw_obj g k ((mRaise (itG mPs q (0, x.2.1, x.2.2)).2.2 q).2)) rfl 11 (by decide) (hC.2.2.2.2.1 _ wf_D_35) (fun _ h9 => h9) rfl d_D_findFault_108 ?_
            refine j_aload_n hC d_D_findFault_111 rfl 0 rfl ?_
            refine j_get hC hin_D (0) (mw_obj g k ((mRaise (itG mPs q (0, x.2.1, x.2.2)).2.2 q).2)) rfl 7 (by decide) (hC.2.2.2.2.1 _ wf_D_23) (fun _ h9 => h9) rfl d_D_findFault_112 ?_
            refine j_iconst (v := 5) hC d_D_findFault_115 (by decide) ?_
            refine j_iload hC d_D_findFault_116 4 rfl ?_
            refine j_imul hC d_D_findFault_118 ?_
            refine j_top (v := nI (5 * q)) (pk_mul 5 q).symm ?_
            refine j_ialdN hC (5) 0 (mw_of g k ((mRaise (itG mPs q (0, x.2.1, x.2.2)).2.2 q).2)) rfl (n := 5 * q) (rfl) (by omega) (by decide) d_D_findFault_119 ?_
            refine j_ialdN hC (9) 0 (mw_layers g k ((mRaise (itG mPs q (0, x.2.1, x.2.2)).2.2 q).2)) rfl (n := tn ((mRaise (itG mPs q (0, x.2.1, x.2.2)).2.2 q).2 16 (5 * q))) (hBz.1.1) (hBz.1.2) (by decide) d_D_findFault_120 ?_
            refine j_bipush (v := 8) hC d_D_findFault_121 (by decide) ?_
            suffices hk123 : jJ p l e ({ frames := 2, cells := 0, slots := 0, locals := 46 }) s m [.ref (g 0)].toArray below meth c 6 (dC, dI) jcl A (hxQ below (jQ (dC, dI) jcl (jRet (some (.int ((mFF u).1))) (mw g k ((mFF u).2))) A) [.ref (g 0)].toArray s 0 0 A) 0 0 (mw g k ((mRaise (itG mPs q (0, x.2.1, x.2.2)).2.2 q).2)) [(0, .ref (g 0)), (1, .int (mUn u (tn (u 0 1)) (tn (u 0 1)))), (2, .int (if ((itG mPs q (0, x.2.1, x.2.2)).1) = 0 then (if ((mRaise (itG mPs q (0, x.2.1, x.2.2)).2.2 q).1) = 0 then (0 : Int32) else (1 : Int32)) else (1 : Int32))), (3, .int ((itG mPs q (0, x.2.1, x.2.2)).2.1)), (4, .int (nI q)), (5, .int ((mRaise (itG mPs q (0, x.2.1, x.2.2)).2.2 q).1))] [.int (if 8 < (((mRaise (itG mPs q (0, x.2.1, x.2.2)).2.2 q).2) 3 (tn ((mRaise (itG mPs q (0, x.2.1, x.2.2)).2.2 q).2 16 (5 * q)))) then (0 : Int32) else (1 : Int32))] 131 by
              refine j_icmp_gt (tgt := 130) hC d_D_findFault_123 (by decide) (fun h123 => ?_) (fun h123 => ?_)
              · refine j_iconst (v := 0) hC d_D_findFault_130 (by decide) ?_
                exact j_top ((if_pos h123)) hk123
              · refine j_iconst (v := 1) hC d_D_findFault_126 (by decide) ?_
                refine j_goto (tgt := 131) hC d_D_findFault_127 (by decide) ?_
                exact j_top ((if_neg h123)) hk123
            exact j_top ((if_neg h104)) hk104
        refine j_istore_n (lv' := [(0, .ref (g 0)), (1, .int (mUn u (tn (u 0 1)) (tn (u 0 1)))), (2, .int (if ((itG mPs q (0, x.2.1, x.2.2)).1) = 0 then (if ((mRaise (itG mPs q (0, x.2.1, x.2.2)).2.2 q).1) = 0 then (0 : Int32) else (1 : Int32)) else (1 : Int32))), (3, .int (if ((itG mPs q (0, x.2.1, x.2.2)).2.1) = 0 then (0 : Int32) else (if 8 < (((mRaise (itG mPs q (0, x.2.1, x.2.2)).2.2 q).2) 3 (tn ((mRaise (itG mPs q (0, x.2.1, x.2.2)).2.2 q).2 16 (5 * q)))) then (0 : Int32) else (1 : Int32)))), (4, .int (nI q)), (5, .int ((mRaise (itG mPs q (0, x.2.1, x.2.2)).2.2 q).1))]) hC d_D_findFault_131 rfl (by decide) rfl rfl ?_
        refine j_iinc (lv' := [(0, .ref (g 0)), (1, .int (mUn u (tn (u 0 1)) (tn (u 0 1)))), (2, .int (if ((itG mPs q (0, x.2.1, x.2.2)).1) = 0 then (if ((mRaise (itG mPs q (0, x.2.1, x.2.2)).2.2 q).1) = 0 then (0 : Int32) else (1 : Int32)) else (1 : Int32))), (3, .int (if ((itG mPs q (0, x.2.1, x.2.2)).2.1) = 0 then (0 : Int32) else (if 8 < (((mRaise (itG mPs q (0, x.2.1, x.2.2)).2.2 q).2) 3 (tn ((mRaise (itG mPs q (0, x.2.1, x.2.2)).2.2 q).2 16 (5 * q)))) then (0 : Int32) else (1 : Int32)))), (4, .int (nI (q + 1))), (5, .int ((mRaise (itG mPs q (0, x.2.1, x.2.2)).2.2 q).1))]) hC d_D_findFault_132 4 rfl (nI_1 _) (by decide) rfl rfl ?_
        refine j_goto (tgt := 71) hC d_D_findFault_135 (by decide) ?_
        have k9 := ih (q + 1) (by omega) (by omega)
        rw [itG_s] at k9
        exact j_locals [0, 1, 2, 3, 4] rfl k9
  have whl : jJ p l e ({ frames := 2, cells := 0, slots := 0, locals := 46 }) s m [.ref (g 0)].toArray below meth c 6 (dC, dI) jcl A (hxQ below (jQ (dC, dI) jcl (jRet (some (.int ((mFF u).1))) (mw g k ((mFF u).2))) A) [.ref (g 0)].toArray s 0 0 A) 0 0 (mw g k (mWl mWlf (1, 1, mZ u)).2.2) [(0, .ref (g 0)), (1, .int (mUn u (tn (u 0 1)) (tn (u 0 1)))), (2, .int ((mWl mWlf (1, 1, mZ u)).1)), (3, .int ((mWl mWlf (1, 1, mZ u)).2.1))] [] 141 → ∀ (n : Nat) (x : Int32 × Int32 × jU), kp [3] u x.2.2 → mWl n x = mWl mWlf (1, 1, mZ u) → jJ p l e ({ frames := 2, cells := 0, slots := 0, locals := 46 }) s m [.ref (g 0)].toArray below meth c 6 (dC, dI) jcl A (hxQ below (jQ (dC, dI) jcl (jRet (some (.int ((mFF u).1))) (mw g k ((mFF u).2))) A) [.ref (g 0)].toArray s 0 0 A) 0 0 (mw g k x.2.2) [(0, .ref (g 0)), (1, .int (mUn u (tn (u 0 1)) (tn (u 0 1)))), (2, .int x.1), (3, .int x.2.1)] [] 58 := by
    intro hk n
    induction n with
    | zero =>
      intro x hx3 hinv
      replace hinv : x = mWl mWlf (1, 1, mZ u) := hinv
      have hE9 : mEnd x := hinv ▸ hE
      subst hinv
      refine j_iload_n hC d_D_findFault_58 rfl 2 rfl ?_
      refine j_if_eq (tgt := 141) hC d_D_findFault_59 (by decide) (fun h59 => ?_) (fun h59 => ?_)
      · exact hk
      · refine j_iload_n hC d_D_findFault_62 rfl 3 rfl ?_
        refine j_if_eq (tgt := 141) hC d_D_findFault_63 (by decide) (fun h63 => ?_) (fun h63 => ?_)
        · exact hk
        · exact absurd hE9 (fun z => z.elim h59 h63)
    | succ n ih =>
      intro x hx3 hinv
      refine j_iload_n hC d_D_findFault_58 rfl 2 rfl ?_
      refine j_if_eq (tgt := 141) hC d_D_findFault_59 (by decide) (fun h59 => ?_) (fun h59 => ?_)
      · have hx : x = mWl mWlf (1, 1, mZ u) := (mWl_stop (Or.inl h59)).symm.trans hinv
        subst hx
        exact hk
      · refine j_iload_n hC d_D_findFault_62 rfl 3 rfl ?_
        refine j_if_eq (tgt := 141) hC d_D_findFault_63 (by decide) (fun h63 => ?_) (fun h63 => ?_)
        · have hx : x = mWl mWlf (1, 1, mZ u) := (mWl_stop (Or.inr h63)).symm.trans hinv
          subst hx
          exact hk
        · refine j_iconst (v := 0) hC d_D_findFault_66 (by decide) ?_
          refine j_istore_n (lv' := [(0, .ref (g 0)), (1, .int (mUn u (tn (u 0 1)) (tn (u 0 1)))), (2, .int 0), (3, .int x.2.1)]) hC d_D_findFault_67 rfl (by decide) rfl rfl ?_
          refine j_iconst (v := 0) hC d_D_findFault_68 (by decide) ?_
          refine j_istore (lv' := [(0, .ref (g 0)), (1, .int (mUn u (tn (u 0 1)) (tn (u 0 1)))), (2, .int 0), (3, .int x.2.1), (4, .int 0)]) hC d_D_findFault_69 (by decide) rfl rfl ?_
          refine pass x hx3 ?_ 18 0 (by omega) (by omega)
          refine j_goto (tgt := 58) hC d_D_findFault_138 (by decide) ?_
          exact ih (mPass x) (itPs_kp u (0, x.2.1, x.2.2) hx3 _) (by rw [← hinv, mWl, if_neg h59, if_neg h63])
  refine j_iconst (v := -1) hC d_D_findFault_0 (by decide) ?_
  refine j_istore_n (lv' := [(0, .ref (g 0)), (1, .int (-1))]) hC d_D_findFault_1 rfl (by decide) rfl rfl ?_
  refine j_aload_n hC d_D_findFault_2 rfl 0 rfl ?_
  refine j_get hC hin_D (0) (mw_obj g k u) rfl 5 (by decide) (hC.2.2.2.2.1 _ wf_D_51) (fun _ h9 => h9) rfl d_D_findFault_3 ?_
  refine j_iconst (v := 1) hC d_D_findFault_6 (by decide) ?_
  refine j_isub hC d_D_findFault_7 ?_
  rw [show u 0 1 - 1 = pI (tn (u 0 1)) from pI_pred hD.2.1]
  refine j_istore_n (lv' := [(0, .ref (g 0)), (1, .int (-1)), (2, .int (pI (tn (u 0 1))))]) hC d_D_findFault_8 rfl (by decide) rfl rfl ?_
  refine first ?_ (tn (u 0 1)) (-1) (Nat.le_refl _) (by rw [Nat.sub_self]; rfl)
  refine j_iconst (v := 0) hC d_D_findFault_33 (by decide) ?_
  refine j_istore_n (lv' := [(0, .ref (g 0)), (1, .int (mUn u (tn (u 0 1)) (tn (u 0 1)))), (2, .int 0)]) hC d_D_findFault_34 rfl (by decide) rfl rfl ?_
  refine j_iload_n hC d_D_findFault_35 rfl 2 rfl ?_
  refine j_bipush (v := 8) hC d_D_findFault_36 (by decide) ?_
  refine j_icmp_ge (tgt := 54) hC d_D_findFault_38 (by decide) (fun h38 => absurd h38 (by decide)) (fun h38 => ?_)
  refine j_aload_n hC d_D_findFault_41 rfl 0 rfl ?_
  refine j_get hC hin_D (0) (mw_obj g k u) rfl 11 (by decide) (hC.2.2.2.2.1 _ wf_D_35) (fun _ h9 => h9) rfl d_D_findFault_42 ?_
  refine j_iload_n hC d_D_findFault_45 rfl 2 rfl ?_
  refine j_iconst (v := 0) hC d_D_findFault_46 (by decide) ?_
  refine j_iastN (ws' := mw g k (up u 3 0 0)) hC (9) 0 (mw_layers g k u) rfl (n := 0) (rfl) (by omega) (by decide) (mw_set_layers g k u 0 0) d_D_findFault_47 ?_
  refine j_iinc (lv' := [(0, .ref (g 0)), (1, .int (mUn u (tn (u 0 1)) (tn (u 0 1)))), (2, .int 1)]) hC d_D_findFault_48 2 rfl (by decide) (by decide) rfl rfl ?_
  refine j_goto (tgt := 35) hC d_D_findFault_51 (by decide) ?_
  refine j_iload_n hC d_D_findFault_35 rfl 2 rfl ?_
  refine j_bipush (v := 8) hC d_D_findFault_36 (by decide) ?_
  refine j_icmp_ge (tgt := 54) hC d_D_findFault_38 (by decide) (fun h38 => absurd h38 (by decide)) (fun h38 => ?_)
  refine j_aload_n hC d_D_findFault_41 rfl 0 rfl ?_
  refine j_get hC hin_D (0) (mw_obj g k (up u 3 0 0)) rfl 11 (by decide) (hC.2.2.2.2.1 _ wf_D_35) (fun _ h9 => h9) rfl d_D_findFault_42 ?_
  refine j_iload_n hC d_D_findFault_45 rfl 2 rfl ?_
  refine j_iconst (v := 0) hC d_D_findFault_46 (by decide) ?_
  refine j_iastN (ws' := mw g k (up (up u 3 0 0) 3 1 0)) hC (9) 0 (mw_layers g k (up u 3 0 0)) rfl (n := 1) (rfl) (by omega) (by decide) (mw_set_layers g k (up u 3 0 0) 1 0) d_D_findFault_47 ?_
  refine j_iinc (lv' := [(0, .ref (g 0)), (1, .int (mUn u (tn (u 0 1)) (tn (u 0 1)))), (2, .int 2)]) hC d_D_findFault_48 2 rfl (by decide) (by decide) rfl rfl ?_
  refine j_goto (tgt := 35) hC d_D_findFault_51 (by decide) ?_
  refine j_iload_n hC d_D_findFault_35 rfl 2 rfl ?_
  refine j_bipush (v := 8) hC d_D_findFault_36 (by decide) ?_
  refine j_icmp_ge (tgt := 54) hC d_D_findFault_38 (by decide) (fun h38 => absurd h38 (by decide)) (fun h38 => ?_)
  refine j_aload_n hC d_D_findFault_41 rfl 0 rfl ?_
  refine j_get hC hin_D (0) (mw_obj g k (up (up u 3 0 0) 3 1 0)) rfl 11 (by decide) (hC.2.2.2.2.1 _ wf_D_35) (fun _ h9 => h9) rfl d_D_findFault_42 ?_
  refine j_iload_n hC d_D_findFault_45 rfl 2 rfl ?_
  refine j_iconst (v := 0) hC d_D_findFault_46 (by decide) ?_
  refine j_iastN (ws' := mw g k (up (up (up u 3 0 0) 3 1 0) 3 2 0)) hC (9) 0 (mw_layers g k (up (up u 3 0 0) 3 1 0)) rfl (n := 2) (rfl) (by omega) (by decide) (mw_set_layers g k (up (up u 3 0 0) 3 1 0) 2 0) d_D_findFault_47 ?_
  refine j_iinc (lv' := [(0, .ref (g 0)), (1, .int (mUn u (tn (u 0 1)) (tn (u 0 1)))), (2, .int 3)]) hC d_D_findFault_48 2 rfl (by decide) (by decide) rfl rfl ?_
  refine j_goto (tgt := 35) hC d_D_findFault_51 (by decide) ?_
  refine j_iload_n hC d_D_findFault_35 rfl 2 rfl ?_
  refine j_bipush (v := 8) hC d_D_findFault_36 (by decide) ?_
  refine j_icmp_ge (tgt := 54) hC d_D_findFault_38 (by decide) (fun h38 => absurd h38 (by decide)) (fun h38 => ?_)
  refine j_aload_n hC d_D_findFault_41 rfl 0 rfl ?_
  refine j_get hC hin_D (0) (mw_obj g k (up (up (up u 3 0 0) 3 1 0) 3 2 0)) rfl 11 (by decide) (hC.2.2.2.2.1 _ wf_D_35) (fun _ h9 => h9) rfl d_D_findFault_42 ?_
  refine j_iload_n hC d_D_findFault_45 rfl 2 rfl ?_
  refine j_iconst (v := 0) hC d_D_findFault_46 (by decide) ?_
  refine j_iastN (ws' := mw g k (up (up (up (up u 3 0 0) 3 1 0) 3 2 0) 3 3 0)) hC (9) 0 (mw_layers g k (up (up (up u 3 0 0) 3 1 0) 3 2 0)) rfl (n := 3) (rfl) (by omega) (by decide) (mw_set_layers g k (up (up (up u 3 0 0) 3 1 0) 3 2 0) 3 0) d_D_findFault_47 ?_
  refine j_iinc (lv' := [(0, .ref (g 0)), (1, .int (mUn u (tn (u 0 1)) (tn (u 0 1)))), (2, .int 4)]) hC d_D_findFault_48 2 rfl (by decide) (by decide) rfl rfl ?_
  refine j_goto (tgt := 35) hC d_D_findFault_51 (by decide) ?_
  refine j_iload_n hC d_D_findFault_35 rfl 2 rfl ?_
  refine j_bipush (v := 8) hC d_D_findFault_36 (by decide) ?_
  refine j_icmp_ge (tgt := 54) hC d_D_findFault_38 (by decide) (fun h38 => absurd h38 (by decide)) (fun h38 => ?_)
  refine j_aload_n hC d_D_findFault_41 rfl 0 rfl ?_
  refine j_get hC hin_D (0) (mw_obj g k (up (up (up (up u 3 0 0) 3 1 0) 3 2 0) 3 3 0)) rfl 11 (by decide) (hC.2.2.2.2.1 _ wf_D_35) (fun _ h9 => h9) rfl d_D_findFault_42 ?_
  refine j_iload_n hC d_D_findFault_45 rfl 2 rfl ?_
  refine j_iconst (v := 0) hC d_D_findFault_46 (by decide) ?_
  refine j_iastN (ws' := mw g k (up (up (up (up (up u 3 0 0) 3 1 0) 3 2 0) 3 3 0) 3 4 0)) hC (9) 0 (mw_layers g k (up (up (up (up u 3 0 0) 3 1 0) 3 2 0) 3 3 0)) rfl (n := 4) (rfl) (by omega) (by decide) (mw_set_layers g k (up (up (up (up u 3 0 0) 3 1 0) 3 2 0) 3 3 0) 4 0) d_D_findFault_47 ?_
  refine j_iinc (lv' := [(0, .ref (g 0)), (1, .int (mUn u (tn (u 0 1)) (tn (u 0 1)))), (2, .int 5)]) hC d_D_findFault_48 2 rfl (by decide) (by decide) rfl rfl ?_
  refine j_goto (tgt := 35) hC d_D_findFault_51 (by decide) ?_
  refine j_iload_n hC d_D_findFault_35 rfl 2 rfl ?_
  refine j_bipush (v := 8) hC d_D_findFault_36 (by decide) ?_
  refine j_icmp_ge (tgt := 54) hC d_D_findFault_38 (by decide) (fun h38 => absurd h38 (by decide)) (fun h38 => ?_)
  refine j_aload_n hC d_D_findFault_41 rfl 0 rfl ?_
  refine j_get hC hin_D (0) (mw_obj g k (up (up (up (up (up u 3 0 0) 3 1 0) 3 2 0) 3 3 0) 3 4 0)) rfl 11 (by decide) (hC.2.2.2.2.1 _ wf_D_35) (fun _ h9 => h9) rfl d_D_findFault_42 ?_
  refine j_iload_n hC d_D_findFault_45 rfl 2 rfl ?_
  refine j_iconst (v := 0) hC d_D_findFault_46 (by decide) ?_
  refine j_iastN (ws' := mw g k (up (up (up (up (up (up u 3 0 0) 3 1 0) 3 2 0) 3 3 0) 3 4 0) 3 5 0)) hC (9) 0 (mw_layers g k (up (up (up (up (up u 3 0 0) 3 1 0) 3 2 0) 3 3 0) 3 4 0)) rfl (n := 5) (rfl) (by omega) (by decide) (mw_set_layers g k (up (up (up (up (up u 3 0 0) 3 1 0) 3 2 0) 3 3 0) 3 4 0) 5 0) d_D_findFault_47 ?_
  refine j_iinc (lv' := [(0, .ref (g 0)), (1, .int (mUn u (tn (u 0 1)) (tn (u 0 1)))), (2, .int 6)]) hC d_D_findFault_48 2 rfl (by decide) (by decide) rfl rfl ?_
  refine j_goto (tgt := 35) hC d_D_findFault_51 (by decide) ?_
  refine j_iload_n hC d_D_findFault_35 rfl 2 rfl ?_
  refine j_bipush (v := 8) hC d_D_findFault_36 (by decide) ?_
  refine j_icmp_ge (tgt := 54) hC d_D_findFault_38 (by decide) (fun h38 => absurd h38 (by decide)) (fun h38 => ?_)
  refine j_aload_n hC d_D_findFault_41 rfl 0 rfl ?_
  refine j_get hC hin_D (0) (mw_obj g k (up (up (up (up (up (up u 3 0 0) 3 1 0) 3 2 0) 3 3 0) 3 4 0) 3 5 0)) rfl 11 (by decide) (hC.2.2.2.2.1 _ wf_D_35) (fun _ h9 => h9) rfl d_D_findFault_42 ?_
  refine j_iload_n hC d_D_findFault_45 rfl 2 rfl ?_
  refine j_iconst (v := 0) hC d_D_findFault_46 (by decide) ?_
  refine j_iastN (ws' := mw g k (up (up (up (up (up (up (up u 3 0 0) 3 1 0) 3 2 0) 3 3 0) 3 4 0) 3 5 0) 3 6 0)) hC (9) 0 (mw_layers g k (up (up (up (up (up (up u 3 0 0) 3 1 0) 3 2 0) 3 3 0) 3 4 0) 3 5 0)) rfl (n := 6) (rfl) (by omega) (by decide) (mw_set_layers g k (up (up (up (up (up (up u 3 0 0) 3 1 0) 3 2 0) 3 3 0) 3 4 0) 3 5 0) 6 0) d_D_findFault_47 ?_
  refine j_iinc (lv' := [(0, .ref (g 0)), (1, .int (mUn u (tn (u 0 1)) (tn (u 0 1)))), (2, .int 7)]) hC d_D_findFault_48 2 rfl (by decide) (by decide) rfl rfl ?_
  refine j_goto (tgt := 35) hC d_D_findFault_51 (by decide) ?_
  refine j_iload_n hC d_D_findFault_35 rfl 2 rfl ?_
  refine j_bipush (v := 8) hC d_D_findFault_36 (by decide) ?_
  refine j_icmp_ge (tgt := 54) hC d_D_findFault_38 (by decide) (fun h38 => absurd h38 (by decide)) (fun h38 => ?_)
  refine j_aload_n hC d_D_findFault_41 rfl 0 rfl ?_
  refine j_get hC hin_D (0) (mw_obj g k (up (up (up (up (up (up (up u 3 0 0) 3 1 0) 3 2 0) 3 3 0) 3 4 0) 3 5 0) 3 6 0)) rfl 11 (by decide) (hC.2.2.2.2.1 _ wf_D_35) (fun _ h9 => h9) rfl d_D_findFault_42 ?_
  refine j_iload_n hC d_D_findFault_45 rfl 2 rfl ?_
  refine j_iconst (v := 0) hC d_D_findFault_46 (by decide) ?_
  refine j_iastN (ws' := mw g k (up (up (up (up (up (up (up (up u 3 0 0) 3 1 0) 3 2 0) 3 3 0) 3 4 0) 3 5 0) 3 6 0) 3 7 0)) hC (9) 0 (mw_layers g k (up (up (up (up (up (up (up u 3 0 0) 3 1 0) 3 2 0) 3 3 0) 3 4 0) 3 5 0) 3 6 0)) rfl (n := 7) (rfl) (by omega) (by decide) (mw_set_layers g k (up (up (up (up (up (up (up u 3 0 0) 3 1 0) 3 2 0) 3 3 0) 3 4 0) 3 5 0) 3 6 0) 7 0) d_D_findFault_47 ?_
  refine j_iinc (lv' := [(0, .ref (g 0)), (1, .int (mUn u (tn (u 0 1)) (tn (u 0 1)))), (2, .int 8)]) hC d_D_findFault_48 2 rfl (by decide) (by decide) rfl rfl ?_
  refine j_goto (tgt := 35) hC d_D_findFault_51 (by decide) ?_
  refine j_iload_n hC d_D_findFault_35 rfl 2 rfl ?_
  refine j_bipush (v := 8) hC d_D_findFault_36 (by decide) ?_
  refine j_icmp_ge (tgt := 54) hC d_D_findFault_38 (by decide) (fun h38 => ?_) (fun h38 => absurd h38 (by decide))
  refine j_iconst (v := 1) hC d_D_findFault_54 (by decide) ?_
  refine j_istore_n (lv' := [(0, .ref (g 0)), (1, .int (mUn u (tn (u 0 1)) (tn (u 0 1)))), (2, .int 1)]) hC d_D_findFault_55 rfl (by decide) rfl rfl ?_
  refine j_iconst (v := 1) hC d_D_findFault_56 (by decide) ?_
  refine j_istore_n (lv' := [(0, .ref (g 0)), (1, .int (mUn u (tn (u 0 1)) (tn (u 0 1)))), (2, .int 1), (3, .int 1)]) hC d_D_findFault_57 rfl (by decide) rfl rfl ?_
  refine whl ?_ mWlf (1, 1, mZ u) (mZ_kp u) rfl
  refine j_iload_n hC d_D_findFault_141 rfl 1 rfl ?_
  suffices hk142 : jJ p l e ({ frames := 2, cells := 0, slots := 0, locals := 46 }) s m [.ref (g 0)].toArray below meth c 6 (dC, dI) jcl A (hxQ below (jQ (dC, dI) jcl (jRet (some (.int ((mFF u).1))) (mw g k ((mFF u).2))) A) [.ref (g 0)].toArray s 0 0 A) 0 0 (mw g k ((mWl mWlf (1, 1, mZ u)).2.2)) [(0, .ref (g 0)), (1, .int (mUn u (tn (u 0 1)) (tn (u 0 1)))), (2, .int ((mWl mWlf (1, 1, mZ u)).1)), (3, .int ((mWl mWlf (1, 1, mZ u)).2.1))] [.int (if (mUn u (tn (u 0 1)) (tn (u 0 1))) < 0 then (if ((mWl mWlf (1, 1, mZ u)).2.1) = 0 then (100 : Int32) else (-1 : Int32)) else (mUn u (tn (u 0 1)) (tn (u 0 1))))] 159 by
    refine j_if_lt (tgt := 149) hC d_D_findFault_142 (by decide) (fun h142 => ?_) (fun h142 => ?_)
    · refine j_iload_n hC d_D_findFault_149 rfl 3 rfl ?_
      suffices hk150 : jJ p l e ({ frames := 2, cells := 0, slots := 0, locals := 46 }) s m [.ref (g 0)].toArray below meth c 6 (dC, dI) jcl A (hxQ below (jQ (dC, dI) jcl (jRet (some (.int ((mFF u).1))) (mw g k ((mFF u).2))) A) [.ref (g 0)].toArray s 0 0 A) 0 0 (mw g k ((mWl mWlf (1, 1, mZ u)).2.2)) [(0, .ref (g 0)), (1, .int (mUn u (tn (u 0 1)) (tn (u 0 1)))), (2, .int ((mWl mWlf (1, 1, mZ u)).1)), (3, .int ((mWl mWlf (1, 1, mZ u)).2.1))] [.int (if ((mWl mWlf (1, 1, mZ u)).2.1) = 0 then (100 : Int32) else (-1 : Int32))] 159 by
        refine j_if_eq (tgt := 157) hC d_D_findFault_150 (by decide) (fun h150 => ?_) (fun h150 => ?_)
        · refine j_bipush (v := 100) hC d_D_findFault_157 (by decide) ?_
          exact j_top ((if_pos h150)) hk150
        · refine j_iconst (v := -1) hC d_D_findFault_153 (by decide) ?_
          refine j_goto (tgt := 159) hC d_D_findFault_154 (by decide) ?_
          exact j_top ((if_neg h150)) hk150
      exact j_top ((if_pos h142)) hk142
    · refine j_iload_n hC d_D_findFault_145 rfl 1 rfl ?_
      refine j_goto (tgt := 159) hC d_D_findFault_146 (by decide) ?_
      exact j_top ((if_neg h142)) hk142
  exact j_iret hC hr ⟨rfl, rfl, rfl⟩ d_D_findFault_159

set_option maxHeartbeats 4000000 in
set_option maxRecDepth 100000 in
theorem r_round (l : Launch) (dC : Nat → ClassId) (dI : Nat → Nat → Nat) (g k : Nat → Nat) (tl : List (ClassId × FieldType)) (u : jU) (hD : wfD u) (ly rd : Int32) : jMet l y_D_round (.code y_D_round c_D_round 7 (some .boolean)) ({ frames := 3, cells := 0, slots := 0, locals := 73 }) (dC, dI) jcl (mtys k tl) jTs [.ref (g 0), .int ly, .int rd] (mw g k u) 0 0 (jRet (some (.int ((mRound ly rd u).1))) (mw g k ((mRound ly rd u).2))) := by
  refine jMet.of (by decide) (Nat.le_of_ble_eq_true rfl) ?_
  intro p e s m below meth c A hC hex hr hnm htr
  show jJ p l e ({ frames := 3, cells := 0, slots := 0, locals := 73 }) s m [.ref (g 0), .int ly, .int rd].toArray below meth c 7 (dC, dI) jcl A (hxQ below (jQ (dC, dI) jcl (jRet (some (.int ((mRound ly rd u).1))) (mw g k ((mRound ly rd u).2))) A) [.ref (g 0), .int ly, .int rd].toArray s 0 0 A) 0 0 (mw g k u) [(0, .ref (g 0)), (1, .int ly), (2, .int rd)] [] 0
  have hK := hD.2.1
  have hK2 := hK.2
  have inst : ∀ (i : Nat), i < 16 → ∀ (X : Int32 × jU), jJ p l e ({ frames := 3, cells := 0, slots := 0, locals := 73 }) s m [.ref (g 0), .int ly, .int rd].toArray below meth c 7 (dC, dI) jcl A (hxQ below (jQ (dC, dI) jcl (jRet (some (.int ((mRound ly rd u).1))) (mw g k ((mRound ly rd u).2))) A) [.ref (g 0), .int ly, .int rd].toArray s 0 0 A) 0 0 (mw g k X.2) [(0, .ref (g 0)), (1, .int ly), (2, .int rd), (3, .int X.1), (4, .int (nI i))] [] 97 → ∀ (f n : Nat) (z : Int32) (v : jU), mE u v → 20736 < n + f → 1 ≤ f → n ≤ 41472 → mRn i f n z v = X → jJ p l e ({ frames := 3, cells := 0, slots := 0, locals := 73 }) s m [.ref (g 0), .int ly, .int rd].toArray below meth c 7 (dC, dI) jcl A (hxQ below (jQ (dC, dI) jcl (jRet (some (.int ((mRound ly rd u).1))) (mw g k ((mRound ly rd u).2))) A) [.ref (g 0), .int ly, .int rd].toArray s 0 0 A) 0 0 (mw g k v) [(0, .ref (g 0)), (1, .int ly), (2, .int rd), (3, .int z), (4, .int (nI i)), (5, .int (nI n))] [] 35 := by
    intro i hi X hk f
    induction f with
    | zero => intro n z v _ h1 h2; exact absurd h2 (by omega)
    | succ f ih =>
      intro n z v hv hn hf1 hn2 hinv
      have hDv := hv.wf hD
      refine j_aload_n hC d_D_round_35 rfl 0 rfl ?_
      refine j_iload hC d_D_round_36 4 rfl ?_
      refine j_iload hC d_D_round_38 5 rfl ?_
      refine j_callVr (As := [.int (nI i), .int (nI n)]) (rest := []) (st1 := [.int ((mInst v i n).1)]) hC (r_inst l dC dI g k tl v (i := i) hi (hDv.2.2.1 i hi) (n := n) (by omega)) rfl rfl ww_D_106 yn_D_instance (mw_obj g k v) rfl rfl d_D_round_40 (Nat.le_of_ble_eq_true rfl) (by decide) ⟨Nat.zero_le _, Nat.zero_le _⟩ rfl ?_
      refine j_if_eq (tgt := 97) hC d_D_round_43 (by decide) (fun h43 => ?_) (fun h43 => ?_)
      · rw [mRn, if_pos h43] at hinv
        subst hinv
        exact j_locals [0, 1, 2, 3, 4] rfl hk
      · have hn9 : n < 20736 := mInst_end (by omega) h43
        have hbr := fun z => (hv.inst i n).rb i z
        have hDw := (hv.inst i n).wf hD
        have hBw := hDw.2.2.2.1 (5 * i) (by omega)
        have hFw := mFact_lt hBw hDw.2.2.2.2.1
        refine j_aload_n hC d_D_round_46 rfl 0 rfl ?_
        refine j_iconst (v := 5) hC d_D_round_47 (by decide) ?_
        refine j_iload hC d_D_round_48 4 rfl ?_
        refine j_imul hC d_D_round_50 ?_
        refine j_top (v := nI (5 * i)) (pk_mul 5 i).symm ?_
        refine j_callVr (As := [.int (nI (5 * i))]) (rest := []) (st1 := [.int (nI (mFact ((mInst v i n).2) (5 * i)))]) hC (r_factOf l dC dI g k tl ((mInst v i n).2) (j := 5 * i) (by omega) hBw hDw.2.2.2.2.1) rfl rfl ww_D_100 yn_D_factOf (mw_obj g k ((mInst v i n).2)) rfl rfl d_D_round_51 (Nat.le_of_ble_eq_true rfl) (by decide) ⟨Nat.zero_le _, Nat.zero_le _⟩ rfl ?_
        refine j_istore (lv' := [(0, .ref (g 0)), (1, .int ly), (2, .int rd), (3, .int z), (4, .int (nI i)), (5, .int (nI n)), (6, .int (nI (mFact ((mInst v i n).2) (5 * i))))]) hC d_D_round_54 (by decide) rfl rfl ?_
        refine j_aload_n hC d_D_round_56 rfl 0 rfl ?_
        refine j_iload hC d_D_round_57 6 rfl ?_
        refine j_callVr (As := [.int (nI (mFact ((mInst v i n).2) (5 * i)))]) (rest := []) (st1 := [.int (m_holds ((mInst v i n).2) (mFact ((mInst v i n).2) (5 * i)))]) hC (r_holds l dC dI g k tl ((mInst v i n).2) (f := mFact ((mInst v i n).2) (5 * i)) hFw) rfl rfl ww_D_103 yn_D_holds (mw_obj g k ((mInst v i n).2)) rfl rfl d_D_round_59 (Nat.le_of_ble_eq_true rfl) (by decide) ⟨Nat.zero_le _, Nat.zero_le _⟩ rfl ?_
        refine j_if_ne (tgt := 84) hC d_D_round_62 (by decide) (fun h62 => ?_) (fun h62 => ?_)
        · have eb : mRb i z ((mInst v i n).2) = (z, (mInst v i n).2) := by rw [mRb, if_neg h62]
          have hEb : mE u ((mInst v i n).2) := by have h9 := hbr z; rw [eb] at h9; exact h9
          have hDb := hEb.wf hD
          have hbb := mBeh_b ((mInst v i n).2) i n
          refine j_aload_n hC d_D_round_84 rfl 0 rfl ?_
          refine j_iload hC d_D_round_85 4 rfl ?_
          refine j_iload hC d_D_round_87 5 rfl ?_
          refine j_callVr (As := [.int (nI i), .int (nI n)]) (rest := []) (st1 := [.int (nI (mBeh ((mInst v i n).2) i n))]) hC (r_behind l dC dI g k tl ((mInst v i n).2) (i := i) hi hDb (n := n) (by omega)) rfl rfl ww_D_113 yn_D_behind (mw_obj g k ((mInst v i n).2)) rfl rfl d_D_round_89 (Nat.le_of_ble_eq_true rfl) (by decide) ⟨Nat.zero_le _, Nat.zero_le _⟩ rfl ?_
          refine j_istore (lv' := [(0, .ref (g 0)), (1, .int ly), (2, .int rd), (3, .int z), (4, .int (nI i)), (5, .int (nI (mBeh ((mInst v i n).2) i n))), (6, .int (nI (mFact ((mInst v i n).2) (5 * i))))]) hC d_D_round_92 (by decide) rfl rfl ?_
          refine j_goto (tgt := 35) hC d_D_round_94 (by decide) ?_
          exact j_locals [0, 1, 2, 3, 4, 5] rfl (ih (mBeh ((mInst v i n).2) i n) z ((mInst v i n).2) hEb (by omega) (by omega) (by omega) (by rw [← hinv, mRn, if_neg h43, eb]))
        · refine j_aload_n hC d_D_round_65 rfl 0 rfl ?_
          refine j_iload hC d_D_round_66 4 rfl ?_
          refine j_callVr (As := [.int (nI i)]) (rest := []) (st1 := [.int (mMet ((mInst v i n).2) i)]) hC (r_met l dC dI g k tl ((mInst v i n).2) (i := i) hi hDw) rfl rfl ww_D_110 yn_D_isMet (mw_obj g k ((mInst v i n).2)) rfl rfl d_D_round_68 (Nat.le_of_ble_eq_true rfl) (by decide) ⟨Nat.zero_le _, Nat.zero_le _⟩ rfl ?_
          refine j_if_eq (tgt := 84) hC d_D_round_71 (by decide) (fun h71 => ?_) (fun h71 => ?_)
          · have eb : mRb i z ((mInst v i n).2) = (z, (mInst v i n).2) := by rw [mRb, if_pos h62, if_pos h71]
            have hEb : mE u ((mInst v i n).2) := by have h9 := hbr z; rw [eb] at h9; exact h9
            have hDb := hEb.wf hD
            have hbb := mBeh_b ((mInst v i n).2) i n
            refine j_aload_n hC d_D_round_84 rfl 0 rfl ?_
            refine j_iload hC d_D_round_85 4 rfl ?_
            refine j_iload hC d_D_round_87 5 rfl ?_
            refine j_callVr (As := [.int (nI i), .int (nI n)]) (rest := []) (st1 := [.int (nI (mBeh ((mInst v i n).2) i n))]) hC (r_behind l dC dI g k tl ((mInst v i n).2) (i := i) hi hDb (n := n) (by omega)) rfl rfl ww_D_113 yn_D_behind (mw_obj g k ((mInst v i n).2)) rfl rfl d_D_round_89 (Nat.le_of_ble_eq_true rfl) (by decide) ⟨Nat.zero_le _, Nat.zero_le _⟩ rfl ?_
            refine j_istore (lv' := [(0, .ref (g 0)), (1, .int ly), (2, .int rd), (3, .int z), (4, .int (nI i)), (5, .int (nI (mBeh ((mInst v i n).2) i n))), (6, .int (nI (mFact ((mInst v i n).2) (5 * i))))]) hC d_D_round_92 (by decide) rfl rfl ?_
            refine j_goto (tgt := 35) hC d_D_round_94 (by decide) ?_
            exact j_locals [0, 1, 2, 3, 4, 5] rfl (ih (mBeh ((mInst v i n).2) i n) z ((mInst v i n).2) hEb (by omega) (by omega) (by omega) (by rw [← hinv, mRn, if_neg h43, eb]))
          · refine j_aload_n hC d_D_round_74 rfl 0 rfl ?_
            refine j_get hC hin_D (0) (mw_obj g k ((mInst v i n).2)) rfl 15 (by decide) (hC.2.2.2.2.1 _ wf_D_41) (fun _ h9 => h9) rfl d_D_round_75 ?_
            refine j_iload hC d_D_round_78 6 rfl ?_
            refine j_iconst (v := 1) hC d_D_round_80 (by decide) ?_
            refine j_zastN (ws' := mw g k (up ((mInst v i n).2) 5 (mFact ((mInst v i n).2) (5 * i)) 1)) hC (11) 3 (mw_news g k ((mInst v i n).2)) rfl (n := mFact ((mInst v i n).2) (5 * i)) (nar_1) (rfl) (hFw) (by decide) (mw_set_news g k ((mInst v i n).2) (mFact ((mInst v i n).2) (5 * i)) 1) d_D_round_81 ?_
            refine j_iconst (v := 1) hC d_D_round_82 (by decide) ?_
            refine j_istore_n (lv' := [(0, .ref (g 0)), (1, .int ly), (2, .int rd), (3, .int 1), (4, .int (nI i)), (5, .int (nI n)), (6, .int (nI (mFact ((mInst v i n).2) (5 * i))))]) hC d_D_round_83 rfl (by decide) rfl rfl ?_
            have eb : mRb i z ((mInst v i n).2) = (1, up ((mInst v i n).2) 5 (mFact ((mInst v i n).2) (5 * i)) 1) := by rw [mRb, if_pos h62, if_neg h71]
            have hEb : mE u (up ((mInst v i n).2) 5 (mFact ((mInst v i n).2) (5 * i)) 1) := by have h9 := hbr z; rw [eb] at h9; exact h9
            have hDb := hEb.wf hD
            have hbb := mBeh_b (up ((mInst v i n).2) 5 (mFact ((mInst v i n).2) (5 * i)) 1) i n
            refine j_aload_n hC d_D_round_84 rfl 0 rfl ?_
            refine j_iload hC d_D_round_85 4 rfl ?_
            refine j_iload hC d_D_round_87 5 rfl ?_
            refine j_callVr (As := [.int (nI i), .int (nI n)]) (rest := []) (st1 := [.int (nI (mBeh (up ((mInst v i n).2) 5 (mFact ((mInst v i n).2) (5 * i)) 1) i n))]) hC (r_behind l dC dI g k tl (up ((mInst v i n).2) 5 (mFact ((mInst v i n).2) (5 * i)) 1) (i := i) hi hDb (n := n) (by omega)) rfl rfl ww_D_113 yn_D_behind (mw_obj g k (up ((mInst v i n).2) 5 (mFact ((mInst v i n).2) (5 * i)) 1)) rfl rfl d_D_round_89 (Nat.le_of_ble_eq_true rfl) (by decide) ⟨Nat.zero_le _, Nat.zero_le _⟩ rfl ?_
            refine j_istore (lv' := [(0, .ref (g 0)), (1, .int ly), (2, .int rd), (3, .int 1), (4, .int (nI i)), (5, .int (nI (mBeh (up ((mInst v i n).2) 5 (mFact ((mInst v i n).2) (5 * i)) 1) i n))), (6, .int (nI (mFact ((mInst v i n).2) (5 * i))))]) hC d_D_round_92 (by decide) rfl rfl ?_
            refine j_goto (tgt := 35) hC d_D_round_94 (by decide) ?_
            exact j_locals [0, 1, 2, 3, 4, 5] rfl (ih (mBeh (up ((mInst v i n).2) 5 (mFact ((mInst v i n).2) (5 * i)) 1) i n) 1 (up ((mInst v i n).2) 5 (mFact ((mInst v i n).2) (5 * i)) 1) hEb (by omega) (by omega) (by omega) (by rw [← hinv, mRn, if_neg h43, eb]))
  have rules : jJ p l e ({ frames := 3, cells := 0, slots := 0, locals := 73 }) s m [.ref (g 0), .int ly, .int rd].toArray below meth c 7 (dC, dI) jcl A (hxQ below (jQ (dC, dI) jcl (jRet (some (.int ((mRound ly rd u).1))) (mw g k ((mRound ly rd u).2))) A) [.ref (g 0), .int ly, .int rd].toArray s 0 0 A) 0 0 (mw g k (itG (mRk ly) (tn (u 0 1)) (0, u)).2) [(0, .ref (g 0)), (1, .int ly), (2, .int rd), (3, .int ((itG (mRk ly) (tn (u 0 1)) (0, u)).1))] [] 103 → ∀ (n i : Nat), i ≤ tn (u 0 1) → tn (u 0 1) < i + n → jJ p l e ({ frames := 3, cells := 0, slots := 0, locals := 73 }) s m [.ref (g 0), .int ly, .int rd].toArray below meth c 7 (dC, dI) jcl A (hxQ below (jQ (dC, dI) jcl (jRet (some (.int ((mRound ly rd u).1))) (mw g k ((mRound ly rd u).2))) A) [.ref (g 0), .int ly, .int rd].toArray s 0 0 A) 0 0 (mw g k (itG (mRk ly) i (0, u)).2) [(0, .ref (g 0)), (1, .int ly), (2, .int rd), (3, .int ((itG (mRk ly) i (0, u)).1)), (4, .int (nI i))] [] 5 := by
    intro hk n
    induction n with
    | zero => intro i h1 h2; exact absurd h2 (by omega)
    | succ n ih =>
      intro i hi9 hn
      have hEz : mE u (itG (mRk ly) i (0, u)).2 := mE.rks ly i 0 (mE.rf hD.2.2.2.2.1)
      have hDz := hEz.wf hD
      have hz0 : (itG (mRk ly) i (0, u)).2 0 1 = u 0 1 := by rw [hEz.1 0 (by decide)]
      refine j_iload hC d_D_round_5 4 rfl ?_
      refine j_aload_n hC d_D_round_7 rfl 0 rfl ?_
      refine j_get hC hin_D (0) (mw_obj g k ((itG (mRk ly) i (0, u)).2)) rfl 5 (by decide) (hC.2.2.2.2.1 _ wf_D_51) (fun _ h9 => h9) rfl d_D_round_8 ?_
      refine j_icmp_ge (tgt := 103) hC d_D_round_11 (by decide) (fun h11 => ?_) (fun h11 => ?_)
      · have hge : tn (u 0 1) ≤ i := (inN_leN hK (by decide) (by omega)).mp (by rw [← hz0]; exact h11)
        have hie : i = tn (u 0 1) := by omega
        subst hie
        exact j_locals [0, 1, 2, 3] rfl hk
      · have hlt : i < tn (u 0 1) := Nat.not_le.mp (fun z => h11 (by rw [hz0]; exact (inN_leN hK (by decide) (by omega)).mpr z))
        have hi : i < 16 := by omega
        have hBz := hDz.2.2.2.1 (5 * i) (by omega)
        refine j_aload_n hC d_D_round_14 rfl 0 rfl ?_
        refine j_get hC hin_D (0) (mw_obj g k ((itG (mRk ly) i (0, u)).2)) rfl 11 (by decide) (hC.2.2.2.2.1 _ wf_D_35) (fun _ h9 => h9) rfl d_D_round_15 ?_
        refine j_aload_n hC d_D_round_18 rfl 0 rfl ?_
        refine j_get hC hin_D (0) (mw_obj g k ((itG (mRk ly) i (0, u)).2)) rfl 7 (by decide) (hC.2.2.2.2.1 _ wf_D_23) (fun _ h9 => h9) rfl d_D_round_19 ?_
        refine j_iconst (v := 5) hC d_D_round_22 (by decide) ?_
        refine j_iload hC d_D_round_23 4 rfl ?_
        refine j_imul hC d_D_round_25 ?_
        refine j_top (v := nI (5 * i)) (pk_mul 5 i).symm ?_
        refine j_ialdN hC (5) 0 (mw_of g k ((itG (mRk ly) i (0, u)).2)) rfl (n := 5 * i) (rfl) (by omega) (by decide) d_D_round_26 ?_
        refine j_ialdN hC (9) 0 (mw_layers g k ((itG (mRk ly) i (0, u)).2)) rfl (n := tn ((itG (mRk ly) i (0, u)).2 16 (5 * i))) (hBz.1.1) (hBz.1.2) (by decide) d_D_round_27 ?_
        refine j_iload_n hC d_D_round_28 rfl 1 rfl ?_
        refine j_icmp_ne (tgt := 97) hC d_D_round_29 (by decide) (fun h29 => ?_) (fun h29 => ?_)
        · refine j_iinc (lv' := [(0, .ref (g 0)), (1, .int ly), (2, .int rd), (3, .int ((itG (mRk ly) i (0, u)).1)), (4, .int (nI (i + 1)))]) hC d_D_round_97 4 rfl (nI_1 _) (by decide) rfl rfl ?_
          refine j_goto (tgt := 5) hC d_D_round_100 (by decide) ?_
          have e9 : itG (mRk ly) (i + 1) (0, u) = itG (mRk ly) i (0, u) := by rw [itG_s, mRk, if_neg h29]
          have k9 := ih (i + 1) (by omega) (by omega)
          rw [e9] at k9
          exact k9
        · refine j_iconst (v := 0) hC d_D_round_32 (by decide) ?_
          refine j_istore (lv' := [(0, .ref (g 0)), (1, .int ly), (2, .int rd), (3, .int ((itG (mRk ly) i (0, u)).1)), (4, .int (nI i)), (5, .int 0)]) hC d_D_round_33 (by decide) rfl rfl ?_
          have e9 : itG (mRk ly) (i + 1) (0, u) = mRn i mFuel 0 (itG (mRk ly) i (0, u)).1 (itG (mRk ly) i (0, u)).2 := by rw [itG_s, mRk, if_pos h29]
          refine inst i hi (itG (mRk ly) (i + 1) (0, u)) ?_ mFuel 0 (itG (mRk ly) i (0, u)).1 (itG (mRk ly) i (0, u)).2 hEz (by decide) (by decide) (by decide) e9.symm
          refine j_iinc (lv' := [(0, .ref (g 0)), (1, .int ly), (2, .int rd), (3, .int ((itG (mRk ly) (i + 1) (0, u)).1)), (4, .int (nI (i + 1)))]) hC d_D_round_97 4 rfl (nI_1 _) (by decide) rfl rfl ?_
          refine j_goto (tgt := 5) hC d_D_round_100 (by decide) ?_
          exact ih (i + 1) (by omega) (by omega)
  have last : ∀ (n f : Nat), f ≤ 1152 → 1152 < f + n → jJ p l e ({ frames := 3, cells := 0, slots := 0, locals := 73 }) s m [.ref (g 0), .int ly, .int rd].toArray below meth c 7 (dC, dI) jcl A (hxQ below (jQ (dC, dI) jcl (jRet (some (.int ((mRound ly rd u).1))) (mw g k ((mRound ly rd u).2))) A) [.ref (g 0), .int ly, .int rd].toArray s 0 0 A) 0 0 (mw g k (itN (mNw rd) f (itG (mRk ly) (tn (u 0 1)) (0, u)).2)) [(0, .ref (g 0)), (1, .int ly), (2, .int rd), (3, .int ((itG (mRk ly) (tn (u 0 1)) (0, u)).1)), (4, .int (nI f))] [] 106 := by
    intro n
    induction n with
    | zero => intro f h1 h2; exact absurd h2 (by omega)
    | succ n ih =>
      intro f hf hn
      refine j_iload hC d_D_round_106 4 rfl ?_
      refine j_sipush (v := 1152) hC d_D_round_108 (by decide) ?_
      refine j_icmp_ge (tgt := 156) hC d_D_round_111 (by decide) (fun h111 => ?_) (fun h111 => ?_)
      · have hge : 1152 ≤ f := (ge1152 (by omega)).mp h111
        have hfe : f = 1152 := by omega
        refine j_iload_n hC d_D_round_156 rfl 3 rfl ?_
        exact j_zret hC hr (z01_n (mRk_01 ly _ u)) ⟨rfl, rfl, congrArg (mw g k) (by rw [mRound_2, hfe])⟩ d_D_round_157
      · have hlt : f < 1152 := Nat.not_le.mp (fun z => h111 ((ge1152 (by omega)).mpr z))
        refine j_aload_n hC d_D_round_114 rfl 0 rfl ?_
        refine j_get hC hin_D (0) (mw_obj g k (itN (mNw rd) f (itG (mRk ly) (tn (u 0 1)) (0, u)).2)) rfl 4 (by decide) (hC.2.2.2.2.1 _ wf_D_17) (fun _ h9 => h9) rfl d_D_round_115 ?_
        refine j_iload hC d_D_round_118 4 rfl ?_
        refine j_aload_n hC d_D_round_120 rfl 0 rfl ?_
        refine j_get hC hin_D (0) (mw_obj g k (itN (mNw rd) f (itG (mRk ly) (tn (u 0 1)) (0, u)).2)) rfl 15 (by decide) (hC.2.2.2.2.1 _ wf_D_41) (fun _ h9 => h9) rfl d_D_round_121 ?_
        refine j_iload hC d_D_round_124 4 rfl ?_
        refine j_zaldN hC (11) 3 (mw_news g k (itN (mNw rd) f (itG (mRk ly) (tn (u 0 1)) (0, u)).2)) rfl (n := f) (rfl) (by omega) (by decide) d_D_round_126 ?_
        suffices hk127 : jJ p l e ({ frames := 3, cells := 0, slots := 0, locals := 73 }) s m [.ref (g 0), .int ly, .int rd].toArray below meth c 7 (dC, dI) jcl A (hxQ below (jQ (dC, dI) jcl (jRet (some (.int ((mRound ly rd u).1))) (mw g k ((mRound ly rd u).2))) A) [.ref (g 0), .int ly, .int rd].toArray s 0 0 A) 0 0 (mw g k (itN (mNw rd) f (itG (mRk ly) (tn (u 0 1)) (0, u)).2)) [(0, .ref (g 0)), (1, .int ly), (2, .int rd), (3, .int ((itG (mRk ly) (tn (u 0 1)) (0, u)).1)), (4, .int (nI f))] [.int (if ((itN (mNw rd) f (itG (mRk ly) (tn (u 0 1)) (0, u)).2) 5 f) = 0 then ((itN (mNw rd) f (itG (mRk ly) (tn (u 0 1)) (0, u)).2) 4 f) else rd), .int (nI f), .ref (g 3)] 141 by
          refine j_if_eq (tgt := 134) hC d_D_round_127 (by decide) (fun h127 => ?_) (fun h127 => ?_)
          · refine j_aload_n hC d_D_round_134 rfl 0 rfl ?_
            refine j_get hC hin_D (0) (mw_obj g k (itN (mNw rd) f (itG (mRk ly) (tn (u 0 1)) (0, u)).2)) rfl 4 (by decide) (hC.2.2.2.2.1 _ wf_D_17) (fun _ h9 => h9) rfl d_D_round_135 ?_
            refine j_iload hC d_D_round_138 4 rfl ?_
            refine j_ialdN hC (3) 0 (mw_ranks g k (itN (mNw rd) f (itG (mRk ly) (tn (u 0 1)) (0, u)).2)) rfl (n := f) (rfl) (by omega) (by decide) d_D_round_140 ?_
            exact j_top ((if_pos h127)) hk127
          · refine j_iload_n hC d_D_round_130 rfl 2 rfl ?_
            refine j_goto (tgt := 141) hC d_D_round_131 (by decide) ?_
            exact j_top ((if_neg h127)) hk127
        refine j_iastN (ws' := mw g k (up (itN (mNw rd) f (itG (mRk ly) (tn (u 0 1)) (0, u)).2) 4 f (if ((itN (mNw rd) f (itG (mRk ly) (tn (u 0 1)) (0, u)).2) 5 f) = 0 then ((itN (mNw rd) f (itG (mRk ly) (tn (u 0 1)) (0, u)).2) 4 f) else rd))) hC (3) 0 (mw_ranks g k (itN (mNw rd) f (itG (mRk ly) (tn (u 0 1)) (0, u)).2)) rfl (n := f) (rfl) (by omega) (by decide) (mw_set_ranks g k (itN (mNw rd) f (itG (mRk ly) (tn (u 0 1)) (0, u)).2) f (if ((itN (mNw rd) f (itG (mRk ly) (tn (u 0 1)) (0, u)).2) 5 f) = 0 then ((itN (mNw rd) f (itG (mRk ly) (tn (u 0 1)) (0, u)).2) 4 f) else rd)) d_D_round_141 ?_
        refine j_aload_n hC d_D_round_142 rfl 0 rfl ?_
        refine j_get hC hin_D (0) (mw_obj g k (up (itN (mNw rd) f (itG (mRk ly) (tn (u 0 1)) (0, u)).2) 4 f (if ((itN (mNw rd) f (itG (mRk ly) (tn (u 0 1)) (0, u)).2) 5 f) = 0 then ((itN (mNw rd) f (itG (mRk ly) (tn (u 0 1)) (0, u)).2) 4 f) else rd))) rfl 15 (by decide) (hC.2.2.2.2.1 _ wf_D_41) (fun _ h9 => h9) rfl d_D_round_143 ?_
        refine j_iload hC d_D_round_146 4 rfl ?_
        refine j_iconst (v := 0) hC d_D_round_148 (by decide) ?_
        refine j_zastN (ws' := mw g k (up (up (itN (mNw rd) f (itG (mRk ly) (tn (u 0 1)) (0, u)).2) 4 f (if ((itN (mNw rd) f (itG (mRk ly) (tn (u 0 1)) (0, u)).2) 5 f) = 0 then ((itN (mNw rd) f (itG (mRk ly) (tn (u 0 1)) (0, u)).2) 4 f) else rd)) 5 f 0)) hC (11) 3 (mw_news g k (up (itN (mNw rd) f (itG (mRk ly) (tn (u 0 1)) (0, u)).2) 4 f (if ((itN (mNw rd) f (itG (mRk ly) (tn (u 0 1)) (0, u)).2) 5 f) = 0 then ((itN (mNw rd) f (itG (mRk ly) (tn (u 0 1)) (0, u)).2) 4 f) else rd))) rfl (n := f) (nar_0) (rfl) (by omega) (by decide) (mw_set_news g k (up (itN (mNw rd) f (itG (mRk ly) (tn (u 0 1)) (0, u)).2) 4 f (if ((itN (mNw rd) f (itG (mRk ly) (tn (u 0 1)) (0, u)).2) 5 f) = 0 then ((itN (mNw rd) f (itG (mRk ly) (tn (u 0 1)) (0, u)).2) 4 f) else rd)) f 0) d_D_round_149 ?_
        refine j_iinc (lv' := [(0, .ref (g 0)), (1, .int ly), (2, .int rd), (3, .int ((itG (mRk ly) (tn (u 0 1)) (0, u)).1)), (4, .int (nI (f + 1)))]) hC d_D_round_150 4 rfl (nI_1 _) (by decide) rfl rfl ?_
        refine j_goto (tgt := 106) hC d_D_round_153 (by decide) ?_
        have k9 := ih (f + 1) (by omega) (by omega)
        rw [itN_s] at k9
        exact k9
  refine j_iconst (v := 0) hC d_D_round_0 (by decide) ?_
  refine j_istore_n (lv' := [(0, .ref (g 0)), (1, .int ly), (2, .int rd), (3, .int 0)]) hC d_D_round_1 rfl (by decide) rfl rfl ?_
  refine j_iconst (v := 0) hC d_D_round_2 (by decide) ?_
  refine j_istore (lv' := [(0, .ref (g 0)), (1, .int ly), (2, .int rd), (3, .int 0), (4, .int 0)]) hC d_D_round_3 (by decide) rfl rfl ?_
  refine rules ?_ 18 0 (by omega) (by omega)
  refine j_iconst (v := 0) hC d_D_round_103 (by decide) ?_
  refine j_istore (lv' := [(0, .ref (g 0)), (1, .int ly), (2, .int rd), (3, .int ((itG (mRk ly) (tn (u 0 1)) (0, u)).1)), (4, .int 0)]) hC d_D_round_104 (by decide) rfl rfl ?_
  rw [← itN_0 (mNw rd) (itG (mRk ly) (tn (u 0 1)) (0, u)).2]
  exact last 1153 0 (by omega) (by omega)

set_option maxHeartbeats 4000000 in
set_option maxRecDepth 100000 in
theorem r_find (l : Launch) (dC : Nat → ClassId) (dI : Nat → Nat → Nat) (g k : Nat → Nat) (tl : List (ClassId × FieldType)) (u : jU) (hD : wfD u) (hE : mEnds u) : jMet l y_D_find (.code y_D_find c_D_find 3 none) ({ frames := 4, cells := 0, slots := 0, locals := 99 }) (dC, dI) jcl (mtys k tl) jTs [.ref (g 0)] (mw g k u) 0 0 (jRet none (mw g k (mFind u))) := by
  refine jMet.of (by decide) (Nat.le_of_ble_eq_true rfl) ?_
  intro p e s m below meth c A hC hex hr hnm htr
  show jJ p l e ({ frames := 4, cells := 0, slots := 0, locals := 99 }) s m [.ref (g 0)].toArray below meth c 3 (dC, dI) jcl A (hxQ below (jQ (dC, dI) jcl (jRet none (mw g k (mFind u))) A) [.ref (g 0)].toArray s 0 0 A) 0 0 (mw g k u) [(0, .ref (g 0))] [] 0
  have hDF := mFd1_wf hD
  have init : jJ p l e ({ frames := 4, cells := 0, slots := 0, locals := 99 }) s m [.ref (g 0)].toArray below meth c 3 (dC, dI) jcl A (hxQ below (jQ (dC, dI) jcl (jRet none (mw g k (mFind u))) A) [.ref (g 0)].toArray s 0 0 A) 0 0 (mw g k (itN mI1 1152 (mFd1 u))) [(0, .ref (g 0))] [] 58 → ∀ (n f : Nat), f ≤ 1152 → 1152 < f + n → jJ p l e ({ frames := 4, cells := 0, slots := 0, locals := 99 }) s m [.ref (g 0)].toArray below meth c 3 (dC, dI) jcl A (hxQ below (jQ (dC, dI) jcl (jRet none (mw g k (mFind u))) A) [.ref (g 0)].toArray s 0 0 A) 0 0 (mw g k (itN mI1 f (mFd1 u))) [(0, .ref (g 0)), (1, .int (nI f))] [] 31 := by
    intro hk n
    induction n with
    | zero => intro f h1 h2; exact absurd h2 (by omega)
    | succ n ih =>
      intro f hf hn
      refine j_iload_n hC d_D_find_31 rfl 1 rfl ?_
      refine j_sipush (v := 1152) hC d_D_find_32 (by decide) ?_
      refine j_icmp_ge (tgt := 58) hC d_D_find_35 (by decide) (fun h35 => ?_) (fun h35 => ?_)
      · have hge : 1152 ≤ f := (ge1152 (by omega)).mp h35
        have hfe : f = 1152 := by omega
        subst hfe
        exact j_locals [0] rfl hk
      · have hlt : f < 1152 := Nat.not_le.mp (fun z => h35 ((ge1152 (by omega)).mpr z))
        refine j_aload_n hC d_D_find_38 rfl 0 rfl ?_
        refine j_get hC hin_D (0) (mw_obj g k (itN mI1 f (mFd1 u))) rfl 4 (by decide) (hC.2.2.2.2.1 _ wf_D_17) (fun _ h9 => h9) rfl d_D_find_39 ?_
        refine j_iload_n hC d_D_find_42 rfl 1 rfl ?_
        refine j_iconst (v := -1) hC d_D_find_43 (by decide) ?_
        refine j_iastN (ws' := mw g k (up (itN mI1 f (mFd1 u)) 4 f (-1))) hC (3) 0 (mw_ranks g k (itN mI1 f (mFd1 u))) rfl (n := f) (rfl) (by omega) (by decide) (mw_set_ranks g k (itN mI1 f (mFd1 u)) f (-1)) d_D_find_44 ?_
        refine j_aload_n hC d_D_find_45 rfl 0 rfl ?_
        refine j_get hC hin_D (0) (mw_obj g k (up (itN mI1 f (mFd1 u)) 4 f (-1))) rfl 15 (by decide) (hC.2.2.2.2.1 _ wf_D_41) (fun _ h9 => h9) rfl d_D_find_46 ?_
        refine j_iload_n hC d_D_find_49 rfl 1 rfl ?_
        refine j_iconst (v := 0) hC d_D_find_50 (by decide) ?_
        refine j_zastN (ws' := mw g k (up (up (itN mI1 f (mFd1 u)) 4 f (-1)) 5 f 0)) hC (11) 3 (mw_news g k (up (itN mI1 f (mFd1 u)) 4 f (-1))) rfl (n := f) (nar_0) (rfl) (by omega) (by decide) (mw_set_news g k (up (itN mI1 f (mFd1 u)) 4 f (-1)) f 0) d_D_find_51 ?_
        refine j_iinc (lv' := [(0, .ref (g 0)), (1, .int (nI (f + 1)))]) hC d_D_find_52 1 rfl (nI_1 _) (by decide) rfl rfl ?_
        refine j_goto (tgt := 31) hC d_D_find_55 (by decide) ?_
        have k9 := ih (f + 1) (by omega) (by omega)
        rw [itN_s] at k9
        exact k9
  have given : ∀ (q : Nat) (w : jU), jJ p l e ({ frames := 4, cells := 0, slots := 0, locals := 99 }) s m [.ref (g 0)].toArray below meth c 3 (dC, dI) jcl A (hxQ below (jQ (dC, dI) jcl (jRet none (mw g k (mFind u))) A) [.ref (g 0)].toArray s 0 0 A) 0 0 (mw g k (itN (mGv (nI q)) 1152 w)) [(0, .ref (g 0)), (1, .int (nI q))] [] 132 → ∀ (n f : Nat), f ≤ 1152 → 1152 < f + n → jJ p l e ({ frames := 4, cells := 0, slots := 0, locals := 99 }) s m [.ref (g 0)].toArray below meth c 3 (dC, dI) jcl A (hxQ below (jQ (dC, dI) jcl (jRet none (mw g k (mFind u))) A) [.ref (g 0)].toArray s 0 0 A) 0 0 (mw g k (itN (mGv (nI q)) f w)) [(0, .ref (g 0)), (1, .int (nI q)), (2, .int (nI f))] [] 68 := by
    intro q w hk n
    induction n with
    | zero => intro f h1 h2; exact absurd h2 (by omega)
    | succ n ih =>
      intro f hf hn
      refine j_iload_n hC d_D_find_68 rfl 2 rfl ?_
      refine j_sipush (v := 1152) hC d_D_find_69 (by decide) ?_
      refine j_icmp_ge (tgt := 132) hC d_D_find_72 (by decide) (fun h72 => ?_) (fun h72 => ?_)
      · have hge : 1152 ≤ f := (ge1152 (by omega)).mp h72
        have hfe : f = 1152 := by omega
        subst hfe
        exact j_locals [0, 1] rfl hk
      · have hlt : f < 1152 := Nat.not_le.mp (fun z => h72 ((ge1152 (by omega)).mpr z))
        refine j_aload_n hC d_D_find_75 rfl 0 rfl ?_
        refine j_get hC hin_D (0) (mw_obj g k (itN (mGv (nI q)) f w)) rfl 4 (by decide) (hC.2.2.2.2.1 _ wf_D_17) (fun _ h9 => h9) rfl d_D_find_76 ?_
        refine j_iload_n hC d_D_find_79 rfl 2 rfl ?_
        refine j_aload_n hC d_D_find_80 rfl 0 rfl ?_
        refine j_get hC hin_D (0) (mw_obj g k (itN (mGv (nI q)) f w)) rfl 3 (by decide) (hC.2.2.2.2.1 _ wf_D_13) (fun _ h9 => h9) rfl d_D_find_81 ?_
        refine j_iload_n hC d_D_find_84 rfl 2 rfl ?_
        refine j_zaldN hC (2) 3 (mw_given g k (itN (mGv (nI q)) f w)) rfl (n := f) (rfl) (by omega) (by decide) d_D_find_85 ?_
        suffices hk86 : jJ p l e ({ frames := 4, cells := 0, slots := 0, locals := 99 }) s m [.ref (g 0)].toArray below meth c 3 (dC, dI) jcl A (hxQ below (jQ (dC, dI) jcl (jRet none (mw g k (mFind u))) A) [.ref (g 0)].toArray s 0 0 A) 0 0 (mw g k (itN (mGv (nI q)) f w)) [(0, .ref (g 0)), (1, .int (nI q)), (2, .int (nI f))] [.int (if ((itN (mGv (nI q)) f w) 2 f) = 0 then ((itN (mGv (nI q)) f w) 4 f) else (if ((itN (mGv (nI q)) f w) 0 0) ≤ (nI (f / 144)) then ((itN (mGv (nI q)) f w) 4 f) else (if ((itN (mGv (nI q)) f w) 3 (f / 144)) = (nI q) then (0 : Int32) else ((itN (mGv (nI q)) f w) 4 f)))), .int (nI f), .ref (g 3)] 125 by
          refine j_if_eq (tgt := 119) hC d_D_find_86 (by decide) (fun h86 => ?_) (fun h86 => ?_)
          · refine j_aload_n hC d_D_find_119 rfl 0 rfl ?_
            refine j_get hC hin_D (0) (mw_obj g k (itN (mGv (nI q)) f w)) rfl 4 (by decide) (hC.2.2.2.2.1 _ wf_D_17) (fun _ h9 => h9) rfl d_D_find_120 ?_
            refine j_iload_n hC d_D_find_123 rfl 2 rfl ?_
            refine j_ialdN hC (3) 0 (mw_ranks g k (itN (mGv (nI q)) f w)) rfl (n := f) (rfl) (by omega) (by decide) d_D_find_124 ?_
            exact j_top ((if_pos h86)) hk86
          · refine j_iload_n hC d_D_find_89 rfl 2 rfl ?_
            refine j_sipush (v := 144) hC d_D_find_90 (by decide) ?_
            refine j_idiv hC d_D_find_93 (by decide) ?_
            refine j_top (v := nI (f / 144)) (pk_div (a := f) (d := 144) (by omega) (by decide) (by decide)).symm ?_
            refine j_aload_n hC d_D_find_94 rfl 0 rfl ?_
            refine j_get hC hin_D (0) (mw_obj g k (itN (mGv (nI q)) f w)) rfl 1 (by decide) (hC.2.2.2.2.1 _ wf_D_48) (fun _ h9 => h9) rfl d_D_find_95 ?_
            suffices hk98 : jJ p l e ({ frames := 4, cells := 0, slots := 0, locals := 99 }) s m [.ref (g 0)].toArray below meth c 3 (dC, dI) jcl A (hxQ below (jQ (dC, dI) jcl (jRet none (mw g k (mFind u))) A) [.ref (g 0)].toArray s 0 0 A) 0 0 (mw g k (itN (mGv (nI q)) f w)) [(0, .ref (g 0)), (1, .int (nI q)), (2, .int (nI f))] [.int (if ((itN (mGv (nI q)) f w) 0 0) ≤ (nI (f / 144)) then ((itN (mGv (nI q)) f w) 4 f) else (if ((itN (mGv (nI q)) f w) 3 (f / 144)) = (nI q) then (0 : Int32) else ((itN (mGv (nI q)) f w) 4 f))), .int (nI f), .ref (g 3)] 125 by
              refine j_icmp_ge (tgt := 119) hC d_D_find_98 (by decide) (fun h98 => ?_) (fun h98 => ?_)
              · refine j_aload_n hC d_D_find_119 rfl 0 rfl ?_
                refine j_get hC hin_D (0) (mw_obj g k (itN (mGv (nI q)) f w)) rfl 4 (by decide) (hC.2.2.2.2.1 _ wf_D_17) (fun _ h9 => h9) rfl d_D_find_120 ?_
                refine j_iload_n hC d_D_find_123 rfl 2 rfl ?_
                refine j_ialdN hC (3) 0 (mw_ranks g k (itN (mGv (nI q)) f w)) rfl (n := f) (rfl) (by omega) (by decide) d_D_find_124 ?_
                exact j_top ((if_pos h98)) hk98
              · refine j_aload_n hC d_D_find_101 rfl 0 rfl ?_
                refine j_get hC hin_D (0) (mw_obj g k (itN (mGv (nI q)) f w)) rfl 11 (by decide) (hC.2.2.2.2.1 _ wf_D_35) (fun _ h9 => h9) rfl d_D_find_102 ?_
                refine j_iload_n hC d_D_find_105 rfl 2 rfl ?_
                refine j_sipush (v := 144) hC d_D_find_106 (by decide) ?_
                refine j_idiv hC d_D_find_109 (by decide) ?_
                refine j_top (v := nI (f / 144)) (pk_div (a := f) (d := 144) (by omega) (by decide) (by decide)).symm ?_
                refine j_ialdN hC (9) 0 (mw_layers g k (itN (mGv (nI q)) f w)) rfl (n := f / 144) (rfl) (by omega) (by decide) d_D_find_110 ?_
                refine j_iload_n hC d_D_find_111 rfl 1 rfl ?_
                suffices hk112 : jJ p l e ({ frames := 4, cells := 0, slots := 0, locals := 99 }) s m [.ref (g 0)].toArray below meth c 3 (dC, dI) jcl A (hxQ below (jQ (dC, dI) jcl (jRet none (mw g k (mFind u))) A) [.ref (g 0)].toArray s 0 0 A) 0 0 (mw g k (itN (mGv (nI q)) f w)) [(0, .ref (g 0)), (1, .int (nI q)), (2, .int (nI f))] [.int (if ((itN (mGv (nI q)) f w) 3 (f / 144)) = (nI q) then (0 : Int32) else ((itN (mGv (nI q)) f w) 4 f)), .int (nI f), .ref (g 3)] 125 by
                  refine j_icmp_ne (tgt := 119) hC d_D_find_112 (by decide) (fun h112 => ?_) (fun h112 => ?_)
                  · refine j_aload_n hC d_D_find_119 rfl 0 rfl ?_
                    refine j_get hC hin_D (0) (mw_obj g k (itN (mGv (nI q)) f w)) rfl 4 (by decide) (hC.2.2.2.2.1 _ wf_D_17) (fun _ h9 => h9) rfl d_D_find_120 ?_
                    refine j_iload_n hC d_D_find_123 rfl 2 rfl ?_
                    refine j_ialdN hC (3) 0 (mw_ranks g k (itN (mGv (nI q)) f w)) rfl (n := f) (rfl) (by omega) (by decide) d_D_find_124 ?_
                    exact j_top ((if_neg h112)) hk112
                  · refine j_iconst (v := 0) hC d_D_find_115 (by decide) ?_
                    refine j_goto (tgt := 125) hC d_D_find_116 (by decide) ?_
                    exact j_top ((if_pos h112)) hk112
                exact j_top ((if_neg h98)) hk98
            exact j_top ((if_neg h86)) hk86
        refine j_iastN (ws' := mw g k (up (itN (mGv (nI q)) f w) 4 f (if ((itN (mGv (nI q)) f w) 2 f) = 0 then ((itN (mGv (nI q)) f w) 4 f) else (if ((itN (mGv (nI q)) f w) 0 0) ≤ (nI (f / 144)) then ((itN (mGv (nI q)) f w) 4 f) else (if ((itN (mGv (nI q)) f w) 3 (f / 144)) = (nI q) then (0 : Int32) else ((itN (mGv (nI q)) f w) 4 f)))))) hC (3) 0 (mw_ranks g k (itN (mGv (nI q)) f w)) rfl (n := f) (rfl) (by omega) (by decide) (mw_set_ranks g k (itN (mGv (nI q)) f w) f (if ((itN (mGv (nI q)) f w) 2 f) = 0 then ((itN (mGv (nI q)) f w) 4 f) else (if ((itN (mGv (nI q)) f w) 0 0) ≤ (nI (f / 144)) then ((itN (mGv (nI q)) f w) 4 f) else (if ((itN (mGv (nI q)) f w) 3 (f / 144)) = (nI q) then (0 : Int32) else ((itN (mGv (nI q)) f w) 4 f))))) d_D_find_125 ?_
        refine j_iinc (lv' := [(0, .ref (g 0)), (1, .int (nI q)), (2, .int (nI (f + 1)))]) hC d_D_find_126 2 rfl (nI_1 _) (by decide) rfl rfl ?_
        refine j_goto (tgt := 68) hC d_D_find_129 (by decide) ?_
        have k9 := ih (f + 1) (by omega) (by omega)
        rw [itN_s] at k9
        exact k9
  have whl : ∀ (q : Nat) (X : jU), jJ p l e ({ frames := 4, cells := 0, slots := 0, locals := 99 }) s m [.ref (g 0)].toArray below meth c 3 (dC, dI) jcl A (hxQ below (jQ (dC, dI) jcl (jRet none (mw g k (mFind u))) A) [.ref (g 0)].toArray s 0 0 A) 0 0 (mw g k X) [(0, .ref (g 0)), (1, .int (nI q))] [] 149 → ∀ (n rd : Nat) (v : jU), mE (mFd1 u) v → rd + n < 10000 → (mWh (nI q) n rd v).1 = 0 → (mWh (nI q) n rd v).2 = X → jJ p l e ({ frames := 4, cells := 0, slots := 0, locals := 99 }) s m [.ref (g 0)].toArray below meth c 3 (dC, dI) jcl A (hxQ below (jQ (dC, dI) jcl (jRet none (mw g k (mFind u))) A) [.ref (g 0)].toArray s 0 0 A) 0 0 (mw g k v) [(0, .ref (g 0)), (1, .int (nI q)), (2, .int (nI rd))] [] 134 := by
    intro q X hk n
    induction n with
    | zero => intro rd v _ _ h0; exact absurd h0 (show ¬ (1 : Int32) = 0 by decide)
    | succ n ih =>
      intro rd v hv hrd h0 hend
      refine j_aload_n hC d_D_find_134 rfl 0 rfl ?_
      refine j_iload_n hC d_D_find_135 rfl 1 rfl ?_
      refine j_iload_n hC d_D_find_136 rfl 2 rfl ?_
      refine j_callVr (As := [.int (nI q), .int (nI rd)]) (rest := []) (st1 := [.int ((mRound (nI q) (nI rd) v).1)]) hC (r_round l dC dI g k tl v (hv.wf hDF) (nI q) (nI rd)) rfl rfl ww_D_124 yn_D_round (mw_obj g k v) rfl rfl d_D_find_137 (Nat.le_of_ble_eq_true rfl) (by decide) ⟨Nat.zero_le _, Nat.zero_le _⟩ rfl ?_
      refine j_if_eq (tgt := 149) hC d_D_find_140 (by decide) (fun h140 => ?_) (fun h140 => ?_)
      · rw [mWh, if_pos h140] at hend
        subst hend
        exact j_locals [0, 1] rfl hk
      · refine j_iinc (lv' := [(0, .ref (g 0)), (1, .int (nI q)), (2, .int (nI (rd + 1)))]) hC d_D_find_143 2 rfl (nI_1 _) (by decide) rfl rfl ?_
        refine j_goto (tgt := 134) hC d_D_find_146 (by decide) ?_
        exact ih (rd + 1) _ (hv.round _ _) (by omega) (by rw [← h0, mWh, if_neg h140]) (by rw [← hend, mWh, if_neg h140])
  have layers : u 0 3 = 0 → (mFd1 u) 0 2 < 0 → ∀ (n q : Nat), q ≤ 9 → 9 < q + n → jJ p l e ({ frames := 4, cells := 0, slots := 0, locals := 99 }) s m [.ref (g 0)].toArray below meth c 3 (dC, dI) jcl A (hxQ below (jQ (dC, dI) jcl (jRet none (mw g k (mFind u))) A) [.ref (g 0)].toArray s 0 0 A) 0 0 (mw g k (itN mLay q (itN mI1 1152 (mFd1 u)))) [(0, .ref (g 0)), (1, .int (nI q))] [] 60 := by
    intro h4 h25 n
    have hE2 := (hE h4).2 h25
    induction n with
    | zero => intro q h1 h2; exact absurd h2 (by omega)
    | succ n ih =>
      intro q hq hn
      have hEw : mE (mFd1 u) (itN mLay q (itN mI1 1152 (mFd1 u))) := mFind_E hD h25 q
      refine j_iload_n hC d_D_find_60 rfl 1 rfl ?_
      refine j_bipush (v := 8) hC d_D_find_61 (by decide) ?_
      refine j_icmp_gt (tgt := 155) hC d_D_find_63 (by decide) (fun h63 => ?_) (fun h63 => ?_)
      · have hgt : 8 < q := (nI_ltI (a := 8) (by decide) (by omega)).mp h63
        have hqe : q = 9 := by omega
        exact j_vret hC hr ⟨rfl, rfl, congrArg (mw g k) (by rw [mFind, if_pos h4, if_pos h25, hqe])⟩ d_D_find_155
      · have hle : q ≤ 8 := Nat.not_lt.mp (fun z => h63 ((nI_ltI (a := 8) (by decide) (by omega)).mpr z))
        refine j_iconst (v := 0) hC d_D_find_66 (by decide) ?_
        refine j_istore_n (lv' := [(0, .ref (g 0)), (1, .int (nI q)), (2, .int 0)]) hC d_D_find_67 rfl (by decide) rfl rfl ?_
        rw [← itN_0 (mGv (nI q)) (itN mLay q (itN mI1 1152 (mFd1 u)))]
        refine given q (itN mLay q (itN mI1 1152 (mFd1 u))) ?_ 1153 0 (by omega) (by omega)
        refine j_iconst (v := 1) hC d_D_find_132 (by decide) ?_
        refine j_istore_n (lv' := [(0, .ref (g 0)), (1, .int (nI q)), (2, .int 1)]) hC d_D_find_133 rfl (by decide) rfl rfl ?_
        refine whl q (mLay q (itN mLay q (itN mI1 1152 (mFd1 u)))) ?_ mWhf 1 (itN (mGv (nI q)) 1152 (itN mLay q (itN mI1 1152 (mFd1 u)))) (hEw.gvs _ _) (by decide) (hE2 q (by omega)) rfl
        refine j_iinc (lv' := [(0, .ref (g 0)), (1, .int (nI (q + 1)))]) hC d_D_find_149 1 rfl (nI_1 _) (by decide) rfl rfl ?_
        refine j_goto (tgt := 60) hC d_D_find_152 (by decide) ?_
        have k9 := ih (q + 1) (by omega) (by omega)
        rw [itN_s] at k9
        exact k9
  refine j_aload_n hC d_D_find_0 rfl 0 rfl ?_
  refine j_get hC hin_D (0) (mw_obj g k u) rfl 12 (by decide) (hC.2.2.2.2.1 _ wf_D_54) (fun _ h9 => h9) rfl d_D_find_1 ?_
  refine j_if_eq (tgt := 8) hC d_D_find_4 (by decide) (fun h4 => ?_) (fun h4 => ?_)
  · refine j_aload_n hC d_D_find_8 rfl 0 rfl ?_
    refine j_iconst (v := 1) hC d_D_find_9 (by decide) ?_
    refine j_put (ty := .boolean) (ws' := mw g k (up u 0 3 1)) hC hin_D tyX5 tyX5_ok nmX5 (0) (mw_obj g k u) rfl 12 (by decide) (hC.2.2.2.2.1 _ wf_D_54) (fun _ h9 => h9) rfl (by decide +kernel) (rfl) (rfl) (Nat.le_of_ble_eq_true rfl) (mw_set_known g k u 1) d_D_find_10 ?_
    refine j_aload_n hC d_D_find_13 rfl 0 rfl ?_
    refine j_aload_n hC d_D_find_14 rfl 0 rfl ?_
    refine j_callVr (As := []) (rest := [.ref (g 0)]) (st1 := [.int ((mFF (up u 0 3 1)).1), .ref (g 0)]) hC (r_findFault l dC dI g k tl (up u 0 3 1) (wfD_up0 hD (by decide) 1) (hE h4).1) rfl rfl ww_D_117 yn_D_findFault (mw_obj g k (up u 0 3 1)) rfl rfl d_D_find_15 (Nat.le_of_ble_eq_true rfl) (by decide) ⟨Nat.zero_le _, Nat.zero_le _⟩ rfl ?_
    refine j_put (ty := .int) (ws' := mw g k (up ((mFF (up u 0 3 1)).2) 0 2 ((mFF (up u 0 3 1)).1))) hC hin_D tyX5 tyX5_ok nmX5 (0) (mw_obj g k ((mFF (up u 0 3 1)).2)) rfl 13 (by decide) (hC.2.2.2.2.1 _ wf_D_121) (fun _ h9 => h9) rfl (by decide +kernel) (rfl) (rfl) (Nat.le_of_ble_eq_true rfl) (mw_set_fault g k ((mFF (up u 0 3 1)).2) ((mFF (up u 0 3 1)).1)) d_D_find_18 ?_
    rw [show up (mFF (up u 0 3 1)).2 0 2 (mFF (up u 0 3 1)).1 = mFd1 u from rfl]
    refine j_aload_n hC d_D_find_21 rfl 0 rfl ?_
    refine j_get hC hin_D (0) (mw_obj g k (mFd1 u)) rfl 13 (by decide) (hC.2.2.2.2.1 _ wf_D_121) (fun _ h9 => h9) rfl d_D_find_22 ?_
    refine j_if_lt (tgt := 29) hC d_D_find_25 (by decide) (fun h25 => ?_) (fun h25 => ?_)
    · refine j_iconst (v := 0) hC d_D_find_29 (by decide) ?_
      refine j_istore_n (lv' := [(0, .ref (g 0)), (1, .int 0)]) hC d_D_find_30 rfl (by decide) rfl rfl ?_
      rw [← itN_0 mI1 (mFd1 u)]
      refine init ?_ 1153 0 (by omega) (by omega)
      refine j_iconst (v := 0) hC d_D_find_58 (by decide) ?_
      refine j_istore_n (lv' := [(0, .ref (g 0)), (1, .int 0)]) hC d_D_find_59 rfl (by decide) rfl rfl ?_
      rw [← itN_0 mLay (itN mI1 1152 (mFd1 u))]
      exact layers h4 h25 11 0 (by omega) (by omega)
    · exact j_vret hC hr ⟨rfl, rfl, congrArg (mw g k) (by rw [mFind, if_pos h4, if_neg h25])⟩ d_D_find_28
  · exact j_vret hC hr ⟨rfl, rfl, congrArg (mw g k) (if_neg h4).symm⟩ d_D_find_7
