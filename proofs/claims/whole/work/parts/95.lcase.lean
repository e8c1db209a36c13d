-- the law's cases, one after the other
set_option maxHeartbeats 4000000 in
set_option maxRecDepth 100000 in
theorem lc_clear {p : Program} {l : Launch} {e : Env} {s : State} {m : MethodId} {below : List Frame} {meth : Method} {c : Code} {dC : Nat → ClassId} {dI : Nat → Nat → Nat} {k : Nat → Nat} {b L : Nat} {xs : Nat → Int32} (hl : l.stackTraces = false) (hC : jC p s m #[Value.ref b] meth c code 7 "StrataHouseLaw" jTn (dC, dI) jcl (ltys k) (fun q => s.heap.size ≤ q)) (hX : va_X b L xs s s.heap) (hbl : b < s.heap.size) (hL : L ≤ 2560) (hr : meth.sig.returnType = ret) (g gm : Nat → Nat) (ao : Nat) {n : Nat} (hn : 5 * n + 5 ≤ L) {u v : jU} {f : Nat → Int64} (h : Rl u v) (K : ∀ (u' v' : jU) (f' : Nat → Int64), Rl u' v' → jJ p l e room_1 s m #[Value.ref b] below meth c 7 (dC, dI) jcl (fun q => s.heap.size ≤ q) (lw_Z below #[Value.ref b] s) (140 + 4 * (n + 1)) (5944 + 24 * (n + 1)) ((cw g k u' ++ [ow ao k f']) ++ mw gm k v') [(0, .ref b), (1, .ref (g 0)), (2, .ref (gm 0)), (3, .ref ao), (4, .int (nI (5 * n)))] [] 934) : jJ p l e room_1 s m #[Value.ref b] below meth c 7 (dC, dI) jcl (fun q => s.heap.size ≤ q) (lw_Z below #[Value.ref b] s) (140 + 4 * n) (5944 + 24 * n) ((cw g k u ++ [ow ao k f]) ++ mw gm k v) [(0, .ref b), (1, .ref (g 0)), (2, .ref (gm 0)), (3, .ref ao), (4, .int (nI (5 * n)))] [] 104 := by
  refine j_aload_n hC d_W_104 rfl 1 rfl ?_
  refine j_ws (List.append_assoc (cw g k u) [ow ao k f] (mw gm k v)) ?_
  refine j_callVr (As := []) (rest := []) (st1 := []) hC ((jMet.more (fun _ z => jTn_l z) (k_clear l dC dI g k ((k 3, .boolean) :: [(k 4, .long)]) u)).frameR ([ow ao k f] ++ mw gm k v)) rfl rfl (fun w z => jTn_l (ww_L_59 w z)) yn_H_clear (ap_l (cw_house g k u)) rfl rfl d_W_105 (Nat.le_of_ble_eq_true rfl) (by decide) ⟨by show 140 + 4 * n ≤ 601024; omega, by show 5944 + 24 * n ≤ 7293034; omega⟩ rfl ?_
  refine j_ws (List.append_assoc (cw g k (pClear u)) [ow ao k f] (mw gm k v)).symm ?_
  refine j_aload_n hC d_W_108 rfl 2 rfl ?_
  refine j_swap ?_
  refine j_callVr (As := []) (rest := []) (st1 := []) hC ((jMet.more (fun _ z => jTn_l z) (r_clear l dC dI gm k [(k 4, .long)] v)).frameR (cw g k (pClear u) ++ [ow ao k f])) rfl rfl (fun w z => jTn_l (ww_L_62 w z)) yn_D_clear (ap_l (mw_obj gm k v)) rfl rfl d_W_109 (Nat.le_of_ble_eq_true rfl) (by decide) ⟨by show 140 + 4 * n ≤ 601024; omega, by show 5944 + 24 * n ≤ 7293034; omega⟩ rfl ?_
  refine j_swap ?_
  refine j_goto (tgt := 934) hC d_W_112 (by decide) ?_
  exact j_widen (by omega) (by omega) (K _ _ _ (sim_clear h))

set_option maxHeartbeats 4000000 in
set_option maxRecDepth 100000 in
theorem lc_unrule {p : Program} {l : Launch} {e : Env} {s : State} {m : MethodId} {below : List Frame} {meth : Method} {c : Code} {dC : Nat → ClassId} {dI : Nat → Nat → Nat} {k : Nat → Nat} {b L : Nat} {xs : Nat → Int32} (hl : l.stackTraces = false) (hC : jC p s m #[Value.ref b] meth c code 7 "StrataHouseLaw" jTn (dC, dI) jcl (ltys k) (fun q => s.heap.size ≤ q)) (hX : va_X b L xs s s.heap) (hbl : b < s.heap.size) (hL : L ≤ 2560) (hr : meth.sig.returnType = ret) (g gm : Nat → Nat) (ao : Nat) {n : Nat} (hn : 5 * n + 5 ≤ L) {u v : jU} {f : Nat → Int64} (h : Rl u v) (K : ∀ (u' v' : jU) (f' : Nat → Int64), Rl u' v' → jJ p l e room_1 s m #[Value.ref b] below meth c 7 (dC, dI) jcl (fun q => s.heap.size ≤ q) (lw_Z below #[Value.ref b] s) (140 + 4 * (n + 1)) (5944 + 24 * (n + 1)) ((cw g k u' ++ [ow ao k f']) ++ mw gm k v') [(0, .ref b), (1, .ref (g 0)), (2, .ref (gm 0)), (3, .ref ao), (4, .int (nI (5 * n)))] [] 934) : jJ p l e room_1 s m #[Value.ref b] below meth c 7 (dC, dI) jcl (fun q => s.heap.size ≤ q) (lw_Z below #[Value.ref b] s) (140 + 4 * n) (5944 + 24 * n) ((cw g k u ++ [ow ao k f]) ++ mw gm k v) [(0, .ref b), (1, .ref (g 0)), (2, .ref (gm 0)), (3, .ref ao), (4, .int (nI (5 * n)))] [] 533 := by
  have S := sim_unrule h
  refine j_aload_n hC d_W_533 rfl 1 rfl ?_
  refine j_ws (List.append_assoc (cw g k u) [ow ao k f] (mw gm k v)) ?_
  refine j_callSH (As := [.ref (g 0)]) (rest := []) (st1 := [.int (kc xIS xIS (pcRule u))]) hC ((h_unrule l hl dC dI g k u).frameR ([ow ao k f] ++ mw gm k v)) rfl rfl (fun w z => jTn_l (wh_L_87 w z)) yn_L_unrule rfl d_W_534 (Nat.le_of_ble_eq_true rfl) (by decide) ⟨by show 140 + 4 * n + 1 ≤ 601024; omega, by show 5944 + 24 * n + 6 ≤ 7293034; omega⟩ rfl ?_
  refine j_ws (List.append_assoc (cw g k (pUnrule u)) [ow ao k f] (mw gm k v)).symm ?_
  refine j_istore (lv' := [(0, .ref b), (1, .ref (g 0)), (2, .ref (gm 0)), (3, .ref ao), (4, .int (nI (5 * n))), (5, .int (kc xIS xIS (pcRule u)))]) hC d_W_537 (by decide) rfl rfl ?_
  refine j_aload_n hC d_W_539 rfl 2 rfl ?_
  refine j_swap ?_
  refine j_callVr (As := []) (rest := []) (st1 := []) hC ((jMet.more (fun _ z => jTn_l z) (r_unrule l dC dI gm k [(k 4, .long)] v)).frameR (cw g k (pUnrule u) ++ [ow ao k f])) rfl rfl (fun w z => jTn_l (ww_L_90 w z)) yn_D_unrule (ap_l (mw_obj gm k v)) rfl rfl d_W_540 (Nat.le_of_ble_eq_true rfl) (by decide) ⟨by show 140 + 4 * n + 1 ≤ 601024; omega, by show 5944 + 24 * n + 6 ≤ 7293034; omega⟩ rfl ?_
  refine j_swap ?_
  refine j_aload_n hC d_W_543 rfl 2 rfl ?_
  refine j_swap ?_
  refine j_callVr (As := []) (rest := []) (st1 := [.int (m_thrown (m_unrule v))]) hC ((jMet.more (fun _ z => jTn_l z) (r_thrown l dC dI gm k [(k 4, .long)] (m_unrule v))).frameR (cw g k (pUnrule u) ++ [ow ao k f])) rfl rfl (fun w z => jTn_l (ww_L_69 w z)) yn_D_thrown (ap_l (mw_obj gm k (m_unrule v))) rfl rfl d_W_544 (Nat.le_of_ble_eq_true rfl) (by decide) ⟨by show 140 + 4 * n + 1 ≤ 601024; omega, by show 5944 + 24 * n + 6 ≤ 7293034; omega⟩ rfl ?_
  refine j_swap ?_
  refine j_iload hC d_W_547 5 rfl ?_
  refine j_icmp_eq (tgt := 554) hC d_W_549 (by decide) (fun _ => ?_) (fun h9 => absurd S.1.symm h9)
  refine j_goto (tgt := 934) hC d_W_554 (by decide) ?_
  refine j_locals [0, 1, 2, 3, 4] rfl ?_
  exact j_widen (by omega) (by omega) (K _ _ _ S.2)

set_option maxHeartbeats 4000000 in
set_option maxRecDepth 100000 in
theorem lc_fault {p : Program} {l : Launch} {e : Env} {s : State} {m : MethodId} {below : List Frame} {meth : Method} {c : Code} {dC : Nat → ClassId} {dI : Nat → Nat → Nat} {k : Nat → Nat} {b L : Nat} {xs : Nat → Int32} (hl : l.stackTraces = false) (hC : jC p s m #[Value.ref b] meth c code 7 "StrataHouseLaw" jTn (dC, dI) jcl (ltys k) (fun q => s.heap.size ≤ q)) (hX : va_X b L xs s s.heap) (hbl : b < s.heap.size) (hL : L ≤ 2560) (hr : meth.sig.returnType = ret) (g gm : Nat → Nat) (ao : Nat) {n : Nat} (hn : 5 * n + 5 ≤ L) {u v : jU} {f : Nat → Int64} (h : Rl u v) (K : ∀ (u' v' : jU) (f' : Nat → Int64), Rl u' v' → jJ p l e room_1 s m #[Value.ref b] below meth c 7 (dC, dI) jcl (fun q => s.heap.size ≤ q) (lw_Z below #[Value.ref b] s) (140 + 4 * (n + 1)) (5944 + 24 * (n + 1)) ((cw g k u' ++ [ow ao k f']) ++ mw gm k v') [(0, .ref b), (1, .ref (g 0)), (2, .ref (gm 0)), (3, .ref ao), (4, .int (nI (5 * n)))] [] 934) : jJ p l e room_1 s m #[Value.ref b] below meth c 7 (dC, dI) jcl (fun q => s.heap.size ≤ q) (lw_Z below #[Value.ref b] s) (140 + 4 * n) (5944 + 24 * n) ((cw g k u ++ [ow ao k f]) ++ mw gm k v) [(0, .ref b), (1, .ref (g 0)), (2, .ref (gm 0)), (3, .ref ao), (4, .int (nI (5 * n)))] [] 557 := by
  have S := sim_fault h
  refine j_aload_n hC d_W_557 rfl 1 rfl ?_
  refine j_ws (List.append_assoc (cw g k u) [ow ao k f] (mw gm k v)) ?_
  refine j_callVr (As := []) (rest := []) (st1 := [.int (pJudge u 0 2)]) hC ((jMet.more (fun _ z => jTn_l z) (k_fault l dC dI g k ((k 3, .boolean) :: [(k 4, .long)]) u h.2.1.1)).frameR ([ow ao k f] ++ mw gm k v)) rfl rfl (fun w z => jTn_l (ww_L_91 w z)) yn_H_fault (ap_l (cw_house g k u)) rfl rfl d_W_558 (Nat.le_of_ble_eq_true rfl) (by decide) ⟨by show 140 + 4 * n ≤ 601024; omega, by show 5944 + 24 * n ≤ 7293034; omega⟩ rfl ?_
  refine j_ws (List.append_assoc (cw g k (pJudge u)) [ow ao k f] (mw gm k v)).symm ?_
  refine j_aload_n hC d_W_561 rfl 2 rfl ?_
  refine j_swap ?_
  refine j_callVr (As := []) (rest := [.int (pJudge u 0 2)]) (st1 := [.int (m_fault v).1, .int (pJudge u 0 2)]) hC ((jMet.more (fun _ z => jTn_l z) (r_fault l dC dI gm k [(k 4, .long)] v h.2.2.2.1 (ends_up4 0 h.2.2.2))).frameR (cw g k (pJudge u) ++ [ow ao k f])) rfl rfl (fun w z => jTn_l (ww_L_94 w z)) yn_D_fault (ap_l (mw_obj gm k v)) rfl rfl d_W_562 (Nat.le_of_ble_eq_true rfl) (by decide) ⟨by show 140 + 4 * n ≤ 601024; omega, by show 5944 + 24 * n ≤ 7293034; omega⟩ rfl ?_
  refine j_swap ?_
  refine j_icmp_eq (tgt := 934) hC d_W_565 (by decide) (fun _ => ?_) (fun h9 => absurd S.1 h9)
  exact j_widen (by omega) (by omega) (K _ _ _ S.2)

set_option maxHeartbeats 4000000 in
set_option maxRecDepth 100000 in
theorem lc_relation {p : Program} {l : Launch} {e : Env} {s : State} {m : MethodId} {below : List Frame} {meth : Method} {c : Code} {dC : Nat → ClassId} {dI : Nat → Nat → Nat} {k : Nat → Nat} {b L : Nat} {xs : Nat → Int32} (hl : l.stackTraces = false) (hC : jC p s m #[Value.ref b] meth c code 7 "StrataHouseLaw" jTn (dC, dI) jcl (ltys k) (fun q => s.heap.size ≤ q)) (hX : va_X b L xs s s.heap) (hbl : b < s.heap.size) (hL : L ≤ 2560) (hr : meth.sig.returnType = ret) (g gm : Nat → Nat) (ao : Nat) {n : Nat} (hn : 5 * n + 5 ≤ L) {u v : jU} {f : Nat → Int64} (h : Rl u v) (K : ∀ (u' v' : jU) (f' : Nat → Int64), Rl u' v' → jJ p l e room_1 s m #[Value.ref b] below meth c 7 (dC, dI) jcl (fun q => s.heap.size ≤ q) (lw_Z below #[Value.ref b] s) (140 + 4 * (n + 1)) (5944 + 24 * (n + 1)) ((cw g k u' ++ [ow ao k f']) ++ mw gm k v') [(0, .ref b), (1, .ref (g 0)), (2, .ref (gm 0)), (3, .ref ao), (4, .int (nI (5 * n)))] [] 934) : jJ p l e room_1 s m #[Value.ref b] below meth c 7 (dC, dI) jcl (fun q => s.heap.size ≤ q) (lw_Z below #[Value.ref b] s) (140 + 4 * n) (5944 + 24 * n) ((cw g k u ++ [ow ao k f]) ++ mw gm k v) [(0, .ref b), (1, .ref (g 0)), (2, .ref (gm 0)), (3, .ref ao), (4, .int (nI (5 * n)))] [] 115 := by
  have hbA : ¬ s.heap.size ≤ b := Nat.not_le.mpr hbl
  have S := sim_relation h (xs (5 * n + 1))
  refine j_aload_n hC d_W_115 rfl 1 rfl ?_
  refine j_aload_n hC d_W_116 rfl 0 rfl ?_
  refine j_iload hC d_W_117 4 rfl ?_
  refine j_iconst (v := 1) hC d_W_119 (by decide) ?_
  refine j_iadd hC d_W_120 ?_
  refine j_sld hC hX hbl hbA (q := 5 * n + 1) (nI_add (5 * n) 1) (by omega) (by omega) d_W_121 ?_
  refine j_aload_n hC d_W_122 rfl 3 rfl ?_
  refine j_callSH (As := [.ref (g 0), .int (xs (5 * n + 1)), .ref ao]) (rest := []) (st1 := [.int (kc xIA xUO (pcRelation u (xs (5 * n + 1))))]) hC ((h_relation l hl dC dI g k ao f u h.2.1.1 (xs (5 * n + 1))).frameR (mw gm k v)) rfl rfl (fun w z => jTn_l (wh_L_63 w z)) yn_L_relation rfl d_W_123 (Nat.le_of_ble_eq_true rfl) (by decide) ⟨by show 140 + 4 * n + 1 ≤ 601024; omega, by show 5944 + 24 * n + 6 ≤ 7293034; omega⟩ rfl ?_
  refine j_istore (lv' := [(0, .ref b), (1, .ref (g 0)), (2, .ref (gm 0)), (3, .ref ao), (4, .int (nI (5 * n))), (5, .int (kc xIA xUO (pcRelation u (xs (5 * n + 1)))))]) hC d_W_126 (by decide) rfl rfl ?_
  refine j_aload_n hC d_W_128 rfl 2 rfl ?_
  refine j_aload_n hC d_W_129 rfl 0 rfl ?_
  refine j_iload hC d_W_130 4 rfl ?_
  refine j_iconst (v := 1) hC d_W_132 (by decide) ?_
  refine j_iadd hC d_W_133 ?_
  refine j_sld hC hX hbl hbA (q := 5 * n + 1) (nI_add (5 * n) 1) (by omega) (by omega) d_W_134 ?_
  refine j_swap ?_
  refine j_callVr (As := [.int (xs (5 * n + 1))]) (rest := []) (st1 := [.int (m_relation v (xs (5 * n + 1))).1]) hC ((jMet.more (fun _ z => jTn_l z) (r_relation l dC dI gm k [(k 4, .long)] v h.2.2.2.1 (xs (5 * n + 1)))).frameR (cw g k (pRelation u (xs (5 * n + 1))) ++ [ow ao k (lo (pcRelation u (xs (5 * n + 1))) (pRelation2 u (xs (5 * n + 1)) 0 0 - 1).toInt64 f)])) rfl rfl (fun w z => jTn_l (ww_L_68 w z)) yn_D_relation (ap_l (mw_obj gm k v)) rfl rfl d_W_135 (Nat.le_of_ble_eq_true rfl) (by decide) ⟨by show 140 + 4 * n + 1 ≤ 601024; omega, by show 5944 + 24 * n + 6 ≤ 7293034; omega⟩ rfl ?_
  refine j_swap ?_
  refine j_istore (lv' := [(0, .ref b), (1, .ref (g 0)), (2, .ref (gm 0)), (3, .ref ao), (4, .int (nI (5 * n))), (5, .int (kc xIA xUO (pcRelation u (xs (5 * n + 1))))), (6, .int (m_relation v (xs (5 * n + 1))).1)]) hC d_W_138 (by decide) rfl rfl ?_
  refine j_aload_n hC d_W_140 rfl 2 rfl ?_
  refine j_swap ?_
  refine j_callVr (As := []) (rest := []) (st1 := [.int (m_thrown ((m_relation v (xs (5 * n + 1))).2))]) hC ((jMet.more (fun _ z => jTn_l z) (r_thrown l dC dI gm k [(k 4, .long)] ((m_relation v (xs (5 * n + 1))).2))).frameR (cw g k (pRelation u (xs (5 * n + 1))) ++ [ow ao k (lo (pcRelation u (xs (5 * n + 1))) (pRelation2 u (xs (5 * n + 1)) 0 0 - 1).toInt64 f)])) rfl rfl (fun w z => jTn_l (ww_L_69 w z)) yn_D_thrown (ap_l (mw_obj gm k ((m_relation v (xs (5 * n + 1))).2))) rfl rfl d_W_141 (Nat.le_of_ble_eq_true rfl) (by decide) ⟨by show 140 + 4 * n + 1 ≤ 601024; omega, by show 5944 + 24 * n + 6 ≤ 7293034; omega⟩ rfl ?_
  refine j_swap ?_
  refine j_iload hC d_W_144 5 rfl ?_
  refine j_icmp_eq (tgt := 151) hC d_W_146 (by decide) (fun _ => ?_) (fun h9 => absurd S.1.symm h9)
  refine j_iload hC d_W_151 5 rfl ?_
  refine j_if_ne (tgt := 168) hC d_W_153 (by decide) (fun _ => ?_) (fun h9 => ?_)
  · refine j_goto (tgt := 934) hC d_W_168 (by decide) ?_
    refine j_locals [0, 1, 2, 3, 4] rfl ?_
    exact j_widen (by omega) (by omega) (K _ _ _ S.2.2)
  · have hn0 := kc_none h9
    refine j_aload_n hC d_W_156 rfl 3 rfl ?_
    refine j_iconst (v := 0) hC d_W_157 (by decide) ?_
    refine j_lald hC 127 4 (ap_l (ow_at g k (pRelation u (xs (5 * n + 1))) ao (lo (pcRelation u (xs (5 * n + 1))) (pRelation2 u (xs (5 * n + 1)) 0 0 - 1).toInt64 f))) rfl vp_in_01 (lo_v hn0 (pRelation2 u (xs (5 * n + 1)) 0 0 - 1).toInt64 f) d_W_158 ?_
    refine j_iload hC d_W_159 6 rfl ?_
    refine j_i2l hC d_W_161 rfl ?_
    refine j_lcmp hC d_W_162 ?_
    refine j_st (st' := [.int 0]) (by rw [S.2.1 hn0, lg_self]) ?_
    refine j_if_eq (tgt := 168) hC d_W_163 (by decide) (fun _ => ?_) (fun h7 => absurd rfl h7)
    refine j_goto (tgt := 934) hC d_W_168 (by decide) ?_
    refine j_locals [0, 1, 2, 3, 4] rfl ?_
    exact j_widen (by omega) (by omega) (K _ _ _ S.2.2)

set_option maxHeartbeats 4000000 in
set_option maxRecDepth 100000 in
theorem lc_give {p : Program} {l : Launch} {e : Env} {s : State} {m : MethodId} {below : List Frame} {meth : Method} {c : Code} {dC : Nat → ClassId} {dI : Nat → Nat → Nat} {k : Nat → Nat} {b L : Nat} {xs : Nat → Int32} (hl : l.stackTraces = false) (hC : jC p s m #[Value.ref b] meth c code 7 "StrataHouseLaw" jTn (dC, dI) jcl (ltys k) (fun q => s.heap.size ≤ q)) (hX : va_X b L xs s s.heap) (hbl : b < s.heap.size) (hL : L ≤ 2560) (hr : meth.sig.returnType = ret) (g gm : Nat → Nat) (ao : Nat) {n : Nat} (hn : 5 * n + 5 ≤ L) {u v : jU} {f : Nat → Int64} (h : Rl u v) (K : ∀ (u' v' : jU) (f' : Nat → Int64), Rl u' v' → jJ p l e room_1 s m #[Value.ref b] below meth c 7 (dC, dI) jcl (fun q => s.heap.size ≤ q) (lw_Z below #[Value.ref b] s) (140 + 4 * (n + 1)) (5944 + 24 * (n + 1)) ((cw g k u' ++ [ow ao k f']) ++ mw gm k v') [(0, .ref b), (1, .ref (g 0)), (2, .ref (gm 0)), (3, .ref ao), (4, .int (nI (5 * n)))] [] 934) : jJ p l e room_1 s m #[Value.ref b] below meth c 7 (dC, dI) jcl (fun q => s.heap.size ≤ q) (lw_Z below #[Value.ref b] s) (140 + 4 * n) (5944 + 24 * n) ((cw g k u ++ [ow ao k f]) ++ mw gm k v) [(0, .ref b), (1, .ref (g 0)), (2, .ref (gm 0)), (3, .ref ao), (4, .int (nI (5 * n)))] [] 171 := by
  have hbA : ¬ s.heap.size ≤ b := Nat.not_le.mpr hbl
  have S := sim_give h (xs (5 * n + 1)) (xs (5 * n + 2)) (xs (5 * n + 3))
  refine j_aload_n hC d_W_171 rfl 1 rfl ?_
  refine j_aload_n hC d_W_172 rfl 0 rfl ?_
  refine j_iload hC d_W_173 4 rfl ?_
  refine j_iconst (v := 1) hC d_W_175 (by decide) ?_
  refine j_iadd hC d_W_176 ?_
  refine j_sld hC hX hbl hbA (q := 5 * n + 1) (nI_add (5 * n) 1) (by omega) (by omega) d_W_177 ?_
  refine j_aload_n hC d_W_178 rfl 0 rfl ?_
  refine j_iload hC d_W_179 4 rfl ?_
  refine j_iconst (v := 2) hC d_W_181 (by decide) ?_
  refine j_iadd hC d_W_182 ?_
  refine j_sld hC hX hbl hbA (q := 5 * n + 2) (nI_add (5 * n) 2) (by omega) (by omega) d_W_183 ?_
  refine j_aload_n hC d_W_184 rfl 0 rfl ?_
  refine j_iload hC d_W_185 4 rfl ?_
  refine j_iconst (v := 3) hC d_W_187 (by decide) ?_
  refine j_iadd hC d_W_188 ?_
  refine j_sld hC hX hbl hbA (q := 5 * n + 3) (nI_add (5 * n) 3) (by omega) (by omega) d_W_189 ?_
  refine j_aload_n hC d_W_190 rfl 3 rfl ?_
  refine j_callSH (As := [.ref (g 0), .int (xs (5 * n + 1)), .int (xs (5 * n + 2)), .int (xs (5 * n + 3)), .ref ao]) (rest := []) (st1 := [.int (kc xIA xIA (pcFact u (xs (5 * n + 1)) (xs (5 * n + 2)) (xs (5 * n + 3))))]) hC ((h_give l hl dC dI g k ao f u h.2.1.1 (xs (5 * n + 1)) (xs (5 * n + 2)) (xs (5 * n + 3))).frameR (mw gm k v)) rfl rfl (fun w z => jTn_l (wh_L_73 w z)) yn_L_give rfl d_W_191 (Nat.le_of_ble_eq_true rfl) (by decide) ⟨by show 140 + 4 * n + 2 ≤ 601024; omega, by show 5944 + 24 * n + 12 ≤ 7293034; omega⟩ rfl ?_
  refine j_istore (lv' := [(0, .ref b), (1, .ref (g 0)), (2, .ref (gm 0)), (3, .ref ao), (4, .int (nI (5 * n))), (5, .int (kc xIA xIA (pcFact u (xs (5 * n + 1)) (xs (5 * n + 2)) (xs (5 * n + 3)))))]) hC d_W_194 (by decide) rfl rfl ?_
  refine j_aload_n hC d_W_196 rfl 2 rfl ?_
  refine j_aload_n hC d_W_197 rfl 0 rfl ?_
  refine j_iload hC d_W_198 4 rfl ?_
  refine j_iconst (v := 1) hC d_W_200 (by decide) ?_
  refine j_iadd hC d_W_201 ?_
  refine j_sld hC hX hbl hbA (q := 5 * n + 1) (nI_add (5 * n) 1) (by omega) (by omega) d_W_202 ?_
  refine j_aload_n hC d_W_203 rfl 0 rfl ?_
  refine j_iload hC d_W_204 4 rfl ?_
  refine j_iconst (v := 2) hC d_W_206 (by decide) ?_
  refine j_iadd hC d_W_207 ?_
  refine j_sld hC hX hbl hbA (q := 5 * n + 2) (nI_add (5 * n) 2) (by omega) (by omega) d_W_208 ?_
  refine j_aload_n hC d_W_209 rfl 0 rfl ?_
  refine j_iload hC d_W_210 4 rfl ?_
  refine j_iconst (v := 3) hC d_W_212 (by decide) ?_
  refine j_iadd hC d_W_213 ?_
  refine j_sld hC hX hbl hbA (q := 5 * n + 3) (nI_add (5 * n) 3) (by omega) (by omega) d_W_214 ?_
  refine j_swap ?_
  refine j_callVr (As := [.int (xs (5 * n + 1)), .int (xs (5 * n + 2)), .int (xs (5 * n + 3))]) (rest := []) (st1 := [.int (m_give v (xs (5 * n + 1)) (xs (5 * n + 2)) (xs (5 * n + 3))).1]) hC ((jMet.more (fun _ z => jTn_l z) (r_give l dC dI gm k [(k 4, .long)] v h.2.2.2.1 (xs (5 * n + 1)) (xs (5 * n + 2)) (xs (5 * n + 3)))).frameR (cw g k (pGive u (xs (5 * n + 1)) (xs (5 * n + 2)) (xs (5 * n + 3)) 1) ++ [ow ao k (lo (pcFact u (xs (5 * n + 1)) (xs (5 * n + 2)) (xs (5 * n + 3))) (if (pSG u (xs (5 * n + 1)) (xs (5 * n + 2)) (xs (5 * n + 3)) 1).1 = 0 then (0 : Int64) else 1) f)])) rfl rfl (fun w z => jTn_l (ww_L_76 w z)) yn_D_give (ap_l (mw_obj gm k v)) rfl rfl d_W_215 (Nat.le_of_ble_eq_true rfl) (by decide) ⟨by show 140 + 4 * n + 2 ≤ 601024; omega, by show 5944 + 24 * n + 12 ≤ 7293034; omega⟩ rfl ?_
  refine j_swap ?_
  refine j_istore (lv' := [(0, .ref b), (1, .ref (g 0)), (2, .ref (gm 0)), (3, .ref ao), (4, .int (nI (5 * n))), (5, .int (kc xIA xIA (pcFact u (xs (5 * n + 1)) (xs (5 * n + 2)) (xs (5 * n + 3))))), (6, .int (m_give v (xs (5 * n + 1)) (xs (5 * n + 2)) (xs (5 * n + 3))).1)]) hC d_W_218 (by decide) rfl rfl ?_
  refine j_aload_n hC d_W_220 rfl 2 rfl ?_
  refine j_swap ?_
  refine j_callVr (As := []) (rest := []) (st1 := [.int (m_thrown ((m_give v (xs (5 * n + 1)) (xs (5 * n + 2)) (xs (5 * n + 3))).2))]) hC ((jMet.more (fun _ z => jTn_l z) (r_thrown l dC dI gm k [(k 4, .long)] ((m_give v (xs (5 * n + 1)) (xs (5 * n + 2)) (xs (5 * n + 3))).2))).frameR (cw g k (pGive u (xs (5 * n + 1)) (xs (5 * n + 2)) (xs (5 * n + 3)) 1) ++ [ow ao k (lo (pcFact u (xs (5 * n + 1)) (xs (5 * n + 2)) (xs (5 * n + 3))) (if (pSG u (xs (5 * n + 1)) (xs (5 * n + 2)) (xs (5 * n + 3)) 1).1 = 0 then (0 : Int64) else 1) f)])) rfl rfl (fun w z => jTn_l (ww_L_69 w z)) yn_D_thrown (ap_l (mw_obj gm k ((m_give v (xs (5 * n + 1)) (xs (5 * n + 2)) (xs (5 * n + 3))).2))) rfl rfl d_W_221 (Nat.le_of_ble_eq_true rfl) (by decide) ⟨by show 140 + 4 * n + 2 ≤ 601024; omega, by show 5944 + 24 * n + 12 ≤ 7293034; omega⟩ rfl ?_
  refine j_swap ?_
  refine j_iload hC d_W_224 5 rfl ?_
  refine j_icmp_eq (tgt := 231) hC d_W_226 (by decide) (fun _ => ?_) (fun h9 => absurd S.1.symm h9)
  refine j_iload hC d_W_231 5 rfl ?_
  refine j_if_ne (tgt := 255) hC d_W_233 (by decide) (fun _ => ?_) (fun h9 => ?_)
  · refine j_goto (tgt := 934) hC d_W_255 (by decide) ?_
    refine j_locals [0, 1, 2, 3, 4] rfl ?_
    exact j_widen (by omega) (by omega) (K _ _ _ S.2.2)
  · have hn0 := kc_none h9
    refine j_aload_n hC d_W_236 rfl 3 rfl ?_
    refine j_iconst (v := 0) hC d_W_237 (by decide) ?_
    refine j_lald hC 127 4 (ap_l (ow_at g k (pGive u (xs (5 * n + 1)) (xs (5 * n + 2)) (xs (5 * n + 3)) 1) ao (lo (pcFact u (xs (5 * n + 1)) (xs (5 * n + 2)) (xs (5 * n + 3))) (if (pSG u (xs (5 * n + 1)) (xs (5 * n + 2)) (xs (5 * n + 3)) 1).1 = 0 then (0 : Int64) else 1) f))) rfl vp_in_01 (lo_v hn0 (if (pSG u (xs (5 * n + 1)) (xs (5 * n + 2)) (xs (5 * n + 3)) 1).1 = 0 then (0 : Int64) else 1) f) d_W_238 ?_
    refine j_iload hC d_W_239 6 rfl ?_
    refine j_if_eq (tgt := 248) hC d_W_241 (by decide) (fun h8 => ?_) (fun h8 => ?_)
    · refine j_lconst (v := 0) hC d_W_248 (by decide) ?_
      refine j_lcmp hC d_W_249 ?_
      refine j_st (st' := [.int 0]) (by rw [S.2.1 hn0, if_pos h8, lg_self]) ?_
      refine j_if_eq (tgt := 255) hC d_W_250 (by decide) (fun _ => ?_) (fun h7 => absurd rfl h7)
      refine j_goto (tgt := 934) hC d_W_255 (by decide) ?_
      refine j_locals [0, 1, 2, 3, 4] rfl ?_
      exact j_widen (by omega) (by omega) (K _ _ _ S.2.2)
    · refine j_lconst (v := 1) hC d_W_244 (by decide) ?_
      refine j_goto (tgt := 249) hC d_W_245 (by decide) ?_
      refine j_lcmp hC d_W_249 ?_
      refine j_st (st' := [.int 0]) (by rw [S.2.1 hn0, if_neg h8, lg_self]) ?_
      refine j_if_eq (tgt := 255) hC d_W_250 (by decide) (fun _ => ?_) (fun h7 => absurd rfl h7)
      refine j_goto (tgt := 934) hC d_W_255 (by decide) ?_
      refine j_locals [0, 1, 2, 3, 4] rfl ?_
      exact j_widen (by omega) (by omega) (K _ _ _ S.2.2)

set_option maxHeartbeats 4000000 in
set_option maxRecDepth 100000 in
theorem lc_take {p : Program} {l : Launch} {e : Env} {s : State} {m : MethodId} {below : List Frame} {meth : Method} {c : Code} {dC : Nat → ClassId} {dI : Nat → Nat → Nat} {k : Nat → Nat} {b L : Nat} {xs : Nat → Int32} (hl : l.stackTraces = false) (hC : jC p s m #[Value.ref b] meth c code 7 "StrataHouseLaw" jTn (dC, dI) jcl (ltys k) (fun q => s.heap.size ≤ q)) (hX : va_X b L xs s s.heap) (hbl : b < s.heap.size) (hL : L ≤ 2560) (hr : meth.sig.returnType = ret) (g gm : Nat → Nat) (ao : Nat) {n : Nat} (hn : 5 * n + 5 ≤ L) {u v : jU} {f : Nat → Int64} (h : Rl u v) (K : ∀ (u' v' : jU) (f' : Nat → Int64), Rl u' v' → jJ p l e room_1 s m #[Value.ref b] below meth c 7 (dC, dI) jcl (fun q => s.heap.size ≤ q) (lw_Z below #[Value.ref b] s) (140 + 4 * (n + 1)) (5944 + 24 * (n + 1)) ((cw g k u' ++ [ow ao k f']) ++ mw gm k v') [(0, .ref b), (1, .ref (g 0)), (2, .ref (gm 0)), (3, .ref ao), (4, .int (nI (5 * n)))] [] 934) : jJ p l e room_1 s m #[Value.ref b] below meth c 7 (dC, dI) jcl (fun q => s.heap.size ≤ q) (lw_Z below #[Value.ref b] s) (140 + 4 * n) (5944 + 24 * n) ((cw g k u ++ [ow ao k f]) ++ mw gm k v) [(0, .ref b), (1, .ref (g 0)), (2, .ref (gm 0)), (3, .ref ao), (4, .int (nI (5 * n)))] [] 258 := by
  have hbA : ¬ s.heap.size ≤ b := Nat.not_le.mpr hbl
  have S := sim_take h (xs (5 * n + 1)) (xs (5 * n + 2)) (xs (5 * n + 3))
  refine j_aload_n hC d_W_258 rfl 1 rfl ?_
  refine j_aload_n hC d_W_259 rfl 0 rfl ?_
  refine j_iload hC d_W_260 4 rfl ?_
  refine j_iconst (v := 1) hC d_W_262 (by decide) ?_
  refine j_iadd hC d_W_263 ?_
  refine j_sld hC hX hbl hbA (q := 5 * n + 1) (nI_add (5 * n) 1) (by omega) (by omega) d_W_264 ?_
  refine j_aload_n hC d_W_265 rfl 0 rfl ?_
  refine j_iload hC d_W_266 4 rfl ?_
  refine j_iconst (v := 2) hC d_W_268 (by decide) ?_
  refine j_iadd hC d_W_269 ?_
  refine j_sld hC hX hbl hbA (q := 5 * n + 2) (nI_add (5 * n) 2) (by omega) (by omega) d_W_270 ?_
  refine j_aload_n hC d_W_271 rfl 0 rfl ?_
  refine j_iload hC d_W_272 4 rfl ?_
  refine j_iconst (v := 3) hC d_W_274 (by decide) ?_
  refine j_iadd hC d_W_275 ?_
  refine j_sld hC hX hbl hbA (q := 5 * n + 3) (nI_add (5 * n) 3) (by omega) (by omega) d_W_276 ?_
  refine j_aload_n hC d_W_277 rfl 3 rfl ?_
  refine j_callSH (As := [.ref (g 0), .int (xs (5 * n + 1)), .int (xs (5 * n + 2)), .int (xs (5 * n + 3)), .ref ao]) (rest := []) (st1 := [.int (kc xIA xIA (pcFact u (xs (5 * n + 1)) (xs (5 * n + 2)) (xs (5 * n + 3))))]) hC ((h_take l hl dC dI g k ao f u h.2.1.1 (xs (5 * n + 1)) (xs (5 * n + 2)) (xs (5 * n + 3))).frameR (mw gm k v)) rfl rfl (fun w z => jTn_l (wh_L_77 w z)) yn_L_take rfl d_W_278 (Nat.le_of_ble_eq_true rfl) (by decide) ⟨by show 140 + 4 * n + 2 ≤ 601024; omega, by show 5944 + 24 * n + 12 ≤ 7293034; omega⟩ rfl ?_
  refine j_istore (lv' := [(0, .ref b), (1, .ref (g 0)), (2, .ref (gm 0)), (3, .ref ao), (4, .int (nI (5 * n))), (5, .int (kc xIA xIA (pcFact u (xs (5 * n + 1)) (xs (5 * n + 2)) (xs (5 * n + 3)))))]) hC d_W_281 (by decide) rfl rfl ?_
  refine j_aload_n hC d_W_283 rfl 2 rfl ?_
  refine j_aload_n hC d_W_284 rfl 0 rfl ?_
  refine j_iload hC d_W_285 4 rfl ?_
  refine j_iconst (v := 1) hC d_W_287 (by decide) ?_
  refine j_iadd hC d_W_288 ?_
  refine j_sld hC hX hbl hbA (q := 5 * n + 1) (nI_add (5 * n) 1) (by omega) (by omega) d_W_289 ?_
  refine j_aload_n hC d_W_290 rfl 0 rfl ?_
  refine j_iload hC d_W_291 4 rfl ?_
  refine j_iconst (v := 2) hC d_W_293 (by decide) ?_
  refine j_iadd hC d_W_294 ?_
  refine j_sld hC hX hbl hbA (q := 5 * n + 2) (nI_add (5 * n) 2) (by omega) (by omega) d_W_295 ?_
  refine j_aload_n hC d_W_296 rfl 0 rfl ?_
  refine j_iload hC d_W_297 4 rfl ?_
  refine j_iconst (v := 3) hC d_W_299 (by decide) ?_
  refine j_iadd hC d_W_300 ?_
  refine j_sld hC hX hbl hbA (q := 5 * n + 3) (nI_add (5 * n) 3) (by omega) (by omega) d_W_301 ?_
  refine j_swap ?_
  refine j_callVr (As := [.int (xs (5 * n + 1)), .int (xs (5 * n + 2)), .int (xs (5 * n + 3))]) (rest := []) (st1 := [.int (m_take v (xs (5 * n + 1)) (xs (5 * n + 2)) (xs (5 * n + 3))).1]) hC ((jMet.more (fun _ z => jTn_l z) (r_take l dC dI gm k [(k 4, .long)] v h.2.2.2.1 (xs (5 * n + 1)) (xs (5 * n + 2)) (xs (5 * n + 3)))).frameR (cw g k (pGive u (xs (5 * n + 1)) (xs (5 * n + 2)) (xs (5 * n + 3)) 0) ++ [ow ao k (lo (pcFact u (xs (5 * n + 1)) (xs (5 * n + 2)) (xs (5 * n + 3))) (if (pSG u (xs (5 * n + 1)) (xs (5 * n + 2)) (xs (5 * n + 3)) 0).1 = 0 then (0 : Int64) else 1) f)])) rfl rfl (fun w z => jTn_l (ww_L_79 w z)) yn_D_take (ap_l (mw_obj gm k v)) rfl rfl d_W_302 (Nat.le_of_ble_eq_true rfl) (by decide) ⟨by show 140 + 4 * n + 2 ≤ 601024; omega, by show 5944 + 24 * n + 12 ≤ 7293034; omega⟩ rfl ?_
  refine j_swap ?_
  refine j_istore (lv' := [(0, .ref b), (1, .ref (g 0)), (2, .ref (gm 0)), (3, .ref ao), (4, .int (nI (5 * n))), (5, .int (kc xIA xIA (pcFact u (xs (5 * n + 1)) (xs (5 * n + 2)) (xs (5 * n + 3))))), (6, .int (m_take v (xs (5 * n + 1)) (xs (5 * n + 2)) (xs (5 * n + 3))).1)]) hC d_W_305 (by decide) rfl rfl ?_
  refine j_aload_n hC d_W_307 rfl 2 rfl ?_
  refine j_swap ?_
  refine j_callVr (As := []) (rest := []) (st1 := [.int (m_thrown ((m_take v (xs (5 * n + 1)) (xs (5 * n + 2)) (xs (5 * n + 3))).2))]) hC ((jMet.more (fun _ z => jTn_l z) (r_thrown l dC dI gm k [(k 4, .long)] ((m_take v (xs (5 * n + 1)) (xs (5 * n + 2)) (xs (5 * n + 3))).2))).frameR (cw g k (pGive u (xs (5 * n + 1)) (xs (5 * n + 2)) (xs (5 * n + 3)) 0) ++ [ow ao k (lo (pcFact u (xs (5 * n + 1)) (xs (5 * n + 2)) (xs (5 * n + 3))) (if (pSG u (xs (5 * n + 1)) (xs (5 * n + 2)) (xs (5 * n + 3)) 0).1 = 0 then (0 : Int64) else 1) f)])) rfl rfl (fun w z => jTn_l (ww_L_69 w z)) yn_D_thrown (ap_l (mw_obj gm k ((m_take v (xs (5 * n + 1)) (xs (5 * n + 2)) (xs (5 * n + 3))).2))) rfl rfl d_W_308 (Nat.le_of_ble_eq_true rfl) (by decide) ⟨by show 140 + 4 * n + 2 ≤ 601024; omega, by show 5944 + 24 * n + 12 ≤ 7293034; omega⟩ rfl ?_
  refine j_swap ?_
  refine j_iload hC d_W_311 5 rfl ?_
  refine j_icmp_eq (tgt := 318) hC d_W_313 (by decide) (fun _ => ?_) (fun h9 => absurd S.1.symm h9)
  refine j_iload hC d_W_318 5 rfl ?_
  refine j_if_ne (tgt := 342) hC d_W_320 (by decide) (fun _ => ?_) (fun h9 => ?_)
  · refine j_goto (tgt := 934) hC d_W_342 (by decide) ?_
    refine j_locals [0, 1, 2, 3, 4] rfl ?_
    exact j_widen (by omega) (by omega) (K _ _ _ S.2.2)
  · have hn0 := kc_none h9
    refine j_aload_n hC d_W_323 rfl 3 rfl ?_
    refine j_iconst (v := 0) hC d_W_324 (by decide) ?_
    refine j_lald hC 127 4 (ap_l (ow_at g k (pGive u (xs (5 * n + 1)) (xs (5 * n + 2)) (xs (5 * n + 3)) 0) ao (lo (pcFact u (xs (5 * n + 1)) (xs (5 * n + 2)) (xs (5 * n + 3))) (if (pSG u (xs (5 * n + 1)) (xs (5 * n + 2)) (xs (5 * n + 3)) 0).1 = 0 then (0 : Int64) else 1) f))) rfl vp_in_01 (lo_v hn0 (if (pSG u (xs (5 * n + 1)) (xs (5 * n + 2)) (xs (5 * n + 3)) 0).1 = 0 then (0 : Int64) else 1) f) d_W_325 ?_
    refine j_iload hC d_W_326 6 rfl ?_
    refine j_if_eq (tgt := 335) hC d_W_328 (by decide) (fun h8 => ?_) (fun h8 => ?_)
    · refine j_lconst (v := 0) hC d_W_335 (by decide) ?_
      refine j_lcmp hC d_W_336 ?_
      refine j_st (st' := [.int 0]) (by rw [S.2.1 hn0, if_pos h8, lg_self]) ?_
      refine j_if_eq (tgt := 342) hC d_W_337 (by decide) (fun _ => ?_) (fun h7 => absurd rfl h7)
      refine j_goto (tgt := 934) hC d_W_342 (by decide) ?_
      refine j_locals [0, 1, 2, 3, 4] rfl ?_
      exact j_widen (by omega) (by omega) (K _ _ _ S.2.2)
    · refine j_lconst (v := 1) hC d_W_331 (by decide) ?_
      refine j_goto (tgt := 336) hC d_W_332 (by decide) ?_
      refine j_lcmp hC d_W_336 ?_
      refine j_st (st' := [.int 0]) (by rw [S.2.1 hn0, if_neg h8, lg_self]) ?_
      refine j_if_eq (tgt := 342) hC d_W_337 (by decide) (fun _ => ?_) (fun h7 => absurd rfl h7)
      refine j_goto (tgt := 934) hC d_W_342 (by decide) ?_
      refine j_locals [0, 1, 2, 3, 4] rfl ?_
      exact j_widen (by omega) (by omega) (K _ _ _ S.2.2)

set_option maxHeartbeats 4000000 in
set_option maxRecDepth 100000 in
theorem lc_rule {p : Program} {l : Launch} {e : Env} {s : State} {m : MethodId} {below : List Frame} {meth : Method} {c : Code} {dC : Nat → ClassId} {dI : Nat → Nat → Nat} {k : Nat → Nat} {b L : Nat} {xs : Nat → Int32} (hl : l.stackTraces = false) (hC : jC p s m #[Value.ref b] meth c code 7 "StrataHouseLaw" jTn (dC, dI) jcl (ltys k) (fun q => s.heap.size ≤ q)) (hX : va_X b L xs s s.heap) (hbl : b < s.heap.size) (hL : L ≤ 2560) (hr : meth.sig.returnType = ret) (g gm : Nat → Nat) (ao : Nat) {n : Nat} (hn : 5 * n + 5 ≤ L) {u v : jU} {f : Nat → Int64} (h : Rl u v) (K : ∀ (u' v' : jU) (f' : Nat → Int64), Rl u' v' → jJ p l e room_1 s m #[Value.ref b] below meth c 7 (dC, dI) jcl (fun q => s.heap.size ≤ q) (lw_Z below #[Value.ref b] s) (140 + 4 * (n + 1)) (5944 + 24 * (n + 1)) ((cw g k u' ++ [ow ao k f']) ++ mw gm k v') [(0, .ref b), (1, .ref (g 0)), (2, .ref (gm 0)), (3, .ref ao), (4, .int (nI (5 * n)))] [] 934) : jJ p l e room_1 s m #[Value.ref b] below meth c 7 (dC, dI) jcl (fun q => s.heap.size ≤ q) (lw_Z below #[Value.ref b] s) (140 + 4 * n) (5944 + 24 * n) ((cw g k u ++ [ow ao k f]) ++ mw gm k v) [(0, .ref b), (1, .ref (g 0)), (2, .ref (gm 0)), (3, .ref ao), (4, .int (nI (5 * n)))] [] 345 := by
  have hbA : ¬ s.heap.size ≤ b := Nat.not_le.mpr hbl
  have S := sim_rule h (xs (5 * n + 1)) (xs (5 * n + 2)) (xs (5 * n + 3))
  refine j_aload_n hC d_W_345 rfl 1 rfl ?_
  refine j_aload_n hC d_W_346 rfl 0 rfl ?_
  refine j_iload hC d_W_347 4 rfl ?_
  refine j_iconst (v := 1) hC d_W_349 (by decide) ?_
  refine j_iadd hC d_W_350 ?_
  refine j_sld hC hX hbl hbA (q := 5 * n + 1) (nI_add (5 * n) 1) (by omega) (by omega) d_W_351 ?_
  refine j_aload_n hC d_W_352 rfl 0 rfl ?_
  refine j_iload hC d_W_353 4 rfl ?_
  refine j_iconst (v := 2) hC d_W_355 (by decide) ?_
  refine j_iadd hC d_W_356 ?_
  refine j_sld hC hX hbl hbA (q := 5 * n + 2) (nI_add (5 * n) 2) (by omega) (by omega) d_W_357 ?_
  refine j_aload_n hC d_W_358 rfl 0 rfl ?_
  refine j_iload hC d_W_359 4 rfl ?_
  refine j_iconst (v := 3) hC d_W_361 (by decide) ?_
  refine j_iadd hC d_W_362 ?_
  refine j_sld hC hX hbl hbA (q := 5 * n + 3) (nI_add (5 * n) 3) (by omega) (by omega) d_W_363 ?_
  refine j_aload_n hC d_W_364 rfl 3 rfl ?_
  refine j_callSH (As := [.ref (g 0), .int (xs (5 * n + 1)), .int (xs (5 * n + 2)), .int (xs (5 * n + 3)), .ref ao]) (rest := []) (st1 := [.int (kc xIA xUO (pcRuleC u (xs (5 * n + 1)) (xs (5 * n + 2)) (xs (5 * n + 3))))]) hC ((h_rule l hl dC dI g k ao f u h.2.1.1 (xs (5 * n + 1)) (xs (5 * n + 2)) (xs (5 * n + 3))).frameR (mw gm k v)) rfl rfl (fun w z => jTn_l (wh_L_80 w z)) yn_L_rule rfl d_W_365 (Nat.le_of_ble_eq_true rfl) (by decide) ⟨by show 140 + 4 * n + 3 ≤ 601024; omega, by show 5944 + 24 * n + 18 ≤ 7293034; omega⟩ rfl ?_
  refine j_istore (lv' := [(0, .ref b), (1, .ref (g 0)), (2, .ref (gm 0)), (3, .ref ao), (4, .int (nI (5 * n))), (5, .int (kc xIA xUO (pcRuleC u (xs (5 * n + 1)) (xs (5 * n + 2)) (xs (5 * n + 3)))))]) hC d_W_368 (by decide) rfl rfl ?_
  refine j_aload_n hC d_W_370 rfl 2 rfl ?_
  refine j_aload_n hC d_W_371 rfl 0 rfl ?_
  refine j_iload hC d_W_372 4 rfl ?_
  refine j_iconst (v := 1) hC d_W_374 (by decide) ?_
  refine j_iadd hC d_W_375 ?_
  refine j_sld hC hX hbl hbA (q := 5 * n + 1) (nI_add (5 * n) 1) (by omega) (by omega) d_W_376 ?_
  refine j_aload_n hC d_W_377 rfl 0 rfl ?_
  refine j_iload hC d_W_378 4 rfl ?_
  refine j_iconst (v := 2) hC d_W_380 (by decide) ?_
  refine j_iadd hC d_W_381 ?_
  refine j_sld hC hX hbl hbA (q := 5 * n + 2) (nI_add (5 * n) 2) (by omega) (by omega) d_W_382 ?_
  refine j_aload_n hC d_W_383 rfl 0 rfl ?_
  refine j_iload hC d_W_384 4 rfl ?_
  refine j_iconst (v := 3) hC d_W_386 (by decide) ?_
  refine j_iadd hC d_W_387 ?_
  refine j_sld hC hX hbl hbA (q := 5 * n + 3) (nI_add (5 * n) 3) (by omega) (by omega) d_W_388 ?_
  refine j_swap ?_
  refine j_callVr (As := [.int (xs (5 * n + 1)), .int (xs (5 * n + 2)), .int (xs (5 * n + 3))]) (rest := []) (st1 := [.int (m_rule v (xs (5 * n + 1)) (xs (5 * n + 2)) (xs (5 * n + 3))).1]) hC ((jMet.more (fun _ z => jTn_l z) (r_rule l dC dI gm k [(k 4, .long)] v h.2.2.2.1 (xs (5 * n + 1)) (xs (5 * n + 2)) (xs (5 * n + 3)))).frameR (cw g k (pRuleC u (xs (5 * n + 1)) (xs (5 * n + 2)) (xs (5 * n + 3))) ++ [ow ao k (lo (pcRuleC u (xs (5 * n + 1)) (xs (5 * n + 2)) (xs (5 * n + 3))) (pRule2 u (xs (5 * n + 1)) (xs (5 * n + 2)) (xs (5 * n + 3)) 0 1 - 1).toInt64 f)])) rfl rfl (fun w z => jTn_l (ww_L_82 w z)) yn_D_rule (ap_l (mw_obj gm k v)) rfl rfl d_W_389 (Nat.le_of_ble_eq_true rfl) (by decide) ⟨by show 140 + 4 * n + 3 ≤ 601024; omega, by show 5944 + 24 * n + 18 ≤ 7293034; omega⟩ rfl ?_
  refine j_swap ?_
  refine j_istore (lv' := [(0, .ref b), (1, .ref (g 0)), (2, .ref (gm 0)), (3, .ref ao), (4, .int (nI (5 * n))), (5, .int (kc xIA xUO (pcRuleC u (xs (5 * n + 1)) (xs (5 * n + 2)) (xs (5 * n + 3))))), (6, .int (m_rule v (xs (5 * n + 1)) (xs (5 * n + 2)) (xs (5 * n + 3))).1)]) hC d_W_392 (by decide) rfl rfl ?_
  refine j_aload_n hC d_W_394 rfl 2 rfl ?_
  refine j_swap ?_
  refine j_callVr (As := []) (rest := []) (st1 := [.int (m_thrown ((m_rule v (xs (5 * n + 1)) (xs (5 * n + 2)) (xs (5 * n + 3))).2))]) hC ((jMet.more (fun _ z => jTn_l z) (r_thrown l dC dI gm k [(k 4, .long)] ((m_rule v (xs (5 * n + 1)) (xs (5 * n + 2)) (xs (5 * n + 3))).2))).frameR (cw g k (pRuleC u (xs (5 * n + 1)) (xs (5 * n + 2)) (xs (5 * n + 3))) ++ [ow ao k (lo (pcRuleC u (xs (5 * n + 1)) (xs (5 * n + 2)) (xs (5 * n + 3))) (pRule2 u (xs (5 * n + 1)) (xs (5 * n + 2)) (xs (5 * n + 3)) 0 1 - 1).toInt64 f)])) rfl rfl (fun w z => jTn_l (ww_L_69 w z)) yn_D_thrown (ap_l (mw_obj gm k ((m_rule v (xs (5 * n + 1)) (xs (5 * n + 2)) (xs (5 * n + 3))).2))) rfl rfl d_W_395 (Nat.le_of_ble_eq_true rfl) (by decide) ⟨by show 140 + 4 * n + 3 ≤ 601024; omega, by show 5944 + 24 * n + 18 ≤ 7293034; omega⟩ rfl ?_
  refine j_swap ?_
  refine j_iload hC d_W_398 5 rfl ?_
  refine j_icmp_eq (tgt := 405) hC d_W_400 (by decide) (fun _ => ?_) (fun h9 => absurd S.1.symm h9)
  refine j_iload hC d_W_405 5 rfl ?_
  refine j_if_ne (tgt := 422) hC d_W_407 (by decide) (fun _ => ?_) (fun h9 => ?_)
  · refine j_goto (tgt := 934) hC d_W_422 (by decide) ?_
    refine j_locals [0, 1, 2, 3, 4] rfl ?_
    exact j_widen (by omega) (by omega) (K _ _ _ S.2.2)
  · have hn0 := kc_none h9
    refine j_aload_n hC d_W_410 rfl 3 rfl ?_
    refine j_iconst (v := 0) hC d_W_411 (by decide) ?_
    refine j_lald hC 127 4 (ap_l (ow_at g k (pRuleC u (xs (5 * n + 1)) (xs (5 * n + 2)) (xs (5 * n + 3))) ao (lo (pcRuleC u (xs (5 * n + 1)) (xs (5 * n + 2)) (xs (5 * n + 3))) (pRule2 u (xs (5 * n + 1)) (xs (5 * n + 2)) (xs (5 * n + 3)) 0 1 - 1).toInt64 f))) rfl vp_in_01 (lo_v hn0 (pRule2 u (xs (5 * n + 1)) (xs (5 * n + 2)) (xs (5 * n + 3)) 0 1 - 1).toInt64 f) d_W_412 ?_
    refine j_iload hC d_W_413 6 rfl ?_
    refine j_i2l hC d_W_415 rfl ?_
    refine j_lcmp hC d_W_416 ?_
    refine j_st (st' := [.int 0]) (by rw [S.2.1 hn0, lg_self]) ?_
    refine j_if_eq (tgt := 422) hC d_W_417 (by decide) (fun _ => ?_) (fun h7 => absurd rfl h7)
    refine j_goto (tgt := 934) hC d_W_422 (by decide) ?_
    refine j_locals [0, 1, 2, 3, 4] rfl ?_
    exact j_widen (by omega) (by omega) (K _ _ _ S.2.2)

set_option maxHeartbeats 4000000 in
set_option maxRecDepth 100000 in
theorem lc_literal0 {p : Program} {l : Launch} {e : Env} {s : State} {m : MethodId} {below : List Frame} {meth : Method} {c : Code} {dC : Nat → ClassId} {dI : Nat → Nat → Nat} {k : Nat → Nat} {b L : Nat} {xs : Nat → Int32} (hl : l.stackTraces = false) (hC : jC p s m #[Value.ref b] meth c code 7 "StrataHouseLaw" jTn (dC, dI) jcl (ltys k) (fun q => s.heap.size ≤ q)) (hX : va_X b L xs s s.heap) (hbl : b < s.heap.size) (hL : L ≤ 2560) (hr : meth.sig.returnType = ret) (g gm : Nat → Nat) (ao : Nat) {n : Nat} (hn : 5 * n + 5 ≤ L) {u v : jU} {f : Nat → Int64} (h : Rl u v) (hz : xs (5 * n + 4) = 0) (K : ∀ (u' v' : jU) (f' : Nat → Int64), Rl u' v' → jJ p l e room_1 s m #[Value.ref b] below meth c 7 (dC, dI) jcl (fun q => s.heap.size ≤ q) (lw_Z below #[Value.ref b] s) (140 + 4 * (n + 1)) (5944 + 24 * (n + 1)) ((cw g k u' ++ [ow ao k f']) ++ mw gm k v') [(0, .ref b), (1, .ref (g 0)), (2, .ref (gm 0)), (3, .ref ao), (4, .int (nI (5 * n)))] [] 934) : jJ p l e room_1 s m #[Value.ref b] below meth c 7 (dC, dI) jcl (fun q => s.heap.size ≤ q) (lw_Z below #[Value.ref b] s) (140 + 4 * n) (5944 + 24 * n) ((cw g k u ++ [ow ao k f]) ++ mw gm k v) [(0, .ref b), (1, .ref (g 0)), (2, .ref (gm 0)), (3, .ref ao), (4, .int (nI (5 * n)))] [] 425 := by
  have hbA : ¬ s.heap.size ≤ b := Nat.not_le.mpr hbl
  have S := sim_literal h (xs (5 * n + 1)) (xs (5 * n + 2)) (xs (5 * n + 3)) 0 (Or.inl rfl)
  refine j_aload_n hC d_W_425 rfl 1 rfl ?_
  refine j_aload_n hC d_W_426 rfl 0 rfl ?_
  refine j_iload hC d_W_427 4 rfl ?_
  refine j_iconst (v := 1) hC d_W_429 (by decide) ?_
  refine j_iadd hC d_W_430 ?_
  refine j_sld hC hX hbl hbA (q := 5 * n + 1) (nI_add (5 * n) 1) (by omega) (by omega) d_W_431 ?_
  refine j_aload_n hC d_W_432 rfl 0 rfl ?_
  refine j_iload hC d_W_433 4 rfl ?_
  refine j_iconst (v := 2) hC d_W_435 (by decide) ?_
  refine j_iadd hC d_W_436 ?_
  refine j_sld hC hX hbl hbA (q := 5 * n + 2) (nI_add (5 * n) 2) (by omega) (by omega) d_W_437 ?_
  refine j_aload_n hC d_W_438 rfl 0 rfl ?_
  refine j_iload hC d_W_439 4 rfl ?_
  refine j_iconst (v := 3) hC d_W_441 (by decide) ?_
  refine j_iadd hC d_W_442 ?_
  refine j_sld hC hX hbl hbA (q := 5 * n + 3) (nI_add (5 * n) 3) (by omega) (by omega) d_W_443 ?_
  refine j_aload_n hC d_W_444 rfl 0 rfl ?_
  refine j_iload hC d_W_445 4 rfl ?_
  refine j_iconst (v := 4) hC d_W_447 (by decide) ?_
  refine j_iadd hC d_W_448 ?_
  refine j_sld hC hX hbl hbA (q := 5 * n + 4) (nI_add (5 * n) 4) (by omega) (by omega) d_W_449 ?_
  refine j_if_eq (tgt := 457) hC d_W_450 (by decide) (fun _ => ?_) (fun h9 => absurd hz h9)
  refine j_iconst (v := 0) hC d_W_457 (by decide) ?_
  refine j_aload_n hC d_W_458 rfl 3 rfl ?_
  refine j_callSH (As := [.ref (g 0), .int (xs (5 * n + 1)), .int (xs (5 * n + 2)), .int (xs (5 * n + 3)), .int 0, .ref ao]) (rest := []) (st1 := [.int (kc xIS xIA (pcLit u (xs (5 * n + 1)) (xs (5 * n + 2)) (xs (5 * n + 3))))]) hC ((h_literal l hl dC dI g k ao f u h.2.1.1 (xs (5 * n + 1)) (xs (5 * n + 2)) (xs (5 * n + 3)) 0 (Or.inl rfl)).frameR (mw gm k v)) rfl rfl (fun w z => jTn_l (wh_L_83 w z)) yn_L_literal rfl d_W_459 (Nat.le_of_ble_eq_true rfl) (by decide) ⟨by show 140 + 4 * n + 4 ≤ 601024; omega, by show 5944 + 24 * n + 24 ≤ 7293034; omega⟩ rfl ?_
  refine j_istore (lv' := [(0, .ref b), (1, .ref (g 0)), (2, .ref (gm 0)), (3, .ref ao), (4, .int (nI (5 * n))), (5, .int (kc xIS xIA (pcLit u (xs (5 * n + 1)) (xs (5 * n + 2)) (xs (5 * n + 3)))))]) hC d_W_462 (by decide) rfl rfl ?_
  refine j_aload_n hC d_W_464 rfl 2 rfl ?_
  refine j_aload_n hC d_W_465 rfl 0 rfl ?_
  refine j_iload hC d_W_466 4 rfl ?_
  refine j_iconst (v := 1) hC d_W_468 (by decide) ?_
  refine j_iadd hC d_W_469 ?_
  refine j_sld hC hX hbl hbA (q := 5 * n + 1) (nI_add (5 * n) 1) (by omega) (by omega) d_W_470 ?_
  refine j_aload_n hC d_W_471 rfl 0 rfl ?_
  refine j_iload hC d_W_472 4 rfl ?_
  refine j_iconst (v := 2) hC d_W_474 (by decide) ?_
  refine j_iadd hC d_W_475 ?_
  refine j_sld hC hX hbl hbA (q := 5 * n + 2) (nI_add (5 * n) 2) (by omega) (by omega) d_W_476 ?_
  refine j_aload_n hC d_W_477 rfl 0 rfl ?_
  refine j_iload hC d_W_478 4 rfl ?_
  refine j_iconst (v := 3) hC d_W_480 (by decide) ?_
  refine j_iadd hC d_W_481 ?_
  refine j_sld hC hX hbl hbA (q := 5 * n + 3) (nI_add (5 * n) 3) (by omega) (by omega) d_W_482 ?_
  refine j_aload_n hC d_W_483 rfl 0 rfl ?_
  refine j_iload hC d_W_484 4 rfl ?_
  refine j_iconst (v := 4) hC d_W_486 (by decide) ?_
  refine j_iadd hC d_W_487 ?_
  refine j_sld hC hX hbl hbA (q := 5 * n + 4) (nI_add (5 * n) 4) (by omega) (by omega) d_W_488 ?_
  refine j_if_eq (tgt := 496) hC d_W_489 (by decide) (fun _ => ?_) (fun h9 => absurd hz h9)
  refine j_iconst (v := 0) hC d_W_496 (by decide) ?_
  refine j_swap ?_
  refine j_callVr (As := [.int (xs (5 * n + 1)), .int (xs (5 * n + 2)), .int (xs (5 * n + 3)), .int 0]) (rest := []) (st1 := [.int (m_literal v (xs (5 * n + 1)) (xs (5 * n + 2)) (xs (5 * n + 3)) 0).1]) hC ((jMet.more (fun _ z => jTn_l z) (r_literal l dC dI gm k [(k 4, .long)] v h.2.2.2.1 (xs (5 * n + 1)) (xs (5 * n + 2)) (xs (5 * n + 3)) 0 (Or.inl rfl))).frameR (cw g k (pLit u (xs (5 * n + 1)) (xs (5 * n + 2)) (xs (5 * n + 3)) 0) ++ [ow ao k (lo (pcLit u (xs (5 * n + 1)) (xs (5 * n + 2)) (xs (5 * n + 3))) (pLit1 u (xs (5 * n + 1)) (xs (5 * n + 2)) (xs (5 * n + 3)) 0 12 (tn (u 0 1) - 1)).toInt64 f)])) rfl rfl (fun w z => jTn_l (ww_L_86 w z)) yn_D_literal (ap_l (mw_obj gm k v)) rfl rfl d_W_497 (Nat.le_of_ble_eq_true rfl) (by decide) ⟨by show 140 + 4 * n + 4 ≤ 601024; omega, by show 5944 + 24 * n + 24 ≤ 7293034; omega⟩ rfl ?_
  refine j_swap ?_
  refine j_istore (lv' := [(0, .ref b), (1, .ref (g 0)), (2, .ref (gm 0)), (3, .ref ao), (4, .int (nI (5 * n))), (5, .int (kc xIS xIA (pcLit u (xs (5 * n + 1)) (xs (5 * n + 2)) (xs (5 * n + 3))))), (6, .int (m_literal v (xs (5 * n + 1)) (xs (5 * n + 2)) (xs (5 * n + 3)) 0).1)]) hC d_W_500 (by decide) rfl rfl ?_
  refine j_aload_n hC d_W_502 rfl 2 rfl ?_
  refine j_swap ?_
  refine j_callVr (As := []) (rest := []) (st1 := [.int (m_thrown ((m_literal v (xs (5 * n + 1)) (xs (5 * n + 2)) (xs (5 * n + 3)) 0).2))]) hC ((jMet.more (fun _ z => jTn_l z) (r_thrown l dC dI gm k [(k 4, .long)] ((m_literal v (xs (5 * n + 1)) (xs (5 * n + 2)) (xs (5 * n + 3)) 0).2))).frameR (cw g k (pLit u (xs (5 * n + 1)) (xs (5 * n + 2)) (xs (5 * n + 3)) 0) ++ [ow ao k (lo (pcLit u (xs (5 * n + 1)) (xs (5 * n + 2)) (xs (5 * n + 3))) (pLit1 u (xs (5 * n + 1)) (xs (5 * n + 2)) (xs (5 * n + 3)) 0 12 (tn (u 0 1) - 1)).toInt64 f)])) rfl rfl (fun w z => jTn_l (ww_L_69 w z)) yn_D_thrown (ap_l (mw_obj gm k ((m_literal v (xs (5 * n + 1)) (xs (5 * n + 2)) (xs (5 * n + 3)) 0).2))) rfl rfl d_W_503 (Nat.le_of_ble_eq_true rfl) (by decide) ⟨by show 140 + 4 * n + 4 ≤ 601024; omega, by show 5944 + 24 * n + 24 ≤ 7293034; omega⟩ rfl ?_
  refine j_swap ?_
  refine j_iload hC d_W_506 5 rfl ?_
  refine j_icmp_eq (tgt := 513) hC d_W_508 (by decide) (fun _ => ?_) (fun h9 => absurd S.1.symm h9)
  refine j_iload hC d_W_513 5 rfl ?_
  refine j_if_ne (tgt := 530) hC d_W_515 (by decide) (fun _ => ?_) (fun h9 => ?_)
  · refine j_goto (tgt := 934) hC d_W_530 (by decide) ?_
    refine j_locals [0, 1, 2, 3, 4] rfl ?_
    exact j_widen (by omega) (by omega) (K _ _ _ S.2.2)
  · have hn0 := kc_none h9
    refine j_aload_n hC d_W_518 rfl 3 rfl ?_
    refine j_iconst (v := 0) hC d_W_519 (by decide) ?_
    refine j_lald hC 127 4 (ap_l (ow_at g k (pLit u (xs (5 * n + 1)) (xs (5 * n + 2)) (xs (5 * n + 3)) 0) ao (lo (pcLit u (xs (5 * n + 1)) (xs (5 * n + 2)) (xs (5 * n + 3))) (pLit1 u (xs (5 * n + 1)) (xs (5 * n + 2)) (xs (5 * n + 3)) 0 12 (tn (u 0 1) - 1)).toInt64 f))) rfl vp_in_01 (lo_v hn0 (pLit1 u (xs (5 * n + 1)) (xs (5 * n + 2)) (xs (5 * n + 3)) 0 12 (tn (u 0 1) - 1)).toInt64 f) d_W_520 ?_
    refine j_iload hC d_W_521 6 rfl ?_
    refine j_i2l hC d_W_523 rfl ?_
    refine j_lcmp hC d_W_524 ?_
    refine j_st (st' := [.int 0]) (by rw [S.2.1 hn0, lg_self]) ?_
    refine j_if_eq (tgt := 530) hC d_W_525 (by decide) (fun _ => ?_) (fun h7 => absurd rfl h7)
    refine j_goto (tgt := 934) hC d_W_530 (by decide) ?_
    refine j_locals [0, 1, 2, 3, 4] rfl ?_
    exact j_widen (by omega) (by omega) (K _ _ _ S.2.2)

set_option maxHeartbeats 4000000 in
set_option maxRecDepth 100000 in
theorem lc_literal1 {p : Program} {l : Launch} {e : Env} {s : State} {m : MethodId} {below : List Frame} {meth : Method} {c : Code} {dC : Nat → ClassId} {dI : Nat → Nat → Nat} {k : Nat → Nat} {b L : Nat} {xs : Nat → Int32} (hl : l.stackTraces = false) (hC : jC p s m #[Value.ref b] meth c code 7 "StrataHouseLaw" jTn (dC, dI) jcl (ltys k) (fun q => s.heap.size ≤ q)) (hX : va_X b L xs s s.heap) (hbl : b < s.heap.size) (hL : L ≤ 2560) (hr : meth.sig.returnType = ret) (g gm : Nat → Nat) (ao : Nat) {n : Nat} (hn : 5 * n + 5 ≤ L) {u v : jU} {f : Nat → Int64} (h : Rl u v) (hz : ¬ xs (5 * n + 4) = 0) (K : ∀ (u' v' : jU) (f' : Nat → Int64), Rl u' v' → jJ p l e room_1 s m #[Value.ref b] below meth c 7 (dC, dI) jcl (fun q => s.heap.size ≤ q) (lw_Z below #[Value.ref b] s) (140 + 4 * (n + 1)) (5944 + 24 * (n + 1)) ((cw g k u' ++ [ow ao k f']) ++ mw gm k v') [(0, .ref b), (1, .ref (g 0)), (2, .ref (gm 0)), (3, .ref ao), (4, .int (nI (5 * n)))] [] 934) : jJ p l e room_1 s m #[Value.ref b] below meth c 7 (dC, dI) jcl (fun q => s.heap.size ≤ q) (lw_Z below #[Value.ref b] s) (140 + 4 * n) (5944 + 24 * n) ((cw g k u ++ [ow ao k f]) ++ mw gm k v) [(0, .ref b), (1, .ref (g 0)), (2, .ref (gm 0)), (3, .ref ao), (4, .int (nI (5 * n)))] [] 425 := by
  have hbA : ¬ s.heap.size ≤ b := Nat.not_le.mpr hbl
  have S := sim_literal h (xs (5 * n + 1)) (xs (5 * n + 2)) (xs (5 * n + 3)) 1 (Or.inr rfl)
  refine j_aload_n hC d_W_425 rfl 1 rfl ?_
  refine j_aload_n hC d_W_426 rfl 0 rfl ?_
  refine j_iload hC d_W_427 4 rfl ?_
  refine j_iconst (v := 1) hC d_W_429 (by decide) ?_
  refine j_iadd hC d_W_430 ?_
  refine j_sld hC hX hbl hbA (q := 5 * n + 1) (nI_add (5 * n) 1) (by omega) (by omega) d_W_431 ?_
  refine j_aload_n hC d_W_432 rfl 0 rfl ?_
  refine j_iload hC d_W_433 4 rfl ?_
  refine j_iconst (v := 2) hC d_W_435 (by decide) ?_
  refine j_iadd hC d_W_436 ?_
  refine j_sld hC hX hbl hbA (q := 5 * n + 2) (nI_add (5 * n) 2) (by omega) (by omega) d_W_437 ?_
  refine j_aload_n hC d_W_438 rfl 0 rfl ?_
  refine j_iload hC d_W_439 4 rfl ?_
  refine j_iconst (v := 3) hC d_W_441 (by decide) ?_
  refine j_iadd hC d_W_442 ?_
  refine j_sld hC hX hbl hbA (q := 5 * n + 3) (nI_add (5 * n) 3) (by omega) (by omega) d_W_443 ?_
  refine j_aload_n hC d_W_444 rfl 0 rfl ?_
  refine j_iload hC d_W_445 4 rfl ?_
  refine j_iconst (v := 4) hC d_W_447 (by decide) ?_
  refine j_iadd hC d_W_448 ?_
  refine j_sld hC hX hbl hbA (q := 5 * n + 4) (nI_add (5 * n) 4) (by omega) (by omega) d_W_449 ?_
  refine j_if_eq (tgt := 457) hC d_W_450 (by decide) (fun h9 => absurd h9 hz) (fun _ => ?_)
  refine j_iconst (v := 1) hC d_W_453 (by decide) ?_
  refine j_goto (tgt := 458) hC d_W_454 (by decide) ?_
  refine j_aload_n hC d_W_458 rfl 3 rfl ?_
  refine j_callSH (As := [.ref (g 0), .int (xs (5 * n + 1)), .int (xs (5 * n + 2)), .int (xs (5 * n + 3)), .int 1, .ref ao]) (rest := []) (st1 := [.int (kc xIS xIA (pcLit u (xs (5 * n + 1)) (xs (5 * n + 2)) (xs (5 * n + 3))))]) hC ((h_literal l hl dC dI g k ao f u h.2.1.1 (xs (5 * n + 1)) (xs (5 * n + 2)) (xs (5 * n + 3)) 1 (Or.inr rfl)).frameR (mw gm k v)) rfl rfl (fun w z => jTn_l (wh_L_83 w z)) yn_L_literal rfl d_W_459 (Nat.le_of_ble_eq_true rfl) (by decide) ⟨by show 140 + 4 * n + 4 ≤ 601024; omega, by show 5944 + 24 * n + 24 ≤ 7293034; omega⟩ rfl ?_
  refine j_istore (lv' := [(0, .ref b), (1, .ref (g 0)), (2, .ref (gm 0)), (3, .ref ao), (4, .int (nI (5 * n))), (5, .int (kc xIS xIA (pcLit u (xs (5 * n + 1)) (xs (5 * n + 2)) (xs (5 * n + 3)))))]) hC d_W_462 (by decide) rfl rfl ?_
  refine j_aload_n hC d_W_464 rfl 2 rfl ?_
  refine j_aload_n hC d_W_465 rfl 0 rfl ?_
  refine j_iload hC d_W_466 4 rfl ?_
  refine j_iconst (v := 1) hC d_W_468 (by decide) ?_
  refine j_iadd hC d_W_469 ?_
  refine j_sld hC hX hbl hbA (q := 5 * n + 1) (nI_add (5 * n) 1) (by omega) (by omega) d_W_470 ?_
  refine j_aload_n hC d_W_471 rfl 0 rfl ?_
  refine j_iload hC d_W_472 4 rfl ?_
  refine j_iconst (v := 2) hC d_W_474 (by decide) ?_
  refine j_iadd hC d_W_475 ?_
  refine j_sld hC hX hbl hbA (q := 5 * n + 2) (nI_add (5 * n) 2) (by omega) (by omega) d_W_476 ?_
  refine j_aload_n hC d_W_477 rfl 0 rfl ?_
  refine j_iload hC d_W_478 4 rfl ?_
  refine j_iconst (v := 3) hC d_W_480 (by decide) ?_
  refine j_iadd hC d_W_481 ?_
  refine j_sld hC hX hbl hbA (q := 5 * n + 3) (nI_add (5 * n) 3) (by omega) (by omega) d_W_482 ?_
  refine j_aload_n hC d_W_483 rfl 0 rfl ?_
  refine j_iload hC d_W_484 4 rfl ?_
  refine j_iconst (v := 4) hC d_W_486 (by decide) ?_
  refine j_iadd hC d_W_487 ?_
  refine j_sld hC hX hbl hbA (q := 5 * n + 4) (nI_add (5 * n) 4) (by omega) (by omega) d_W_488 ?_
  refine j_if_eq (tgt := 496) hC d_W_489 (by decide) (fun h9 => absurd h9 hz) (fun _ => ?_)
  refine j_iconst (v := 1) hC d_W_492 (by decide) ?_
  refine j_goto (tgt := 497) hC d_W_493 (by decide) ?_
  refine j_swap ?_
  refine j_callVr (As := [.int (xs (5 * n + 1)), .int (xs (5 * n + 2)), .int (xs (5 * n + 3)), .int 1]) (rest := []) (st1 := [.int (m_literal v (xs (5 * n + 1)) (xs (5 * n + 2)) (xs (5 * n + 3)) 1).1]) hC ((jMet.more (fun _ z => jTn_l z) (r_literal l dC dI gm k [(k 4, .long)] v h.2.2.2.1 (xs (5 * n + 1)) (xs (5 * n + 2)) (xs (5 * n + 3)) 1 (Or.inr rfl))).frameR (cw g k (pLit u (xs (5 * n + 1)) (xs (5 * n + 2)) (xs (5 * n + 3)) 1) ++ [ow ao k (lo (pcLit u (xs (5 * n + 1)) (xs (5 * n + 2)) (xs (5 * n + 3))) (pLit1 u (xs (5 * n + 1)) (xs (5 * n + 2)) (xs (5 * n + 3)) 1 12 (tn (u 0 1) - 1)).toInt64 f)])) rfl rfl (fun w z => jTn_l (ww_L_86 w z)) yn_D_literal (ap_l (mw_obj gm k v)) rfl rfl d_W_497 (Nat.le_of_ble_eq_true rfl) (by decide) ⟨by show 140 + 4 * n + 4 ≤ 601024; omega, by show 5944 + 24 * n + 24 ≤ 7293034; omega⟩ rfl ?_
  refine j_swap ?_
  refine j_istore (lv' := [(0, .ref b), (1, .ref (g 0)), (2, .ref (gm 0)), (3, .ref ao), (4, .int (nI (5 * n))), (5, .int (kc xIS xIA (pcLit u (xs (5 * n + 1)) (xs (5 * n + 2)) (xs (5 * n + 3))))), (6, .int (m_literal v (xs (5 * n + 1)) (xs (5 * n + 2)) (xs (5 * n + 3)) 1).1)]) hC d_W_500 (by decide) rfl rfl ?_
  refine j_aload_n hC d_W_502 rfl 2 rfl ?_
  refine j_swap ?_
  refine j_callVr (As := []) (rest := []) (st1 := [.int (m_thrown ((m_literal v (xs (5 * n + 1)) (xs (5 * n + 2)) (xs (5 * n + 3)) 1).2))]) hC ((jMet.more (fun _ z => jTn_l z) (r_thrown l dC dI gm k [(k 4, .long)] ((m_literal v (xs (5 * n + 1)) (xs (5 * n + 2)) (xs (5 * n + 3)) 1).2))).frameR (cw g k (pLit u (xs (5 * n + 1)) (xs (5 * n + 2)) (xs (5 * n + 3)) 1) ++ [ow ao k (lo (pcLit u (xs (5 * n + 1)) (xs (5 * n + 2)) (xs (5 * n + 3))) (pLit1 u (xs (5 * n + 1)) (xs (5 * n + 2)) (xs (5 * n + 3)) 1 12 (tn (u 0 1) - 1)).toInt64 f)])) rfl rfl (fun w z => jTn_l (ww_L_69 w z)) yn_D_thrown (ap_l (mw_obj gm k ((m_literal v (xs (5 * n + 1)) (xs (5 * n + 2)) (xs (5 * n + 3)) 1).2))) rfl rfl d_W_503 (Nat.le_of_ble_eq_true rfl) (by decide) ⟨by show 140 + 4 * n + 4 ≤ 601024; omega, by show 5944 + 24 * n + 24 ≤ 7293034; omega⟩ rfl ?_
  refine j_swap ?_
  refine j_iload hC d_W_506 5 rfl ?_
  refine j_icmp_eq (tgt := 513) hC d_W_508 (by decide) (fun _ => ?_) (fun h9 => absurd S.1.symm h9)
  refine j_iload hC d_W_513 5 rfl ?_
  refine j_if_ne (tgt := 530) hC d_W_515 (by decide) (fun _ => ?_) (fun h9 => ?_)
  · refine j_goto (tgt := 934) hC d_W_530 (by decide) ?_
    refine j_locals [0, 1, 2, 3, 4] rfl ?_
    exact j_widen (by omega) (by omega) (K _ _ _ S.2.2)
  · have hn0 := kc_none h9
    refine j_aload_n hC d_W_518 rfl 3 rfl ?_
    refine j_iconst (v := 0) hC d_W_519 (by decide) ?_
    refine j_lald hC 127 4 (ap_l (ow_at g k (pLit u (xs (5 * n + 1)) (xs (5 * n + 2)) (xs (5 * n + 3)) 1) ao (lo (pcLit u (xs (5 * n + 1)) (xs (5 * n + 2)) (xs (5 * n + 3))) (pLit1 u (xs (5 * n + 1)) (xs (5 * n + 2)) (xs (5 * n + 3)) 1 12 (tn (u 0 1) - 1)).toInt64 f))) rfl vp_in_01 (lo_v hn0 (pLit1 u (xs (5 * n + 1)) (xs (5 * n + 2)) (xs (5 * n + 3)) 1 12 (tn (u 0 1) - 1)).toInt64 f) d_W_520 ?_
    refine j_iload hC d_W_521 6 rfl ?_
    refine j_i2l hC d_W_523 rfl ?_
    refine j_lcmp hC d_W_524 ?_
    refine j_st (st' := [.int 0]) (by rw [S.2.1 hn0, lg_self]) ?_
    refine j_if_eq (tgt := 530) hC d_W_525 (by decide) (fun _ => ?_) (fun h7 => absurd rfl h7)
    refine j_goto (tgt := 934) hC d_W_530 (by decide) ?_
    refine j_locals [0, 1, 2, 3, 4] rfl ?_
    exact j_widen (by omega) (by omega) (K _ _ _ S.2.2)

set_option maxHeartbeats 4000000 in
set_option maxRecDepth 100000 in
theorem lc_layer {p : Program} {l : Launch} {e : Env} {s : State} {m : MethodId} {below : List Frame} {meth : Method} {c : Code} {dC : Nat → ClassId} {dI : Nat → Nat → Nat} {k : Nat → Nat} {b L : Nat} {xs : Nat → Int32} (hl : l.stackTraces = false) (hC : jC p s m #[Value.ref b] meth c code 7 "StrataHouseLaw" jTn (dC, dI) jcl (ltys k) (fun q => s.heap.size ≤ q)) (hX : va_X b L xs s s.heap) (hbl : b < s.heap.size) (hL : L ≤ 2560) (hr : meth.sig.returnType = ret) (g gm : Nat → Nat) (ao : Nat) {n : Nat} (hn : 5 * n + 5 ≤ L) {u v : jU} {f : Nat → Int64} (h : Rl u v) (K : ∀ (u' v' : jU) (f' : Nat → Int64), Rl u' v' → jJ p l e room_1 s m #[Value.ref b] below meth c 7 (dC, dI) jcl (fun q => s.heap.size ≤ q) (lw_Z below #[Value.ref b] s) (140 + 4 * (n + 1)) (5944 + 24 * (n + 1)) ((cw g k u' ++ [ow ao k f']) ++ mw gm k v') [(0, .ref b), (1, .ref (g 0)), (2, .ref (gm 0)), (3, .ref ao), (4, .int (nI (5 * n)))] [] 934) : jJ p l e room_1 s m #[Value.ref b] below meth c 7 (dC, dI) jcl (fun q => s.heap.size ≤ q) (lw_Z below #[Value.ref b] s) (140 + 4 * n) (5944 + 24 * n) ((cw g k u ++ [ow ao k f]) ++ mw gm k v) [(0, .ref b), (1, .ref (g 0)), (2, .ref (gm 0)), (3, .ref ao), (4, .int (nI (5 * n)))] [] 570 := by
  have hbA : ¬ s.heap.size ≤ b := Nat.not_le.mpr hbl
  have S := sim_layer h (xs (5 * n + 1))
  refine j_aload_n hC d_W_570 rfl 1 rfl ?_
  refine j_aload_n hC d_W_571 rfl 0 rfl ?_
  refine j_iload hC d_W_572 4 rfl ?_
  refine j_iconst (v := 1) hC d_W_574 (by decide) ?_
  refine j_iadd hC d_W_575 ?_
  refine j_sld hC hX hbl hbA (q := 5 * n + 1) (nI_add (5 * n) 1) (by omega) (by omega) d_W_576 ?_
  refine j_aload_n hC d_W_577 rfl 3 rfl ?_
  refine j_callSH (As := [.ref (g 0), .int (xs (5 * n + 1)), .ref ao]) (rest := []) (st1 := [.int (kc xIA xIS (pcAsk (pcRel u (xs (5 * n + 1))) u))]) hC ((h_layer l hl dC dI g k ao f u h.2.1.1 (xs (5 * n + 1))).frameR (mw gm k v)) rfl rfl (fun w z => jTn_l (wh_L_95 w z)) yn_L_layer rfl d_W_578 (Nat.le_of_ble_eq_true rfl) (by decide) ⟨by show 140 + 4 * n + 2 ≤ 601024; omega, by show 5944 + 24 * n + 12 ≤ 7293034; omega⟩ rfl ?_
  refine j_istore (lv' := [(0, .ref b), (1, .ref (g 0)), (2, .ref (gm 0)), (3, .ref ao), (4, .int (nI (5 * n))), (5, .int (kc xIA xIS (pcAsk (pcRel u (xs (5 * n + 1))) u)))]) hC d_W_581 (by decide) rfl rfl ?_
  refine j_aload_n hC d_W_583 rfl 2 rfl ?_
  refine j_aload_n hC d_W_584 rfl 0 rfl ?_
  refine j_iload hC d_W_585 4 rfl ?_
  refine j_iconst (v := 1) hC d_W_587 (by decide) ?_
  refine j_iadd hC d_W_588 ?_
  refine j_sld hC hX hbl hbA (q := 5 * n + 1) (nI_add (5 * n) 1) (by omega) (by omega) d_W_589 ?_
  refine j_swap ?_
  refine j_callVr (As := [.int (xs (5 * n + 1))]) (rest := []) (st1 := [.int (m_layer v (xs (5 * n + 1))).1]) hC ((jMet.more (fun _ z => jTn_l z) (r_layer l dC dI gm k [(k 4, .long)] v h.2.2.2.1 (find_V h.2.2.2).1 (xs (5 * n + 1)))).frameR (cw g k (pAskJ (pcRel u (xs (5 * n + 1))) u) ++ [ow ao k (lo (pcAsk (pcRel u (xs (5 * n + 1))) u) (pJudge u 3 (tn (xs (5 * n + 1)))).toInt64 f)])) rfl rfl (fun w z => jTn_l (ww_L_97 w z)) yn_D_layer (ap_l (mw_obj gm k v)) rfl rfl d_W_590 (Nat.le_of_ble_eq_true rfl) (by decide) ⟨by show 140 + 4 * n + 2 ≤ 601024; omega, by show 5944 + 24 * n + 12 ≤ 7293034; omega⟩ rfl ?_
  refine j_swap ?_
  refine j_istore (lv' := [(0, .ref b), (1, .ref (g 0)), (2, .ref (gm 0)), (3, .ref ao), (4, .int (nI (5 * n))), (5, .int (kc xIA xIS (pcAsk (pcRel u (xs (5 * n + 1))) u))), (6, .int (m_layer v (xs (5 * n + 1))).1)]) hC d_W_593 (by decide) rfl rfl ?_
  refine j_aload_n hC d_W_595 rfl 2 rfl ?_
  refine j_swap ?_
  refine j_callVr (As := []) (rest := []) (st1 := [.int (m_thrown ((m_layer v (xs (5 * n + 1))).2))]) hC ((jMet.more (fun _ z => jTn_l z) (r_thrown l dC dI gm k [(k 4, .long)] ((m_layer v (xs (5 * n + 1))).2))).frameR (cw g k (pAskJ (pcRel u (xs (5 * n + 1))) u) ++ [ow ao k (lo (pcAsk (pcRel u (xs (5 * n + 1))) u) (pJudge u 3 (tn (xs (5 * n + 1)))).toInt64 f)])) rfl rfl (fun w z => jTn_l (ww_L_69 w z)) yn_D_thrown (ap_l (mw_obj gm k ((m_layer v (xs (5 * n + 1))).2))) rfl rfl d_W_596 (Nat.le_of_ble_eq_true rfl) (by decide) ⟨by show 140 + 4 * n + 2 ≤ 601024; omega, by show 5944 + 24 * n + 12 ≤ 7293034; omega⟩ rfl ?_
  refine j_swap ?_
  refine j_iload hC d_W_599 5 rfl ?_
  refine j_icmp_eq (tgt := 606) hC d_W_601 (by decide) (fun _ => ?_) (fun h9 => absurd S.1.symm h9)
  refine j_iload hC d_W_606 5 rfl ?_
  refine j_if_ne (tgt := 623) hC d_W_608 (by decide) (fun _ => ?_) (fun h9 => ?_)
  · refine j_goto (tgt := 934) hC d_W_623 (by decide) ?_
    refine j_locals [0, 1, 2, 3, 4] rfl ?_
    exact j_widen (by omega) (by omega) (K _ _ _ S.2.2)
  · have hn0 := kc_none h9
    refine j_aload_n hC d_W_611 rfl 3 rfl ?_
    refine j_iconst (v := 0) hC d_W_612 (by decide) ?_
    refine j_lald hC 127 4 (ap_l (ow_at g k (pAskJ (pcRel u (xs (5 * n + 1))) u) ao (lo (pcAsk (pcRel u (xs (5 * n + 1))) u) (pJudge u 3 (tn (xs (5 * n + 1)))).toInt64 f))) rfl vp_in_01 (lo_v hn0 (pJudge u 3 (tn (xs (5 * n + 1)))).toInt64 f) d_W_613 ?_
    refine j_iload hC d_W_614 6 rfl ?_
    refine j_i2l hC d_W_616 rfl ?_
    refine j_lcmp hC d_W_617 ?_
    refine j_st (st' := [.int 0]) (by rw [S.2.1 hn0, lg_self]) ?_
    refine j_if_eq (tgt := 623) hC d_W_618 (by decide) (fun _ => ?_) (fun h7 => absurd rfl h7)
    refine j_goto (tgt := 934) hC d_W_623 (by decide) ?_
    refine j_locals [0, 1, 2, 3, 4] rfl ?_
    exact j_widen (by omega) (by omega) (K _ _ _ S.2.2)

set_option maxHeartbeats 4000000 in
set_option maxRecDepth 100000 in
theorem lc_count {p : Program} {l : Launch} {e : Env} {s : State} {m : MethodId} {below : List Frame} {meth : Method} {c : Code} {dC : Nat → ClassId} {dI : Nat → Nat → Nat} {k : Nat → Nat} {b L : Nat} {xs : Nat → Int32} (hl : l.stackTraces = false) (hC : jC p s m #[Value.ref b] meth c code 7 "StrataHouseLaw" jTn (dC, dI) jcl (ltys k) (fun q => s.heap.size ≤ q)) (hX : va_X b L xs s s.heap) (hbl : b < s.heap.size) (hL : L ≤ 2560) (hr : meth.sig.returnType = ret) (g gm : Nat → Nat) (ao : Nat) {n : Nat} (hn : 5 * n + 5 ≤ L) {u v : jU} {f : Nat → Int64} (h : Rl u v) (K : ∀ (u' v' : jU) (f' : Nat → Int64), Rl u' v' → jJ p l e room_1 s m #[Value.ref b] below meth c 7 (dC, dI) jcl (fun q => s.heap.size ≤ q) (lw_Z below #[Value.ref b] s) (140 + 4 * (n + 1)) (5944 + 24 * (n + 1)) ((cw g k u' ++ [ow ao k f']) ++ mw gm k v') [(0, .ref b), (1, .ref (g 0)), (2, .ref (gm 0)), (3, .ref ao), (4, .int (nI (5 * n)))] [] 934) : jJ p l e room_1 s m #[Value.ref b] below meth c 7 (dC, dI) jcl (fun q => s.heap.size ≤ q) (lw_Z below #[Value.ref b] s) (140 + 4 * n) (5944 + 24 * n) ((cw g k u ++ [ow ao k f]) ++ mw gm k v) [(0, .ref b), (1, .ref (g 0)), (2, .ref (gm 0)), (3, .ref ao), (4, .int (nI (5 * n)))] [] 626 := by
  have hbA : ¬ s.heap.size ≤ b := Nat.not_le.mpr hbl
  have S := sim_count h (xs (5 * n + 1))
  refine j_aload_n hC d_W_626 rfl 1 rfl ?_
  refine j_aload_n hC d_W_627 rfl 0 rfl ?_
  refine j_iload hC d_W_628 4 rfl ?_
  refine j_iconst (v := 1) hC d_W_630 (by decide) ?_
  refine j_iadd hC d_W_631 ?_
  refine j_sld hC hX hbl hbA (q := 5 * n + 1) (nI_add (5 * n) 1) (by omega) (by omega) d_W_632 ?_
  refine j_aload_n hC d_W_633 rfl 3 rfl ?_
  refine j_callSH (As := [.ref (g 0), .int (xs (5 * n + 1)), .ref ao]) (rest := []) (st1 := [.int (kc xIA xIS (pcAsk (pcRel u (xs (5 * n + 1))) u))]) hC ((h_count l hl dC dI g k ao f u h.2.1.1 (wT_of h) (xs (5 * n + 1))).frameR (mw gm k v)) rfl rfl (fun w z => jTn_l (wh_L_98 w z)) yn_L_count rfl d_W_634 (Nat.le_of_ble_eq_true rfl) (by decide) ⟨by show 140 + 4 * n + 2 ≤ 601024; omega, by show 5944 + 24 * n + 12 ≤ 7293034; omega⟩ rfl ?_
  refine j_istore (lv' := [(0, .ref b), (1, .ref (g 0)), (2, .ref (gm 0)), (3, .ref ao), (4, .int (nI (5 * n))), (5, .int (kc xIA xIS (pcAsk (pcRel u (xs (5 * n + 1))) u)))]) hC d_W_637 (by decide) rfl rfl ?_
  refine j_aload_n hC d_W_639 rfl 2 rfl ?_
  refine j_aload_n hC d_W_640 rfl 0 rfl ?_
  refine j_iload hC d_W_641 4 rfl ?_
  refine j_iconst (v := 1) hC d_W_643 (by decide) ?_
  refine j_iadd hC d_W_644 ?_
  refine j_sld hC hX hbl hbA (q := 5 * n + 1) (nI_add (5 * n) 1) (by omega) (by omega) d_W_645 ?_
  refine j_swap ?_
  refine j_callVr (As := [.int (xs (5 * n + 1))]) (rest := []) (st1 := [.int (m_count v (xs (5 * n + 1))).1]) hC ((jMet.more (fun _ z => jTn_l z) (r_count l dC dI gm k [(k 4, .long)] v h.2.2.2.1 (find_V h.2.2.2).1 (xs (5 * n + 1)))).frameR (cw g k (pAskS (pcRel u (xs (5 * n + 1))) u) ++ [ow ao k (lo (pcAsk (pcRel u (xs (5 * n + 1))) u) (pCn (pJS u) (144 * tn (xs (5 * n + 1))) 144).toInt64 f)])) rfl rfl (fun w z => jTn_l (ww_L_100 w z)) yn_D_count (ap_l (mw_obj gm k v)) rfl rfl d_W_646 (Nat.le_of_ble_eq_true rfl) (by decide) ⟨by show 140 + 4 * n + 2 ≤ 601024; omega, by show 5944 + 24 * n + 12 ≤ 7293034; omega⟩ rfl ?_
  refine j_swap ?_
  refine j_istore (lv' := [(0, .ref b), (1, .ref (g 0)), (2, .ref (gm 0)), (3, .ref ao), (4, .int (nI (5 * n))), (5, .int (kc xIA xIS (pcAsk (pcRel u (xs (5 * n + 1))) u))), (6, .int (m_count v (xs (5 * n + 1))).1)]) hC d_W_649 (by decide) rfl rfl ?_
  refine j_aload_n hC d_W_651 rfl 2 rfl ?_
  refine j_swap ?_
  refine j_callVr (As := []) (rest := []) (st1 := [.int (m_thrown ((m_count v (xs (5 * n + 1))).2))]) hC ((jMet.more (fun _ z => jTn_l z) (r_thrown l dC dI gm k [(k 4, .long)] ((m_count v (xs (5 * n + 1))).2))).frameR (cw g k (pAskS (pcRel u (xs (5 * n + 1))) u) ++ [ow ao k (lo (pcAsk (pcRel u (xs (5 * n + 1))) u) (pCn (pJS u) (144 * tn (xs (5 * n + 1))) 144).toInt64 f)])) rfl rfl (fun w z => jTn_l (ww_L_69 w z)) yn_D_thrown (ap_l (mw_obj gm k ((m_count v (xs (5 * n + 1))).2))) rfl rfl d_W_652 (Nat.le_of_ble_eq_true rfl) (by decide) ⟨by show 140 + 4 * n + 2 ≤ 601024; omega, by show 5944 + 24 * n + 12 ≤ 7293034; omega⟩ rfl ?_
  refine j_swap ?_
  refine j_iload hC d_W_655 5 rfl ?_
  refine j_icmp_eq (tgt := 662) hC d_W_657 (by decide) (fun _ => ?_) (fun h9 => absurd S.1.symm h9)
  refine j_iload hC d_W_662 5 rfl ?_
  refine j_if_ne (tgt := 679) hC d_W_664 (by decide) (fun _ => ?_) (fun h9 => ?_)
  · refine j_goto (tgt := 934) hC d_W_679 (by decide) ?_
    refine j_locals [0, 1, 2, 3, 4] rfl ?_
    exact j_widen (by omega) (by omega) (K _ _ _ S.2.2)
  · have hn0 := kc_none h9
    refine j_aload_n hC d_W_667 rfl 3 rfl ?_
    refine j_iconst (v := 0) hC d_W_668 (by decide) ?_
    refine j_lald hC 127 4 (ap_l (ow_at g k (pAskS (pcRel u (xs (5 * n + 1))) u) ao (lo (pcAsk (pcRel u (xs (5 * n + 1))) u) (pCn (pJS u) (144 * tn (xs (5 * n + 1))) 144).toInt64 f))) rfl vp_in_01 (lo_v hn0 (pCn (pJS u) (144 * tn (xs (5 * n + 1))) 144).toInt64 f) d_W_669 ?_
    refine j_iload hC d_W_670 6 rfl ?_
    refine j_i2l hC d_W_672 rfl ?_
    refine j_lcmp hC d_W_673 ?_
    refine j_st (st' := [.int 0]) (by rw [S.2.1 hn0, lg_self]) ?_
    refine j_if_eq (tgt := 679) hC d_W_674 (by decide) (fun _ => ?_) (fun h7 => absurd rfl h7)
    refine j_goto (tgt := 934) hC d_W_679 (by decide) ?_
    refine j_locals [0, 1, 2, 3, 4] rfl ?_
    exact j_widen (by omega) (by omega) (K _ _ _ S.2.2)

set_option maxHeartbeats 4000000 in
set_option maxRecDepth 100000 in
theorem lc_rank {p : Program} {l : Launch} {e : Env} {s : State} {m : MethodId} {below : List Frame} {meth : Method} {c : Code} {dC : Nat → ClassId} {dI : Nat → Nat → Nat} {k : Nat → Nat} {b L : Nat} {xs : Nat → Int32} (hl : l.stackTraces = false) (hC : jC p s m #[Value.ref b] meth c code 7 "StrataHouseLaw" jTn (dC, dI) jcl (ltys k) (fun q => s.heap.size ≤ q)) (hX : va_X b L xs s s.heap) (hbl : b < s.heap.size) (hL : L ≤ 2560) (hr : meth.sig.returnType = ret) (g gm : Nat → Nat) (ao : Nat) {n : Nat} (hn : 5 * n + 5 ≤ L) {u v : jU} {f : Nat → Int64} (h : Rl u v) (K : ∀ (u' v' : jU) (f' : Nat → Int64), Rl u' v' → jJ p l e room_1 s m #[Value.ref b] below meth c 7 (dC, dI) jcl (fun q => s.heap.size ≤ q) (lw_Z below #[Value.ref b] s) (140 + 4 * (n + 1)) (5944 + 24 * (n + 1)) ((cw g k u' ++ [ow ao k f']) ++ mw gm k v') [(0, .ref b), (1, .ref (g 0)), (2, .ref (gm 0)), (3, .ref ao), (4, .int (nI (5 * n)))] [] 934) : jJ p l e room_1 s m #[Value.ref b] below meth c 7 (dC, dI) jcl (fun q => s.heap.size ≤ q) (lw_Z below #[Value.ref b] s) (140 + 4 * n) (5944 + 24 * n) ((cw g k u ++ [ow ao k f]) ++ mw gm k v) [(0, .ref b), (1, .ref (g 0)), (2, .ref (gm 0)), (3, .ref ao), (4, .int (nI (5 * n)))] [] 682 := by
  have hbA : ¬ s.heap.size ≤ b := Nat.not_le.mpr hbl
  have S := sim_rank h (xs (5 * n + 1)) (xs (5 * n + 2)) (xs (5 * n + 3))
  refine j_aload_n hC d_W_682 rfl 1 rfl ?_
  refine j_aload_n hC d_W_683 rfl 0 rfl ?_
  refine j_iload hC d_W_684 4 rfl ?_
  refine j_iconst (v := 1) hC d_W_686 (by decide) ?_
  refine j_iadd hC d_W_687 ?_
  refine j_sld hC hX hbl hbA (q := 5 * n + 1) (nI_add (5 * n) 1) (by omega) (by omega) d_W_688 ?_
  refine j_aload_n hC d_W_689 rfl 0 rfl ?_
  refine j_iload hC d_W_690 4 rfl ?_
  refine j_iconst (v := 2) hC d_W_692 (by decide) ?_
  refine j_iadd hC d_W_693 ?_
  refine j_sld hC hX hbl hbA (q := 5 * n + 2) (nI_add (5 * n) 2) (by omega) (by omega) d_W_694 ?_
  refine j_aload_n hC d_W_695 rfl 0 rfl ?_
  refine j_iload hC d_W_696 4 rfl ?_
  refine j_iconst (v := 3) hC d_W_698 (by decide) ?_
  refine j_iadd hC d_W_699 ?_
  refine j_sld hC hX hbl hbA (q := 5 * n + 3) (nI_add (5 * n) 3) (by omega) (by omega) d_W_700 ?_
  refine j_aload_n hC d_W_701 rfl 3 rfl ?_
  refine j_callSH (As := [.ref (g 0), .int (xs (5 * n + 1)), .int (xs (5 * n + 2)), .int (xs (5 * n + 3)), .ref ao]) (rest := []) (st1 := [.int (kc xIA xIS (pcAsk (pcFact u (xs (5 * n + 1)) (xs (5 * n + 2)) (xs (5 * n + 3))) u))]) hC ((h_rank l hl dC dI g k ao f u h.2.1.1 (wT_of h) (xs (5 * n + 1)) (xs (5 * n + 2)) (xs (5 * n + 3))).frameR (mw gm k v)) rfl rfl (fun w z => jTn_l (wh_L_101 w z)) yn_L_rank rfl d_W_702 (Nat.le_of_ble_eq_true rfl) (by decide) ⟨by show 140 + 4 * n + 3 ≤ 601024; omega, by show 5944 + 24 * n + 18 ≤ 7293034; omega⟩ rfl ?_
  refine j_istore (lv' := [(0, .ref b), (1, .ref (g 0)), (2, .ref (gm 0)), (3, .ref ao), (4, .int (nI (5 * n))), (5, .int (kc xIA xIS (pcAsk (pcFact u (xs (5 * n + 1)) (xs (5 * n + 2)) (xs (5 * n + 3))) u)))]) hC d_W_705 (by decide) rfl rfl ?_
  refine j_aload_n hC d_W_707 rfl 2 rfl ?_
  refine j_aload_n hC d_W_708 rfl 0 rfl ?_
  refine j_iload hC d_W_709 4 rfl ?_
  refine j_iconst (v := 1) hC d_W_711 (by decide) ?_
  refine j_iadd hC d_W_712 ?_
  refine j_sld hC hX hbl hbA (q := 5 * n + 1) (nI_add (5 * n) 1) (by omega) (by omega) d_W_713 ?_
  refine j_aload_n hC d_W_714 rfl 0 rfl ?_
  refine j_iload hC d_W_715 4 rfl ?_
  refine j_iconst (v := 2) hC d_W_717 (by decide) ?_
  refine j_iadd hC d_W_718 ?_
  refine j_sld hC hX hbl hbA (q := 5 * n + 2) (nI_add (5 * n) 2) (by omega) (by omega) d_W_719 ?_
  refine j_aload_n hC d_W_720 rfl 0 rfl ?_
  refine j_iload hC d_W_721 4 rfl ?_
  refine j_iconst (v := 3) hC d_W_723 (by decide) ?_
  refine j_iadd hC d_W_724 ?_
  refine j_sld hC hX hbl hbA (q := 5 * n + 3) (nI_add (5 * n) 3) (by omega) (by omega) d_W_725 ?_
  refine j_swap ?_
  refine j_callVr (As := [.int (xs (5 * n + 1)), .int (xs (5 * n + 2)), .int (xs (5 * n + 3))]) (rest := []) (st1 := [.int (m_rank v (xs (5 * n + 1)) (xs (5 * n + 2)) (xs (5 * n + 3))).1]) hC ((jMet.more (fun _ z => jTn_l z) (r_rank l dC dI gm k [(k 4, .long)] v h.2.2.2.1 (find_V h.2.2.2).1 (xs (5 * n + 1)) (xs (5 * n + 2)) (xs (5 * n + 3)))).frameR (cw g k (pAskS (pcFact u (xs (5 * n + 1)) (xs (5 * n + 2)) (xs (5 * n + 3))) u) ++ [ow ao k (lo (pcAsk (pcFact u (xs (5 * n + 1)) (xs (5 * n + 2)) (xs (5 * n + 3))) u) (pJS u 4 (pFx u (xs (5 * n + 1)) (xs (5 * n + 2)) (xs (5 * n + 3)))).toInt64 f)])) rfl rfl (fun w z => jTn_l (ww_L_103 w z)) yn_D_rank (ap_l (mw_obj gm k v)) rfl rfl d_W_726 (Nat.le_of_ble_eq_true rfl) (by decide) ⟨by show 140 + 4 * n + 3 ≤ 601024; omega, by show 5944 + 24 * n + 18 ≤ 7293034; omega⟩ rfl ?_
  refine j_swap ?_
  refine j_istore (lv' := [(0, .ref b), (1, .ref (g 0)), (2, .ref (gm 0)), (3, .ref ao), (4, .int (nI (5 * n))), (5, .int (kc xIA xIS (pcAsk (pcFact u (xs (5 * n + 1)) (xs (5 * n + 2)) (xs (5 * n + 3))) u))), (6, .int (m_rank v (xs (5 * n + 1)) (xs (5 * n + 2)) (xs (5 * n + 3))).1)]) hC d_W_729 (by decide) rfl rfl ?_
  refine j_aload_n hC d_W_731 rfl 2 rfl ?_
  refine j_swap ?_
  refine j_callVr (As := []) (rest := []) (st1 := [.int (m_thrown ((m_rank v (xs (5 * n + 1)) (xs (5 * n + 2)) (xs (5 * n + 3))).2))]) hC ((jMet.more (fun _ z => jTn_l z) (r_thrown l dC dI gm k [(k 4, .long)] ((m_rank v (xs (5 * n + 1)) (xs (5 * n + 2)) (xs (5 * n + 3))).2))).frameR (cw g k (pAskS (pcFact u (xs (5 * n + 1)) (xs (5 * n + 2)) (xs (5 * n + 3))) u) ++ [ow ao k (lo (pcAsk (pcFact u (xs (5 * n + 1)) (xs (5 * n + 2)) (xs (5 * n + 3))) u) (pJS u 4 (pFx u (xs (5 * n + 1)) (xs (5 * n + 2)) (xs (5 * n + 3)))).toInt64 f)])) rfl rfl (fun w z => jTn_l (ww_L_69 w z)) yn_D_thrown (ap_l (mw_obj gm k ((m_rank v (xs (5 * n + 1)) (xs (5 * n + 2)) (xs (5 * n + 3))).2))) rfl rfl d_W_732 (Nat.le_of_ble_eq_true rfl) (by decide) ⟨by show 140 + 4 * n + 3 ≤ 601024; omega, by show 5944 + 24 * n + 18 ≤ 7293034; omega⟩ rfl ?_
  refine j_swap ?_
  refine j_iload hC d_W_735 5 rfl ?_
  refine j_icmp_eq (tgt := 742) hC d_W_737 (by decide) (fun _ => ?_) (fun h9 => absurd S.1.symm h9)
  refine j_iload hC d_W_742 5 rfl ?_
  refine j_if_ne (tgt := 759) hC d_W_744 (by decide) (fun _ => ?_) (fun h9 => ?_)
  · refine j_goto (tgt := 934) hC d_W_759 (by decide) ?_
    refine j_locals [0, 1, 2, 3, 4] rfl ?_
    exact j_widen (by omega) (by omega) (K _ _ _ S.2.2)
  · have hn0 := kc_none h9
    refine j_aload_n hC d_W_747 rfl 3 rfl ?_
    refine j_iconst (v := 0) hC d_W_748 (by decide) ?_
    refine j_lald hC 127 4 (ap_l (ow_at g k (pAskS (pcFact u (xs (5 * n + 1)) (xs (5 * n + 2)) (xs (5 * n + 3))) u) ao (lo (pcAsk (pcFact u (xs (5 * n + 1)) (xs (5 * n + 2)) (xs (5 * n + 3))) u) (pJS u 4 (pFx u (xs (5 * n + 1)) (xs (5 * n + 2)) (xs (5 * n + 3)))).toInt64 f))) rfl vp_in_01 (lo_v hn0 (pJS u 4 (pFx u (xs (5 * n + 1)) (xs (5 * n + 2)) (xs (5 * n + 3)))).toInt64 f) d_W_749 ?_
    refine j_iload hC d_W_750 6 rfl ?_
    refine j_i2l hC d_W_752 rfl ?_
    refine j_lcmp hC d_W_753 ?_
    refine j_st (st' := [.int 0]) (by rw [S.2.1 hn0, lg_self]) ?_
    refine j_if_eq (tgt := 759) hC d_W_754 (by decide) (fun _ => ?_) (fun h7 => absurd rfl h7)
    refine j_goto (tgt := 934) hC d_W_759 (by decide) ?_
    refine j_locals [0, 1, 2, 3, 4] rfl ?_
    exact j_widen (by omega) (by omega) (K _ _ _ S.2.2)

set_option maxHeartbeats 4000000 in
set_option maxRecDepth 100000 in
theorem lc_ways {p : Program} {l : Launch} {e : Env} {s : State} {m : MethodId} {below : List Frame} {meth : Method} {c : Code} {dC : Nat → ClassId} {dI : Nat → Nat → Nat} {k : Nat → Nat} {b L : Nat} {xs : Nat → Int32} (hl : l.stackTraces = false) (hC : jC p s m #[Value.ref b] meth c code 7 "StrataHouseLaw" jTn (dC, dI) jcl (ltys k) (fun q => s.heap.size ≤ q)) (hX : va_X b L xs s s.heap) (hbl : b < s.heap.size) (hL : L ≤ 2560) (hr : meth.sig.returnType = ret) (g gm : Nat → Nat) (ao : Nat) {n : Nat} (hn : 5 * n + 5 ≤ L) {u v : jU} {f : Nat → Int64} (h : Rl u v) (K : ∀ (u' v' : jU) (f' : Nat → Int64), Rl u' v' → jJ p l e room_1 s m #[Value.ref b] below meth c 7 (dC, dI) jcl (fun q => s.heap.size ≤ q) (lw_Z below #[Value.ref b] s) (140 + 4 * (n + 1)) (5944 + 24 * (n + 1)) ((cw g k u' ++ [ow ao k f']) ++ mw gm k v') [(0, .ref b), (1, .ref (g 0)), (2, .ref (gm 0)), (3, .ref ao), (4, .int (nI (5 * n)))] [] 934) : jJ p l e room_1 s m #[Value.ref b] below meth c 7 (dC, dI) jcl (fun q => s.heap.size ≤ q) (lw_Z below #[Value.ref b] s) (140 + 4 * n) (5944 + 24 * n) ((cw g k u ++ [ow ao k f]) ++ mw gm k v) [(0, .ref b), (1, .ref (g 0)), (2, .ref (gm 0)), (3, .ref ao), (4, .int (nI (5 * n)))] [] 762 := by
  have hbA : ¬ s.heap.size ≤ b := Nat.not_le.mpr hbl
  have S := sim_ways h (xs (5 * n + 1)) (xs (5 * n + 2)) (xs (5 * n + 3))
  refine j_aload_n hC d_W_762 rfl 1 rfl ?_
  refine j_aload_n hC d_W_763 rfl 0 rfl ?_
  refine j_iload hC d_W_764 4 rfl ?_
  refine j_iconst (v := 1) hC d_W_766 (by decide) ?_
  refine j_iadd hC d_W_767 ?_
  refine j_sld hC hX hbl hbA (q := 5 * n + 1) (nI_add (5 * n) 1) (by omega) (by omega) d_W_768 ?_
  refine j_aload_n hC d_W_769 rfl 0 rfl ?_
  refine j_iload hC d_W_770 4 rfl ?_
  refine j_iconst (v := 2) hC d_W_772 (by decide) ?_
  refine j_iadd hC d_W_773 ?_
  refine j_sld hC hX hbl hbA (q := 5 * n + 2) (nI_add (5 * n) 2) (by omega) (by omega) d_W_774 ?_
  refine j_aload_n hC d_W_775 rfl 0 rfl ?_
  refine j_iload hC d_W_776 4 rfl ?_
  refine j_iconst (v := 3) hC d_W_778 (by decide) ?_
  refine j_iadd hC d_W_779 ?_
  refine j_sld hC hX hbl hbA (q := 5 * n + 3) (nI_add (5 * n) 3) (by omega) (by omega) d_W_780 ?_
  refine j_aload_n hC d_W_781 rfl 3 rfl ?_
  refine j_callSH (As := [.ref (g 0), .int (xs (5 * n + 1)), .int (xs (5 * n + 2)), .int (xs (5 * n + 3)), .ref ao]) (rest := []) (st1 := [.int (kc xIA xIS (pcAsk (pcFact u (xs (5 * n + 1)) (xs (5 * n + 2)) (xs (5 * n + 3))) u))]) hC ((h_ways l hl dC dI g k ao f u h.2.1.1 (wT_of h) (xs (5 * n + 1)) (xs (5 * n + 2)) (xs (5 * n + 3))).frameR (mw gm k v)) rfl rfl (fun w z => jTn_l (wh_L_104 w z)) yn_L_ways rfl d_W_782 (Nat.le_of_ble_eq_true rfl) (by decide) ⟨by show 140 + 4 * n + 3 ≤ 601024; omega, by show 5944 + 24 * n + 18 ≤ 7293034; omega⟩ rfl ?_
  refine j_istore (lv' := [(0, .ref b), (1, .ref (g 0)), (2, .ref (gm 0)), (3, .ref ao), (4, .int (nI (5 * n))), (5, .int (kc xIA xIS (pcAsk (pcFact u (xs (5 * n + 1)) (xs (5 * n + 2)) (xs (5 * n + 3))) u)))]) hC d_W_785 (by decide) rfl rfl ?_
  refine j_aload_n hC d_W_787 rfl 2 rfl ?_
  refine j_aload_n hC d_W_788 rfl 0 rfl ?_
  refine j_iload hC d_W_789 4 rfl ?_
  refine j_iconst (v := 1) hC d_W_791 (by decide) ?_
  refine j_iadd hC d_W_792 ?_
  refine j_sld hC hX hbl hbA (q := 5 * n + 1) (nI_add (5 * n) 1) (by omega) (by omega) d_W_793 ?_
  refine j_aload_n hC d_W_794 rfl 0 rfl ?_
  refine j_iload hC d_W_795 4 rfl ?_
  refine j_iconst (v := 2) hC d_W_797 (by decide) ?_
  refine j_iadd hC d_W_798 ?_
  refine j_sld hC hX hbl hbA (q := 5 * n + 2) (nI_add (5 * n) 2) (by omega) (by omega) d_W_799 ?_
  refine j_aload_n hC d_W_800 rfl 0 rfl ?_
  refine j_iload hC d_W_801 4 rfl ?_
  refine j_iconst (v := 3) hC d_W_803 (by decide) ?_
  refine j_iadd hC d_W_804 ?_
  refine j_sld hC hX hbl hbA (q := 5 * n + 3) (nI_add (5 * n) 3) (by omega) (by omega) d_W_805 ?_
  refine j_swap ?_
  refine j_callVr (As := [.int (xs (5 * n + 1)), .int (xs (5 * n + 2)), .int (xs (5 * n + 3))]) (rest := []) (st1 := [.int (m_ways v (xs (5 * n + 1)) (xs (5 * n + 2)) (xs (5 * n + 3))).1]) hC ((jMet.more (fun _ z => jTn_l z) (r_ways l dC dI gm k [(k 4, .long)] v h.2.2.2.1 (find_V h.2.2.2).1 (xs (5 * n + 1)) (xs (5 * n + 2)) (xs (5 * n + 3)))).frameR (cw g k (pAskW u (xs (5 * n + 1)) (xs (5 * n + 2)) (xs (5 * n + 3))) ++ [ow ao k (lo (pcAsk (pcFact u (xs (5 * n + 1)) (xs (5 * n + 2)) (xs (5 * n + 3))) u) ((pWy u (xs (5 * n + 1)) (xs (5 * n + 2)) (xs (5 * n + 3))).1).toInt64 f)])) rfl rfl (fun w z => jTn_l (ww_L_106 w z)) yn_D_ways (ap_l (mw_obj gm k v)) rfl rfl d_W_806 (Nat.le_of_ble_eq_true rfl) (by decide) ⟨by show 140 + 4 * n + 3 ≤ 601024; omega, by show 5944 + 24 * n + 18 ≤ 7293034; omega⟩ rfl ?_
  refine j_swap ?_
  refine j_istore (lv' := [(0, .ref b), (1, .ref (g 0)), (2, .ref (gm 0)), (3, .ref ao), (4, .int (nI (5 * n))), (5, .int (kc xIA xIS (pcAsk (pcFact u (xs (5 * n + 1)) (xs (5 * n + 2)) (xs (5 * n + 3))) u))), (6, .int (m_ways v (xs (5 * n + 1)) (xs (5 * n + 2)) (xs (5 * n + 3))).1)]) hC d_W_809 (by decide) rfl rfl ?_
  refine j_aload_n hC d_W_811 rfl 2 rfl ?_
  refine j_swap ?_
  refine j_callVr (As := []) (rest := []) (st1 := [.int (m_thrown ((m_ways v (xs (5 * n + 1)) (xs (5 * n + 2)) (xs (5 * n + 3))).2))]) hC ((jMet.more (fun _ z => jTn_l z) (r_thrown l dC dI gm k [(k 4, .long)] ((m_ways v (xs (5 * n + 1)) (xs (5 * n + 2)) (xs (5 * n + 3))).2))).frameR (cw g k (pAskW u (xs (5 * n + 1)) (xs (5 * n + 2)) (xs (5 * n + 3))) ++ [ow ao k (lo (pcAsk (pcFact u (xs (5 * n + 1)) (xs (5 * n + 2)) (xs (5 * n + 3))) u) ((pWy u (xs (5 * n + 1)) (xs (5 * n + 2)) (xs (5 * n + 3))).1).toInt64 f)])) rfl rfl (fun w z => jTn_l (ww_L_69 w z)) yn_D_thrown (ap_l (mw_obj gm k ((m_ways v (xs (5 * n + 1)) (xs (5 * n + 2)) (xs (5 * n + 3))).2))) rfl rfl d_W_812 (Nat.le_of_ble_eq_true rfl) (by decide) ⟨by show 140 + 4 * n + 3 ≤ 601024; omega, by show 5944 + 24 * n + 18 ≤ 7293034; omega⟩ rfl ?_
  refine j_swap ?_
  refine j_iload hC d_W_815 5 rfl ?_
  refine j_icmp_eq (tgt := 822) hC d_W_817 (by decide) (fun _ => ?_) (fun h9 => absurd S.1.symm h9)
  refine j_iload hC d_W_822 5 rfl ?_
  refine j_if_ne (tgt := 839) hC d_W_824 (by decide) (fun _ => ?_) (fun h9 => ?_)
  · refine j_goto (tgt := 934) hC d_W_839 (by decide) ?_
    refine j_locals [0, 1, 2, 3, 4] rfl ?_
    exact j_widen (by omega) (by omega) (K _ _ _ S.2.2)
  · have hn0 := kc_none h9
    refine j_aload_n hC d_W_827 rfl 3 rfl ?_
    refine j_iconst (v := 0) hC d_W_828 (by decide) ?_
    refine j_lald hC 127 4 (ap_l (ow_at g k (pAskW u (xs (5 * n + 1)) (xs (5 * n + 2)) (xs (5 * n + 3))) ao (lo (pcAsk (pcFact u (xs (5 * n + 1)) (xs (5 * n + 2)) (xs (5 * n + 3))) u) ((pWy u (xs (5 * n + 1)) (xs (5 * n + 2)) (xs (5 * n + 3))).1).toInt64 f))) rfl vp_in_01 (lo_v hn0 ((pWy u (xs (5 * n + 1)) (xs (5 * n + 2)) (xs (5 * n + 3))).1).toInt64 f) d_W_829 ?_
    refine j_iload hC d_W_830 6 rfl ?_
    refine j_i2l hC d_W_832 rfl ?_
    refine j_lcmp hC d_W_833 ?_
    refine j_st (st' := [.int 0]) (by rw [S.2.1 hn0, lg_self]) ?_
    refine j_if_eq (tgt := 839) hC d_W_834 (by decide) (fun _ => ?_) (fun h7 => absurd rfl h7)
    refine j_goto (tgt := 934) hC d_W_839 (by decide) ?_
    refine j_locals [0, 1, 2, 3, 4] rfl ?_
    exact j_widen (by omega) (by omega) (K _ _ _ S.2.2)

set_option maxHeartbeats 4000000 in
set_option maxRecDepth 100000 in
theorem lc_proof {p : Program} {l : Launch} {e : Env} {s : State} {m : MethodId} {below : List Frame} {meth : Method} {c : Code} {dC : Nat → ClassId} {dI : Nat → Nat → Nat} {k : Nat → Nat} {b L : Nat} {xs : Nat → Int32} (hl : l.stackTraces = false) (hC : jC p s m #[Value.ref b] meth c code 7 "StrataHouseLaw" jTn (dC, dI) jcl (ltys k) (fun q => s.heap.size ≤ q)) (hX : va_X b L xs s s.heap) (hbl : b < s.heap.size) (hL : L ≤ 2560) (hr : meth.sig.returnType = ret) (g gm : Nat → Nat) (ao : Nat) {n : Nat} (hn : 5 * n + 5 ≤ L) {u v : jU} {f : Nat → Int64} (h : Rl u v) (K : ∀ (u' v' : jU) (f' : Nat → Int64), Rl u' v' → jJ p l e room_1 s m #[Value.ref b] below meth c 7 (dC, dI) jcl (fun q => s.heap.size ≤ q) (lw_Z below #[Value.ref b] s) (140 + 4 * (n + 1)) (5944 + 24 * (n + 1)) ((cw g k u' ++ [ow ao k f']) ++ mw gm k v') [(0, .ref b), (1, .ref (g 0)), (2, .ref (gm 0)), (3, .ref ao), (4, .int (nI (5 * n)))] [] 934) : jJ p l e room_1 s m #[Value.ref b] below meth c 7 (dC, dI) jcl (fun q => s.heap.size ≤ q) (lw_Z below #[Value.ref b] s) (140 + 4 * n) (5944 + 24 * n) ((cw g k u ++ [ow ao k f]) ++ mw gm k v) [(0, .ref b), (1, .ref (g 0)), (2, .ref (gm 0)), (3, .ref ao), (4, .int (nI (5 * n)))] [] 842 := by
  have hbA : ¬ s.heap.size ≤ b := Nat.not_le.mpr hbl
  have S := sim_proof h (xs (5 * n + 1)) (xs (5 * n + 2)) (xs (5 * n + 3)) (xs (5 * n + 4))
  refine j_aload_n hC d_W_842 rfl 1 rfl ?_
  refine j_aload_n hC d_W_843 rfl 0 rfl ?_
  refine j_iload hC d_W_844 4 rfl ?_
  refine j_iconst (v := 1) hC d_W_846 (by decide) ?_
  refine j_iadd hC d_W_847 ?_
  refine j_sld hC hX hbl hbA (q := 5 * n + 1) (nI_add (5 * n) 1) (by omega) (by omega) d_W_848 ?_
  refine j_aload_n hC d_W_849 rfl 0 rfl ?_
  refine j_iload hC d_W_850 4 rfl ?_
  refine j_iconst (v := 2) hC d_W_852 (by decide) ?_
  refine j_iadd hC d_W_853 ?_
  refine j_sld hC hX hbl hbA (q := 5 * n + 2) (nI_add (5 * n) 2) (by omega) (by omega) d_W_854 ?_
  refine j_aload_n hC d_W_855 rfl 0 rfl ?_
  refine j_iload hC d_W_856 4 rfl ?_
  refine j_iconst (v := 3) hC d_W_858 (by decide) ?_
  refine j_iadd hC d_W_859 ?_
  refine j_sld hC hX hbl hbA (q := 5 * n + 3) (nI_add (5 * n) 3) (by omega) (by omega) d_W_860 ?_
  refine j_aload_n hC d_W_861 rfl 0 rfl ?_
  refine j_iload hC d_W_862 4 rfl ?_
  refine j_iconst (v := 4) hC d_W_864 (by decide) ?_
  refine j_iadd hC d_W_865 ?_
  refine j_sld hC hX hbl hbA (q := 5 * n + 4) (nI_add (5 * n) 4) (by omega) (by omega) d_W_866 ?_
  refine j_aload_n hC d_W_867 rfl 3 rfl ?_
  refine j_callSH (As := [.ref (g 0), .int (xs (5 * n + 1)), .int (xs (5 * n + 2)), .int (xs (5 * n + 3)), .int (xs (5 * n + 4)), .ref ao]) (rest := []) (st1 := [.int (kc xIA xIS ((pPf u (xs (5 * n + 1)) (xs (5 * n + 2)) (xs (5 * n + 3)) (xs (5 * n + 4))).1))]) hC ((h_proof l hl dC dI g k ao f u h.2.1.1 (wT_of h) (xs (5 * n + 1)) (xs (5 * n + 2)) (xs (5 * n + 3)) (xs (5 * n + 4))).frameR (mw gm k v)) rfl rfl (fun w z => jTn_l (wh_L_107 w z)) yn_L_proof rfl d_W_868 (Nat.le_of_ble_eq_true rfl) (by decide) ⟨by show 140 + 4 * n + 4 ≤ 601024; omega, by show 5944 + 24 * n + 24 ≤ 7293034; omega⟩ rfl ?_
  refine j_istore (lv' := [(0, .ref b), (1, .ref (g 0)), (2, .ref (gm 0)), (3, .ref ao), (4, .int (nI (5 * n))), (5, .int (kc xIA xIS ((pPf u (xs (5 * n + 1)) (xs (5 * n + 2)) (xs (5 * n + 3)) (xs (5 * n + 4))).1)))]) hC d_W_871 (by decide) rfl rfl ?_
  refine j_aload_n hC d_W_873 rfl 2 rfl ?_
  refine j_aload_n hC d_W_874 rfl 0 rfl ?_
  refine j_iload hC d_W_875 4 rfl ?_
  refine j_iconst (v := 1) hC d_W_877 (by decide) ?_
  refine j_iadd hC d_W_878 ?_
  refine j_sld hC hX hbl hbA (q := 5 * n + 1) (nI_add (5 * n) 1) (by omega) (by omega) d_W_879 ?_
  refine j_aload_n hC d_W_880 rfl 0 rfl ?_
  refine j_iload hC d_W_881 4 rfl ?_
  refine j_iconst (v := 2) hC d_W_883 (by decide) ?_
  refine j_iadd hC d_W_884 ?_
  refine j_sld hC hX hbl hbA (q := 5 * n + 2) (nI_add (5 * n) 2) (by omega) (by omega) d_W_885 ?_
  refine j_aload_n hC d_W_886 rfl 0 rfl ?_
  refine j_iload hC d_W_887 4 rfl ?_
  refine j_iconst (v := 3) hC d_W_889 (by decide) ?_
  refine j_iadd hC d_W_890 ?_
  refine j_sld hC hX hbl hbA (q := 5 * n + 3) (nI_add (5 * n) 3) (by omega) (by omega) d_W_891 ?_
  refine j_aload_n hC d_W_892 rfl 0 rfl ?_
  refine j_iload hC d_W_893 4 rfl ?_
  refine j_iconst (v := 4) hC d_W_895 (by decide) ?_
  refine j_iadd hC d_W_896 ?_
  refine j_sld hC hX hbl hbA (q := 5 * n + 4) (nI_add (5 * n) 4) (by omega) (by omega) d_W_897 ?_
  refine j_swap ?_
  refine j_callVr (As := [.int (xs (5 * n + 1)), .int (xs (5 * n + 2)), .int (xs (5 * n + 3)), .int (xs (5 * n + 4))]) (rest := []) (st1 := [.int (m_proof v (xs (5 * n + 1)) (xs (5 * n + 2)) (xs (5 * n + 3)) (xs (5 * n + 4))).1]) hC ((jMet.more (fun _ z => jTn_l z) (r_proof l dC dI gm k [(k 4, .long)] v h.2.2.2.1 (find_V h.2.2.2).1 (xs (5 * n + 1)) (xs (5 * n + 2)) (xs (5 * n + 3)) (xs (5 * n + 4)))).frameR (cw g k (pPf u (xs (5 * n + 1)) (xs (5 * n + 2)) (xs (5 * n + 3)) (xs (5 * n + 4))).2.2 ++ [ow ao k (lo ((pPf u (xs (5 * n + 1)) (xs (5 * n + 2)) (xs (5 * n + 3)) (xs (5 * n + 4))).1) ((pPf u (xs (5 * n + 1)) (xs (5 * n + 2)) (xs (5 * n + 3)) (xs (5 * n + 4))).2.1).toInt64 f)])) rfl rfl (fun w z => jTn_l (ww_L_110 w z)) yn_D_proof (ap_l (mw_obj gm k v)) rfl rfl d_W_898 (Nat.le_of_ble_eq_true rfl) (by decide) ⟨by show 140 + 4 * n + 4 ≤ 601024; omega, by show 5944 + 24 * n + 24 ≤ 7293034; omega⟩ rfl ?_
  refine j_swap ?_
  refine j_istore (lv' := [(0, .ref b), (1, .ref (g 0)), (2, .ref (gm 0)), (3, .ref ao), (4, .int (nI (5 * n))), (5, .int (kc xIA xIS ((pPf u (xs (5 * n + 1)) (xs (5 * n + 2)) (xs (5 * n + 3)) (xs (5 * n + 4))).1))), (6, .int (m_proof v (xs (5 * n + 1)) (xs (5 * n + 2)) (xs (5 * n + 3)) (xs (5 * n + 4))).1)]) hC d_W_901 (by decide) rfl rfl ?_
  refine j_aload_n hC d_W_903 rfl 2 rfl ?_
  refine j_swap ?_
  refine j_callVr (As := []) (rest := []) (st1 := [.int (m_thrown ((m_proof v (xs (5 * n + 1)) (xs (5 * n + 2)) (xs (5 * n + 3)) (xs (5 * n + 4))).2))]) hC ((jMet.more (fun _ z => jTn_l z) (r_thrown l dC dI gm k [(k 4, .long)] ((m_proof v (xs (5 * n + 1)) (xs (5 * n + 2)) (xs (5 * n + 3)) (xs (5 * n + 4))).2))).frameR (cw g k (pPf u (xs (5 * n + 1)) (xs (5 * n + 2)) (xs (5 * n + 3)) (xs (5 * n + 4))).2.2 ++ [ow ao k (lo ((pPf u (xs (5 * n + 1)) (xs (5 * n + 2)) (xs (5 * n + 3)) (xs (5 * n + 4))).1) ((pPf u (xs (5 * n + 1)) (xs (5 * n + 2)) (xs (5 * n + 3)) (xs (5 * n + 4))).2.1).toInt64 f)])) rfl rfl (fun w z => jTn_l (ww_L_69 w z)) yn_D_thrown (ap_l (mw_obj gm k ((m_proof v (xs (5 * n + 1)) (xs (5 * n + 2)) (xs (5 * n + 3)) (xs (5 * n + 4))).2))) rfl rfl d_W_904 (Nat.le_of_ble_eq_true rfl) (by decide) ⟨by show 140 + 4 * n + 4 ≤ 601024; omega, by show 5944 + 24 * n + 24 ≤ 7293034; omega⟩ rfl ?_
  refine j_swap ?_
  refine j_iload hC d_W_907 5 rfl ?_
  refine j_icmp_eq (tgt := 914) hC d_W_909 (by decide) (fun _ => ?_) (fun h9 => absurd S.1.symm h9)
  refine j_iload hC d_W_914 5 rfl ?_
  refine j_if_ne (tgt := 931) hC d_W_916 (by decide) (fun _ => ?_) (fun h9 => ?_)
  · refine j_goto (tgt := 934) hC d_W_931 (by decide) ?_
    refine j_locals [0, 1, 2, 3, 4] rfl ?_
    exact j_widen (by omega) (by omega) (K _ _ _ S.2.2)
  · have hn0 := kc_none h9
    refine j_aload_n hC d_W_919 rfl 3 rfl ?_
    refine j_iconst (v := 0) hC d_W_920 (by decide) ?_
    refine j_lald hC 127 4 (ap_l (ow_at g k (pPf u (xs (5 * n + 1)) (xs (5 * n + 2)) (xs (5 * n + 3)) (xs (5 * n + 4))).2.2 ao (lo ((pPf u (xs (5 * n + 1)) (xs (5 * n + 2)) (xs (5 * n + 3)) (xs (5 * n + 4))).1) ((pPf u (xs (5 * n + 1)) (xs (5 * n + 2)) (xs (5 * n + 3)) (xs (5 * n + 4))).2.1).toInt64 f))) rfl vp_in_01 (lo_v hn0 ((pPf u (xs (5 * n + 1)) (xs (5 * n + 2)) (xs (5 * n + 3)) (xs (5 * n + 4))).2.1).toInt64 f) d_W_921 ?_
    refine j_iload hC d_W_922 6 rfl ?_
    refine j_i2l hC d_W_924 rfl ?_
    refine j_lcmp hC d_W_925 ?_
    refine j_st (st' := [.int 0]) (by rw [S.2.1 hn0, lg_self]) ?_
    refine j_if_eq (tgt := 931) hC d_W_926 (by decide) (fun _ => ?_) (fun h7 => absurd rfl h7)
    refine j_goto (tgt := 934) hC d_W_931 (by decide) ?_
    refine j_locals [0, 1, 2, 3, 4] rfl ?_
    exact j_widen (by omega) (by omega) (K _ _ _ S.2.2)
