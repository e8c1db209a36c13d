-- the law's loop and its beginning
theorem sub5 {L q : Nat} (hL : L ≤ 2560) (hq : q < 2 ^ 31) : nI L - 5 < nI q ↔ L < q + 5 := by
  rcases Nat.lt_or_ge L 5 with h | h
  · have h0 : (0 : Int32) ≤ nI q := Int32.not_lt.mp (nI_nn hq)
    have h1 : ∀ z, z < 5 → nI z - 5 < 0 := by decide +kernel
    exact ⟨fun _ => by omega, fun _ => Int32.lt_of_lt_of_le (h1 L h) h0⟩
  · have e : nI L - 5 = nI (L - 5) := by
      have h1 : nI (L - 5) + nI 5 = nI L := (nI_add (L - 5) 5).trans (congrArg nI (by omega))
      rw [← h1]
      exact Int32.add_sub_cancel _ _
    rw [e, nI_ltI (by omega) hq]
    omega
theorem nx_15 (x : Int32) : ∃ k, k < 16 ∧ x &&& 15 = nI k := by
  have e : x = nI x.toBitVec.toNat := by
    apply Int32.toBitVec_inj.1
    show x.toBitVec = BitVec.ofNat 32 x.toBitVec.toNat
    simp
  refine ⟨x.toBitVec.toNat % 16, Nat.mod_lt _ (by omega), ?_⟩
  have h1 := nx_and' x.toBitVec.toNat 15
  rw [← e, show (15 : Nat) = 2 ^ 4 - 1 from rfl, Nat.and_two_pow_sub_one_eq_mod] at h1
  exact h1
set_option maxHeartbeats 4000000 in
set_option maxRecDepth 100000 in
theorem law_loop {p : Program} {l : Launch} {e : Env} {s : State} {m : MethodId} {below : List Frame} {meth : Method} {c : Code} {dC : Nat → ClassId} {dI : Nat → Nat → Nat} {k : Nat → Nat} {b L : Nat} {xs : Nat → Int32} (hl : l.stackTraces = false) (hC : jC p s m #[Value.ref b] meth c code 7 "StrataHouseLaw" jTn (dC, dI) jcl (ltys k) (fun q => s.heap.size ≤ q)) (hX : va_X b L xs s s.heap) (hbl : b < s.heap.size) (hL : L ≤ 2560) (hr : meth.sig.returnType = ret) (g gm : Nat → Nat) (ao : Nat) : ∀ (d n : Nat) (u v : jU) (f : Nat → Int64), Rl u v → 5 * n ≤ L → 513 ≤ n + d → jJ p l e room_1 s m #[Value.ref b] below meth c 7 (dC, dI) jcl (fun q => s.heap.size ≤ q) (lw_Z below #[Value.ref b] s) (140 + 4 * n) (5944 + 24 * n) ((cw g k u ++ [ow ao k f]) ++ mw gm k v) [(0, .ref b), (1, .ref (g 0)), (2, .ref (gm 0)), (3, .ref ao), (4, .int (nI (5 * n)))] [] 23 := by
  have hbA : ¬ s.heap.size ≤ b := Nat.not_le.mpr hbl
  intro d
  induction d with
  | zero => intro n u v f _ h1 h2; exact absurd h2 (by omega)
  | succ d ih =>
    intro n u v f h h1 h2
    refine j_iload hC d_W_23 4 rfl ?_
    refine j_aload_n hC d_W_25 rfl 0 rfl ?_
    refine j_slen hC hX hbl hbA d_W_26 ?_
    refine j_iconst (v := 5) hC d_W_27 (by decide) ?_
    refine j_isub hC d_W_28 ?_
    refine j_icmp_gt (tgt := 940) hC d_W_29 (by decide) (fun h9 => ?_) (fun h9 => ?_)
    · refine j_iconst (v := 1) hC d_W_940 (by decide) ?_
      exact j_lend hC hr d_W_941 (by omega) (by omega)
    · have hn : 5 * n + 5 ≤ L := Nat.not_lt.mp (fun z => h9 ((sub5 hL (by omega)).mpr z))
      have K : ∀ (u' v' : jU) (f' : Nat → Int64), Rl u' v' → jJ p l e room_1 s m #[Value.ref b] below meth c 7 (dC, dI) jcl (fun q => s.heap.size ≤ q) (lw_Z below #[Value.ref b] s) (140 + 4 * (n + 1)) (5944 + 24 * (n + 1)) ((cw g k u' ++ [ow ao k f']) ++ mw gm k v') [(0, .ref b), (1, .ref (g 0)), (2, .ref (gm 0)), (3, .ref ao), (4, .int (nI (5 * n)))] [] 934 := by
        intro u' v' f' h'
        refine j_iinc (lv' := [(0, .ref b), (1, .ref (g 0)), (2, .ref (gm 0)), (3, .ref ao), (4, .int (nI (5 * (n + 1))))]) hC d_W_934 4 rfl ((nI_add (5 * n) 5).trans (congrArg nI (by omega))) (by decide) rfl rfl ?_
        refine j_goto (tgt := 23) hC d_W_937 (by decide) ?_
        exact ih (n + 1) u' v' f' h' (by omega) (by omega)
      refine j_aload_n hC d_W_32 rfl 0 rfl ?_
      refine j_iload hC d_W_33 4 rfl ?_
      refine j_sld hC hX hbl hbA (q := 5 * n) rfl (by omega) (by omega) d_W_35 ?_
      refine j_bipush (v := 15) hC d_W_36 (by decide) ?_
      refine j_iand hC d_W_38 ?_
      obtain ⟨t, ht, et⟩ := nx_15 (xs (5 * n))
      refine j_st (st' := [.int (nI t)]) (by rw [et]) ?_
      match t, ht with
      | 0, _ =>
        refine j_tableIn hC d_W_39 (by decide) (by decide) (off := 65) (by decide) (tgt := 104) (by decide) ?_
        exact lc_clear hl hC hX hbl hL hr g gm ao hn h K
      | 1, _ =>
        refine j_tableIn hC d_W_39 (by decide) (by decide) (off := 76) (by decide) (tgt := 115) (by decide) ?_
        exact lc_relation hl hC hX hbl hL hr g gm ao hn h K
      | 2, _ =>
        refine j_tableIn hC d_W_39 (by decide) (by decide) (off := 132) (by decide) (tgt := 171) (by decide) ?_
        exact lc_give hl hC hX hbl hL hr g gm ao hn h K
      | 3, _ =>
        refine j_tableIn hC d_W_39 (by decide) (by decide) (off := 219) (by decide) (tgt := 258) (by decide) ?_
        exact lc_take hl hC hX hbl hL hr g gm ao hn h K
      | 4, _ =>
        refine j_tableIn hC d_W_39 (by decide) (by decide) (off := 306) (by decide) (tgt := 345) (by decide) ?_
        exact lc_rule hl hC hX hbl hL hr g gm ao hn h K
      | 5, _ =>
        refine j_tableIn hC d_W_39 (by decide) (by decide) (off := 386) (by decide) (tgt := 425) (by decide) ?_
        by_cases hz : xs (5 * n + 4) = 0
        · exact lc_literal0 hl hC hX hbl hL hr g gm ao hn h hz K
        · exact lc_literal1 hl hC hX hbl hL hr g gm ao hn h hz K
      | 6, _ =>
        refine j_tableIn hC d_W_39 (by decide) (by decide) (off := 494) (by decide) (tgt := 533) (by decide) ?_
        exact lc_unrule hl hC hX hbl hL hr g gm ao hn h K
      | 7, _ =>
        refine j_tableIn hC d_W_39 (by decide) (by decide) (off := 518) (by decide) (tgt := 557) (by decide) ?_
        exact lc_fault hl hC hX hbl hL hr g gm ao hn h K
      | 8, _ =>
        refine j_tableIn hC d_W_39 (by decide) (by decide) (off := 531) (by decide) (tgt := 570) (by decide) ?_
        exact lc_layer hl hC hX hbl hL hr g gm ao hn h K
      | 9, _ =>
        refine j_tableIn hC d_W_39 (by decide) (by decide) (off := 587) (by decide) (tgt := 626) (by decide) ?_
        exact lc_count hl hC hX hbl hL hr g gm ao hn h K
      | 10, _ =>
        refine j_tableIn hC d_W_39 (by decide) (by decide) (off := 643) (by decide) (tgt := 682) (by decide) ?_
        exact lc_rank hl hC hX hbl hL hr g gm ao hn h K
      | 11, _ =>
        refine j_tableIn hC d_W_39 (by decide) (by decide) (off := 723) (by decide) (tgt := 762) (by decide) ?_
        exact lc_ways hl hC hX hbl hL hr g gm ao hn h K
      | 12, _ =>
        refine j_tableIn hC d_W_39 (by decide) (by decide) (off := 803) (by decide) (tgt := 842) (by decide) ?_
        exact lc_proof hl hC hX hbl hL hr g gm ao hn h K
      | 13, _ => exact j_tableOut hC d_W_39 (Or.inr (by decide)) (tgt := 934) (by decide) (j_widen (by omega) (by omega) (K u v f h))
      | 14, _ => exact j_tableOut hC d_W_39 (Or.inr (by decide)) (tgt := 934) (by decide) (j_widen (by omega) (by omega) (K u v f h))
      | 15, _ => exact j_tableOut hC d_W_39 (Or.inr (by decide)) (tgt := 934) (by decide) (j_widen (by omega) (by omega) (K u v f h))
      | q + 16, hq => exact absurd hq (by omega)
set_option maxHeartbeats 4000000 in
set_option maxRecDepth 100000 in
theorem law_begin {p : Program} {l : Launch} {e : Env} {s : State} {m : MethodId} {below : List Frame} {meth : Method} {c : Code} {dC : Nat → ClassId} {dI : Nat → Nat → Nat} {k : Nat → Nat} {b L : Nat} {xs : Nat → Int32} (hl : l.stackTraces = false) (hC : jC p s m #[Value.ref b] meth c code 7 "StrataHouseLaw" jTn (dC, dI) jcl (ltys k) (fun q => s.heap.size ≤ q)) (hX : va_X b L xs s s.heap) (hbl : b < s.heap.size) (hL : L ≤ 2560) (hr : meth.sig.returnType = ret) : jJ p l e room_1 s m #[Value.ref b] below meth c 7 (dC, dI) jcl (fun q => s.heap.size ≤ q) (lw_Z below #[Value.ref b] s) 0 0 [] [(0, .ref b)] [] 0 := by
  refine j_new hC hiN_H tyX4 tyX4_ok wn_L_8 (ci := 4) rfl (fs := [.null, .null, .null, .int 0, .int 0, .null, .null, .null, .null, .int 0, .int 0, .int 0]) (by decide) (by decide) d_W_0 (fun a1 => ?_)
  refine j_dup hC d_W_3 rfl ?_
  refine j_callI (As := []) (rest := [.ref a1]) hC (i_H l dC dI k a1) rfl rfl rfl wi_L_55 yn_H_init rfl d_W_4 (Nat.le_of_ble_eq_true rfl) (by decide) (by decide) (fun w hw => ?_)
  obtain ⟨g, hg0, rfl⟩ := hw
  subst hg0
  refine j_by hpi (house_g g k) (fun i j hi hj => by rw [cw_len] at hi hj; exact hpi_inj i j hi hj) ?_
  refine j_astore_n (lv' := [(0, .ref b), (1, .ref (g 0))]) hC d_W_7 rfl (by decide) rfl rfl ?_
  refine j_new hC hiN_D tyX5 tyX5_ok wn_L_56 (ci := 5) rfl (fs := [.int 0, .int 0, .null, .null, .null, .int 0, .null, .null, .null, .null, .null, .null, .int 0, .int 0, .null, .null]) (by decide) (by decide) d_W_8 (fun a2 => ?_)
  refine j_dup hC d_W_11 rfl ?_
  refine j_swap ?_
  refine j_callI (As := []) (rest := [.ref a2]) hC ((i_D l dC dI k a2).frameN (cw g k u0s)) rfl rfl rfl wi_L_58 yn_D_init rfl d_W_12 (Nat.le_of_ble_eq_true rfl) (by decide) (by decide) (fun w hw => ?_)
  obtain ⟨w0, ⟨q1, q2, q3, q4, q5, q6, q7, q8, q9, q10, q11, rfl⟩, rfl⟩ := hw
  refine j_swap ?_
  obtain ⟨gm, hgm⟩ : ∃ gm : Nat → Nat, gm = fun j => if j = 0 then a2 else if j = 1 then q1 else if j = 2 then q2 else if j = 3 then q3 else if j = 4 then q4 else if j = 5 then q5 else if j = 6 then q6 else if j = 7 then q7 else if j = 8 then q8 else if j = 9 then q9 else if j = 10 then q10 else if j = 11 then q11 else 0 := ⟨_, rfl⟩
  have e0 : gm 0 = a2 := by rw [hgm]; rfl
  have ew : [(a2, .inr (5, [.int 0, .int 0, .ref q1, .ref q2, .ref q3, .int 0, .ref q4, .ref q5, .ref q6, .ref q7, .ref q8, .ref q9, .int 0, .int 0, .ref q10, .ref q11])), (q1, .inl (k 0, (8, .inl (fun _ => 0)))), (q2, .inl (k 3, (1152, .inl (fun _ => 0)))), (q3, .inl (k 0, (1152, .inl (fun _ => 0)))), (q4, .inl (k 0, (16, .inl (fun _ => 0)))), (q5, .inl (k 0, (80, .inl (fun _ => 0)))), (q6, .inl (k 0, (80, .inl (fun _ => 0)))), (q7, .inl (k 0, (80, .inl (fun _ => 0)))), (q8, .inl (k 3, (80, .inl (fun _ => 0)))), (q9, .inl (k 0, (8, .inl (fun _ => 0)))), (q10, .inl (k 0, (4, .inl (fun _ => 0)))), (q11, .inl (k 3, (1152, .inl (fun _ => 0))))] = mw gm k v0s := by rw [hgm]; rfl
  rw [ew]
  refine j_astore_n (lv' := [(0, .ref b), (1, .ref (g 0)), (2, .ref (gm 0))]) hC d_W_15 rfl (by decide) rfl (by rw [e0]; rfl) ?_
  refine j_iconst (v := 1) hC d_W_16 (by decide) ?_
  refine j_newa (atype := .long) (ty := .long) hC rfl wa_long 4 rfl (N := 1) (a0 := (1, .inr (.inl (fun _ => 0)))) (fun _ => rfl) (by decide) (by decide) (by decide) (by decide) d_W_17 (fun ao => ?_)
  refine j_sw3 ?_
  refine j_astore_n (lv' := [(0, .ref b), (1, .ref (g 0)), (2, .ref (gm 0)), (3, .ref ao)]) hC d_W_19 rfl (by decide) rfl rfl ?_
  refine j_iconst (v := 0) hC d_W_20 (by decide) ?_
  refine j_istore (lv' := [(0, .ref b), (1, .ref (g 0)), (2, .ref (gm 0)), (3, .ref ao), (4, .int (nI (5 * 0)))]) hC d_W_21 (by decide) rfl rfl ?_
  exact law_loop hl hC hX hbl hL hr g gm ao 513 0 u0s v0s (fun _ => 0) Rl_0 (by omega) (by omega)
