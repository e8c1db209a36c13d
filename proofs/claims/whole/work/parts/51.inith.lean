/-- the terms' values at first -/
def c6 : Nat → Int32 := upd (upd (upd (upd (upd (upd (upd (upd (upd (upd (upd (upd (fun _ => 0) 0 0) 1 1) 2 2) 3 3) 4 4) 5 5) 6 6) 7 7) 8 8) 9 9) 10 10) 11 11
def at0 : va_E := .inr (0, [.int 0, .int 0, .int 0, .int 0])
def az (k : Nat → Nat) (n : Nat) : va_E := .inl (k 0, (n, .inl (fun _ => 0)))
/-- a rule's cells in the order of their making -/
def blk (g k : Nat → Nat) (i : Nat) : va_W :=
  [(g (15 + i), .inr (2, [.ref (g (47 + 5 * i)), .ref (g (31 + i)), .int 0, .int 0, .int 0, .int 0])), (g (47 + 5 * i), at0), (g (31 + i), .inl (k 1, (4, .inr (.inr (.inr (.inr (fun z => if z < 4 then some (g (47 + (5 * i + 1 + z))) else none))))))),
   (g (47 + (5 * i + 1 + 0)), at0), (g (47 + (5 * i + 1 + 1)), at0), (g (47 + (5 * i + 1 + 2)), at0), (g (47 + (5 * i + 1 + 3)), at0)]
def blks (g k : Nat → Nat) : Nat → va_W
  | 0 => []
  | n + 1 => blks g k n ++ blk g k n
def bas (g k : Nat → Nat) (n : Nat) : va_W :=
  [(g 0, .inr (4, [.ref (g 1), .ref (g 2), .ref (g 3), .int 0, .int 0, .ref (g 4), .ref (g 5), .ref (g 6), .ref (g 7), .int (-1), .int 0, .int 0])), (g 1, az k 8), (g 2, az k 96), (g 3, .inl (k 2, (16, .inr (.inr (.inr (.inr (fun z => if z < n then some (g (15 + z)) else none))))))), (g 4, az k 8), (g 5, az k 1152), (g 6, az k 96),
   (g 7, .inr (1, [.ref (g 8), .ref (g 9)])), (g 8, .inr (3, [.ref (g 10), .ref (g 11), .ref (g 12), .ref (g 13), .ref (g 14)])), (g 10, az k 96), (g 11, az k 96), (g 12, az k 8), (g 13, az k 8), (g 14, az k 8), (g 9, .inl (k 0, (24, .inl c6)))]
def gext (g : Nat → Nat) (n r h t a0 a1 a2 a3 : Nat) : Nat → Nat := fun j => if j = 15 + n then r else if j = 31 + n then t else if j = 47 + 5 * n then h else if j = 47 + (5 * n + 1 + 0) then a0 else if j = 47 + (5 * n + 1 + 1) then a1 else if j = 47 + (5 * n + 1 + 2) then a2 else if j = 47 + (5 * n + 1 + 3) then a3 else g j
theorem gext_ne {g : Nat → Nat} {n r h t a0 a1 a2 a3 j : Nat} (h1 : j ≠ 15 + n) (h2 : j ≠ 31 + n) (h3 : j < 47 + 5 * n ∨ 47 + 5 * n + 4 < j) : gext g n r h t a0 a1 a2 a3 j = g j := by
  unfold gext
  rw [if_neg h1, if_neg h2, if_neg (by omega), if_neg (by omega), if_neg (by omega), if_neg (by omega), if_neg (by omega)]
theorem blk_congr {g g' k : Nat → Nat} {i : Nat} (h : ∀ j, (j = 15 + i ∨ j = 31 + i ∨ (47 + 5 * i ≤ j ∧ j ≤ 47 + 5 * i + 4)) → g' j = g j) : blk g' k i = blk g k i := by
  unfold blk
  have hf : (fun z => if z < 4 then some (g' (47 + (5 * i + 1 + z))) else none) = (fun z => if z < 4 then some (g (47 + (5 * i + 1 + z))) else none) := by
    funext z
    split
    · rw [h _ (by omega)]
    · rfl
  rw [hf, h (15 + i) (by omega), h (31 + i) (by omega), h (47 + 5 * i) (by omega), h (47 + (5 * i + 1 + 0)) (by omega), h (47 + (5 * i + 1 + 1)) (by omega), h (47 + (5 * i + 1 + 2)) (by omega), h (47 + (5 * i + 1 + 3)) (by omega)]
theorem blks_congr {g g' k : Nat → Nat} : ∀ {n : Nat}, (∀ i, i < n → ∀ j, (j = 15 + i ∨ j = 31 + i ∨ (47 + 5 * i ≤ j ∧ j ≤ 47 + 5 * i + 4)) → g' j = g j) → blks g' k n = blks g k n := by
  intro n
  induction n with
  | zero => intro _; rfl
  | succ n ih =>
    intro h
    unfold blks
    rw [ih (fun i hi => h i (by omega)), blk_congr (h n (by omega))]
theorem bas_congr {g g' k : Nat → Nat} {n : Nat} (h : ∀ j, j < 15 + n → g' j = g j) : bas g' k n = bas g k n := by
  unfold bas
  have hf : (fun z => if z < n then some (g' (15 + z)) else none) = (fun z => if z < n then some (g (15 + z)) else none) := by
    funext z
    split
    · rw [h _ (by omega)]
    · rfl
  rw [hf, h 0 (by omega), h 1 (by omega), h 2 (by omega), h 3 (by omega), h 4 (by omega), h 5 (by omega), h 6 (by omega), h 7 (by omega), h 8 (by omega), h 9 (by omega), h 10 (by omega), h 11 (by omega), h 12 (by omega), h 13 (by omega), h 14 (by omega)]
theorem bas_set (g k : Nat → Nat) {n : Nat} (hn : n < 16) : (bas g k n).set 3 (g 3, .inl (k 2, (16, .inr (.inr (.inr (.inr (va_up (fun z => if z < n then some (g (15 + z)) else none) (nI n).toNatClampNeg (some (g (15 + n)))))))))) = bas g k (n + 1) := by
  have hf : va_up (fun z => if z < n then some (g (15 + z)) else none) (nI n).toNatClampNeg (some (g (15 + n))) = (fun z => if z < n + 1 then some (g (15 + z)) else none) := by
    funext z
    unfold va_up
    rw [nI_clamp (by omega)]
    by_cases h : z = n
    · subst h; rw [if_pos rfl, if_pos (by omega)]
    · rw [if_neg h]
      show (if z < n then some (g (15 + z)) else none) = _
      by_cases h2 : z < n
      · rw [if_pos h2, if_pos (by omega)]
      · rw [if_neg h2, if_neg (by omega)]
  rw [hf]
  rfl
theorem blk_new (g k : Nat → Nat) (n r h t a0 a1 a2 a3 : Nat) (hn : n < 16) : [(r, .inr (2, [.ref h, .ref t, .int 0, .int 0, .int 0, .int 0])), (h, at0), (t, .inl (k 1, (4, .inr (.inr (.inr (.inr (va_up (va_up (va_up (va_up (fun _ => none) (Int32.toNatClampNeg 0) (some a0)) (Int32.toNatClampNeg 1) (some a1)) (Int32.toNatClampNeg 2) (some a2)) (Int32.toNatClampNeg 3) (some a3)))))))), (a0, at0), (a1, at0), (a2, at0), (a3, at0)] = blk (gext g n r h t a0 a1 a2 a3) k n := by
  have e0 : gext g n r h t a0 a1 a2 a3 (15 + n) = r := if_pos rfl
  have e1 : gext g n r h t a0 a1 a2 a3 (31 + n) = t := by unfold gext; rw [if_neg (by omega), if_pos rfl]
  have e2 : gext g n r h t a0 a1 a2 a3 (47 + 5 * n) = h := by unfold gext; rw [if_neg (by omega), if_neg (by omega), if_pos rfl]
  have e3 : gext g n r h t a0 a1 a2 a3 (47 + (5 * n + 1 + 0)) = a0 := by unfold gext; rw [if_neg (by omega), if_neg (by omega), if_neg (by omega), if_pos rfl]
  have e4 : gext g n r h t a0 a1 a2 a3 (47 + (5 * n + 1 + 1)) = a1 := by unfold gext; rw [if_neg (by omega), if_neg (by omega), if_neg (by omega), if_neg (by omega), if_pos rfl]
  have e5 : gext g n r h t a0 a1 a2 a3 (47 + (5 * n + 1 + 2)) = a2 := by unfold gext; rw [if_neg (by omega), if_neg (by omega), if_neg (by omega), if_neg (by omega), if_neg (by omega), if_pos rfl]
  have e6 : gext g n r h t a0 a1 a2 a3 (47 + (5 * n + 1 + 3)) = a3 := by unfold gext; rw [if_neg (by omega), if_neg (by omega), if_neg (by omega), if_neg (by omega), if_neg (by omega), if_neg (by omega), if_pos rfl]
  have hf : va_up (va_up (va_up (va_up (fun _ => none) (Int32.toNatClampNeg 0) (some a0)) (Int32.toNatClampNeg 1) (some a1)) (Int32.toNatClampNeg 2) (some a2)) (Int32.toNatClampNeg 3) (some a3) = (fun z => if z < 4 then some (gext g n r h t a0 a1 a2 a3 (47 + (5 * n + 1 + z))) else none) := by
    funext z
    unfold va_up
    rw [show Int32.toNatClampNeg 0 = 0 by decide, show Int32.toNatClampNeg 1 = 1 by decide, show Int32.toNatClampNeg 2 = 2 by decide, show Int32.toNatClampNeg 3 = 3 by decide]
    match z with
    | 0 => rw [if_pos (show 0 < 4 by decide), e3]; rfl
    | 1 => rw [if_pos (show 1 < 4 by decide), e4]; rfl
    | 2 => rw [if_pos (show 2 < 4 by decide), e5]; rfl
    | 3 => rw [if_pos (show 3 < 4 by decide), e6]; rfl
    | z + 4 => rw [if_neg (by omega), if_neg (by omega), if_neg (by omega), if_neg (by omega), if_neg (by omega)]
  unfold blk
  rw [e0, e1, e2, e3, e4, e5, e6, ← hf]
set_option maxHeartbeats 4000000 in
set_option maxRecDepth 100000 in
theorem i_H (l : Launch) (dC : Nat → ClassId) (dI : Nat → Nat → Nat) (k : Nat → Nat) (a : Nat) : jMet l y_H_init (.code y_H_init c_H_init 2 none) ({ frames := 3, cells := 126, slots := 2103, locals := 53 }) (dC, dI) jcl (ltys k) jTn [.ref a] [(a, .inr (4, [.null, .null, .null, .int 0, .int 0, .null, .null, .null, .null, .int 0, .int 0, .int 0]))] 126 2103 (jN (fun w => ∃ g : Nat → Nat, g 0 = a ∧ w = bas g k 16 ++ blks g k 16)) := by
  refine jMet.of (by decide) (Nat.le_of_ble_eq_true rfl) ?_
  intro p e s m below meth c A hC hex hr hnm htr
  have loop : ∀ (d n : Nat) (g : Nat → Nat), g 0 = a → n ≤ 16 → 16 < n + d → jJ p l e ({ frames := 3, cells := 126, slots := 2103, locals := 53 }) s m [.ref a].toArray below meth c 2 (dC, dI) jcl A (hxQ below (jQ (dC, dI) jcl (jN (fun w => ∃ g : Nat → Nat, g 0 = a ∧ w = bas g k 16 ++ blks g k 16)) A) [.ref a].toArray s 126 2103 A) (14 + 7 * n) (1623 + 30 * n) (bas g k n ++ blks g k n) [(0, .ref a), (1, .int (nI n))] [] 72 := by
    intro d
    induction d with
    | zero => intro n g _ h1 h2; exact absurd h2 (by omega)
    | succ d ih =>
      intro n g hg0 hn hd
      refine j_iload_n hC d_H_init_72 rfl 1 rfl ?_
      refine j_bipush (v := 16) hC d_H_init_73 (by decide) ?_
      refine j_icmp_ge (tgt := 97) hC d_H_init_75 (by decide) (fun h75 => ?_) (fun h75 => ?_)
      · have hge : 16 ≤ n := (nI_leI (a := 16) (by decide) (by omega)).mp h75
        have hne : n = 16 := by omega
        subst hne
        exact j_vret hC hr ⟨rfl, rfl, g, hg0, rfl⟩ d_H_init_97
      · have hlt : n < 16 := Nat.not_le.mp (fun z => h75 ((nI_leI (a := 16) (by decide) (by omega)).mpr z))
        subst hg0
        refine j_aload_n hC d_H_init_78 rfl 0 rfl ?_
        refine j_get hC hiN_H 0 (ap_l rfl) rfl 2 (by decide) (hC.2.2.2.2.1 _ (jTn_l wf_H_20)) (fun _ h9 => h9) rfl d_H_init_79 ?_
        refine j_iload_n hC d_H_init_82 rfl 1 rfl ?_
        refine j_new hC hiN_R tyX2 tyX2_ok wn_H_18 (ci := 2) rfl (fs := [.null, .null, .int 0, .int 0, .int 0, .int 0]) (by decide) ⟨by show 14 + 7 * n + 1 ≤ 126; omega, by show 1623 + 30 * n + 6 ≤ 2103; omega⟩ d_H_init_83 (fun r => ?_)
        refine j_dup hC d_H_init_86 rfl ?_
        refine j_swap ?_
        refine j_callIN (As := []) (rest := [.ref r, .int (nI n), .ref (g 3)]) hC ((i_R l dC dI k r).frameN (bas g k n ++ blks g k n)) rfl rfl rfl wi_H_44 yn_R_init rfl d_H_init_87 (Nat.le_of_ble_eq_true rfl) (by decide) ⟨by show 14 + 7 * n + 1 + 6 ≤ 126; omega, by show 1623 + 30 * n + 6 + 24 ≤ 2103; omega⟩ (fun w h => ?_)
        obtain ⟨w0, ⟨h, t, a0, a1, a2, a3, rfl⟩, rfl⟩ := h
        refine j_swap ?_
        have hB : bas (gext g n r h t a0 a1 a2 a3) k n = bas g k n := bas_congr (fun j hj => gext_ne (by omega) (by omega) (by omega))
        have hBs : blks (gext g n r h t a0 a1 a2 a3) k n = blks g k n := blks_congr (fun i hi j hj => gext_ne (by omega) (by omega) (by omega))
        have hg3 : gext g n r h t a0 a1 a2 a3 3 = g 3 := gext_ne (by omega) (by omega) (by omega)
        have hg0' : gext g n r h t a0 a1 a2 a3 0 = g 0 := gext_ne (by omega) (by omega) (by omega)
        have hgr : gext g n r h t a0 a1 a2 a3 (15 + n) = r := if_pos rfl
        refine j_ws (congr (congrArg HAppend.hAppend (congr (congrArg HAppend.hAppend hB.symm) hBs.symm)) (blk_new g k n r h t a0 a1 a2 a3 hlt)) ?_
        rw [← hg3]
        have hgr2 := hgr.symm
        generalize gext g n r h t a0 a1 a2 a3 = g9 at hgr2 hgr hg0' ⊢
        subst hgr2
        refine j_aast (ws' := (bas g9 k (n + 1) ++ blks g9 k n) ++ blk g9 k n) hC 3 2 ((bas g9 k n ++ blks g9 k n).length + 0) 2 (ap_l (ap_l rfl)) rfl (ap_r rfl) rfl (vp_in_nI hlt (by decide)) (by rw [List.set_append_left _ _ (by show 3 < (bas g9 k n ++ blks g9 k n).length; rw [List.length_append]; show 3 < 15 + _; omega), List.set_append_left _ _ (by show 3 < 15; decide), bas_set g9 k hlt]) d_H_init_90 ?_
        refine j_iinc (lv' := [(0, .ref (g 0)), (1, .int (nI (n + 1)))]) hC d_H_init_91 1 rfl (nI_1 _) (by decide) rfl rfl ?_
        refine j_goto (tgt := 72) hC d_H_init_94 (by decide) ?_
        refine j_widen (cells' := 14 + 7 * (n + 1)) (slots' := 1623 + 30 * (n + 1)) (by omega) (by omega) ?_
        rw [List.append_assoc]
        exact ih (n + 1) g9 hg0' (by omega) (by omega)
  show jJ p l e ({ frames := 3, cells := 126, slots := 2103, locals := 53 }) s m [.ref a].toArray below meth c 2 (dC, dI) jcl A (hxQ below (jQ (dC, dI) jcl (jN (fun w => ∃ g : Nat → Nat, g 0 = a ∧ w = bas g k 16 ++ blks g k 16)) A) [.ref a].toArray s 126 2103 A) (0) (0) [(a, .inr (4, [.null, .null, .null, .int 0, .int 0, .null, .null, .null, .null, .int 0, .int 0, .int 0]))] [(0, .ref a)] [] 0
  refine j_aload_n hC d_H_init_0 rfl 0 rfl ?_
  refine j_objInit hC woi_H d_H_init_1 (by decide) (by decide) ?_
  refine j_aload_n hC d_H_init_4 rfl 0 rfl ?_
  refine j_bipush (v := 8) hC d_H_init_5 (by decide) ?_
  refine j_newa (atype := .int) (ty := .int) hC rfl wa_int 0 rfl (N := 8) (a0 := (8, .inl (fun _ => 0))) (fun _ => rfl) (by decide) (by decide) (by decide) (by decide) d_H_init_7 (fun q1 => ?_)
  refine j_putF (ty := tyX4 0) (ws' := [(a, .inr (4, [.ref q1, .null, .null, .int 0, .int 0, .null, .null, .null, .null, .int 0, .int 0, .int 0])), (q1, .inl (k 0, (8, .inl (fun _ => 0))))]) hC hiN_H tyX4 tyX4_ok nmX4 0 (fs := [.null, .null, .null, .int 0, .int 0, .null, .null, .null, .null, .int 0, .int 0, .int 0]) rfl rfl 0 (by decide) (hC.2.2.2.2.1 _ (jTn_l wf_H_11)) (fun _ h9 => h9) rfl hnm rfl (tyX4_ok 0 (by decide)) rfl rfl (Nat.le_of_ble_eq_true rfl) rfl d_H_init_9 ?_
  refine j_aload_n hC d_H_init_12 rfl 0 rfl ?_
  refine j_bipush (v := 96) hC d_H_init_13 (by decide) ?_
  refine j_newa (atype := .int) (ty := .int) hC rfl wa_int 0 rfl (N := 96) (a0 := (96, .inl (fun _ => 0))) (fun _ => rfl) (by decide) (by decide) (by decide) (by decide) d_H_init_15 (fun q2 => ?_)
  refine j_putF (ty := tyX4 1) (ws' := [(a, .inr (4, [.ref q1, .ref q2, .null, .int 0, .int 0, .null, .null, .null, .null, .int 0, .int 0, .int 0])), (q1, .inl (k 0, (8, .inl (fun _ => 0)))), (q2, .inl (k 0, (96, .inl (fun _ => 0))))]) hC hiN_H tyX4 tyX4_ok nmX4 0 (fs := [.ref q1, .null, .null, .int 0, .int 0, .null, .null, .null, .null, .int 0, .int 0, .int 0]) rfl rfl 1 (by decide) (hC.2.2.2.2.1 _ (jTn_l wf_H_15)) (fun _ h9 => h9) rfl hnm rfl (tyX4_ok 1 (by decide)) rfl rfl (Nat.le_of_ble_eq_true rfl) rfl d_H_init_17 ?_
  refine j_aload_n hC d_H_init_20 rfl 0 rfl ?_
  refine j_bipush (v := 16) hC d_H_init_21 (by decide) ?_
  refine j_newq hC wq_H_18 2 rfl (N := 16) (by decide) (by decide) (by decide) (by decide) d_H_init_23 (fun q3 => ?_)
  refine j_putF (ty := tyX4 2) (ws' := [(a, .inr (4, [.ref q1, .ref q2, .ref q3, .int 0, .int 0, .null, .null, .null, .null, .int 0, .int 0, .int 0])), (q1, .inl (k 0, (8, .inl (fun _ => 0)))), (q2, .inl (k 0, (96, .inl (fun _ => 0)))), (q3, .inl (k 2, (16, .inr (.inr (.inr (.inr (fun _ => none)))))))]) hC hiN_H tyX4 tyX4_ok nmX4 0 (fs := [.ref q1, .ref q2, .null, .int 0, .int 0, .null, .null, .null, .null, .int 0, .int 0, .int 0]) rfl rfl 2 (by decide) (hC.2.2.2.2.1 _ (jTn_l wf_H_20)) (fun _ h9 => h9) rfl hnm rfl (tyX4_ok 2 (by decide)) rfl rfl (Nat.le_of_ble_eq_true rfl) rfl d_H_init_26 ?_
  refine j_aload_n hC d_H_init_29 rfl 0 rfl ?_
  refine j_bipush (v := 8) hC d_H_init_30 (by decide) ?_
  refine j_newa (atype := .int) (ty := .int) hC rfl wa_int 0 rfl (N := 8) (a0 := (8, .inl (fun _ => 0))) (fun _ => rfl) (by decide) (by decide) (by decide) (by decide) d_H_init_32 (fun q4 => ?_)
  refine j_putF (ty := tyX4 5) (ws' := [(a, .inr (4, [.ref q1, .ref q2, .ref q3, .int 0, .int 0, .ref q4, .null, .null, .null, .int 0, .int 0, .int 0])), (q1, .inl (k 0, (8, .inl (fun _ => 0)))), (q2, .inl (k 0, (96, .inl (fun _ => 0)))), (q3, .inl (k 2, (16, .inr (.inr (.inr (.inr (fun _ => none))))))), (q4, .inl (k 0, (8, .inl (fun _ => 0))))]) hC hiN_H tyX4 tyX4_ok nmX4 0 (fs := [.ref q1, .ref q2, .ref q3, .int 0, .int 0, .null, .null, .null, .null, .int 0, .int 0, .int 0]) rfl rfl 5 (by decide) (hC.2.2.2.2.1 _ (jTn_l wf_H_24)) (fun _ h9 => h9) rfl hnm rfl (tyX4_ok 5 (by decide)) rfl rfl (Nat.le_of_ble_eq_true rfl) rfl d_H_init_34 ?_
  refine j_aload_n hC d_H_init_37 rfl 0 rfl ?_
  refine j_sipush (v := 1152) hC d_H_init_38 (by decide) ?_
  refine j_newa (atype := .int) (ty := .int) hC rfl wa_int 0 rfl (N := 1152) (a0 := (1152, .inl (fun _ => 0))) (fun _ => rfl) (by decide) (by decide) (by decide) (by decide) d_H_init_41 (fun q5 => ?_)
  refine j_putF (ty := tyX4 6) (ws' := [(a, .inr (4, [.ref q1, .ref q2, .ref q3, .int 0, .int 0, .ref q4, .ref q5, .null, .null, .int 0, .int 0, .int 0])), (q1, .inl (k 0, (8, .inl (fun _ => 0)))), (q2, .inl (k 0, (96, .inl (fun _ => 0)))), (q3, .inl (k 2, (16, .inr (.inr (.inr (.inr (fun _ => none))))))), (q4, .inl (k 0, (8, .inl (fun _ => 0)))), (q5, .inl (k 0, (1152, .inl (fun _ => 0))))]) hC hiN_H tyX4 tyX4_ok nmX4 0 (fs := [.ref q1, .ref q2, .ref q3, .int 0, .int 0, .ref q4, .null, .null, .null, .int 0, .int 0, .int 0]) rfl rfl 6 (by decide) (hC.2.2.2.2.1 _ (jTn_l wf_H_27)) (fun _ h9 => h9) rfl hnm rfl (tyX4_ok 6 (by decide)) rfl rfl (Nat.le_of_ble_eq_true rfl) rfl d_H_init_43 ?_
  refine j_aload_n hC d_H_init_46 rfl 0 rfl ?_
  refine j_bipush (v := 96) hC d_H_init_47 (by decide) ?_
  refine j_newa (atype := .int) (ty := .int) hC rfl wa_int 0 rfl (N := 96) (a0 := (96, .inl (fun _ => 0))) (fun _ => rfl) (by decide) (by decide) (by decide) (by decide) d_H_init_49 (fun q6 => ?_)
  refine j_putF (ty := tyX4 7) (ws' := [(a, .inr (4, [.ref q1, .ref q2, .ref q3, .int 0, .int 0, .ref q4, .ref q5, .ref q6, .null, .int 0, .int 0, .int 0])), (q1, .inl (k 0, (8, .inl (fun _ => 0)))), (q2, .inl (k 0, (96, .inl (fun _ => 0)))), (q3, .inl (k 2, (16, .inr (.inr (.inr (.inr (fun _ => none))))))), (q4, .inl (k 0, (8, .inl (fun _ => 0)))), (q5, .inl (k 0, (1152, .inl (fun _ => 0)))), (q6, .inl (k 0, (96, .inl (fun _ => 0))))]) hC hiN_H tyX4 tyX4_ok nmX4 0 (fs := [.ref q1, .ref q2, .ref q3, .int 0, .int 0, .ref q4, .ref q5, .null, .null, .int 0, .int 0, .int 0]) rfl rfl 7 (by decide) (hC.2.2.2.2.1 _ (jTn_l wf_H_30)) (fun _ h9 => h9) rfl hnm rfl (tyX4_ok 7 (by decide)) rfl rfl (Nat.le_of_ble_eq_true rfl) rfl d_H_init_51 ?_
  refine j_aload_n hC d_H_init_54 rfl 0 rfl ?_
  refine j_new hC hiN_M tyX1 tyX1_ok wn_H_33 (ci := 1) rfl (fs := [.null, .null]) (by decide) (by decide) d_H_init_55 (fun q7 => ?_)
  refine j_dup hC d_H_init_58 rfl ?_
  refine j_swap (a := [(a, .inr (4, [.ref q1, .ref q2, .ref q3, .int 0, .int 0, .ref q4, .ref q5, .ref q6, .null, .int 0, .int 0, .int 0])), (q1, .inl (k 0, (8, .inl (fun _ => 0)))), (q2, .inl (k 0, (96, .inl (fun _ => 0)))), (q3, .inl (k 2, (16, .inr (.inr (.inr (.inr (fun _ => none))))))), (q4, .inl (k 0, (8, .inl (fun _ => 0)))), (q5, .inl (k 0, (1152, .inl (fun _ => 0)))), (q6, .inl (k 0, (96, .inl (fun _ => 0))))]) (b := [(q7, .inr (1, [.null, .null]))]) ?_
  refine j_callIN (As := []) (rest := [.ref q7, .ref a]) hC ((i_M l dC dI k q7).frameN [(a, .inr (4, [.ref q1, .ref q2, .ref q3, .int 0, .int 0, .ref q4, .ref q5, .ref q6, .null, .int 0, .int 0, .int 0])), (q1, .inl (k 0, (8, .inl (fun _ => 0)))), (q2, .inl (k 0, (96, .inl (fun _ => 0)))), (q3, .inl (k 2, (16, .inr (.inr (.inr (.inr (fun _ => none))))))), (q4, .inl (k 0, (8, .inl (fun _ => 0)))), (q5, .inl (k 0, (1152, .inl (fun _ => 0)))), (q6, .inl (k 0, (96, .inl (fun _ => 0))))]) rfl rfl rfl wi_H_35 yn_M_init rfl d_H_init_59 (Nat.le_of_ble_eq_true rfl) (by decide) (by decide) (fun w h => ?_)
  obtain ⟨w0, ⟨q8, q9, q10, q11, q12, q13, q14, rfl⟩, rfl⟩ := h
  refine j_swap ?_
  show jJ p l e ({ frames := 3, cells := 126, slots := 2103, locals := 53 }) s m [.ref a].toArray below meth c 2 (dC, dI) jcl A (hxQ below (jQ (dC, dI) jcl (jN (fun w => ∃ g : Nat → Nat, g 0 = a ∧ w = bas g k 16 ++ blks g k 16)) A) [.ref a].toArray s 126 2103 A) (14) (1623) [(a, .inr (4, [.ref q1, .ref q2, .ref q3, .int 0, .int 0, .ref q4, .ref q5, .ref q6, .null, .int 0, .int 0, .int 0])), (q1, .inl (k 0, (8, .inl (fun _ => 0)))), (q2, .inl (k 0, (96, .inl (fun _ => 0)))), (q3, .inl (k 2, (16, .inr (.inr (.inr (.inr (fun _ => none))))))), (q4, .inl (k 0, (8, .inl (fun _ => 0)))), (q5, .inl (k 0, (1152, .inl (fun _ => 0)))), (q6, .inl (k 0, (96, .inl (fun _ => 0)))), (q7, .inr (1, [.ref q8, .ref q14])), (q8, .inr (3, [.ref q9, .ref q10, .ref q11, .ref q12, .ref q13])), (q9, .inl (k 0, (96, .inl (fun _ => 0)))), (q10, .inl (k 0, (96, .inl (fun _ => 0)))), (q11, .inl (k 0, (8, .inl (fun _ => 0)))), (q12, .inl (k 0, (8, .inl (fun _ => 0)))), (q13, .inl (k 0, (8, .inl (fun _ => 0)))), (q14, .inl (k 0, (24, .inl (upd (upd (upd (upd (upd (upd (upd (upd (upd (upd (upd (upd (fun _ => 0) 0 0) 1 1) 2 2) 3 3) 4 4) 5 5) 6 6) 7 7) 8 8) 9 9) 10 10) 11 11))))] [(0, .ref a)] [.ref q7, .ref a] 62
  refine j_putF (ty := tyX4 8) (ws' := [(a, .inr (4, [.ref q1, .ref q2, .ref q3, .int 0, .int 0, .ref q4, .ref q5, .ref q6, .ref q7, .int 0, .int 0, .int 0])), (q1, .inl (k 0, (8, .inl (fun _ => 0)))), (q2, .inl (k 0, (96, .inl (fun _ => 0)))), (q3, .inl (k 2, (16, .inr (.inr (.inr (.inr (fun _ => none))))))), (q4, .inl (k 0, (8, .inl (fun _ => 0)))), (q5, .inl (k 0, (1152, .inl (fun _ => 0)))), (q6, .inl (k 0, (96, .inl (fun _ => 0)))), (q7, .inr (1, [.ref q8, .ref q14])), (q8, .inr (3, [.ref q9, .ref q10, .ref q11, .ref q12, .ref q13])), (q9, .inl (k 0, (96, .inl (fun _ => 0)))), (q10, .inl (k 0, (96, .inl (fun _ => 0)))), (q11, .inl (k 0, (8, .inl (fun _ => 0)))), (q12, .inl (k 0, (8, .inl (fun _ => 0)))), (q13, .inl (k 0, (8, .inl (fun _ => 0)))), (q14, .inl (k 0, (24, .inl (upd (upd (upd (upd (upd (upd (upd (upd (upd (upd (upd (upd (fun _ => 0) 0 0) 1 1) 2 2) 3 3) 4 4) 5 5) 6 6) 7 7) 8 8) 9 9) 10 10) 11 11))))]) hC hiN_H tyX4 tyX4_ok nmX4 0 (fs := [.ref q1, .ref q2, .ref q3, .int 0, .int 0, .ref q4, .ref q5, .ref q6, .null, .int 0, .int 0, .int 0]) rfl rfl 8 (by decide) (hC.2.2.2.2.1 _ (jTn_l wf_H_36)) (fun _ h9 => h9) rfl hnm rfl (tyX4_ok 8 (by decide)) rfl rfl (Nat.le_of_ble_eq_true rfl) rfl d_H_init_62 ?_
  refine j_aload_n hC d_H_init_65 rfl 0 rfl ?_
  refine j_iconst (v := (-1)) hC d_H_init_66 (by decide) ?_
  refine j_put (ty := tyX4 9) (ws' := [(a, .inr (4, [.ref q1, .ref q2, .ref q3, .int 0, .int 0, .ref q4, .ref q5, .ref q6, .ref q7, .int (-1), .int 0, .int 0])), (q1, .inl (k 0, (8, .inl (fun _ => 0)))), (q2, .inl (k 0, (96, .inl (fun _ => 0)))), (q3, .inl (k 2, (16, .inr (.inr (.inr (.inr (fun _ => none))))))), (q4, .inl (k 0, (8, .inl (fun _ => 0)))), (q5, .inl (k 0, (1152, .inl (fun _ => 0)))), (q6, .inl (k 0, (96, .inl (fun _ => 0)))), (q7, .inr (1, [.ref q8, .ref q14])), (q8, .inr (3, [.ref q9, .ref q10, .ref q11, .ref q12, .ref q13])), (q9, .inl (k 0, (96, .inl (fun _ => 0)))), (q10, .inl (k 0, (96, .inl (fun _ => 0)))), (q11, .inl (k 0, (8, .inl (fun _ => 0)))), (q12, .inl (k 0, (8, .inl (fun _ => 0)))), (q13, .inl (k 0, (8, .inl (fun _ => 0)))), (q14, .inl (k 0, (24, .inl (upd (upd (upd (upd (upd (upd (upd (upd (upd (upd (upd (upd (fun _ => 0) 0 0) 1 1) 2 2) 3 3) 4 4) 5 5) 6 6) 7 7) 8 8) 9 9) 10 10) 11 11))))]) hC hiN_H tyX4 tyX4_ok nmX4 0 (fs := [.ref q1, .ref q2, .ref q3, .int 0, .int 0, .ref q4, .ref q5, .ref q6, .ref q7, .int 0, .int 0, .int 0]) rfl rfl 9 (by decide) (hC.2.2.2.2.1 _ (jTn_l wf_H_40)) (fun _ h9 => h9) rfl (tyX4_ok 9 (by decide)) rfl rfl (Nat.le_of_ble_eq_true rfl) rfl d_H_init_67 ?_
  refine j_iconst (v := 0) hC d_H_init_70 (by decide) ?_
  refine j_istore_n (lv' := [(0, .ref a), (1, .int 0)]) hC d_H_init_71 rfl (by decide) rfl rfl ?_
  have e0 : (fun _ : Nat => (none : Option Nat)) = (fun z => if z < 0 then some ((fun j => if j = 0 then a else if j = 1 then q1 else if j = 2 then q2 else if j = 3 then q3 else if j = 4 then q4 else if j = 5 then q5 else if j = 6 then q6 else if j = 7 then q7 else if j = 8 then q8 else if j = 9 then q14 else if j = 10 then q9 else if j = 11 then q10 else if j = 12 then q11 else if j = 13 then q12 else if j = 14 then q13 else 0 : Nat → Nat) (15 + z)) else none) := by funext z; rw [if_neg (by omega)]
  rw [e0]
  exact j_widen (by decide) (by decide) (loop 17 0 (fun j => if j = 0 then a else if j = 1 then q1 else if j = 2 then q2 else if j = 3 then q3 else if j = 4 then q4 else if j = 5 then q5 else if j = 6 then q6 else if j = 7 then q7 else if j = 8 then q8 else if j = 9 then q14 else if j = 10 then q9 else if j = 11 then q10 else if j = 12 then q11 else if j = 13 then q12 else if j = 14 then q13 else 0) rfl (by decide) (by decide))
