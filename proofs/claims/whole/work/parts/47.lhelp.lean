/-- what a helper of the law answers: which handler was taken -/
def kc (a b : String) (c : Option String) : Int32 := if c = none then 0 else if c = some a then 1 else if c = some b then 2 else 3
theorem kc_0 {a b : String} {c : Option String} (h : c = none) : kc a b c = 0 := if_pos h
theorem kc_1 {a b : String} {c : Option String} (h : c = some a) : kc a b c = 1 := by rw [kc, if_neg (by rw [h]; exact Option.some_ne_none _), if_pos h]
theorem kc_2 {a b : String} {c : Option String} (h : c = some b) (hn : b ≠ a) : kc a b c = 2 := by rw [kc, if_neg (by rw [h]; exact Option.some_ne_none _), if_neg (by rw [h]; exact fun z => hn (Option.some.inj z)), if_pos h]
theorem kc_3 {a b d : String} {c : Option String} (h : c = some d) (hn : d ≠ a) (hm : d ≠ b) : kc a b c = 3 := by rw [kc, if_neg (by rw [h]; exact Option.some_ne_none _), if_neg (by rw [h]; exact fun z => hn (Option.some.inj z)), if_neg (by rw [h]; exact fun z => hm (Option.some.inj z))]
/-- the cell of the long that the helpers write -/
def ow (a : Nat) (k : Nat → Nat) (f : Nat → Int64) : Nat × va_E := (a, .inl (k 4, 1, .inr (.inl f)))
def lo (c : Option String) (x : Int64) (f : Nat → Int64) : Nat → Int64 := if c = none then vp_updL f (Int32.toNatClampNeg 0) x else f
theorem lo_0 {c : Option String} (h : c = none) (x : Int64) (f : Nat → Int64) : lo c x f = vp_updL f (Int32.toNatClampNeg 0) x := if_pos h
theorem lo_1 {c : Option String} {y : String} (h : c = some y) (x : Int64) (f : Nat → Int64) : lo c x f = f := if_neg (by rw [h]; exact Option.some_ne_none _)
def ltys (k : Nat → Nat) : List (ClassId × FieldType) := mtys k [(k 4, .long)]
theorem cw_len (g k : Nat → Nat) (u : jU) : (cw g k u).length = 127 := by simp [cw]
theorem ow_at (g k : Nat → Nat) (u : jU) (a : Nat) (f : Nat → Int64) : (cw g k u ++ [ow a k f])[127]? = some (ow a k f) := by
  have h : (cw g k u ++ [ow a k f])[(cw g k u).length + 0]? = some (ow a k f) := ap_r rfl
  rw [cw_len] at h
  exact h
theorem ow_set (g k : Nat → Nat) (u : jU) (a : Nat) (f f' : Nat → Int64) : (cw g k u ++ [ow a k f]).set 127 (ow a k f') = cw g k u ++ [ow a k f'] := by
  rw [List.set_append, if_neg (by rw [cw_len]; omega), cw_len]
  rfl
theorem vp_in_01 : vp_in 0 1 := vp_in_nI (n := 0) (by decide) (by decide)
theorem pcRelation_some {u : jU} {n : Int32} {cn : String} (h : pcRelation u n = some cn) : cn = xIA ∨ cn = xUO := by
  unfold pcRelation at h
  repeat' (split at h)
  all_goals first | (cases h; done) | exact Or.inl (Option.some.inj h).symm | exact Or.inr (Option.some.inj h).symm
theorem pcRuleC_some {u : jU} {r a b : Int32} {cn : String} (h : pcRuleC u r a b = some cn) : cn = xIA ∨ cn = xUO := by
  unfold pcRuleC at h
  repeat' (split at h)
  all_goals first | (cases h; done) | exact Or.inl (Option.some.inj h).symm | exact Or.inr (Option.some.inj h).symm
theorem pcLit_some {u : jU} {r a b : Int32} {cn : String} (h : pcLit u r a b = some cn) : cn = xIS ∨ cn = xIA ∨ cn = xUO := by
  unfold pcLit at h
  repeat' (split at h)
  all_goals first | (cases h; done) | exact Or.inl (Option.some.inj h).symm | exact Or.inr (Or.inl (Option.some.inj h).symm) | exact Or.inr (Or.inr (Option.some.inj h).symm)
theorem pcAsk_some {c0 : Option String} {u : jU} {cn : String} (h0 : ∀ x, c0 = some x → x = xIA) (h : pcAsk c0 u = some cn) : cn = xIA ∨ cn = xIS := by
  unfold pcAsk at h
  split at h
  · exact Or.inr (pcFault_some h)
  · exact Or.inl (h0 _ h)
theorem pPf_some {u : jU} {r a b t : Int32} {cn : String} (h : (pPf u r a b t).1 = some cn) : cn = xIA ∨ cn = xIS ∨ cn = xNS := by
  unfold pPf at h
  repeat' (split at h)
  all_goals first | (cases h; done) | exact Or.inl (Option.some.inj h).symm | exact Or.inr (Or.inl (Option.some.inj h).symm) | exact Or.inr (Or.inr (Option.some.inj h).symm)
set_option maxHeartbeats 4000000 in
set_option maxRecDepth 100000 in
theorem h_relation (l : Launch) (hl : l.stackTraces = false) (dC : Nat → ClassId) (dI : Nat → Nat → Nat) (g k : Nat → Nat) (ao : Nat) (f : Nat → Int64) (u : jU) (hH : wfH u) (n : Int32) : jMet l y_L_relation (.codeWith y_L_relation c_L_relation 4 (some .int) [(0, 9, 12, 13), (0, 9, 15, 15)]) ({ frames := 7, cells := 1, slots := 6, locals := 111 }) (dC, dI) jcl (ltys k) jTn [.ref (g 0), .int n, .ref ao] (cw g k u ++ [ow ao k f]) 1 6 (jRet (some (.int (kc xIA xUO (pcRelation u n)))) (cw g k (pRelation u n) ++ [ow ao k (lo (pcRelation u n) (pRelation2 u n 0 0 - 1).toInt64 f)])) := by
  refine jMet.ofH (by decide) (Nat.le_of_ble_eq_true rfl) ?_
  intro p e s m below meth c A hC htab hr htr
  show jJ p l e ({ frames := 7, cells := 1, slots := 6, locals := 111 }) s m [.ref (g 0), .int n, .ref ao].toArray below meth c 4 (dC, dI) jcl A (hxQ below (jQ (dC, dI) jcl (jRet (some (.int (kc xIA xUO (pcRelation u n)))) (cw g k (pRelation u n) ++ [ow ao k (lo (pcRelation u n) (pRelation2 u n 0 0 - 1).toInt64 f)])) A) [.ref (g 0), .int n, .ref ao].toArray s 1 6 A) 0 0 (cw g k u ++ [ow ao k f]) [(0, .ref (g 0)), (1, .int n), (2, .ref ao)] [] 0
  refine j_aload_n hC d_L_relation_0 rfl 2 rfl ?_
  refine j_iconst (v := 0) hC d_L_relation_1 (by decide) ?_
  refine j_aload_n hC d_L_relation_2 rfl 0 rfl ?_
  refine j_iload_n hC d_L_relation_3 rfl 1 rfl ?_
  refine j_callV (As := [.int n]) (rest := [.int 0, .ref ao]) hC (jMet.more (fun _ z => jTn_l z) ((k_relation l hl dC dI g k ((k 3, .boolean) :: [(k 4, .long)]) u hH n).frame [ow ao k f])) rfl rfl (fun w z => jTn_l (ww_L_7 w z)) yn_H_relation (ap_l (cw_house g k u)) rfl rfl d_L_relation_4 (Nat.le_of_ble_eq_true rfl) (by decide) (by decide) (fun v w h => ?_) (fun cn w h => ?_)
  · obtain ⟨w0, ⟨h1, h2, rfl⟩, rfl⟩ := h
    rw [h2 rfl]
    show jJ p l e ({ frames := 7, cells := 1, slots := 6, locals := 111 }) s m [.ref (g 0), .int n, .ref ao].toArray below meth c 4 (dC, dI) jcl A (hxQ below (jQ (dC, dI) jcl (jRet (some (.int (kc xIA xUO (pcRelation u n)))) (cw g k (pRelation u n) ++ [ow ao k (lo (pcRelation u n) (pRelation2 u n 0 0 - 1).toInt64 f)])) A) [.ref (g 0), .int n, .ref ao].toArray s 1 6 A) (0 + 1) (0 + 6) (cw g k (pRelation u n) ++ [ow ao k f]) [(0, .ref (g 0)), (1, .int n), (2, .ref ao)] (.int (pRelation2 u n 0 0 - 1) :: [.int 0, .ref ao]) 7
    refine j_i2l hC d_L_relation_7 rfl ?_
    refine j_last (ws' := cw g k (pRelation u n) ++ [ow ao k (vp_updL f (Int32.toNatClampNeg 0) (pRelation2 u n 0 0 - 1).toInt64)]) hC 127 4 (ow_at g k (pRelation u n) ao f) rfl vp_in_01 (ow_set g k (pRelation u n) ao f _) d_L_relation_8 ?_
    refine j_goto (tgt := 18) hC d_L_relation_9 (by decide) ?_
    refine j_iconst (v := 0) hC d_L_relation_18 (by decide) ?_
    exact j_iret hC hr ⟨rfl, by rw [kc_0 h1.symm], by rw [lo_0 h1.symm]⟩ d_L_relation_19
  · obtain ⟨w0, ⟨h1, h2, rfl⟩, rfl⟩ := h
    rcases pcRelation_some h1.symm with rfl | rfl
    · refine j_catch (name := xIA) (tgt := 12) hC [] ⟨0, 9, 12, 13⟩ [⟨0, 9, 15, 15⟩] (htab.trans rfl) (fun _ z => absurd z List.not_mem_nil) (by decide) (by decide) wl_L_13 wcast_xIA rfl (fun q => ?_)
      refine j_astore_n (lv' := [(0, .ref (g 0)), (1, .int n), (2, .ref ao), (3, .ref q)]) hC d_L_relation_12 rfl (by decide) rfl rfl ?_
      refine j_iconst (v := 1) hC d_L_relation_13 (by decide) ?_
      exact j_iret hC hr ⟨rfl, by rw [kc_1 h1.symm], by rw [lo_1 h1.symm]⟩ d_L_relation_14
    · refine j_catch (name := xUO) (tgt := 15) hC [⟨0, 9, 12, 13⟩] ⟨0, 9, 15, 15⟩ [] (htab.trans rfl) (List.forall_mem_cons.mpr ⟨⟨by decide, xIA, wl_L_13, wnot_xUO_xIA⟩, fun _ z => absurd z List.not_mem_nil⟩) (by decide) (by decide) wl_L_15 wcast_xUO rfl (fun q => ?_)
      refine j_astore_n (lv' := [(0, .ref (g 0)), (1, .int n), (2, .ref ao), (3, .ref q)]) hC d_L_relation_15 rfl (by decide) rfl rfl ?_
      refine j_iconst (v := 2) hC d_L_relation_16 (by decide) ?_
      exact j_iret hC hr ⟨rfl, by rw [kc_2 h1.symm (by decide)], by rw [lo_1 h1.symm]⟩ d_L_relation_17

set_option maxHeartbeats 4000000 in
set_option maxRecDepth 100000 in
theorem h_give (l : Launch) (hl : l.stackTraces = false) (dC : Nat → ClassId) (dI : Nat → Nat → Nat) (g k : Nat → Nat) (ao : Nat) (f : Nat → Int64) (u : jU) (hH : wfH u) (r a b : Int32) : jMet l y_L_give (.codeWith y_L_give c_L_give 6 (some .int) [(0, 19, 22, 13)]) ({ frames := 9, cells := 2, slots := 12, locals := 157 }) (dC, dI) jcl (ltys k) jTn [.ref (g 0), .int r, .int a, .int b, .ref ao] (cw g k u ++ [ow ao k f]) 2 12 (jRet (some (.int (kc xIA xIA (pcFact u r a b)))) (cw g k (pGive u r a b 1) ++ [ow ao k (lo (pcFact u r a b) (if (pSG u r a b 1).1 = 0 then (0 : Int64) else 1) f)])) := by
  refine jMet.ofH (by decide) (Nat.le_of_ble_eq_true rfl) ?_
  intro p e s m below meth c A hC htab hr htr
  show jJ p l e ({ frames := 9, cells := 2, slots := 12, locals := 157 }) s m [.ref (g 0), .int r, .int a, .int b, .ref ao].toArray below meth c 6 (dC, dI) jcl A (hxQ below (jQ (dC, dI) jcl (jRet (some (.int (kc xIA xIA (pcFact u r a b)))) (cw g k (pGive u r a b 1) ++ [ow ao k (lo (pcFact u r a b) (if (pSG u r a b 1).1 = 0 then (0 : Int64) else 1) f)])) A) [.ref (g 0), .int r, .int a, .int b, .ref ao].toArray s 2 12 A) 0 0 (cw g k u ++ [ow ao k f]) [(0, .ref (g 0)), (1, .int r), (2, .int a), (3, .int b), (4, .ref ao)] [] 0
  refine j_aload hC d_L_give_0 4 rfl ?_
  refine j_iconst (v := 0) hC d_L_give_2 (by decide) ?_
  refine j_aload_n hC d_L_give_3 rfl 0 rfl ?_
  refine j_iload_n hC d_L_give_4 rfl 1 rfl ?_
  refine j_iload_n hC d_L_give_5 rfl 2 rfl ?_
  refine j_iload_n hC d_L_give_6 rfl 3 rfl ?_
  refine j_callV (As := [.int r, .int a, .int b]) (rest := [.int 0, .ref ao]) hC (jMet.more (fun _ z => jTn_l z) ((k_give l hl dC dI g k ((k 3, .boolean) :: [(k 4, .long)]) u hH r a b).frame [ow ao k f])) rfl rfl (fun w z => jTn_l (ww_L_17 w z)) yn_H_give (ap_l (cw_house g k u)) rfl rfl d_L_give_7 (Nat.le_of_ble_eq_true rfl) (by decide) (by decide) (fun v w h => ?_) (fun cn w h => ?_)
  · obtain ⟨w0, ⟨h1, h2, rfl⟩, rfl⟩ := h
    rw [h2 rfl]
    show jJ p l e ({ frames := 9, cells := 2, slots := 12, locals := 157 }) s m [.ref (g 0), .int r, .int a, .int b, .ref ao].toArray below meth c 6 (dC, dI) jcl A (hxQ below (jQ (dC, dI) jcl (jRet (some (.int (kc xIA xIA (pcFact u r a b)))) (cw g k (pGive u r a b 1) ++ [ow ao k (lo (pcFact u r a b) (if (pSG u r a b 1).1 = 0 then (0 : Int64) else 1) f)])) A) [.ref (g 0), .int r, .int a, .int b, .ref ao].toArray s 2 12 A) (0 + 2) (0 + 12) (cw g k (pGive u r a b 1) ++ [ow ao k f]) [(0, .ref (g 0)), (1, .int r), (2, .int a), (3, .int b), (4, .ref ao)] (.int ((pSG u r a b 1).1) :: [.int 0, .ref ao]) 10
    refine j_if_eq (tgt := 17) hC d_L_give_10 (by decide) (fun h9 => ?_) (fun h9 => ?_)
    · refine j_lconst (v := 0) hC d_L_give_17 (by decide) ?_
      refine j_last (ws' := cw g k (pGive u r a b 1) ++ [ow ao k (vp_updL f (Int32.toNatClampNeg 0) 0)]) hC 127 4 (ow_at g k (pGive u r a b 1) ao f) rfl vp_in_01 (ow_set g k (pGive u r a b 1) ao f _) d_L_give_18 ?_
      refine j_goto (tgt := 26) hC d_L_give_19 (by decide) ?_
      refine j_iconst (v := 0) hC d_L_give_26 (by decide) ?_
      exact j_iret hC hr ⟨rfl, by rw [kc_0 h1.symm], by rw [lo_0 h1.symm, if_pos h9]⟩ d_L_give_27
    · refine j_lconst (v := 1) hC d_L_give_13 (by decide) ?_
      refine j_goto (tgt := 18) hC d_L_give_14 (by decide) ?_
      refine j_last (ws' := cw g k (pGive u r a b 1) ++ [ow ao k (vp_updL f (Int32.toNatClampNeg 0) 1)]) hC 127 4 (ow_at g k (pGive u r a b 1) ao f) rfl vp_in_01 (ow_set g k (pGive u r a b 1) ao f _) d_L_give_18 ?_
      refine j_goto (tgt := 26) hC d_L_give_19 (by decide) ?_
      refine j_iconst (v := 0) hC d_L_give_26 (by decide) ?_
      exact j_iret hC hr ⟨rfl, by rw [kc_0 h1.symm], by rw [lo_0 h1.symm, if_neg h9]⟩ d_L_give_27
  · obtain ⟨w0, ⟨h1, h2, rfl⟩, rfl⟩ := h
    have hcn := pcFact_some h1.symm
    subst hcn
    refine j_catch (name := xIA) (tgt := 22) hC [] ⟨0, 19, 22, 13⟩ [] (htab.trans rfl) (fun _ z => absurd z List.not_mem_nil) (by decide) (by decide) wl_L_13 wcast_xIA rfl (fun q => ?_)
    refine j_astore (lv' := [(0, .ref (g 0)), (1, .int r), (2, .int a), (3, .int b), (4, .ref ao), (5, .ref q)]) hC d_L_give_22 (by decide) rfl rfl ?_
    refine j_iconst (v := 1) hC d_L_give_24 (by decide) ?_
    exact j_iret hC hr ⟨rfl, by rw [kc_1 h1.symm], by rw [lo_1 h1.symm]⟩ d_L_give_25

set_option maxHeartbeats 4000000 in
set_option maxRecDepth 100000 in
theorem h_take (l : Launch) (hl : l.stackTraces = false) (dC : Nat → ClassId) (dI : Nat → Nat → Nat) (g k : Nat → Nat) (ao : Nat) (f : Nat → Int64) (u : jU) (hH : wfH u) (r a b : Int32) : jMet l y_L_take (.codeWith y_L_take c_L_take 6 (some .int) [(0, 19, 22, 13)]) ({ frames := 9, cells := 2, slots := 12, locals := 157 }) (dC, dI) jcl (ltys k) jTn [.ref (g 0), .int r, .int a, .int b, .ref ao] (cw g k u ++ [ow ao k f]) 2 12 (jRet (some (.int (kc xIA xIA (pcFact u r a b)))) (cw g k (pGive u r a b 0) ++ [ow ao k (lo (pcFact u r a b) (if (pSG u r a b 0).1 = 0 then (0 : Int64) else 1) f)])) := by
  refine jMet.ofH (by decide) (Nat.le_of_ble_eq_true rfl) ?_
  intro p e s m below meth c A hC htab hr htr
  show jJ p l e ({ frames := 9, cells := 2, slots := 12, locals := 157 }) s m [.ref (g 0), .int r, .int a, .int b, .ref ao].toArray below meth c 6 (dC, dI) jcl A (hxQ below (jQ (dC, dI) jcl (jRet (some (.int (kc xIA xIA (pcFact u r a b)))) (cw g k (pGive u r a b 0) ++ [ow ao k (lo (pcFact u r a b) (if (pSG u r a b 0).1 = 0 then (0 : Int64) else 1) f)])) A) [.ref (g 0), .int r, .int a, .int b, .ref ao].toArray s 2 12 A) 0 0 (cw g k u ++ [ow ao k f]) [(0, .ref (g 0)), (1, .int r), (2, .int a), (3, .int b), (4, .ref ao)] [] 0
  refine j_aload hC d_L_take_0 4 rfl ?_
  refine j_iconst (v := 0) hC d_L_take_2 (by decide) ?_
  refine j_aload_n hC d_L_take_3 rfl 0 rfl ?_
  refine j_iload_n hC d_L_take_4 rfl 1 rfl ?_
  refine j_iload_n hC d_L_take_5 rfl 2 rfl ?_
  refine j_iload_n hC d_L_take_6 rfl 3 rfl ?_
  refine j_callV (As := [.int r, .int a, .int b]) (rest := [.int 0, .ref ao]) hC (jMet.more (fun _ z => jTn_l z) ((k_take l hl dC dI g k ((k 3, .boolean) :: [(k 4, .long)]) u hH r a b).frame [ow ao k f])) rfl rfl (fun w z => jTn_l (ww_L_21 w z)) yn_H_take (ap_l (cw_house g k u)) rfl rfl d_L_take_7 (Nat.le_of_ble_eq_true rfl) (by decide) (by decide) (fun v w h => ?_) (fun cn w h => ?_)
  · obtain ⟨w0, ⟨h1, h2, rfl⟩, rfl⟩ := h
    rw [h2 rfl]
    show jJ p l e ({ frames := 9, cells := 2, slots := 12, locals := 157 }) s m [.ref (g 0), .int r, .int a, .int b, .ref ao].toArray below meth c 6 (dC, dI) jcl A (hxQ below (jQ (dC, dI) jcl (jRet (some (.int (kc xIA xIA (pcFact u r a b)))) (cw g k (pGive u r a b 0) ++ [ow ao k (lo (pcFact u r a b) (if (pSG u r a b 0).1 = 0 then (0 : Int64) else 1) f)])) A) [.ref (g 0), .int r, .int a, .int b, .ref ao].toArray s 2 12 A) (0 + 2) (0 + 12) (cw g k (pGive u r a b 0) ++ [ow ao k f]) [(0, .ref (g 0)), (1, .int r), (2, .int a), (3, .int b), (4, .ref ao)] (.int ((pSG u r a b 0).1) :: [.int 0, .ref ao]) 10
    refine j_if_eq (tgt := 17) hC d_L_take_10 (by decide) (fun h9 => ?_) (fun h9 => ?_)
    · refine j_lconst (v := 0) hC d_L_take_17 (by decide) ?_
      refine j_last (ws' := cw g k (pGive u r a b 0) ++ [ow ao k (vp_updL f (Int32.toNatClampNeg 0) 0)]) hC 127 4 (ow_at g k (pGive u r a b 0) ao f) rfl vp_in_01 (ow_set g k (pGive u r a b 0) ao f _) d_L_take_18 ?_
      refine j_goto (tgt := 26) hC d_L_take_19 (by decide) ?_
      refine j_iconst (v := 0) hC d_L_take_26 (by decide) ?_
      exact j_iret hC hr ⟨rfl, by rw [kc_0 h1.symm], by rw [lo_0 h1.symm, if_pos h9]⟩ d_L_take_27
    · refine j_lconst (v := 1) hC d_L_take_13 (by decide) ?_
      refine j_goto (tgt := 18) hC d_L_take_14 (by decide) ?_
      refine j_last (ws' := cw g k (pGive u r a b 0) ++ [ow ao k (vp_updL f (Int32.toNatClampNeg 0) 1)]) hC 127 4 (ow_at g k (pGive u r a b 0) ao f) rfl vp_in_01 (ow_set g k (pGive u r a b 0) ao f _) d_L_take_18 ?_
      refine j_goto (tgt := 26) hC d_L_take_19 (by decide) ?_
      refine j_iconst (v := 0) hC d_L_take_26 (by decide) ?_
      exact j_iret hC hr ⟨rfl, by rw [kc_0 h1.symm], by rw [lo_0 h1.symm, if_neg h9]⟩ d_L_take_27
  · obtain ⟨w0, ⟨h1, h2, rfl⟩, rfl⟩ := h
    have hcn := pcFact_some h1.symm
    subst hcn
    refine j_catch (name := xIA) (tgt := 22) hC [] ⟨0, 19, 22, 13⟩ [] (htab.trans rfl) (fun _ z => absurd z List.not_mem_nil) (by decide) (by decide) wl_L_13 wcast_xIA rfl (fun q => ?_)
    refine j_astore (lv' := [(0, .ref (g 0)), (1, .int r), (2, .int a), (3, .int b), (4, .ref ao), (5, .ref q)]) hC d_L_take_22 (by decide) rfl rfl ?_
    refine j_iconst (v := 1) hC d_L_take_24 (by decide) ?_
    exact j_iret hC hr ⟨rfl, by rw [kc_1 h1.symm], by rw [lo_1 h1.symm]⟩ d_L_take_25

set_option maxHeartbeats 4000000 in
set_option maxRecDepth 100000 in
theorem h_rule (l : Launch) (hl : l.stackTraces = false) (dC : Nat → ClassId) (dI : Nat → Nat → Nat) (g k : Nat → Nat) (ao : Nat) (f : Nat → Int64) (u : jU) (hH : wfH u) (r a b : Int32) : jMet l y_L_rule (.codeWith y_L_rule c_L_rule 6 (some .int) [(0, 12, 15, 13), (0, 12, 19, 15)]) ({ frames := 9, cells := 3, slots := 18, locals := 157 }) (dC, dI) jcl (ltys k) jTn [.ref (g 0), .int r, .int a, .int b, .ref ao] (cw g k u ++ [ow ao k f]) 3 18 (jRet (some (.int (kc xIA xUO (pcRuleC u r a b)))) (cw g k (pRuleC u r a b) ++ [ow ao k (lo (pcRuleC u r a b) (pRule2 u r a b 0 1 - 1).toInt64 f)])) := by
  refine jMet.ofH (by decide) (Nat.le_of_ble_eq_true rfl) ?_
  intro p e s m below meth c A hC htab hr htr
  show jJ p l e ({ frames := 9, cells := 3, slots := 18, locals := 157 }) s m [.ref (g 0), .int r, .int a, .int b, .ref ao].toArray below meth c 6 (dC, dI) jcl A (hxQ below (jQ (dC, dI) jcl (jRet (some (.int (kc xIA xUO (pcRuleC u r a b)))) (cw g k (pRuleC u r a b) ++ [ow ao k (lo (pcRuleC u r a b) (pRule2 u r a b 0 1 - 1).toInt64 f)])) A) [.ref (g 0), .int r, .int a, .int b, .ref ao].toArray s 3 18 A) 0 0 (cw g k u ++ [ow ao k f]) [(0, .ref (g 0)), (1, .int r), (2, .int a), (3, .int b), (4, .ref ao)] [] 0
  refine j_aload hC d_L_rule_0 4 rfl ?_
  refine j_iconst (v := 0) hC d_L_rule_2 (by decide) ?_
  refine j_aload_n hC d_L_rule_3 rfl 0 rfl ?_
  refine j_iload_n hC d_L_rule_4 rfl 1 rfl ?_
  refine j_iload_n hC d_L_rule_5 rfl 2 rfl ?_
  refine j_iload_n hC d_L_rule_6 rfl 3 rfl ?_
  refine j_callV (As := [.int r, .int a, .int b]) (rest := [.int 0, .ref ao]) hC (jMet.more (fun _ z => jTn_l z) ((k_rule l hl dC dI g k ((k 3, .boolean) :: [(k 4, .long)]) u hH r a b).frame [ow ao k f])) rfl rfl (fun w z => jTn_l (ww_L_24 w z)) yn_H_rule (ap_l (cw_house g k u)) rfl rfl d_L_rule_7 (Nat.le_of_ble_eq_true rfl) (by decide) (by decide) (fun v w h => ?_) (fun cn w h => ?_)
  · obtain ⟨w0, ⟨h1, h2, rfl⟩, rfl⟩ := h
    rw [h2 rfl]
    show jJ p l e ({ frames := 9, cells := 3, slots := 18, locals := 157 }) s m [.ref (g 0), .int r, .int a, .int b, .ref ao].toArray below meth c 6 (dC, dI) jcl A (hxQ below (jQ (dC, dI) jcl (jRet (some (.int (kc xIA xUO (pcRuleC u r a b)))) (cw g k (pRuleC u r a b) ++ [ow ao k (lo (pcRuleC u r a b) (pRule2 u r a b 0 1 - 1).toInt64 f)])) A) [.ref (g 0), .int r, .int a, .int b, .ref ao].toArray s 3 18 A) (0 + 3) (0 + 18) (cw g k (pRuleC u r a b) ++ [ow ao k f]) [(0, .ref (g 0)), (1, .int r), (2, .int a), (3, .int b), (4, .ref ao)] (.int (pRule2 u r a b 0 1 - 1) :: [.int 0, .ref ao]) 10
    refine j_i2l hC d_L_rule_10 rfl ?_
    refine j_last (ws' := cw g k (pRuleC u r a b) ++ [ow ao k (vp_updL f (Int32.toNatClampNeg 0) (pRule2 u r a b 0 1 - 1).toInt64)]) hC 127 4 (ow_at g k (pRuleC u r a b) ao f) rfl vp_in_01 (ow_set g k (pRuleC u r a b) ao f _) d_L_rule_11 ?_
    refine j_goto (tgt := 23) hC d_L_rule_12 (by decide) ?_
    refine j_iconst (v := 0) hC d_L_rule_23 (by decide) ?_
    exact j_iret hC hr ⟨rfl, by rw [kc_0 h1.symm], by rw [lo_0 h1.symm]⟩ d_L_rule_24
  · obtain ⟨w0, ⟨h1, h2, rfl⟩, rfl⟩ := h
    rcases pcRuleC_some h1.symm with rfl | rfl
    · refine j_catch (name := xIA) (tgt := 15) hC [] ⟨0, 12, 15, 13⟩ [⟨0, 12, 19, 15⟩] (htab.trans rfl) (fun _ z => absurd z List.not_mem_nil) (by decide) (by decide) wl_L_13 wcast_xIA rfl (fun q => ?_)
      refine j_astore (lv' := [(0, .ref (g 0)), (1, .int r), (2, .int a), (3, .int b), (4, .ref ao), (5, .ref q)]) hC d_L_rule_15 (by decide) rfl rfl ?_
      refine j_iconst (v := 1) hC d_L_rule_17 (by decide) ?_
      exact j_iret hC hr ⟨rfl, by rw [kc_1 h1.symm], by rw [lo_1 h1.symm]⟩ d_L_rule_18
    · refine j_catch (name := xUO) (tgt := 19) hC [⟨0, 12, 15, 13⟩] ⟨0, 12, 19, 15⟩ [] (htab.trans rfl) (List.forall_mem_cons.mpr ⟨⟨by decide, xIA, wl_L_13, wnot_xUO_xIA⟩, fun _ z => absurd z List.not_mem_nil⟩) (by decide) (by decide) wl_L_15 wcast_xUO rfl (fun q => ?_)
      refine j_astore (lv' := [(0, .ref (g 0)), (1, .int r), (2, .int a), (3, .int b), (4, .ref ao), (5, .ref q)]) hC d_L_rule_19 (by decide) rfl rfl ?_
      refine j_iconst (v := 2) hC d_L_rule_21 (by decide) ?_
      exact j_iret hC hr ⟨rfl, by rw [kc_2 h1.symm (by decide)], by rw [lo_1 h1.symm]⟩ d_L_rule_22

set_option maxHeartbeats 4000000 in
set_option maxRecDepth 100000 in
theorem h_literal (l : Launch) (hl : l.stackTraces = false) (dC : Nat → ClassId) (dI : Nat → Nat → Nat) (g k : Nat → Nat) (ao : Nat) (f : Nat → Int64) (u : jU) (hH : wfH u) (r a b z : Int32) (hz : z = 0 ∨ z = 1) : jMet l y_L_literal (.codeWith y_L_literal c_L_literal 7 (some .int) [(0, 14, 17, 32), (0, 14, 21, 13), (0, 14, 25, 15)]) ({ frames := 9, cells := 4, slots := 24, locals := 159 }) (dC, dI) jcl (ltys k) jTn [.ref (g 0), .int r, .int a, .int b, .int z, .ref ao] (cw g k u ++ [ow ao k f]) 4 24 (jRet (some (.int (kc xIS xIA (pcLit u r a b)))) (cw g k (pLit u r a b z) ++ [ow ao k (lo (pcLit u r a b) (pLit1 u r a b z 12 (tn (u 0 1) - 1)).toInt64 f)])) := by
  refine jMet.ofH (by decide) (Nat.le_of_ble_eq_true rfl) ?_
  intro p e s m below meth c A hC htab hr htr
  show jJ p l e ({ frames := 9, cells := 4, slots := 24, locals := 159 }) s m [.ref (g 0), .int r, .int a, .int b, .int z, .ref ao].toArray below meth c 7 (dC, dI) jcl A (hxQ below (jQ (dC, dI) jcl (jRet (some (.int (kc xIS xIA (pcLit u r a b)))) (cw g k (pLit u r a b z) ++ [ow ao k (lo (pcLit u r a b) (pLit1 u r a b z 12 (tn (u 0 1) - 1)).toInt64 f)])) A) [.ref (g 0), .int r, .int a, .int b, .int z, .ref ao].toArray s 4 24 A) 0 0 (cw g k u ++ [ow ao k f]) [(0, .ref (g 0)), (1, .int r), (2, .int a), (3, .int b), (4, .int z), (5, .ref ao)] [] 0
  refine j_aload hC d_L_literal_0 5 rfl ?_
  refine j_iconst (v := 0) hC d_L_literal_2 (by decide) ?_
  refine j_aload_n hC d_L_literal_3 rfl 0 rfl ?_
  refine j_iload_n hC d_L_literal_4 rfl 1 rfl ?_
  refine j_iload_n hC d_L_literal_5 rfl 2 rfl ?_
  refine j_iload_n hC d_L_literal_6 rfl 3 rfl ?_
  refine j_iload hC d_L_literal_7 4 rfl ?_
  refine j_callV (As := [.int r, .int a, .int b, .int z]) (rest := [.int 0, .ref ao]) hC (jMet.more (fun _ z => jTn_l z) ((k_literal l hl dC dI g k ((k 3, .boolean) :: [(k 4, .long)]) u hH r a b z hz).frame [ow ao k f])) rfl rfl (fun w z => jTn_l (ww_L_28 w z)) yn_H_literal (ap_l (cw_house g k u)) rfl rfl d_L_literal_9 (Nat.le_of_ble_eq_true rfl) (by decide) (by decide) (fun v w h => ?_) (fun cn w h => ?_)
  · obtain ⟨w0, ⟨h1, h2, rfl⟩, rfl⟩ := h
    rw [h2 rfl]
    show jJ p l e ({ frames := 9, cells := 4, slots := 24, locals := 159 }) s m [.ref (g 0), .int r, .int a, .int b, .int z, .ref ao].toArray below meth c 7 (dC, dI) jcl A (hxQ below (jQ (dC, dI) jcl (jRet (some (.int (kc xIS xIA (pcLit u r a b)))) (cw g k (pLit u r a b z) ++ [ow ao k (lo (pcLit u r a b) (pLit1 u r a b z 12 (tn (u 0 1) - 1)).toInt64 f)])) A) [.ref (g 0), .int r, .int a, .int b, .int z, .ref ao].toArray s 4 24 A) (0 + 4) (0 + 24) (cw g k (pLit u r a b z) ++ [ow ao k f]) [(0, .ref (g 0)), (1, .int r), (2, .int a), (3, .int b), (4, .int z), (5, .ref ao)] (.int (pLit1 u r a b z 12 (tn (u 0 1) - 1)) :: [.int 0, .ref ao]) 12
    refine j_i2l hC d_L_literal_12 rfl ?_
    refine j_last (ws' := cw g k (pLit u r a b z) ++ [ow ao k (vp_updL f (Int32.toNatClampNeg 0) (pLit1 u r a b z 12 (tn (u 0 1) - 1)).toInt64)]) hC 127 4 (ow_at g k (pLit u r a b z) ao f) rfl vp_in_01 (ow_set g k (pLit u r a b z) ao f _) d_L_literal_13 ?_
    refine j_goto (tgt := 29) hC d_L_literal_14 (by decide) ?_
    refine j_iconst (v := 0) hC d_L_literal_29 (by decide) ?_
    exact j_iret hC hr ⟨rfl, by rw [kc_0 h1.symm], by rw [lo_0 h1.symm]⟩ d_L_literal_30
  · obtain ⟨w0, ⟨h1, h2, rfl⟩, rfl⟩ := h
    rcases pcLit_some h1.symm with rfl | rfl | rfl
    · refine j_catch (name := xIS) (tgt := 17) hC [] ⟨0, 14, 17, 32⟩ [⟨0, 14, 21, 13⟩, ⟨0, 14, 25, 15⟩] (htab.trans rfl) (fun _ z => absurd z List.not_mem_nil) (by decide) (by decide) wl_L_32 wcast_xIS rfl (fun q => ?_)
      refine j_astore (lv' := [(0, .ref (g 0)), (1, .int r), (2, .int a), (3, .int b), (4, .int z), (5, .ref ao), (6, .ref q)]) hC d_L_literal_17 (by decide) rfl rfl ?_
      refine j_iconst (v := 1) hC d_L_literal_19 (by decide) ?_
      exact j_iret hC hr ⟨rfl, by rw [kc_1 h1.symm], by rw [lo_1 h1.symm]⟩ d_L_literal_20
    · refine j_catch (name := xIA) (tgt := 21) hC [⟨0, 14, 17, 32⟩] ⟨0, 14, 21, 13⟩ [⟨0, 14, 25, 15⟩] (htab.trans rfl) (List.forall_mem_cons.mpr ⟨⟨by decide, xIS, wl_L_32, wnot_xIA_xIS⟩, fun _ z => absurd z List.not_mem_nil⟩) (by decide) (by decide) wl_L_13 wcast_xIA rfl (fun q => ?_)
      refine j_astore (lv' := [(0, .ref (g 0)), (1, .int r), (2, .int a), (3, .int b), (4, .int z), (5, .ref ao), (6, .ref q)]) hC d_L_literal_21 (by decide) rfl rfl ?_
      refine j_iconst (v := 2) hC d_L_literal_23 (by decide) ?_
      exact j_iret hC hr ⟨rfl, by rw [kc_2 h1.symm (by decide)], by rw [lo_1 h1.symm]⟩ d_L_literal_24
    · refine j_catch (name := xUO) (tgt := 25) hC [⟨0, 14, 17, 32⟩, ⟨0, 14, 21, 13⟩] ⟨0, 14, 25, 15⟩ [] (htab.trans rfl) (List.forall_mem_cons.mpr ⟨⟨by decide, xIS, wl_L_32, wnot_xUO_xIS⟩, List.forall_mem_cons.mpr ⟨⟨by decide, xIA, wl_L_13, wnot_xUO_xIA⟩, fun _ z => absurd z List.not_mem_nil⟩⟩) (by decide) (by decide) wl_L_15 wcast_xUO rfl (fun q => ?_)
      refine j_astore (lv' := [(0, .ref (g 0)), (1, .int r), (2, .int a), (3, .int b), (4, .int z), (5, .ref ao), (6, .ref q)]) hC d_L_literal_25 (by decide) rfl rfl ?_
      refine j_iconst (v := 3) hC d_L_literal_27 (by decide) ?_
      exact j_iret hC hr ⟨rfl, by rw [kc_3 h1.symm (by decide) (by decide)], by rw [lo_1 h1.symm]⟩ d_L_literal_28

set_option maxHeartbeats 4000000 in
set_option maxRecDepth 100000 in
theorem h_unrule (l : Launch) (hl : l.stackTraces = false) (dC : Nat → ClassId) (dI : Nat → Nat → Nat) (g k : Nat → Nat) (u : jU)  : jMet l y_L_unrule (.codeWith y_L_unrule c_L_unrule 2 (some .int) [(0, 4, 7, 32)]) ({ frames := 8, cells := 1, slots := 6, locals := 130 }) (dC, dI) jcl (ltys k) jTn [.ref (g 0)] (cw g k u) 1 6 (jRet (some (.int (kc xIS xIS (pcRule u)))) (cw g k (pUnrule u))) := by
  refine jMet.ofH (by decide) (Nat.le_of_ble_eq_true rfl) ?_
  intro p e s m below meth c A hC htab hr htr
  show jJ p l e ({ frames := 8, cells := 1, slots := 6, locals := 130 }) s m [.ref (g 0)].toArray below meth c 2 (dC, dI) jcl A (hxQ below (jQ (dC, dI) jcl (jRet (some (.int (kc xIS xIS (pcRule u)))) (cw g k (pUnrule u))) A) [.ref (g 0)].toArray s 1 6 A) 0 0 (cw g k u) [(0, .ref (g 0))] [] 0
  refine j_aload_n hC d_L_unrule_0 rfl 0 rfl ?_
  refine j_callV (As := []) (rest := []) hC (jMet.more (fun _ z => jTn_l z) (k_unrule l hl dC dI g k ((k 3, .boolean) :: [(k 4, .long)]) u)) rfl rfl (fun w z => jTn_l (ww_L_34 w z)) yn_H_unrule (cw_house g k u) rfl rfl d_L_unrule_1 (Nat.le_of_ble_eq_true rfl) (by decide) (by decide) (fun v w h => ?_) (fun cn w h => ?_)
  · obtain ⟨h1, h2, rfl⟩ := h
    rw [h2 rfl]
    refine j_goto (tgt := 10) hC d_L_unrule_4 (by decide) ?_
    refine j_iconst (v := 0) hC d_L_unrule_10 (by decide) ?_
    exact j_iret hC hr ⟨rfl, by rw [kc_0 h1.symm], rfl⟩ d_L_unrule_11
  · obtain ⟨h1, h2, rfl⟩ := h
    have hcn := pcRule_some h1.symm
    subst hcn
    refine j_catch (name := xIS) (tgt := 7) hC [] ⟨0, 4, 7, 32⟩ [] (htab.trans rfl) (fun _ z => absurd z List.not_mem_nil) (by decide) (by decide) wl_L_32 wcast_xIS rfl (fun q => ?_)
    refine j_astore_n (lv' := [(0, .ref (g 0)), (1, .ref q)]) hC d_L_unrule_7 rfl (by decide) rfl rfl ?_
    refine j_iconst (v := 1) hC d_L_unrule_8 (by decide) ?_
    exact j_iret hC hr ⟨rfl, by rw [kc_1 h1.symm], rfl⟩ d_L_unrule_9

set_option maxHeartbeats 4000000 in
set_option maxRecDepth 100000 in
theorem h_layer (l : Launch) (hl : l.stackTraces = false) (dC : Nat → ClassId) (dI : Nat → Nat → Nat) (g k : Nat → Nat) (ao : Nat) (f : Nat → Int64) (u : jU) (hH : wfH u) (r : Int32) : jMet l y_L_layer (.codeWith y_L_layer c_L_layer 4 (some .int) [(0, 9, 12, 13), (0, 9, 15, 32)]) ({ frames := 8, cells := 2, slots := 12, locals := 143 }) (dC, dI) jcl (ltys k) jTn [.ref (g 0), .int r, .ref ao] (cw g k u ++ [ow ao k f]) 2 12 (jRet (some (.int (kc xIA xIS (pcAsk (pcRel u r) u)))) (cw g k (pAskJ (pcRel u r) u) ++ [ow ao k (lo (pcAsk (pcRel u r) u) (pJudge u 3 (tn r)).toInt64 f)])) := by
  refine jMet.ofH (by decide) (Nat.le_of_ble_eq_true rfl) ?_
  intro p e s m below meth c A hC htab hr htr
  show jJ p l e ({ frames := 8, cells := 2, slots := 12, locals := 143 }) s m [.ref (g 0), .int r, .ref ao].toArray below meth c 4 (dC, dI) jcl A (hxQ below (jQ (dC, dI) jcl (jRet (some (.int (kc xIA xIS (pcAsk (pcRel u r) u)))) (cw g k (pAskJ (pcRel u r) u) ++ [ow ao k (lo (pcAsk (pcRel u r) u) (pJudge u 3 (tn r)).toInt64 f)])) A) [.ref (g 0), .int r, .ref ao].toArray s 2 12 A) 0 0 (cw g k u ++ [ow ao k f]) [(0, .ref (g 0)), (1, .int r), (2, .ref ao)] [] 0
  refine j_aload_n hC d_L_layer_0 rfl 2 rfl ?_
  refine j_iconst (v := 0) hC d_L_layer_1 (by decide) ?_
  refine j_aload_n hC d_L_layer_2 rfl 0 rfl ?_
  refine j_iload_n hC d_L_layer_3 rfl 1 rfl ?_
  refine j_callV (As := [.int r]) (rest := [.int 0, .ref ao]) hC (jMet.more (fun _ z => jTn_l z) ((k_layer l hl dC dI g k ((k 3, .boolean) :: [(k 4, .long)]) u hH r).frame [ow ao k f])) rfl rfl (fun w z => jTn_l (ww_L_37 w z)) yn_H_layer (ap_l (cw_house g k u)) rfl rfl d_L_layer_4 (Nat.le_of_ble_eq_true rfl) (by decide) (by decide) (fun v w h => ?_) (fun cn w h => ?_)
  · obtain ⟨w0, ⟨h1, h2, rfl⟩, rfl⟩ := h
    rw [h2 rfl]
    show jJ p l e ({ frames := 8, cells := 2, slots := 12, locals := 143 }) s m [.ref (g 0), .int r, .ref ao].toArray below meth c 4 (dC, dI) jcl A (hxQ below (jQ (dC, dI) jcl (jRet (some (.int (kc xIA xIS (pcAsk (pcRel u r) u)))) (cw g k (pAskJ (pcRel u r) u) ++ [ow ao k (lo (pcAsk (pcRel u r) u) (pJudge u 3 (tn r)).toInt64 f)])) A) [.ref (g 0), .int r, .ref ao].toArray s 2 12 A) (0 + 2) (0 + 12) (cw g k (pAskJ (pcRel u r) u) ++ [ow ao k f]) [(0, .ref (g 0)), (1, .int r), (2, .ref ao)] (.int (pJudge u 3 (tn r)) :: [.int 0, .ref ao]) 7
    refine j_i2l hC d_L_layer_7 rfl ?_
    refine j_last (ws' := cw g k (pAskJ (pcRel u r) u) ++ [ow ao k (vp_updL f (Int32.toNatClampNeg 0) (pJudge u 3 (tn r)).toInt64)]) hC 127 4 (ow_at g k (pAskJ (pcRel u r) u) ao f) rfl vp_in_01 (ow_set g k (pAskJ (pcRel u r) u) ao f _) d_L_layer_8 ?_
    refine j_goto (tgt := 18) hC d_L_layer_9 (by decide) ?_
    refine j_iconst (v := 0) hC d_L_layer_18 (by decide) ?_
    exact j_iret hC hr ⟨rfl, by rw [kc_0 h1.symm], by rw [lo_0 h1.symm]⟩ d_L_layer_19
  · obtain ⟨w0, ⟨h1, h2, rfl⟩, rfl⟩ := h
    rcases pcAsk_some (fun _ z => pcRel_some z) h1.symm with rfl | rfl
    · refine j_catch (name := xIA) (tgt := 12) hC [] ⟨0, 9, 12, 13⟩ [⟨0, 9, 15, 32⟩] (htab.trans rfl) (fun _ z => absurd z List.not_mem_nil) (by decide) (by decide) wl_L_13 wcast_xIA rfl (fun q => ?_)
      refine j_astore_n (lv' := [(0, .ref (g 0)), (1, .int r), (2, .ref ao), (3, .ref q)]) hC d_L_layer_12 rfl (by decide) rfl rfl ?_
      refine j_iconst (v := 1) hC d_L_layer_13 (by decide) ?_
      exact j_iret hC hr ⟨rfl, by rw [kc_1 h1.symm], by rw [lo_1 h1.symm]⟩ d_L_layer_14
    · refine j_catch (name := xIS) (tgt := 15) hC [⟨0, 9, 12, 13⟩] ⟨0, 9, 15, 32⟩ [] (htab.trans rfl) (List.forall_mem_cons.mpr ⟨⟨by decide, xIA, wl_L_13, wnot_xIS_xIA⟩, fun _ z => absurd z List.not_mem_nil⟩) (by decide) (by decide) wl_L_32 wcast_xIS rfl (fun q => ?_)
      refine j_astore_n (lv' := [(0, .ref (g 0)), (1, .int r), (2, .ref ao), (3, .ref q)]) hC d_L_layer_15 rfl (by decide) rfl rfl ?_
      refine j_iconst (v := 2) hC d_L_layer_16 (by decide) ?_
      exact j_iret hC hr ⟨rfl, by rw [kc_2 h1.symm (by decide)], by rw [lo_1 h1.symm]⟩ d_L_layer_17

set_option maxHeartbeats 4000000 in
set_option maxRecDepth 100000 in
theorem h_count (l : Launch) (hl : l.stackTraces = false) (dC : Nat → ClassId) (dI : Nat → Nat → Nat) (g k : Nat → Nat) (ao : Nat) (f : Nat → Int64) (u : jU) (hH : wfH u) (hT : pcFault u = none → wfT (pJudge u)) (r : Int32) : jMet l y_L_count (.codeWith y_L_count c_L_count 4 (some .int) [(0, 9, 12, 13), (0, 9, 15, 32)]) ({ frames := 12, cells := 2, slots := 12, locals := 477 }) (dC, dI) jcl (ltys k) jTn [.ref (g 0), .int r, .ref ao] (cw g k u ++ [ow ao k f]) 2 12 (jRet (some (.int (kc xIA xIS (pcAsk (pcRel u r) u)))) (cw g k (pAskS (pcRel u r) u) ++ [ow ao k (lo (pcAsk (pcRel u r) u) (pCn (pJS u) (144 * tn r) 144).toInt64 f)])) := by
  refine jMet.ofH (by decide) (Nat.le_of_ble_eq_true rfl) ?_
  intro p e s m below meth c A hC htab hr htr
  show jJ p l e ({ frames := 12, cells := 2, slots := 12, locals := 477 }) s m [.ref (g 0), .int r, .ref ao].toArray below meth c 4 (dC, dI) jcl A (hxQ below (jQ (dC, dI) jcl (jRet (some (.int (kc xIA xIS (pcAsk (pcRel u r) u)))) (cw g k (pAskS (pcRel u r) u) ++ [ow ao k (lo (pcAsk (pcRel u r) u) (pCn (pJS u) (144 * tn r) 144).toInt64 f)])) A) [.ref (g 0), .int r, .ref ao].toArray s 2 12 A) 0 0 (cw g k u ++ [ow ao k f]) [(0, .ref (g 0)), (1, .int r), (2, .ref ao)] [] 0
  refine j_aload_n hC d_L_count_0 rfl 2 rfl ?_
  refine j_iconst (v := 0) hC d_L_count_1 (by decide) ?_
  refine j_aload_n hC d_L_count_2 rfl 0 rfl ?_
  refine j_iload_n hC d_L_count_3 rfl 1 rfl ?_
  refine j_callV (As := [.int r]) (rest := [.int 0, .ref ao]) hC (jMet.more (fun _ z => jTn_l z) ((k_countR l hl dC dI g k ((k 3, .boolean) :: [(k 4, .long)]) u hH hT r).frame [ow ao k f])) rfl rfl (fun w z => jTn_l (ww_L_40 w z)) yn_H_count (ap_l (cw_house g k u)) rfl rfl d_L_count_4 (Nat.le_of_ble_eq_true rfl) (by decide) (by decide) (fun v w h => ?_) (fun cn w h => ?_)
  · obtain ⟨w0, ⟨h1, h2, rfl⟩, rfl⟩ := h
    rw [h2 rfl]
    show jJ p l e ({ frames := 12, cells := 2, slots := 12, locals := 477 }) s m [.ref (g 0), .int r, .ref ao].toArray below meth c 4 (dC, dI) jcl A (hxQ below (jQ (dC, dI) jcl (jRet (some (.int (kc xIA xIS (pcAsk (pcRel u r) u)))) (cw g k (pAskS (pcRel u r) u) ++ [ow ao k (lo (pcAsk (pcRel u r) u) (pCn (pJS u) (144 * tn r) 144).toInt64 f)])) A) [.ref (g 0), .int r, .ref ao].toArray s 2 12 A) (0 + 2) (0 + 12) (cw g k (pAskS (pcRel u r) u) ++ [ow ao k f]) [(0, .ref (g 0)), (1, .int r), (2, .ref ao)] (.int (pCn (pJS u) (144 * tn r) 144) :: [.int 0, .ref ao]) 7
    refine j_i2l hC d_L_count_7 rfl ?_
    refine j_last (ws' := cw g k (pAskS (pcRel u r) u) ++ [ow ao k (vp_updL f (Int32.toNatClampNeg 0) (pCn (pJS u) (144 * tn r) 144).toInt64)]) hC 127 4 (ow_at g k (pAskS (pcRel u r) u) ao f) rfl vp_in_01 (ow_set g k (pAskS (pcRel u r) u) ao f _) d_L_count_8 ?_
    refine j_goto (tgt := 18) hC d_L_count_9 (by decide) ?_
    refine j_iconst (v := 0) hC d_L_count_18 (by decide) ?_
    exact j_iret hC hr ⟨rfl, by rw [kc_0 h1.symm], by rw [lo_0 h1.symm]⟩ d_L_count_19
  · obtain ⟨w0, ⟨h1, h2, rfl⟩, rfl⟩ := h
    rcases pcAsk_some (fun _ z => pcRel_some z) h1.symm with rfl | rfl
    · refine j_catch (name := xIA) (tgt := 12) hC [] ⟨0, 9, 12, 13⟩ [⟨0, 9, 15, 32⟩] (htab.trans rfl) (fun _ z => absurd z List.not_mem_nil) (by decide) (by decide) wl_L_13 wcast_xIA rfl (fun q => ?_)
      refine j_astore_n (lv' := [(0, .ref (g 0)), (1, .int r), (2, .ref ao), (3, .ref q)]) hC d_L_count_12 rfl (by decide) rfl rfl ?_
      refine j_iconst (v := 1) hC d_L_count_13 (by decide) ?_
      exact j_iret hC hr ⟨rfl, by rw [kc_1 h1.symm], by rw [lo_1 h1.symm]⟩ d_L_count_14
    · refine j_catch (name := xIS) (tgt := 15) hC [⟨0, 9, 12, 13⟩] ⟨0, 9, 15, 32⟩ [] (htab.trans rfl) (List.forall_mem_cons.mpr ⟨⟨by decide, xIA, wl_L_13, wnot_xIS_xIA⟩, fun _ z => absurd z List.not_mem_nil⟩) (by decide) (by decide) wl_L_32 wcast_xIS rfl (fun q => ?_)
      refine j_astore_n (lv' := [(0, .ref (g 0)), (1, .int r), (2, .ref ao), (3, .ref q)]) hC d_L_count_15 rfl (by decide) rfl rfl ?_
      refine j_iconst (v := 2) hC d_L_count_16 (by decide) ?_
      exact j_iret hC hr ⟨rfl, by rw [kc_2 h1.symm (by decide)], by rw [lo_1 h1.symm]⟩ d_L_count_17

set_option maxHeartbeats 4000000 in
set_option maxRecDepth 100000 in
theorem h_rank (l : Launch) (hl : l.stackTraces = false) (dC : Nat → ClassId) (dI : Nat → Nat → Nat) (g k : Nat → Nat) (ao : Nat) (f : Nat → Int64) (u : jU) (hH : wfH u) (hT : pcFault u = none → wfT (pJudge u)) (r a b : Int32) : jMet l y_L_rank (.codeWith y_L_rank c_L_rank 6 (some .int) [(0, 12, 15, 13), (0, 12, 19, 32)]) ({ frames := 12, cells := 3, slots := 18, locals := 476 }) (dC, dI) jcl (ltys k) jTn [.ref (g 0), .int r, .int a, .int b, .ref ao] (cw g k u ++ [ow ao k f]) 3 18 (jRet (some (.int (kc xIA xIS (pcAsk (pcFact u r a b) u)))) (cw g k (pAskS (pcFact u r a b) u) ++ [ow ao k (lo (pcAsk (pcFact u r a b) u) (pJS u 4 (pFx u r a b)).toInt64 f)])) := by
  refine jMet.ofH (by decide) (Nat.le_of_ble_eq_true rfl) ?_
  intro p e s m below meth c A hC htab hr htr
  show jJ p l e ({ frames := 12, cells := 3, slots := 18, locals := 476 }) s m [.ref (g 0), .int r, .int a, .int b, .ref ao].toArray below meth c 6 (dC, dI) jcl A (hxQ below (jQ (dC, dI) jcl (jRet (some (.int (kc xIA xIS (pcAsk (pcFact u r a b) u)))) (cw g k (pAskS (pcFact u r a b) u) ++ [ow ao k (lo (pcAsk (pcFact u r a b) u) (pJS u 4 (pFx u r a b)).toInt64 f)])) A) [.ref (g 0), .int r, .int a, .int b, .ref ao].toArray s 3 18 A) 0 0 (cw g k u ++ [ow ao k f]) [(0, .ref (g 0)), (1, .int r), (2, .int a), (3, .int b), (4, .ref ao)] [] 0
  refine j_aload hC d_L_rank_0 4 rfl ?_
  refine j_iconst (v := 0) hC d_L_rank_2 (by decide) ?_
  refine j_aload_n hC d_L_rank_3 rfl 0 rfl ?_
  refine j_iload_n hC d_L_rank_4 rfl 1 rfl ?_
  refine j_iload_n hC d_L_rank_5 rfl 2 rfl ?_
  refine j_iload_n hC d_L_rank_6 rfl 3 rfl ?_
  refine j_callV (As := [.int r, .int a, .int b]) (rest := [.int 0, .ref ao]) hC (jMet.more (fun _ z => jTn_l z) ((k_rank l hl dC dI g k ((k 3, .boolean) :: [(k 4, .long)]) u hH hT r a b).frame [ow ao k f])) rfl rfl (fun w z => jTn_l (ww_L_43 w z)) yn_H_rank (ap_l (cw_house g k u)) rfl rfl d_L_rank_7 (Nat.le_of_ble_eq_true rfl) (by decide) (by decide) (fun v w h => ?_) (fun cn w h => ?_)
  · obtain ⟨w0, ⟨h1, h2, rfl⟩, rfl⟩ := h
    rw [h2 rfl]
    show jJ p l e ({ frames := 12, cells := 3, slots := 18, locals := 476 }) s m [.ref (g 0), .int r, .int a, .int b, .ref ao].toArray below meth c 6 (dC, dI) jcl A (hxQ below (jQ (dC, dI) jcl (jRet (some (.int (kc xIA xIS (pcAsk (pcFact u r a b) u)))) (cw g k (pAskS (pcFact u r a b) u) ++ [ow ao k (lo (pcAsk (pcFact u r a b) u) (pJS u 4 (pFx u r a b)).toInt64 f)])) A) [.ref (g 0), .int r, .int a, .int b, .ref ao].toArray s 3 18 A) (0 + 3) (0 + 18) (cw g k (pAskS (pcFact u r a b) u) ++ [ow ao k f]) [(0, .ref (g 0)), (1, .int r), (2, .int a), (3, .int b), (4, .ref ao)] (.int (pJS u 4 (pFx u r a b)) :: [.int 0, .ref ao]) 10
    refine j_i2l hC d_L_rank_10 rfl ?_
    refine j_last (ws' := cw g k (pAskS (pcFact u r a b) u) ++ [ow ao k (vp_updL f (Int32.toNatClampNeg 0) (pJS u 4 (pFx u r a b)).toInt64)]) hC 127 4 (ow_at g k (pAskS (pcFact u r a b) u) ao f) rfl vp_in_01 (ow_set g k (pAskS (pcFact u r a b) u) ao f _) d_L_rank_11 ?_
    refine j_goto (tgt := 23) hC d_L_rank_12 (by decide) ?_
    refine j_iconst (v := 0) hC d_L_rank_23 (by decide) ?_
    exact j_iret hC hr ⟨rfl, by rw [kc_0 h1.symm], by rw [lo_0 h1.symm]⟩ d_L_rank_24
  · obtain ⟨w0, ⟨h1, h2, rfl⟩, rfl⟩ := h
    rcases pcAsk_some (fun _ z => pcFact_some z) h1.symm with rfl | rfl
    · refine j_catch (name := xIA) (tgt := 15) hC [] ⟨0, 12, 15, 13⟩ [⟨0, 12, 19, 32⟩] (htab.trans rfl) (fun _ z => absurd z List.not_mem_nil) (by decide) (by decide) wl_L_13 wcast_xIA rfl (fun q => ?_)
      refine j_astore (lv' := [(0, .ref (g 0)), (1, .int r), (2, .int a), (3, .int b), (4, .ref ao), (5, .ref q)]) hC d_L_rank_15 (by decide) rfl rfl ?_
      refine j_iconst (v := 1) hC d_L_rank_17 (by decide) ?_
      exact j_iret hC hr ⟨rfl, by rw [kc_1 h1.symm], by rw [lo_1 h1.symm]⟩ d_L_rank_18
    · refine j_catch (name := xIS) (tgt := 19) hC [⟨0, 12, 15, 13⟩] ⟨0, 12, 19, 32⟩ [] (htab.trans rfl) (List.forall_mem_cons.mpr ⟨⟨by decide, xIA, wl_L_13, wnot_xIS_xIA⟩, fun _ z => absurd z List.not_mem_nil⟩) (by decide) (by decide) wl_L_32 wcast_xIS rfl (fun q => ?_)
      refine j_astore (lv' := [(0, .ref (g 0)), (1, .int r), (2, .int a), (3, .int b), (4, .ref ao), (5, .ref q)]) hC d_L_rank_19 (by decide) rfl rfl ?_
      refine j_iconst (v := 2) hC d_L_rank_21 (by decide) ?_
      exact j_iret hC hr ⟨rfl, by rw [kc_2 h1.symm (by decide)], by rw [lo_1 h1.symm]⟩ d_L_rank_22

set_option maxHeartbeats 4000000 in
set_option maxRecDepth 100000 in
theorem h_ways (l : Launch) (hl : l.stackTraces = false) (dC : Nat → ClassId) (dI : Nat → Nat → Nat) (g k : Nat → Nat) (ao : Nat) (f : Nat → Int64) (u : jU) (hH : wfH u) (hT : pcFault u = none → wfT (pJudge u)) (r a b : Int32) : jMet l y_L_ways (.codeWith y_L_ways c_L_ways 6 (some .int) [(0, 12, 15, 13), (0, 12, 19, 32)]) ({ frames := 12, cells := 3, slots := 18, locals := 478 }) (dC, dI) jcl (ltys k) jTn [.ref (g 0), .int r, .int a, .int b, .ref ao] (cw g k u ++ [ow ao k f]) 3 18 (jRet (some (.int (kc xIA xIS (pcAsk (pcFact u r a b) u)))) (cw g k (pAskW u r a b) ++ [ow ao k (lo (pcAsk (pcFact u r a b) u) ((pWy u r a b).1).toInt64 f)])) := by
  refine jMet.ofH (by decide) (Nat.le_of_ble_eq_true rfl) ?_
  intro p e s m below meth c A hC htab hr htr
  show jJ p l e ({ frames := 12, cells := 3, slots := 18, locals := 478 }) s m [.ref (g 0), .int r, .int a, .int b, .ref ao].toArray below meth c 6 (dC, dI) jcl A (hxQ below (jQ (dC, dI) jcl (jRet (some (.int (kc xIA xIS (pcAsk (pcFact u r a b) u)))) (cw g k (pAskW u r a b) ++ [ow ao k (lo (pcAsk (pcFact u r a b) u) ((pWy u r a b).1).toInt64 f)])) A) [.ref (g 0), .int r, .int a, .int b, .ref ao].toArray s 3 18 A) 0 0 (cw g k u ++ [ow ao k f]) [(0, .ref (g 0)), (1, .int r), (2, .int a), (3, .int b), (4, .ref ao)] [] 0
  refine j_aload hC d_L_ways_0 4 rfl ?_
  refine j_iconst (v := 0) hC d_L_ways_2 (by decide) ?_
  refine j_aload_n hC d_L_ways_3 rfl 0 rfl ?_
  refine j_iload_n hC d_L_ways_4 rfl 1 rfl ?_
  refine j_iload_n hC d_L_ways_5 rfl 2 rfl ?_
  refine j_iload_n hC d_L_ways_6 rfl 3 rfl ?_
  refine j_callV (As := [.int r, .int a, .int b]) (rest := [.int 0, .ref ao]) hC (jMet.more (fun _ z => jTn_l z) ((k_ways l hl dC dI g k ((k 3, .boolean) :: [(k 4, .long)]) u hH hT r a b).frame [ow ao k f])) rfl rfl (fun w z => jTn_l (ww_L_46 w z)) yn_H_ways (ap_l (cw_house g k u)) rfl rfl d_L_ways_7 (Nat.le_of_ble_eq_true rfl) (by decide) (by decide) (fun v w h => ?_) (fun cn w h => ?_)
  · obtain ⟨w0, ⟨h1, h2, rfl⟩, rfl⟩ := h
    rw [h2 rfl]
    show jJ p l e ({ frames := 12, cells := 3, slots := 18, locals := 478 }) s m [.ref (g 0), .int r, .int a, .int b, .ref ao].toArray below meth c 6 (dC, dI) jcl A (hxQ below (jQ (dC, dI) jcl (jRet (some (.int (kc xIA xIS (pcAsk (pcFact u r a b) u)))) (cw g k (pAskW u r a b) ++ [ow ao k (lo (pcAsk (pcFact u r a b) u) ((pWy u r a b).1).toInt64 f)])) A) [.ref (g 0), .int r, .int a, .int b, .ref ao].toArray s 3 18 A) (0 + 3) (0 + 18) (cw g k (pAskW u r a b) ++ [ow ao k f]) [(0, .ref (g 0)), (1, .int r), (2, .int a), (3, .int b), (4, .ref ao)] (.int ((pWy u r a b).1) :: [.int 0, .ref ao]) 10
    refine j_i2l hC d_L_ways_10 rfl ?_
    refine j_last (ws' := cw g k (pAskW u r a b) ++ [ow ao k (vp_updL f (Int32.toNatClampNeg 0) ((pWy u r a b).1).toInt64)]) hC 127 4 (ow_at g k (pAskW u r a b) ao f) rfl vp_in_01 (ow_set g k (pAskW u r a b) ao f _) d_L_ways_11 ?_
    refine j_goto (tgt := 23) hC d_L_ways_12 (by decide) ?_
    refine j_iconst (v := 0) hC d_L_ways_23 (by decide) ?_
    exact j_iret hC hr ⟨rfl, by rw [kc_0 h1.symm], by rw [lo_0 h1.symm]⟩ d_L_ways_24
  · obtain ⟨w0, ⟨h1, h2, rfl⟩, rfl⟩ := h
    rcases pcAsk_some (fun _ z => pcFact_some z) h1.symm with rfl | rfl
    · refine j_catch (name := xIA) (tgt := 15) hC [] ⟨0, 12, 15, 13⟩ [⟨0, 12, 19, 32⟩] (htab.trans rfl) (fun _ z => absurd z List.not_mem_nil) (by decide) (by decide) wl_L_13 wcast_xIA rfl (fun q => ?_)
      refine j_astore (lv' := [(0, .ref (g 0)), (1, .int r), (2, .int a), (3, .int b), (4, .ref ao), (5, .ref q)]) hC d_L_ways_15 (by decide) rfl rfl ?_
      refine j_iconst (v := 1) hC d_L_ways_17 (by decide) ?_
      exact j_iret hC hr ⟨rfl, by rw [kc_1 h1.symm], by rw [lo_1 h1.symm]⟩ d_L_ways_18
    · refine j_catch (name := xIS) (tgt := 19) hC [⟨0, 12, 15, 13⟩] ⟨0, 12, 19, 32⟩ [] (htab.trans rfl) (List.forall_mem_cons.mpr ⟨⟨by decide, xIA, wl_L_13, wnot_xIS_xIA⟩, fun _ z => absurd z List.not_mem_nil⟩) (by decide) (by decide) wl_L_32 wcast_xIS rfl (fun q => ?_)
      refine j_astore (lv' := [(0, .ref (g 0)), (1, .int r), (2, .int a), (3, .int b), (4, .ref ao), (5, .ref q)]) hC d_L_ways_19 (by decide) rfl rfl ?_
      refine j_iconst (v := 2) hC d_L_ways_21 (by decide) ?_
      exact j_iret hC hr ⟨rfl, by rw [kc_2 h1.symm (by decide)], by rw [lo_1 h1.symm]⟩ d_L_ways_22

set_option maxHeartbeats 4000000 in
set_option maxRecDepth 100000 in
theorem h_proof (l : Launch) (hl : l.stackTraces = false) (dC : Nat → ClassId) (dI : Nat → Nat → Nat) (g k : Nat → Nat) (ao : Nat) (f : Nat → Int64) (u : jU) (hH : wfH u) (hT : pcFault u = none → wfT (pJudge u)) (r a b t : Int32) : jMet l y_L_proof (.codeWith y_L_proof c_L_proof 7 (some .int) [(0, 14, 17, 13), (0, 14, 21, 32), (0, 14, 25, 53)]) ({ frames := 12, cells := 4, slots := 24, locals := 481 }) (dC, dI) jcl (ltys k) jTn [.ref (g 0), .int r, .int a, .int b, .int t, .ref ao] (cw g k u ++ [ow ao k f]) 4 24 (jRet (some (.int (kc xIA xIS ((pPf u r a b t).1)))) (cw g k ((pPf u r a b t).2.2) ++ [ow ao k (lo ((pPf u r a b t).1) ((pPf u r a b t).2.1).toInt64 f)])) := by
  refine jMet.ofH (by decide) (Nat.le_of_ble_eq_true rfl) ?_
  intro p e s m below meth c A hC htab hr htr
  show jJ p l e ({ frames := 12, cells := 4, slots := 24, locals := 481 }) s m [.ref (g 0), .int r, .int a, .int b, .int t, .ref ao].toArray below meth c 7 (dC, dI) jcl A (hxQ below (jQ (dC, dI) jcl (jRet (some (.int (kc xIA xIS ((pPf u r a b t).1)))) (cw g k ((pPf u r a b t).2.2) ++ [ow ao k (lo ((pPf u r a b t).1) ((pPf u r a b t).2.1).toInt64 f)])) A) [.ref (g 0), .int r, .int a, .int b, .int t, .ref ao].toArray s 4 24 A) 0 0 (cw g k u ++ [ow ao k f]) [(0, .ref (g 0)), (1, .int r), (2, .int a), (3, .int b), (4, .int t), (5, .ref ao)] [] 0
  refine j_aload hC d_L_proof_0 5 rfl ?_
  refine j_iconst (v := 0) hC d_L_proof_2 (by decide) ?_
  refine j_aload_n hC d_L_proof_3 rfl 0 rfl ?_
  refine j_iload_n hC d_L_proof_4 rfl 1 rfl ?_
  refine j_iload_n hC d_L_proof_5 rfl 2 rfl ?_
  refine j_iload_n hC d_L_proof_6 rfl 3 rfl ?_
  refine j_iload hC d_L_proof_7 4 rfl ?_
  refine j_callV (As := [.int r, .int a, .int b, .int t]) (rest := [.int 0, .ref ao]) hC (jMet.more (fun _ z => jTn_l z) ((k_proof l hl dC dI g k ((k 3, .boolean) :: [(k 4, .long)]) u hH hT r a b t).frame [ow ao k f])) rfl rfl (fun w z => jTn_l (ww_L_49 w z)) yn_H_proof (ap_l (cw_house g k u)) rfl rfl d_L_proof_9 (Nat.le_of_ble_eq_true rfl) (by decide) (by decide) (fun v w h => ?_) (fun cn w h => ?_)
  · obtain ⟨w0, ⟨h1, h2, rfl⟩, rfl⟩ := h
    rw [h2 rfl]
    show jJ p l e ({ frames := 12, cells := 4, slots := 24, locals := 481 }) s m [.ref (g 0), .int r, .int a, .int b, .int t, .ref ao].toArray below meth c 7 (dC, dI) jcl A (hxQ below (jQ (dC, dI) jcl (jRet (some (.int (kc xIA xIS ((pPf u r a b t).1)))) (cw g k ((pPf u r a b t).2.2) ++ [ow ao k (lo ((pPf u r a b t).1) ((pPf u r a b t).2.1).toInt64 f)])) A) [.ref (g 0), .int r, .int a, .int b, .int t, .ref ao].toArray s 4 24 A) (0 + 4) (0 + 24) (cw g k ((pPf u r a b t).2.2) ++ [ow ao k f]) [(0, .ref (g 0)), (1, .int r), (2, .int a), (3, .int b), (4, .int t), (5, .ref ao)] (.int ((pPf u r a b t).2.1) :: [.int 0, .ref ao]) 12
    refine j_i2l hC d_L_proof_12 rfl ?_
    refine j_last (ws' := cw g k ((pPf u r a b t).2.2) ++ [ow ao k (vp_updL f (Int32.toNatClampNeg 0) ((pPf u r a b t).2.1).toInt64)]) hC 127 4 (ow_at g k ((pPf u r a b t).2.2) ao f) rfl vp_in_01 (ow_set g k ((pPf u r a b t).2.2) ao f _) d_L_proof_13 ?_
    refine j_goto (tgt := 29) hC d_L_proof_14 (by decide) ?_
    refine j_iconst (v := 0) hC d_L_proof_29 (by decide) ?_
    exact j_iret hC hr ⟨rfl, by rw [kc_0 h1.symm], by rw [lo_0 h1.symm]⟩ d_L_proof_30
  · obtain ⟨w0, ⟨h1, h2, rfl⟩, rfl⟩ := h
    rcases pPf_some h1.symm with rfl | rfl | rfl
    · refine j_catch (name := xIA) (tgt := 17) hC [] ⟨0, 14, 17, 13⟩ [⟨0, 14, 21, 32⟩, ⟨0, 14, 25, 53⟩] (htab.trans rfl) (fun _ z => absurd z List.not_mem_nil) (by decide) (by decide) wl_L_13 wcast_xIA rfl (fun q => ?_)
      refine j_astore (lv' := [(0, .ref (g 0)), (1, .int r), (2, .int a), (3, .int b), (4, .int t), (5, .ref ao), (6, .ref q)]) hC d_L_proof_17 (by decide) rfl rfl ?_
      refine j_iconst (v := 1) hC d_L_proof_19 (by decide) ?_
      exact j_iret hC hr ⟨rfl, by rw [kc_1 h1.symm], by rw [lo_1 h1.symm]⟩ d_L_proof_20
    · refine j_catch (name := xIS) (tgt := 21) hC [⟨0, 14, 17, 13⟩] ⟨0, 14, 21, 32⟩ [⟨0, 14, 25, 53⟩] (htab.trans rfl) (List.forall_mem_cons.mpr ⟨⟨by decide, xIA, wl_L_13, wnot_xIS_xIA⟩, fun _ z => absurd z List.not_mem_nil⟩) (by decide) (by decide) wl_L_32 wcast_xIS rfl (fun q => ?_)
      refine j_astore (lv' := [(0, .ref (g 0)), (1, .int r), (2, .int a), (3, .int b), (4, .int t), (5, .ref ao), (6, .ref q)]) hC d_L_proof_21 (by decide) rfl rfl ?_
      refine j_iconst (v := 2) hC d_L_proof_23 (by decide) ?_
      exact j_iret hC hr ⟨rfl, by rw [kc_2 h1.symm (by decide)], by rw [lo_1 h1.symm]⟩ d_L_proof_24
    · refine j_catch (name := xNS) (tgt := 25) hC [⟨0, 14, 17, 13⟩, ⟨0, 14, 21, 32⟩] ⟨0, 14, 25, 53⟩ [] (htab.trans rfl) (List.forall_mem_cons.mpr ⟨⟨by decide, xIA, wl_L_13, wnot_xNS_xIA⟩, List.forall_mem_cons.mpr ⟨⟨by decide, xIS, wl_L_32, wnot_xNS_xIS⟩, fun _ z => absurd z List.not_mem_nil⟩⟩) (by decide) (by decide) wl_L_53 wcast_xNS rfl (fun q => ?_)
      refine j_astore (lv' := [(0, .ref (g 0)), (1, .int r), (2, .int a), (3, .int b), (4, .int t), (5, .ref ao), (6, .ref q)]) hC d_L_proof_25 (by decide) rfl rfl ?_
      refine j_iconst (v := 3) hC d_L_proof_27 (by decide) ?_
      exact j_iret hC hr ⟨rfl, by rw [kc_3 h1.symm (by decide) (by decide)], by rw [lo_1 h1.symm]⟩ d_L_proof_28
