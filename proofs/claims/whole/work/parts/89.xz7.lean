-- class and reference side by side: rules and literals
theorem mkn_cg {u w : jU} {i v : Nat} : ∀ n, (∀ q, q < n → w 17 (5 * i + q) = u 17 (5 * i + q) ∧ w 18 (5 * i + q) = u 18 (5 * i + q)) → mkn w i v n = mkn u i v n := by
  intro n
  induction n with
  | zero => intro _; rfl
  | succ n ih =>
    intro h
    unfold mkn
    rw [ih (fun q hq => h q (by omega))]
    unfold ocx
    rw [(h n (by omega)).1, (h n (by omega)).2]
theorem psn_cg {u w : jU} {i v : Nat} : ∀ n, (∀ q, q < n → w 17 (5 * i + 1 + q) = u 17 (5 * i + 1 + q) ∧ w 18 (5 * i + 1 + q) = u 18 (5 * i + 1 + q) ∧ w 19 (5 * i + 1 + q) = u 19 (5 * i + 1 + q)) → psn w i v n = psn u i v n := by
  intro n
  induction n with
  | zero => intro _; rfl
  | succ n ih =>
    intro h
    unfold psn
    rw [ih (fun q hq => h q (by omega))]
    unfold ocx
    rw [(h n (by omega)).1, (h n (by omega)).2.1, (h n (by omega)).2.2]
/-- a rule whose atoms, size and masks are as they were -/
theorem rule_cg {u w : jU} {i : Nat} (hi : i < 16) (hR : wfR u) (h12 : w 12 i = u 12 i) (h13 : w 13 i = u 13 i) (h14 : w 14 i = u 14 i) (h15 : w 15 i = u 15 i) (h : ∀ q, q < 5 → w 16 (5 * i + q) = u 16 (5 * i + q) ∧ w 17 (5 * i + q) = u 17 (5 * i + q) ∧ w 18 (5 * i + q) = u 18 (5 * i + q) ∧ w 19 (5 * i + q) = u 19 (5 * i + q)) (hm : msk u i) (h5 : m15 u i) : msk w i ∧ m15 w i := by
  have hs := (hR.1 i hi).2
  have hk : ∀ v, mkx w i v = mkx u i v := fun v => by
    unfold mkx
    rw [h12]
    exact mkn_cg _ (fun q hq => ⟨(h q (by omega)).2.1, (h q (by omega)).2.2.1⟩)
  have h1 : ∀ q, q < tn (u 12 i) → w 16 (5 * i + 1 + q) = u 16 (5 * i + 1 + q) ∧ w 17 (5 * i + 1 + q) = u 17 (5 * i + 1 + q) ∧ w 18 (5 * i + 1 + q) = u 18 (5 * i + 1 + q) ∧ w 19 (5 * i + 1 + q) = u 19 (5 * i + 1 + q) := fun q hq => by
    have := h (1 + q) (by omega)
    rw [← Nat.add_assoc] at this
    exact this
  have hp : ∀ v, pvx w i v = pvx u i v := fun v => by
    unfold pvx
    rw [h12]
    exact psn_cg _ (fun q hq => (h1 q hq).2)
  refine ⟨⟨fun v hv => by rw [h13, hk]; exact hm.1 v hv, fun v hv => by rw [h14, hp]; exact hm.2 v hv⟩, fun q hq h0 => ?_⟩
  rw [h12] at hq
  rw [(h1 q hq).2.2.2] at h0
  rw [h15, (h1 q hq).1]
  exact h5 q hq h0
theorem pv_bt : ∀ k, k < 24 → (k < 12 ∨ 20 ≤ k) → ∀ v, v < 32 → bt ((1 <<< (nI k &&& 31)) &&& 15728640) v = (decide (20 ≤ v) && decide (k = v)) := by decide +kernel
theorem pVars_bt {u : jU} {j : Nat} (h17 : tm (u 17 j)) (h18 : tm (u 18 j)) {v : Nat} (hv : v < 32) : bt (pVars u j) v = (decide (20 ≤ v) && ocx u j (v - 20)) := by
  obtain ⟨a1, a2, a3⟩ := tm_k h17
  obtain ⟨b1, b2, b3⟩ := tm_k h18
  have ha := pv_bt (tn (u 17 j)) a2 a3 v hv
  have hb' := pv_bt (tn (u 18 j)) b2 b3 v hv
  rw [← a1] at ha
  rw [← b1] at hb'
  unfold pVars
  have e : bt (((1 <<< (u 17 j &&& 31)) ||| (1 <<< (u 18 j &&& 31))) &&& 15728640) v = (bt ((1 <<< (u 17 j &&& 31)) &&& 15728640) v || bt ((1 <<< (u 18 j &&& 31)) &&& 15728640) v) := by
    rw [b_and, b_or, b_and, b_and]
    cases bt (1 <<< (u 17 j &&& 31)) v <;> cases bt (1 <<< (u 18 j &&& 31)) v <;> cases bt 15728640 v <;> rfl
  rw [e, ha, hb']
  unfold ocx
  by_cases c : 20 ≤ v
  · rw [decide_eq_true c, show 20 + (v - 20) = v by omega]; simp
  · rw [decide_eq_false c]; simp
theorem put_row (u : jU) (j : Nat) (r a b z : Int32) : (∀ c, c ∉ [16, 17, 18, 19] → pBecome u j r a b z c = u c) ∧ pBecome u j r a b z 16 = upd (u 16) j r ∧ pBecome u j r a b z 17 = upd (u 17) j a ∧ pBecome u j r a b z 18 = upd (u 18) j b ∧ pBecome u j r a b z 19 = upd (u 19) j z := by
  unfold pBecome
  refine ⟨fun c hc => ?_, ?_, ?_, ?_, ?_⟩
  · rw [up_rows _ _ _ (fun e => hc (by rw [e]; decide)), up_rows _ _ _ (fun e => hc (by rw [e]; decide)), up_rows _ _ _ (fun e => hc (by rw [e]; decide)), up_rows _ _ _ (fun e => hc (by rw [e]; decide))]
  · rw [up_rows _ _ _ (by decide), up_rows _ _ _ (by decide), up_rows _ _ _ (by decide), up_row]
  · rw [up_rows _ _ _ (by decide), up_rows _ _ _ (by decide), up_row, up_rows _ _ _ (by decide)]
  · rw [up_rows _ _ _ (by decide), up_row, up_rows _ _ _ (by decide), up_rows _ _ _ (by decide)]
  · rw [up_row, up_rows _ _ _ (by decide), up_rows _ _ _ (by decide), up_rows _ _ _ (by decide)]
theorem mput_row (u : jU) (j : Nat) (r a b z : Int32) : (∀ c, c ∉ [16, 17, 18, 19] → m_put u j r a b z c = u c) ∧ m_put u j r a b z 16 = upd (u 16) j r ∧ m_put u j r a b z 17 = upd (u 17) j (if u 1 (tn r) ≤ 0 then 0 else a) ∧ m_put u j r a b z 18 = upd (u 18) j (if u 1 (tn r) ≤ 1 then 0 else b) ∧ m_put u j r a b z 19 = upd (u 19) j z := by
  have e1 : up u 16 j r 1 = u 1 := up_rows _ _ _ (by decide)
  have e2 : up (up u 16 j r) 17 j (if u 1 (tn r) ≤ 0 then 0 else a) 1 = u 1 := (up_rows _ _ _ (by decide)).trans e1
  have e : m_put u j r a b z = pBecome u j r (if u 1 (tn r) ≤ 0 then 0 else a) (if u 1 (tn r) ≤ 1 then 0 else b) z := by
    unfold m_put pBecome
    rw [e1, e2]
  rw [e]
  exact put_row u j r _ _ z
theorem wfR_put {u w : jU} (hR : wfR u) {j : Nat} {r a b z : Int32} (hr : inN r 8) (ha : tm a) (hb' : tm b) (hz : z = 0 ∨ z = 1) (h12 : ∀ i, i < 16 → inN (w 12 i) 5) (h16 : w 16 = upd (u 16) j r) (h17 : w 17 = upd (u 17) j a) (h18 : w 18 = upd (u 18) j b) (h19 : w 19 = upd (u 19) j z) : wfR w := by
  refine ⟨h12, fun k hk => ?_⟩
  unfold wfB
  rw [h16, h17, h18, h19]
  by_cases e : k = j
  · rw [e, upd_at, upd_at, upd_at, upd_at]; exact ⟨hr, ha, hb', hz⟩
  · rw [upd_ne _ _ e, upd_ne _ _ e, upd_ne _ _ e, upd_ne _ _ e]; exact hR.2 k hk
theorem sim_rule {u v : jU} (h : Rl u v) (r a b : Int32) : kc xIA xUO (pcRuleC u r a b) = (m_rule v r a b).2 0 4 ∧ (pcRuleC u r a b = none → pRule2 u r a b 0 1 - 1 = (m_rule v r a b).1) ∧ Rl (pRuleC u r a b) (m_rule v r a b).2 := by
  have hh := h
  obtain ⟨hP, hW, hC, hV⟩ := h
  have ht := terms_uv hV.1.1 hP.1 hP.2.2.1 r a b
  have hK := hW.1.2.2
  have hK2 := hK.2
  have e16 : (v 0 1 = 16) ↔ ¬ u 0 1 < 16 := by
    rw [← hP.2.1]
    have h1 := inN_ltN (n := 16) hK (by decide) (by decide)
    constructor
    · intro z; rw [z]; decide
    · intro z
      have h2 : ¬ tn (u 0 1) < 16 := fun y => z (h1.mpr y)
      rw [hK.1, show tn (u 0 1) = 16 by omega]
      rfl
  unfold m_rule
  rw [refuse_eq]
  dsimp only
  by_cases c1 : m_areTerms v r a b = 0
  · have hp := (pcTerms_or u r a b).resolve_left (fun z => ht.mp z c1)
    have hpc : pcRuleC u r a b = some xIA := by unfold pcRuleC; rw [hp, if_neg (by decide)]
    have ec : cdx (if m_areTerms v r a b = 0 then 1 else 0) (if v 0 1 = 16 then 1 else 0) 0 = 1 := by rw [if_pos c1]; rfl
    rw [ec, if_neg (by decide), hpc]
    dsimp only
    refine ⟨by rw [up_same]; decide, fun z => (by cases z), ?_⟩
    unfold pRuleC
    rw [hpc, if_neg (by decide)]
    exact Rl_up4 hh 1
  · have hp := ht.mpr c1
    by_cases c2 : u 0 1 < 16
    · have i2 : ¬ v 0 1 = 16 := fun z => e16.mp z c2
      have hpc : pcRuleC u r a b = none := by unfold pcRuleC; rw [if_pos hp, if_pos c2]
      have ec : cdx (if m_areTerms v r a b = 0 then 1 else 0) (if v 0 1 = 16 then 1 else 0) 0 = 0 := by rw [if_neg c1, if_neg i2]; decide
      rw [ec, if_pos (by decide), hpc]
      dsimp only
      have hlt : tn (u 0 1) < 16 := (inN_ltN (n := 16) hK (by decide) (by decide)).mp c2
      obtain ⟨s1, s2⟩ := inN_succ hK (by decide)
      have hr := rel_lt hW.1 (terms_rel hp)
      have hr8 := rel_in hW.1 (terms_rel hp)
      obtain ⟨ta, tb⟩ := terms_tm hp
      -- the class's state
      obtain ⟨b0, b16, b17, b18, b19⟩ := put_row u (5 * tn (u 0 1)) r (pFst u r a) (pSnd u r b) 0
      have d1 : pRuleC u r a b = pRule2 u r a b := by unfold pRuleC; rw [if_pos hpc]
      obtain ⟨f3, f4, f0, f1, fc⟩ := stale_flags (up (pRule1 u r a b) 0 1 (pRule1 u r a b 0 1 + 1))
      have es : pRule2 u r a b = pStale (up (pRule1 u r a b) 0 1 (pRule1 u r a b 0 1 + 1)) := rfl
      rw [← es] at f3 f4 f0 f1 fc
      have ec1 : ∀ c, c ∉ [12, 13, 14, 15, 16, 17, 18, 19] → pRule1 u r a b c = u c := fun c hc => by
        unfold pRule1 pBegin pBegin1
        rw [up_rows _ _ _ (fun e => hc (by rw [e]; decide)), up_rows _ _ _ (fun e => hc (by rw [e]; decide)), up_rows _ _ _ (fun e => hc (by rw [e]; decide)), up_rows _ _ _ (fun e => hc (by rw [e]; decide))]
        exact b0 c (fun z => hc (by simp at z ⊢; omega))
      have r0 : pRule1 u r a b 0 = u 0 := ec1 0 (by decide)
      have p00 : pRule2 u r a b 0 0 = u 0 0 := by rw [f0, up_idx _ _ (by decide), r0]
      have p01 : pRule2 u r a b 0 1 = u 0 1 + 1 := by rw [f1, up_same, r0]
      have pcx : ∀ c, ¬ c = 0 → c ∉ [12, 13, 14, 15, 16, 17, 18, 19] → pRule2 u r a b c = u c := fun c h0 hc => by rw [fc c h0, up_rows _ _ _ h0]; exact ec1 c hc
      have pat : ∀ c, ¬ c = 0 → pRule2 u r a b c = pRule1 u r a b c := fun c h0 => by rw [fc c h0, up_rows _ _ _ h0]
      have q16 : pRule2 u r a b 16 = upd (u 16) (5 * tn (u 0 1)) r := by
        rw [pat 16 (by decide)]; unfold pRule1 pBegin pBegin1
        rw [up_rows _ _ _ (by decide), up_rows _ _ _ (by decide), up_rows _ _ _ (by decide), up_rows _ _ _ (by decide)]; exact b16
      have q17 : pRule2 u r a b 17 = upd (u 17) (5 * tn (u 0 1)) (pFst u r a) := by
        rw [pat 17 (by decide)]; unfold pRule1 pBegin pBegin1
        rw [up_rows _ _ _ (by decide), up_rows _ _ _ (by decide), up_rows _ _ _ (by decide), up_rows _ _ _ (by decide)]; exact b17
      have q18 : pRule2 u r a b 18 = upd (u 18) (5 * tn (u 0 1)) (pSnd u r b) := by
        rw [pat 18 (by decide)]; unfold pRule1 pBegin pBegin1
        rw [up_rows _ _ _ (by decide), up_rows _ _ _ (by decide), up_rows _ _ _ (by decide), up_rows _ _ _ (by decide)]; exact b18
      have q19 : pRule2 u r a b 19 = upd (u 19) (5 * tn (u 0 1)) 0 := by
        rw [pat 19 (by decide)]; unfold pRule1 pBegin pBegin1
        rw [up_rows _ _ _ (by decide), up_rows _ _ _ (by decide), up_rows _ _ _ (by decide), up_rows _ _ _ (by decide)]; exact b19
      have q12 : pRule2 u r a b 12 = upd (u 12) (tn (u 0 1)) 0 := by
        rw [pat 12 (by decide)]; unfold pRule1 pBegin pBegin1
        rw [up_rows _ _ _ (by decide), up_rows _ _ _ (by decide), up_rows _ _ _ (by decide), up_row, b0 12 (by decide)]
      have q13 : pRule2 u r a b 13 = upd (u 13) (tn (u 0 1)) (pVars (pBegin1 u (tn (u 0 1)) r (pFst u r a) (pSnd u r b)) (5 * tn (u 0 1))) := by
        rw [pat 13 (by decide)]; unfold pRule1 pBegin
        rw [up_rows _ _ _ (by decide), up_rows _ _ _ (by decide), up_row]
        unfold pBegin1
        rw [up_rows _ _ _ (by decide), b0 13 (by decide)]
      have q14 : pRule2 u r a b 14 = upd (u 14) (tn (u 0 1)) 0 := by
        rw [pat 14 (by decide)]; unfold pRule1 pBegin pBegin1
        rw [up_rows _ _ _ (by decide), up_row, up_rows _ _ _ (by decide), up_rows _ _ _ (by decide), b0 14 (by decide)]
      have q15 : pRule2 u r a b 15 = upd (u 15) (tn (u 0 1)) 0 := by
        rw [pat 15 (by decide)]; unfold pRule1 pBegin pBegin1
        rw [up_row, up_rows _ _ _ (by decide), up_rows _ _ _ (by decide), up_rows _ _ _ (by decide), b0 15 (by decide)]
      have hpv : ∀ y, y < 32 → bt (pVars (pBegin1 u (tn (u 0 1)) r (pFst u r a) (pSnd u r b)) (5 * tn (u 0 1))) y = (decide (20 ≤ y) && ocx (pRule2 u r a b) (5 * tn (u 0 1)) (y - 20)) := by
        intro y hy
        have g17 : pBegin1 u (tn (u 0 1)) r (pFst u r a) (pSnd u r b) 17 = upd (u 17) (5 * tn (u 0 1)) (pFst u r a) := by unfold pBegin1; rw [up_rows _ _ _ (by decide)]; exact b17
        have g18 : pBegin1 u (tn (u 0 1)) r (pFst u r a) (pSnd u r b) 18 = upd (u 18) (5 * tn (u 0 1)) (pSnd u r b) := by unfold pBegin1; rw [up_rows _ _ _ (by decide)]; exact b18
        rw [pVars_bt (by rw [g17, upd_at]; exact ta) (by rw [g18, upd_at]; exact tb) hy]
        unfold ocx
        rw [g17, g18, q17, q18]
      -- the reference's state
      obtain ⟨c0, c16, c17, c18, c19⟩ := mput_row (up v 0 4 0) (5 * tn (v 0 1)) r a b 0
      have v1 : up v 0 4 0 1 = v 1 := up_rows _ _ _ (by decide)
      rw [v1] at c17 c18
      have y0 : up (m_put (up v 0 4 0) (5 * tn (v 0 1)) r a b 0) 12 (tn (v 0 1)) 0 0 = up v 0 4 0 0 := by rw [up_rows _ _ _ (by decide)]; exact c0 0 (by decide)
      have y01 : up (m_put (up v 0 4 0) (5 * tn (v 0 1)) r a b 0) 12 (tn (v 0 1)) 0 0 1 = v 0 1 := by rw [y0, up_idx _ _ (by decide)]
      rw [y01]
      generalize hz : up (up (up (m_put (up v 0 4 0) (5 * tn (v 0 1)) r a b 0) 12 (tn (v 0 1)) 0) 0 1 (v 0 1 + 1)) 0 3 0 = z
      have z00 : z 0 0 = v 0 0 := by rw [← hz, up_idx _ _ (by decide), up_idx _ _ (by decide), y0, up_idx _ _ (by decide)]
      have z01 : z 0 1 = v 0 1 + 1 := by rw [← hz, up_idx _ _ (by decide), up_same]
      have z03 : z 0 3 = 0 := by rw [← hz, up_same]
      have z04 : z 0 4 = 0 := by rw [← hz, up_idx _ _ (by decide), up_idx _ _ (by decide), y0, up_same]
      have zat : ∀ c, ¬ c = 0 → ¬ c = 12 → z c = m_put (up v 0 4 0) (5 * tn (v 0 1)) r a b 0 c := fun c h0 h12 => by rw [← hz, up_rows _ _ _ h0, up_rows _ _ _ h0, up_rows _ _ _ h12]
      have zc : ∀ c, ¬ c = 0 → c ∉ [12, 16, 17, 18, 19] → z c = v c := fun c h0 hc => by
        rw [zat c h0 (fun e => hc (by rw [e]; decide)), c0 c (fun y => hc (by simp at y ⊢; omega)), up_rows _ _ _ h0]
      have z12 : z 12 = upd (v 12) (tn (v 0 1)) 0 := by rw [← hz, up_rows _ _ _ (by decide), up_rows _ _ _ (by decide), up_row, c0 12 (by decide), up_rows _ _ _ (by decide)]
      have z16 : z 16 = upd (v 16) (5 * tn (v 0 1)) r := by rw [zat 16 (by decide) (by decide), c16, up_rows _ _ _ (by decide)]
      have z17 : z 17 = upd (v 17) (5 * tn (v 0 1)) (pFst u r a) := by rw [zat 17 (by decide) (by decide), c17, up_rows _ _ _ (by decide), fst_uv hP.2.2.1]
      have z18 : z 18 = upd (v 18) (5 * tn (v 0 1)) (pSnd u r b) := by rw [zat 18 (by decide) (by decide), c18, up_rows _ _ _ (by decide), snd_uv hP.2.2.1]
      have z19 : z 19 = upd (v 19) (5 * tn (v 0 1)) 0 := by rw [zat 19 (by decide) (by decide), c19, up_rows _ _ _ (by decide)]
      have pgz : pgq z (pRule2 u r a b) := by
        have g := hP.2.2.2.1
        exact ⟨by rw [q12, z12, g.1, hP.2.1], by rw [q16, z16, g.2.1, hP.2.1], by rw [q17, z17, g.2.2.1, hP.2.1], by rw [q18, z18, g.2.2.2.1, hP.2.1], by rw [q19, z19, g.2.2.2.2, hP.2.1]⟩
      have hRu : wfR (pRule2 u r a b) := wfR_put hW.2.1 hr8 ta tb (Or.inl rfl) (fun i hi => by
        rw [q12]
        by_cases e : i = tn (u 0 1)
        · rw [e, upd_at]; exact inN_0 (by decide)
        · rw [upd_ne _ _ e]; exact hW.2.1.1 i hi) q16 q17 q18 q19
      have hRz : wfR z := wfR_pg pgz.sy hRu
      refine ⟨by rw [z04]; decide, fun _ => by rw [p01, z01, hP.2.1], ?_⟩
      rw [d1]
      refine ⟨⟨p00.trans (hP.1.trans z00.symm), by rw [p01, z01, hP.2.1], (pcx 1 (by decide) (by decide)).trans (hP.2.2.1.trans (zc 1 (by decide) (by decide)).symm), pgz, fun f hf => by rw [gvc_c (pcx 2 (by decide) (by decide)), gvr_c (zc 2 (by decide) (by decide))]; exact hP.2.2.2.2 f hf⟩, ?_, rC_0 f3 f4, ?_⟩
      · have hv6 : wfV (pRule2 u r a b) := wfV_of hW.1.1.2.2 (pcx 6 (by decide) (by decide))
        refine ⟨⟨wfM_R hRu hv6, by rw [p00]; exact hW.1.2.1, by rw [p01, s1]; exact inN_nI (by omega) (by decide)⟩, hRu, fun c hc => by rw [pcx 6 (by decide) (by decide)]; exact hW.2.2.1 c hc, fun f hf => by unfold frs; rw [pcx 5 (by decide) (by decide)]; exact hW.2.2.2.1 f hf, ?_, by rw [p00, gvc_c (pcx 2 (by decide) (by decide))]; exact hW.2.2.2.2.2⟩
        rw [p01, s2, p00]
        intro i hi
        by_cases e : i = tn (u 0 1)
        · subst e
          have n0 : tn (pRule2 u r a b 12 (tn (u 0 1))) = 0 := by rw [q12, upd_at]; decide
          refine ⟨⟨fun y hy => ?_, fun y hy => ?_⟩, fun q hq => ?_, by rw [q16, upd_at]; exact hr.2⟩
          · have em : mkx (pRule2 u r a b) (tn (u 0 1)) (y - 20) = ocx (pRule2 u r a b) (5 * tn (u 0 1) + 0) (y - 20) := by
              unfold mkx
              rw [n0]
              unfold mkn mkn
              rw [Bool.false_or]
            rw [q13, upd_at, hpv y hy, em, Nat.add_zero]
          · rw [q14, upd_at, b_0]
            unfold pvx
            rw [n0]
            unfold psn
            simp
          · rw [n0] at hq; exact absurd hq (by omega)
        · obtain ⟨a1, a2, a3⟩ := hW.2.2.2.2.1 i (by omega)
          have hne : ∀ q, q < 5 → 5 * i + q ≠ 5 * tn (u 0 1) := fun q hq => by omega
          have hcg := rule_cg (w := pRule2 u r a b) (show i < 16 by omega) hW.2.1 (by rw [q12, upd_ne _ _ e]) (by rw [q13, upd_ne _ _ e]) (by rw [q14, upd_ne _ _ e]) (by rw [q15, upd_ne _ _ e]) (fun q hq => by rw [q16, q17, q18, q19, upd_ne _ _ (hne q hq), upd_ne _ _ (hne q hq), upd_ne _ _ (hne q hq), upd_ne _ _ (hne q hq)]; exact ⟨rfl, rfl, rfl, rfl⟩) a1 a2
          refine ⟨hcg.1, hcg.2, ?_⟩
          rw [q16, upd_ne _ _ (show 5 * i ≠ 5 * tn (u 0 1) by omega)]
          exact a3
      · have hD := hV.1
        refine ⟨⟨by rw [z00]; exact hD.1, by rw [z01, ← hP.2.1, s1]; exact inN_nI (by omega) (by decide), hRz.1, hRz.2, wfU_of hD.2.2.2.2.1 (zc 6 (by decide) (by decide)), by rw [zc 2 (by decide) (by decide)]; exact hD.2.2.2.2.2⟩, gok_c z00 (zc 2 (by decide) (by decide)) hV.2.1, fun y => absurd z03 y⟩
    · have i2 : v 0 1 = 16 := e16.mpr c2
      have hpc : pcRuleC u r a b = some xUO := by unfold pcRuleC; rw [if_pos hp, if_neg c2]
      have ec : cdx (if m_areTerms v r a b = 0 then 1 else 0) (if v 0 1 = 16 then 1 else 0) 0 = 2 := by rw [if_neg c1, if_pos i2]; decide
      rw [ec, if_neg (by decide), hpc]
      dsimp only
      refine ⟨by rw [up_same]; decide, fun z => (by cases z), ?_⟩
      unfold pRuleC
      rw [hpc, if_neg (by decide)]
      exact Rl_up4 hh 2
