-- class and reference side by side: given facts, clear, unrule
theorem upd_at (f : Nat → Int32) (k : Nat) (x : Int32) : upd f k x k = x := by unfold upd; rw [if_pos rfl]
theorem upd_ne (f : Nat → Int32) {k j : Nat} (x : Int32) (h : j ≠ k) : upd f k x j = f j := by unfold upd; rw [if_neg h]
theorem kcf_0 : kc xIA xIA none = 0 := rfl
theorem kcf_1 : kc xIA xIA (some xIA) = 1 := by decide
/-- a given fact comes or goes -/
theorem sim_set {u v : jU} (h : Rl u v) {r a b z : Int32} (hz : z = 0 ∨ z = 1) (hn : pcFact u r a b = none) : (pSG u r a b z).1 = (if (if gvr v (mFx v r a b) = true then (1 : Int32) else 0) = z then 0 else 1) ∧ Rl (pSG u r a b z).2 (up (up (up v 0 4 0) 2 (mFx v r a b) z) 0 3 0) := by
  obtain ⟨hP, hW, hC, hV⟩ := h
  have hr := rel_lt hW.1 (fact_rel hn)
  have hr8 := rel_in hW.1 (fact_rel hn)
  have ha := fact_fst hn
  have hb' := fact_snd hn
  have hfx : mFx v r a b = pFx u r a b := (fx_uv hP.2.2.1 r a b).symm
  have hlt : pFx u r a b < 1152 := fact2_lt hr8 ha hb'
  have e12 : pFx u r a b / 12 = pGRow u r a := by have := hb'.2; unfold pFx pGRow; omega
  have eq : pFx u r a b % 12 = tn (pSnd u r b) := by have := hb'.2; unfold pFx; omega
  have edv : pFx u r a b / 144 = tn r := by have := ha.2; have := hb'.2; unfold pFx; omega
  have hbit : hb (u 2 (pGRow u r a)) (pSnd u r b) = gvc u (pFx u r a b) := by
    unfold gvc
    rw [e12, eq, ← hb'.1]
  have hgv : gvc u (pFx u r a b) = gvr v (pFx u r a b) := hP.2.2.2.2 _ hlt
  rw [hfx]
  -- the reference's state
  generalize hw : up (up (up v 0 4 0) 2 (pFx u r a b) z) 0 3 0 = w
  have w00 : w 0 0 = v 0 0 := by rw [← hw, up_idx _ _ (by decide), up_rows _ _ _ (by decide), up_idx _ _ (by decide)]
  have w01 : w 0 1 = v 0 1 := by rw [← hw, up_idx _ _ (by decide), up_rows _ _ _ (by decide), up_idx _ _ (by decide)]
  have w03 : w 0 3 = 0 := by rw [← hw, up_same]
  have w2 : w 2 = upd (v 2) (pFx u r a b) z := by rw [← hw, up_rows _ _ _ (by decide), up_row, up_rows _ _ _ (by decide)]
  have wc : ∀ c, ¬ c = 0 → ¬ c = 2 → w c = v c := fun c h0 h2 => by rw [← hw, up_rows _ _ _ h0, up_rows _ _ _ h2, up_rows _ _ _ h0]
  have pgv : pgq v w := ⟨wc 12 (by decide) (by decide), wc 16 (by decide) (by decide), wc 17 (by decide) (by decide), wc 18 (by decide) (by decide), wc 19 (by decide) (by decide)⟩
  have hgw : ∀ f, gvr w f = if f = pFx u r a b then !decide (z = 0) else gvr v f := by
    intro f
    unfold gvr
    rw [w2]
    by_cases e : f = pFx u r a b
    · rw [e, upd_at, if_pos rfl]
    · rw [upd_ne _ _ e, if_neg e]
  have hVw : rV w := by
    have hD := hV.1
    refine ⟨⟨by rw [w00]; exact hD.1, by rw [w01]; exact hD.2.1, by rw [pgv.1]; exact hD.2.2.1, (wfR_pg pgv hD.R).2, wfU_of hD.2.2.2.2.1 (wc 6 (by decide) (by decide)), fun f hf => ?_⟩, ⟨by rw [w00]; exact hV.2.1.1, fun f hf hne => ?_⟩, fun y => absurd w03 y⟩
    · rw [w2]
      by_cases e : f = pFx u r a b
      · rw [e, upd_at]; exact hz
      · rw [upd_ne _ _ e]; exact hD.2.2.2.2.2 f hf
    · rw [w00]
      rw [w2] at hne
      by_cases e : f = pFx u r a b
      · rw [e, edv, ← hP.1]; exact hr.2
      · rw [upd_ne _ _ e] at hne; exact hV.2.1.2 f hf hne
  have hb2 : b2i (gvc u (pFx u r a b)) = if gvr v (pFx u r a b) = true then 1 else 0 := by rw [hgv]; rfl
  unfold pSG
  rw [hbit, hb2]
  by_cases c : (if gvr v (pFx u r a b) = true then (1 : Int32) else 0) = z
  · rw [if_pos c, if_pos c]
    dsimp only
    refine ⟨rfl, ⟨hP.1.trans w00.symm, hP.2.1.trans w01.symm, hP.2.2.1.trans (wc 1 (by decide) (by decide)).symm, pgv.sy.tr hP.2.2.2.1, fun f hf => ?_⟩, hW, hC, hVw⟩
    rw [hgw f]
    by_cases e : f = pFx u r a b
    · rw [if_pos e, e, hgv, ← c]
      cases gvr v (pFx u r a b) <;> rfl
    · rw [if_neg e]; exact hP.2.2.2.2 f hf
  · rw [if_neg c, if_neg c]
    dsimp only
    generalize ht : up (up u 2 (pGRow u r a) (u 2 (pGRow u r a) ^^^ 1 <<< (pSnd u r b &&& 31))) 0 4 0 = t
    have t00 : t 0 0 = u 0 0 := by rw [← ht, up_idx _ _ (by decide), up_rows _ _ _ (by decide)]
    have t01 : t 0 1 = u 0 1 := by rw [← ht, up_idx _ _ (by decide), up_rows _ _ _ (by decide)]
    have t02 : t 0 2 = u 0 2 := by rw [← ht, up_idx _ _ (by decide), up_rows _ _ _ (by decide)]
    have t03 : t 0 3 = u 0 3 := by rw [← ht, up_idx _ _ (by decide), up_rows _ _ _ (by decide)]
    have t04 : t 0 4 = 0 := by rw [← ht, up_same]
    have t2 : t 2 = upd (u 2) (pGRow u r a) (u 2 (pGRow u r a) ^^^ 1 <<< (pSnd u r b &&& 31)) := by rw [← ht, up_rows _ _ _ (by decide), up_row]
    have tc : ∀ c, ¬ c = 0 → ¬ c = 2 → t c = u c := fun c h0 h2 => by rw [← ht, up_rows _ _ _ h0, up_rows _ _ _ h2]
    have pgu : pgq u t := ⟨tc 12 (by decide) (by decide), tc 16 (by decide) (by decide), tc 17 (by decide) (by decide), tc 18 (by decide) (by decide), tc 19 (by decide) (by decide)⟩
    have hgt : ∀ f, f < 1152 → gvc t f = if f = pFx u r a b then !(gvc u (pFx u r a b)) else gvc u f := by
      intro f hf
      have hq := hb'.2
      by_cases e1 : f / 12 = pGRow u r a
      · have h1 : gvc t f = (gvc u f ^^ decide (tn (pSnd u r b) = f % 12)) := by
          unfold gvc
          rw [t2, e1, upd_at, hb_xor _ _ (by omega)]
          congr 1
          have h9 := hb_one (b := tn (pSnd u r b)) (c := f % 12) (by omega) (by omega)
          rw [← hb'.1] at h9
          exact h9
        rw [h1]
        by_cases e2 : f % 12 = tn (pSnd u r b)
        · have e : f = pFx u r a b := by omega
          rw [if_pos e, e2, decide_eq_true rfl, e]; cases gvc u (pFx u r a b) <;> rfl
        · have e : ¬ f = pFx u r a b := fun y => e2 (by rw [y, eq])
          rw [if_neg e, decide_eq_false (fun y => e2 y.symm)]; cases gvc u f <;> rfl
      · have e : ¬ f = pFx u r a b := fun y => e1 (by rw [y, e12])
        rw [if_neg e]
        unfold gvc
        rw [t2, upd_ne _ _ e1]
    refine ⟨rfl, ⟨t00.trans (hP.1.trans w00.symm), t01.trans (hP.2.1.trans w01.symm), (tc 1 (by decide) (by decide)).trans (hP.2.2.1.trans (wc 1 (by decide) (by decide)).symm), (pgv.sy.tr hP.2.2.2.1).tr pgu, fun f hf => ?_⟩, ?_, ?_, hVw⟩
    · rw [hgw f, hgt f hf]
      by_cases e : f = pFx u r a b
      · rw [if_pos e, if_pos e, hgv]
        rcases hz with z0 | z0 <;> subst z0
        · cases d : gvr v (pFx u r a b) with
          | true => rfl
          | false => rw [d] at c; exact absurd rfl c
        · cases d : gvr v (pFx u r a b) with
          | true => rw [d] at c; exact absurd rfl c
          | false => rfl
      · rw [if_neg e, if_neg e]; exact hP.2.2.2.2 f hf
    · have hv6 : wfV t := wfV_of hW.1.1.2.2 (tc 6 (by decide) (by decide))
      refine ⟨⟨wfM_R (wfR_pg pgu hW.2.1) hv6, by rw [t00]; exact hW.1.2.1, by rw [t01]; exact hW.1.2.2⟩, wfR_pg pgu hW.2.1, fun c hc => by rw [tc 6 (by decide) (by decide)]; exact hW.2.2.1 c hc, fun f hf => by unfold frs; rw [tc 5 (by decide) (by decide)]; exact hW.2.2.2.1 f hf, ?_, fun f hf hg => ?_⟩
      · rw [t01, t00, pgu.2.1]
        intro i hi
        obtain ⟨a1, a2, a3⟩ := hW.2.2.2.2.1 i hi
        exact ⟨msk_c pgu (tc 13 (by decide) (by decide)) (tc 14 (by decide) (by decide)) a1, m15_c pgu (tc 15 (by decide) (by decide)) a2, a3⟩
      · rw [t00]
        rw [hgt f hf] at hg
        by_cases e : f = pFx u r a b
        · rw [e, edv]; exact hr.2
        · rw [if_neg e] at hg; exact hW.2.2.2.2.2 f hf hg
    · refine ⟨fun y => ?_, fun y => absurd t04 y⟩
      rw [t03] at y
      have := hC.1 y
      unfold jgd lyq
      rw [t02, tc 3 (by decide) (by decide), faX_pg pgu t01, laX_pg pgu t01]
      exact this
theorem fact_code {v : jU} {r a b : Int32} {X : Int32} (hX : (if m_isFact v r a b = 0 then (1 : Int32) else 0) = X) : cdx X 0 0 = if m_isFact v r a b = 0 then 1 else 0 := by
  rw [← hX]
  split <;> decide
theorem sim_give {u v : jU} (h : Rl u v) (r a b : Int32) : kc xIA xIA (pcFact u r a b) = (m_give v r a b).2 0 4 ∧ (pcFact u r a b = none → (pSG u r a b 1).1 = (m_give v r a b).1) ∧ Rl (pGive u r a b 1) (m_give v r a b).2 := by
  have hf := fact_uv h.2.2.2.1.1 h.1.1 h.1.2.2.1 r a b
  unfold m_give
  rw [refuse_eq, fact_code rfl]
  dsimp only
  by_cases c : m_isFact v r a b = 0
  · have hp := (pcFact_or u r a b).resolve_left (fun z => hf.mp z c)
    rw [if_pos c, if_neg (by decide), hp]
    dsimp only
    refine ⟨by rw [up_same]; decide, fun z => (by cases z), ?_⟩
    unfold pGive
    rw [hp, if_neg (by decide)]
    exact Rl_up4 h 1
  · have hp := hf.mpr c
    rw [if_neg c, if_pos (by decide), hp]
    dsimp only
    obtain ⟨s1, s2⟩ := sim_set h (z := 1) (Or.inr rfl) hp
    refine ⟨?_, fun _ => ?_, ?_⟩
    · rw [up_idx _ _ (by decide), up_rows _ _ _ (by decide), up_same]; decide
    · rw [s1, up_rows _ _ _ (by decide)]
      unfold gvr
      by_cases d : v 2 (mFx v r a b) = 0
      · rw [decide_eq_true d, if_pos d]; decide
      · rw [decide_eq_false d, if_neg d]; decide
    · unfold pGive
      rw [if_pos hp]
      exact s2
theorem sim_take {u v : jU} (h : Rl u v) (r a b : Int32) : kc xIA xIA (pcFact u r a b) = (m_take v r a b).2 0 4 ∧ (pcFact u r a b = none → (pSG u r a b 0).1 = (m_take v r a b).1) ∧ Rl (pGive u r a b 0) (m_take v r a b).2 := by
  have hf := fact_uv h.2.2.2.1.1 h.1.1 h.1.2.2.1 r a b
  unfold m_take
  rw [refuse_eq, fact_code rfl]
  dsimp only
  by_cases c : m_isFact v r a b = 0
  · have hp := (pcFact_or u r a b).resolve_left (fun z => hf.mp z c)
    rw [if_pos c, if_neg (by decide), hp]
    dsimp only
    refine ⟨by rw [up_same]; decide, fun z => (by cases z), ?_⟩
    unfold pGive
    rw [hp, if_neg (by decide)]
    exact Rl_up4 h 1
  · have hp := hf.mpr c
    rw [if_neg c, if_pos (by decide), hp]
    dsimp only
    obtain ⟨s1, s2⟩ := sim_set h (z := 0) (Or.inl rfl) hp
    refine ⟨?_, fun _ => ?_, ?_⟩
    · rw [up_idx _ _ (by decide), up_rows _ _ _ (by decide), up_same]; decide
    · rw [s1, up_rows _ _ _ (by decide)]
      have hlt : mFx v r a b < 1152 := (fact_ix h.2.2.2.1 c).2
      unfold gvr
      rcases h.2.2.2.1.2.2.2.2.2 _ hlt with d | d
      · rw [d]; decide
      · rw [d]; decide
    · unfold pGive
      rw [if_pos hp]
      exact s2
-- clear
theorem c1_spec (w : jU) : ∀ n, kp [2] w (itN mC1 n w) ∧ ∀ f, f < n → itN mC1 n w 2 f = 0 := by
  intro n
  induction n with
  | zero => exact ⟨kp.rf _ w, fun f hf => absurd hf (by omega)⟩
  | succ n ih =>
    obtain ⟨k1, a1⟩ := ih
    rw [itN_s]
    generalize itN mC1 n w = y at k1 a1 ⊢
    unfold mC1
    refine ⟨k1.tr (kp_up _ _ _ (by decide)), fun f hf => ?_⟩
    by_cases e : f = n
    · subst e; rw [up_same]
    · rw [up_idx _ _ e]; exact a1 f (by omega)
theorem sim_clear {u v : jU} (h : Rl u v) : Rl (pClear u) (mClear v) := by
  obtain ⟨hP, hW, hC, hV⟩ := h
  obtain ⟨f3, f4, f0, f1, fc⟩ := stale_flags (up (up (pFill u 2 96) 0 0 0) 0 1 0)
  have e : pClear u = pStale (up (up (pFill u 2 96) 0 0 0) 0 1 0) := rfl
  rw [← e] at f3 f4 f0 f1 fc
  have p00 : pClear u 0 0 = 0 := by rw [f0, up_idx _ _ (by decide), up_same]
  have p01 : pClear u 0 1 = 0 := by rw [f1, up_same]
  have pc : ∀ c, ¬ c = 0 → ¬ c = 2 → pClear u c = u c := fun c h0 h2 => by
    rw [fc c h0, up_rows _ _ _ h0, up_rows _ _ _ h0]
    funext j
    unfold pFill
    rw [if_neg (fun z => h2 z.1)]
  have p2 : ∀ k, k < 96 → pClear u 2 k = 0 := fun k hk => by
    rw [fc 2 (by decide), up_rows _ _ _ (by decide), up_rows _ _ _ (by decide)]
    unfold pFill
    rw [if_pos ⟨rfl, hk⟩]
  obtain ⟨k1, a1⟩ := c1_spec (mC0 v) 1152
  have em : mClear v = up (itN mC1 1152 (mC0 v)) 0 3 0 := rfl
  generalize itN mC1 1152 (mC0 v) = y at k1 a1 em
  have y0 : y 0 = mC0 v 0 := k1 0 (by decide)
  have z00 : mClear v 0 0 = 0 := by rw [em, up_idx _ _ (by decide), y0]; unfold mC0; rw [up_idx _ _ (by decide), up_same]
  have z01 : mClear v 0 1 = 0 := by rw [em, up_idx _ _ (by decide), y0]; unfold mC0; rw [up_same]
  have z03 : mClear v 0 3 = 0 := by rw [em, up_same]
  have zc : ∀ c, ¬ c = 0 → ¬ c = 2 → mClear v c = v c := fun c h0 h2 => by
    rw [em, up_rows _ _ _ h0, k1 c (by simp [h2])]
    unfold mC0
    rw [up_rows _ _ _ h0, up_rows _ _ _ h0, up_rows _ _ _ h0]
  have z2 : ∀ f, f < 1152 → mClear v 2 f = 0 := fun f hf => by rw [em, up_rows _ _ _ (by decide)]; exact a1 f hf
  have pgu : pgq u (pClear u) := ⟨pc 12 (by decide) (by decide), pc 16 (by decide) (by decide), pc 17 (by decide) (by decide), pc 18 (by decide) (by decide), pc 19 (by decide) (by decide)⟩
  have pgv : pgq v (mClear v) := ⟨zc 12 (by decide) (by decide), zc 16 (by decide) (by decide), zc 17 (by decide) (by decide), zc 18 (by decide) (by decide), zc 19 (by decide) (by decide)⟩
  have hg1 : ∀ f, f < 1152 → gvc (pClear u) f = false := fun f hf => by unfold gvc; rw [p2 _ (by omega), hb0]
  have hg2 : ∀ f, f < 1152 → gvr (mClear v) f = false := fun f hf => by unfold gvr; rw [z2 f hf]; rfl
  have t0 : tn (0 : Int32) = 0 := by decide
  refine ⟨⟨by rw [p00, z00], by rw [p01, z01], by rw [pc 1 (by decide) (by decide), zc 1 (by decide) (by decide)]; exact hP.2.2.1, (pgv.sy.tr hP.2.2.2.1).tr pgu, fun f hf => by rw [hg1 f hf, hg2 f hf]⟩, ?_, rC_0 f3 f4, ?_⟩
  · have hv6 : wfV (pClear u) := wfV_of hW.1.1.2.2 (pc 6 (by decide) (by decide))
    refine ⟨⟨wfM_R (wfR_pg pgu hW.2.1) hv6, by rw [p00]; exact inN_0 (by decide), by rw [p01]; exact inN_0 (by decide)⟩, wfR_pg pgu hW.2.1, fun c hc => by rw [pc 6 (by decide) (by decide)]; exact hW.2.2.1 c hc, fun f hf => by unfold frs; rw [pc 5 (by decide) (by decide)]; exact hW.2.2.2.1 f hf, ?_, fun f hf hg => ?_⟩
    · rw [p01, t0]; intro i hi; exact absurd hi (by omega)
    · rw [hg1 f hf] at hg; cases hg
  · have hD := hV.1
    refine ⟨⟨by rw [z00]; exact inN_0 (by decide), by rw [z01]; exact inN_0 (by decide), by rw [pgv.1]; exact hD.2.2.1, (wfR_pg pgv hD.R).2, wfU_of hD.2.2.2.2.1 (zc 6 (by decide) (by decide)), fun f hf => Or.inl (z2 f hf)⟩, ⟨by rw [z00]; exact inN_0 (by decide), fun f hf hne => absurd (z2 f hf) hne⟩, fun y => absurd z03 y⟩
-- unrule
theorem sim_unrule {u v : jU} (h : Rl u v) : kc xIS xIS (pcRule u) = m_unrule v 0 4 ∧ Rl (pUnrule u) (m_unrule v) := by
  have hh := h
  obtain ⟨hP, hW, hC, hV⟩ := h
  unfold m_unrule
  rw [refuse_eq]
  dsimp only
  by_cases c : u 0 1 = 0
  · have c' : v 0 1 = 0 := by rw [← hP.2.1]; exact c
    have hp : pcRule u = some xIS := by unfold pcRule; rw [if_pos c]
    have ec : cdx (if v 0 1 = 0 then 1 else 0) 0 0 = 1 := by rw [if_pos c']; decide
    rw [ec, if_neg (by decide), hp]
    refine ⟨by rw [up_same]; decide, ?_⟩
    unfold pUnrule
    rw [hp, if_neg (by decide)]
    exact Rl_up4 hh 1
  · have c' : ¬ v 0 1 = 0 := by rw [← hP.2.1]; exact c
    have hp : pcRule u = none := by unfold pcRule; rw [if_neg c]
    have ec : cdx (if v 0 1 = 0 then 1 else 0) 0 0 = 0 := by rw [if_neg c']; decide
    rw [ec, if_pos (by decide), hp]
    have hpos := rule_pos hW.1 hp
    have hix := rule_ix hW.1 hp
    have hK := hW.K
    obtain ⟨f3, f4, f0, f1, fc⟩ := stale_flags (up u 0 1 (u 0 1 - 1))
    have d1 : pUnrule u = pStale (up u 0 1 (u 0 1 - 1)) := by unfold pUnrule; rw [if_pos hp]
    rw [← d1] at f3 f4 f0 f1 fc
    have p00 : pUnrule u 0 0 = u 0 0 := by rw [f0, up_idx _ _ (by decide)]
    have p01 : pUnrule u 0 1 = nI (tn (u 0 1) - 1) := by rw [f1, up_same, hix]
    have tp : tn (pUnrule u 0 1) = tn (u 0 1) - 1 := by rw [p01]; exact nI_clamp (by omega)
    have pc : ∀ c, ¬ c = 0 → pUnrule u c = u c := fun c h0 => by rw [fc c h0, up_rows _ _ _ h0]
    generalize hz : up (up (up v 0 4 0) 0 1 (up v 0 4 0 0 1 - 1)) 0 3 0 = z
    have z00 : z 0 0 = v 0 0 := by rw [← hz, up_idx _ _ (by decide), up_idx _ _ (by decide), up_idx _ _ (by decide)]
    have z01 : z 0 1 = v 0 1 - 1 := by rw [← hz, up_idx _ _ (by decide), up_same, up_idx _ _ (by decide)]
    have z03 : z 0 3 = 0 := by rw [← hz, up_same]
    have z04 : z 0 4 = 0 := by rw [← hz, up_idx _ _ (by decide), up_idx _ _ (by decide), up_same]
    have zc : ∀ c, ¬ c = 0 → z c = v c := fun c h0 => by rw [← hz, up_rows _ _ _ h0, up_rows _ _ _ h0, up_rows _ _ _ h0]
    have pgu : pgq u (pUnrule u) := ⟨pc 12 (by decide), pc 16 (by decide), pc 17 (by decide), pc 18 (by decide), pc 19 (by decide)⟩
    have pgv : pgq v z := ⟨zc 12 (by decide), zc 16 (by decide), zc 17 (by decide), zc 18 (by decide), zc 19 (by decide)⟩
    have e01 : z 0 1 = nI (tn (u 0 1) - 1) := by rw [z01, ← hP.2.1, hix]
    have hlt := hW.1.2.2.2
    refine ⟨by rw [z04]; decide, ⟨p00.trans (hP.1.trans z00.symm), by rw [p01, e01], (pc 1 (by decide)).trans (hP.2.2.1.trans (zc 1 (by decide)).symm), (pgv.sy.tr hP.2.2.2.1).tr pgu, fun f hf => by rw [gvc_c (pc 2 (by decide)), gvr_c (zc 2 (by decide))]; exact hP.2.2.2.2 f hf⟩, ?_, rC_0 f3 f4, ?_⟩
    · have hv6 : wfV (pUnrule u) := wfV_of hW.1.1.2.2 (pc 6 (by decide))
      refine ⟨⟨wfM_R (wfR_pg pgu hW.2.1) hv6, by rw [p00]; exact hW.1.2.1, by rw [p01]; exact inN_nI (by omega) (by decide)⟩, wfR_pg pgu hW.2.1, fun c hc => by rw [pc 6 (by decide)]; exact hW.2.2.1 c hc, fun f hf => by unfold frs; rw [pc 5 (by decide)]; exact hW.2.2.2.1 f hf, ?_, by rw [p00, gvc_c (pc 2 (by decide))]; exact hW.2.2.2.2.2⟩
      rw [tp, p00, pgu.2.1]
      intro i hi
      obtain ⟨a1, a2, a3⟩ := hW.2.2.2.2.1 i (by omega)
      exact ⟨msk_c pgu (pc 13 (by decide)) (pc 14 (by decide)) a1, m15_c pgu (pc 15 (by decide)) a2, a3⟩
    · have hD := hV.1
      exact ⟨⟨by rw [z00]; exact hD.1, by rw [e01]; exact inN_nI (by omega) (by decide), by rw [pgv.1]; exact hD.2.2.1, (wfR_pg pgv hD.R).2, wfU_of hD.2.2.2.2.1 (zc 6 (by decide)), by rw [zc 2 (by decide)]; exact hD.2.2.2.2.2⟩, gok_c z00 (zc 2 (by decide)) hV.2.1, fun y => absurd z03 y⟩
