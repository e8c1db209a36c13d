-- class and reference side by side: ways and proofs
/-- the literals of a rule lie in its head's layer or below, those with 'not' below -/
theorem strat {u : jU} (hR : wfR u) (hK : tn (u 0 1) ≤ 16) (hf : faX u = -1) {i q : Nat} (hi : i < tn (u 0 1)) (hq : q < tn (u 12 i)) : laX u (tn (u 16 (5 * i + 1 + q))) + (if u 19 (5 * i + 1 + q) = 0 then 0 else 1) ≤ laX u (tn (u 16 (5 * i))) := by
  have h := (laX_is (faX_ok hK hf)).1 i hi q hq
  have e : rH u i = tn (u 16 (5 * i)) := by unfold rH; rw [if_pos (by omega)]
  rw [e] at h
  exact h
theorem fcx_div {u : jU} {x : Nat → Nat} (hx : ∀ v, x v < 12) {j : Nat} (hB : wfB u j) : fcx u x j / 144 = tn (u 16 j) := by
  have h1 := tvx_lt hx hB.2.1
  have h2 := tvx_lt hx hB.2.2.1
  unfold fcx
  omega
/-- two sights that agree on the layers up to the head's agree on the rule -/
theorem mtx_lay {u : jU} (hR : wfR u) (hK : tn (u 0 1) ≤ 16) (hf : faX u = -1) {h h' : Nat → Bool} {i : Nat} (hi : i < tn (u 0 1)) (he : ∀ g, g < 1152 → laX u (g / 144) ≤ laX u (tn (u 16 (5 * i))) → h g = h' g) {x : Nat → Nat} (hx : ∀ v, x v < 12) : mtx u h x i ↔ mtx u h' x i := by
  have hs := (hR.1 i (by omega)).2
  have key : ∀ q, q < tn (u 12 i) → h (fcx u x (5 * i + 1 + q)) = h' (fcx u x (5 * i + 1 + q)) := by
    intro q hq
    have hB := hR.2 (5 * i + 1 + q) (by omega)
    refine he _ (fcx_lt hx hB) ?_
    rw [fcx_div hx hB]
    have := strat hR hK hf hi hq
    omega
  constructor
  · intro z q hq; rw [← key q hq]; exact z q hq
  · intro z q hq; rw [key q hq]; exact z q hq
def hwx (M : Nat → Nat) (ρ : Nat → Int32) (ly : Nat) : Nat → Bool := fun g => decide (¬ ρ g = -1 ∧ M (g / 144) ≤ ly)
theorem rkb_max {x : Int32} (h : x = -1 ∨ inN x 1154) : rkb x 2147483647 ↔ ¬ x = -1 := by
  unfold rkb
  refine ⟨fun z => z.1, fun z => ⟨z, fun y => ?_⟩⟩
  have h1 := h.resolve_left z
  have h2 := (inN_leN (n := 2147483646) h1 (by decide) (by decide)).mpr (by have := h1.2; omega)
  exact absurd (Int32.le_trans y h2) (by decide)
/-- what the class sees, looking for ways -/
theorem see_w {s : jU} {M : Nat → Nat} {ρ : Nat → Int32} (h0 : inN (s 0 0) 9) (hM : lyq s M) (h7 : ∀ r, r < 8 → M r ≤ 7) (hr4 : eqr (s 4) ρ) (hρ : rok (tn (s 0 0)) ρ) {ly : Nat} (hly : ly ≤ 7) : sP (pLook (nI ly) 2147483647 s) (fun f => hwx M ρ ly f = true) := by
  refine sP_iff (fun f hf => ?_) (look_spec h0 (nI ly) 2147483647)
  unfold lkP hwx
  have h1 := h7 (f / 144) (by omega)
  rw [hM _ (by omega), hr4 f hf, decide_eq_true_iff, nI_eq (by omega) (by omega), nI_ltI (by omega) (by omega), rkb_max ((hρ f hf).imp id (fun z => z.1))]
  constructor
  · rintro ⟨-, z | z⟩
    · exact ⟨z.2, by omega⟩
    · exact ⟨z.2, by omega⟩
  · rintro ⟨z1, z2⟩
    refine ⟨((hρ f hf).resolve_left z1).2, ?_⟩
    rcases Nat.lt_or_ge (M (f / 144)) ly with c | c
    · exact Or.inr ⟨c, z1⟩
    · exact Or.inl ⟨by omega, z1⟩
/-- what the class sees, looking for a proof -/
theorem see_p {s : jU} {M : Nat → Nat} {ρ : Nat → Int32} (h0 : inN (s 0 0) 9) (hM : lyq s M) (h7 : ∀ r, r < 8 → M r ≤ 7) (hr4 : eqr (s 4) ρ) (hρ : rok (tn (s 0 0)) ρ) {ly : Nat} (hly : ly ≤ 7) {rk : Int32} (hrk : inN rk 1154) : sP (pLook (nI ly) rk s) (fun f => hlx M ρ ly (tn rk) f = true) := by
  refine sP_iff (fun f hf => ?_) (look_spec h0 (nI ly) rk)
  unfold lkP
  have h1 := h7 (f / 144) (by omega)
  rw [hM _ (by omega), hr4 f hf, hlx_t, nI_eq (by omega) (by omega), nI_ltI (by omega) (by omega), rkb_max ((hρ f hf).imp id (fun z => z.1))]
  have hlt : ¬ ρ f = -1 → (¬ rk ≤ ρ f ↔ tn (ρ f) < tn rk) := by
    intro z
    have h2 := ((hρ f hf).resolve_left z).1
    have h3 : rk ≤ ρ f ↔ tn rk ≤ tn (ρ f) := by
      have := inN_leN (n := tn (ρ f)) hrk (by decide) (by have := h2.2; omega)
      rw [← h2.1] at this
      exact this
    rw [h3]; omega
  constructor
  · rintro ⟨-, ⟨z1, z2, z3⟩ | ⟨z1, z2⟩⟩
    · exact ⟨z2, Or.inr ⟨z1, (hlt z2).mp z3⟩⟩
    · exact ⟨z2, Or.inl z1⟩
  · rintro ⟨z1, z2⟩
    refine ⟨((hρ f hf).resolve_left z1).2, ?_⟩
    rcases z2 with z2 | ⟨z2, z3⟩
    · exact Or.inr ⟨z2, z1⟩
    · exact Or.inl ⟨z2, z1, (hlt z1).mpr z3⟩
theorem grd_of {s y : jU} (hW : rW s) (hk : kp [7, 8, 9, 10, 11] s y) {h : Nat → Bool} (hs : sP y (fun f => h f = true)) : tn (y 0 1) = tn (s 0 1) ∧ (∀ i, i < tn (y 0 1) → grd y h i) ∧ rst y y := by
  have e0 : y 0 = s 0 := hk 0 (by decide)
  have pg : pgq s y := hk.pg (by decide)
  refine ⟨by rw [e0], fun i hi => ⟨wfR_pg pg hW.2.1, hs, m13_c pg (hk 13 (by decide)) (m13_of (hW.2.2.2.2.1 i (by rw [← e0]; exact hi)).1)⟩, kp.rf _ y, fun c hc => by rw [hk 6 (by decide)]; exact hW.2.2.1 c hc, wfV_of hW.1.1.2.2 (hk 6 (by decide))⟩
theorem rk_rng {u v : jU} (h : Rl u v) {f : Nat} (hf : f < 1152) : rkX u (gvc u) f = -1 ∨ inN (rkX u (gvc u) f) 1154 := (rok_X h f hf).imp id (fun z => z.1)
theorem rV_k6 {w t : jU} (hk : kp [6] w t) (hU : wfU t) (hV : rV w) : rV t ∧ smV w t := by
  have s : smV w t := ⟨by rw [hk 0 (by decide)], by rw [hk 0 (by decide)], fun c hc => hk c (by revert c; decide)⟩
  refine ⟨rV_sv s hU hV (fun z => ?_), s⟩
  rw [hk 0 (by decide)] at z
  exact kwn_c (by rw [hk 0 (by decide)]) (hk 3 (by decide)) (hk 4 (by decide)) (hV.2.2 z)
theorem sim_ways {u v : jU} (h : Rl u v) (r a b : Int32) : kc xIA xIS (pcAsk (pcFact u r a b) u) = (m_ways v r a b).2 0 4 ∧ (pcAsk (pcFact u r a b) u = none → (pWy u r a b).1 = (m_ways v r a b).1) ∧ Rl (pAskW u r a b) (m_ways v r a b).2 := by
  obtain ⟨g1, g2, g3, g4⟩ := find_rel h
  obtain ⟨k1, k2⟩ := ask_code h (fact_uv g1 g2 g4 r a b) (pcFact_or u r a b)
  unfold m_ways
  rw [refuse_eq]
  dsimp only
  by_cases c : cdx (if m_isFact (mFind v) r a b = 0 then 1 else 0) (if m_isFact (mFind v) r a b = 0 then 0 else (if mFind v 0 2 < 0 then 0 else 1)) 0 = 0
  · rw [c] at k1 ⊢
    rw [if_pos rfl, if_pos rfl]
    have hn := k2.mpr c
    obtain ⟨n1, n2⟩ := ask_none hn
    have hfa := fault_neg h n2
    have hj := JS_U h n2
    have hRJ := Rl_JS h n2
    have hr8 := rel_in h.2.1.1 (fact_rel n1)
    have ha := fact_fst n1
    have hb' := fact_snd n1
    have hK := h.2.1.K
    have hx := faX_ok hK hfa
    have h7 := laX_7 h.2.1.2.1 hK hx
    have hW := hj.2.1
    have sm := hj.2.2.2.1
    have hly := hj.2.2.2.2.1
    have hr4 := hj.2.2.2.2.2.1
    have hρ : rok (tn (pJS u 0 0)) (rkX u (gvc u)) := by rw [sm.1]; exact rok_X h
    have e3 : pJS u 3 (tn r) = nI (laX u (tn r)) := hly _ hr8.2
    -- the reference's side
    have hV := find_V h.2.2.2
    have hw4 : eqr (mFind v 4) (rkX u (gvc u)) := (hV.2.2.1.2 (by rw [← fa_uv h]; exact hfa)).tr (rk_uv h).sy
    have pgw : pgq u (up (mFind v) 0 4 0) := (h.1.2.2.2.1.sy).tr (hV.2.2.2.1.pg.tr (up4_sv (mFind v) 0).pg)
    have e4 : up (mFind v) 0 4 0 4 = mFind v 4 := up_rows _ _ _ (by decide)
    have e01 : tn (mFind v 0 1) = tn (u 0 1) := by rw [g3]
    have hfx : mFx (mFind v) r a b = pFx u r a b := (fx_uv g4 r a b).symm
    have hlt : pFx u r a b < 1152 := fact2_lt hr8 ha hb'
    have hdv : pFx u r a b / 144 = tn r := by
      have := ha.2; have := hb'.2
      unfold pFx
      omega
    have hwk := wk_spec (w := up (mFind v) 0 4 0) (wfR_pg pgw h.2.1.2.1) hr8 hlt hdv (tn (u 0 1)) hK
    have edW : mWy (mFind v) r a b = itG (mWk r (pFx u r a b)) (tn (u 0 1)) (0, up (mFind v) 0 4 0) := by
      unfold mWy
      rw [hfx, e01]
    rw [edW]
    -- the class's side
    have kl := pLook_kp (pJS u 3 (tn r)) 2147483647 (pJS u)
    have hsee := see_w hW.1.2.1 hly h7 hr4 hρ (h7 _ hr8.2)
    rw [← e3] at hsee
    obtain ⟨q1, q2, q3⟩ := grd_of hW kl hsee
    have edC : pWy u r a b = pWays r (nI (tn (pFst u r a))) (nI (tn (pSnd u r b))) (tn (u 0 1)) 0 (nI 0) (pLook (pJS u 3 (tn r)) 2147483647 (pJS u)) := by
      unfold pWy
      rw [← ha.1, ← hb'.1]
      rfl
    generalize hy : pLook (pJS u 3 (tn r)) 2147483647 (pJS u) = y at kl hsee q1 q2 q3 edC
    have ey1 : tn (y 0 1) = tn (u 0 1) := by rw [q1, sm.2.1]
    have pgy : pgq u y := sm.pg.tr (kl.pg (by decide))
    have hwc := ways_c q2 (by rw [ey1]; exact hK) hr8 ha.2 hb'.2 (tn (u 0 1)) 0 0 y (by rw [ey1]; omega) q3
    rw [← edC] at hwc
    have hfe : 144 * tn r + 12 * tn (pFst u r a) + tn (pSnd u r b) = pFx u r a b := by unfold pFx; omega
    rw [hfe] at hwc
    have hterm : ∀ i, i < tn (u 0 1) → wcx y (hwx (laX u) (rkX u (gvc u)) (laX u (tn r))) (0 + i) (pFx u r a b) = wcx (up (mFind v) 0 4 0) (hol (up (mFind v) 0 4 0)) i (pFx u r a b) := by
      intro i hi
      rw [Nat.zero_add, wcx_pg pgy, wcx_pg pgw]
      by_cases d : pFx u r a b / 144 = tn (u 16 (5 * i))
      · unfold wcx
        refine sm_congr (fun m _ => cnf_iff ?_)
        have hm := mtx_lay (x := dg (mkx u i) m) h.2.1.2.1 hK hfa hi (h := hwx (laX u) (rkX u (gvc u)) (laX u (tn r))) (h' := hol (up (mFind v) 0 4 0)) (fun g hg hle => bool_iff ?_) (dg_lt _ _)
        · rw [hm]
        · rw [← d, hdv] at hle
          have hh : hol (up (mFind v) 0 4 0) g = true ↔ hrx (rkX u (gvc u)) g = true := by
            unfold hol hrx
            rw [e4, hw4 g hg]
          rw [hh, rok_hrx (rok_X h) hg]
          unfold hwx
          rw [decide_eq_true_iff]
          exact ⟨fun z => z.1, fun z => ⟨z, hle⟩⟩
      · rw [wcx_no h.2.1.2.1 (by omega) d, wcx_no h.2.1.2.1 (by omega) d]
    refine ⟨?_, fun _ => ?_, ?_⟩
    · rw [hwk.1 0 (by decide), up_same]; exact k1
    · rw [hwc.2.2, hwk.2, Nat.zero_add]
      exact congrArg nI (sm_congr hterm)
    · unfold pAskW
      rw [if_pos n1, if_pos n2]
      have hC := hj.2.2.1
      have hk2 : kp [6, 7, 8, 9, 10, 11] (pJS u) (pWy u r a b).2 := (kl.wid (by decide)).tr (hwc.2.1.kp (by decide))
      obtain ⟨l1, l2, l3⟩ := look_U hk2 hwc.1.2.1 hwc.1.2.2 hW hC
      have hU : mE (up (mFind v) 0 4 0) (itG (mWk r (pFx u r a b)) (tn (u 0 1)) (0, up (mFind v) 0 4 0)).2 := itG_inv (P := fun x : Int32 × jU => mE (up (mFind v) 0 4 0) x.2) (mE.rf (Rl_up4 (Rl_find h) 0).2.2.2.1.2.2.2.2.1) _ (fun q x _ hx => mE.wn _ _ _ _ _ _ _ hx)
      have hk6 := hwk.1
      generalize itG (mWk r (pFx u r a b)) (tn (u 0 1)) (0, up (mFind v) 0 4 0) = t at hk6 hU ⊢
      obtain ⟨v1, v2⟩ := rV_k6 hk6 hU.2 (Rl_up4 (Rl_find h) 0).2.2.2
      exact ⟨rP_sv v2 (rP_sm (sm.tr l3) (Rl_up4 (Rl_find h) 0).1), l1, l2, v1⟩
  · rw [if_neg (by rw [if_neg c]; decide)]
    dsimp only
    refine ⟨by rw [up_same]; exact k1, fun hn => absurd (k2.mp hn) c, ?_⟩
    unfold pAskW
    by_cases d : pcFact u r a b = none
    · rw [if_pos d]
      by_cases e : pcFault u = none
      · exact absurd (k2.mp (by unfold pcAsk; rw [if_pos d]; exact e)) c
      · rw [if_neg e]; exact Rl_judge (Rl_up4 (Rl_find h) _)
    · rw [if_neg d]; exact Rl_up4 (Rl_find h) _
