-- class and reference side by side: proofs
theorem mE.pk {u : jU} (r : Int32) (fx : Nat) (t : Int32) : ∀ (d i : Nat) (w : jU), mE u w → mE u (mPk r fx t d i w).2 := by
  intro d
  induction d with
  | zero => intro i w h; exact h
  | succ d ih =>
    intro i w h
    have h1 := mE.pn r fx i t mFuel 0 w h
    have e : mPk r fx t (d + 1) i w = mPx (fun y => mPk r fx t d (i + 1) y.2) (mPn r fx i t mFuel 0 w) := rfl
    rw [e]
    generalize mPn r fx i t mFuel 0 w = y at h1 ⊢
    obtain ⟨y1, y2⟩ := y
    cases y1 with
    | none => exact ih (i + 1) y2 h1
    | some a => exact h1
theorem in4_iff (t : Int32) : m_in t 0 4 = 0 ↔ ¬ (¬ t < 0 ∧ t ≤ 4) := by
  unfold m_in
  by_cases c1 : t < 0
  · rw [if_pos c1]; simp [c1]
  · rw [if_neg c1]
    by_cases c2 : (4 : Int32) < t
    · rw [if_pos c2]
      have : ¬ t ≤ 4 := Int32.not_le.mpr c2
      simp [this]
    · rw [if_neg c2]
      have : t ≤ 4 := Int32.not_lt.mp c2
      simp [this, c1]
theorem is_uv {u w : jU} (h : inN (w 0 0) 9) (h0 : u 0 0 = w 0 0) (h1 : u 1 = w 1) (r a b t : Int32) : ¬ mIs w r a b t = 0 ↔ pcFact u r a b = none ∧ ¬ t < 0 ∧ t ≤ 4 := by
  have hf := fact_uv h h0 h1 r a b
  have ht := in4_iff t
  unfold mIs
  by_cases c1 : m_isFact w r a b = 0
  · rw [if_pos c1]
    have : ¬ pcFact u r a b = none := fun z => hf.mp z c1
    simp [this]
  · rw [if_neg c1, hf]
    by_cases c2 : m_in t 0 4 = 0
    · rw [if_pos c2]
      have := ht.mp c2
      constructor
      · intro z; exact absurd rfl z
      · intro z; exact absurd z.2 this
    · rw [if_neg c2]
      have : ¬ t < 0 ∧ t ≤ 4 := Classical.byContradiction (fun z => c2 (ht.mpr z))
      exact ⟨fun _ => ⟨c1, this⟩, fun _ => by decide⟩
theorem lower_uv {u : jU} (hR : wfR u) (hK : tn (u 0 1) ≤ 16) (hf : faX u = -1) {w : jU} (pg : pgq u w) {ρ : Nat → Int32} {cnt : Nat} (hρ : rok cnt ρ) (h4 : eqr (w 4) ρ) (h3 : lyq w (laX u)) (h7 : ∀ r, r < 8 → laX u r ≤ 7) {rk : Int32} (hrk : inN rk 1154) {i : Nat} (hi : i < tn (u 0 1)) {x : Nat → Nat} (hx : ∀ v, x v < 12) :
    (mtx u (hol w) x i ∧ lwx w x i rk) ↔ mtx u (hlx (laX u) ρ (laX u (tn (u 16 (5 * i)))) (tn rk)) x i := by
  have hs := (hR.1 i (by omega)).2
  have hBh := hR.2 (5 * i) (by omega)
  have key : ∀ q, q < tn (u 12 i) → ((hol w (fcx u x (5 * i + 1 + q)) = decide (u 19 (5 * i + 1 + q) = 0) ∧ (u 19 (5 * i + 1 + q) = 0 → w 3 (tn (u 16 (5 * i + 1 + q))) < w 3 (tn (u 16 (5 * i))) ∨ ¬ rk ≤ w 4 (fcx u x (5 * i + 1 + q)))) ↔ hlx (laX u) ρ (laX u (tn (u 16 (5 * i)))) (tn rk) (fcx u x (5 * i + 1 + q)) = decide (u 19 (5 * i + 1 + q) = 0)) := by
    intro q hq
    have hB := hR.2 (5 * i + 1 + q) (by omega)
    have hg := fcx_lt hx hB
    have hd := fcx_div hx hB
    have hst := strat hR hK hf hi hq
    have l1 := h3 _ hB.1.2
    have l2 := h3 _ hBh.1.2
    have b1 := h7 _ hB.1.2
    have b2 := h7 _ hBh.1.2
    rw [l1, l2, nI_ltI (by omega) (by omega)]
    generalize fcx u x (5 * i + 1 + q) = g at hg hd ⊢
    have hh : hol w g = true ↔ ¬ ρ g = -1 := by
      rw [← rok_hrx hρ hg]
      unfold hol hrx
      rw [h4 g hg]
    have hlt : ¬ ρ g = -1 → (¬ rk ≤ w 4 g ↔ tn (ρ g) < tn rk) := by
      intro z
      rw [h4 g hg]
      have h2 := ((hρ g hg).resolve_left z).1
      have h3 : rk ≤ ρ g ↔ tn rk ≤ tn (ρ g) := by
        have := inN_leN (n := tn (ρ g)) hrk (by decide) (by have := h2.2; omega)
        rw [← h2.1] at this
        exact this
      rw [h3]; omega
    by_cases z : u 19 (5 * i + 1 + q) = 0
    · rw [decide_eq_true z, hlx_t, hh, hd]
      rw [if_pos z] at hst
      constructor
      · rintro ⟨a, b⟩
        refine ⟨a, ?_⟩
        rcases b z with c | c
        · exact Or.inl c
        · have := (hlt a).mp c
          rcases Nat.lt_or_ge (laX u (tn (u 16 (5 * i + 1 + q)))) (laX u (tn (u 16 (5 * i)))) with e | e
          · exact Or.inl e
          · exact Or.inr ⟨by omega, this⟩
      · rintro ⟨a, b⟩
        refine ⟨a, fun _ => ?_⟩
        rcases b with c | c
        · exact Or.inl c
        · exact Or.inr ((hlt a).mpr c.2)
    · rw [decide_eq_false z]
      rw [if_neg z] at hst
      have h9 : hlx (laX u) ρ (laX u (tn (u 16 (5 * i)))) (tn rk) g = hol w g := bool_iff (by
        rw [hlx_t, hh, hd]
        exact ⟨fun y => y.1, fun y => ⟨y, Or.inl (by omega)⟩⟩)
      rw [h9]
      exact ⟨fun y => y.1, fun y => ⟨y, fun c => absurd c z⟩⟩
  unfold mtx lwx
  rw [pg.1, pg.2.1, pg.2.2.2.2]
  constructor
  · rintro ⟨a, b⟩ q hq
    refine (key q hq).mp ⟨a q hq, fun z => ?_⟩
    have := b q hq z
    rw [fcx_pg pg] at this
    exact this
  · intro a
    refine ⟨fun q hq => ((key q hq).mpr (a q hq)).1, fun q hq z => ?_⟩
    rw [fcx_pg pg]
    exact ((key q hq).mpr (a q hq)).2 z
/-- the class and the reference find the same proof -/
theorem proof_uv {u v : jU} (h : Rl u v) {r a b t : Int32} (n1 : pcFact u r a b = none) (n2 : pcFault u = none) (ht : inN t 5) (hr1 : ¬ pJS u 4 (pFx u r a b) = -1) (hr0 : ¬ pJS u 4 (pFx u r a b) = 0) :
    (if t = 0 then (pPr u r a b).1 else (pPr u r a b).2 6 (19 + tn t)) = (mPk r (mFx (mFind v) r a b) t (tn (mFind v 0 1)) 0 (up (mFind v) 0 4 0)).1 ∧ Rl (pPr u r a b).2 (mPk r (mFx (mFind v) r a b) t (tn (mFind v 0 1)) 0 (up (mFind v) 0 4 0)).2 ∧ (mPk r (mFx (mFind v) r a b) t (tn (mFind v 0 1)) 0 (up (mFind v) 0 4 0)).2 0 4 = 0 := by
  obtain ⟨g1, g2, g3, g4⟩ := find_rel h
  have hfa := fault_neg h n2
  have hj := JS_U h n2
  have hr8 := rel_in h.2.1.1 (fact_rel n1)
  have ha := fact_fst n1
  have hb' := fact_snd n1
  have hK := h.2.1.K
  have hR := h.2.1.2.1
  have hx := faX_ok hK hfa
  have h7 := laX_7 hR hK hx
  have hW := hj.2.1
  have sm := hj.2.2.2.1
  have hly := hj.2.2.2.2.1
  have hr4 := hj.2.2.2.2.2.1
  have hρu := rok_X h
  have hρ : rok (tn (pJS u 0 0)) (rkX u (gvc u)) := by rw [sm.1]; exact hρu
  have e3 : pJS u 3 (tn r) = nI (laX u (tn r)) := hly _ hr8.2
  have hfx : mFx (mFind v) r a b = pFx u r a b := (fx_uv g4 r a b).symm
  have hlt : pFx u r a b < 1152 := fact2_lt hr8 ha hb'
  have hdv : pFx u r a b / 144 = tn r := by
    have := ha.2; have := hb'.2
    unfold pFx
    omega
  have hfe : 144 * tn r + 12 * tn (pFst u r a) + tn (pSnd u r b) = pFx u r a b := by unfold pFx; omega
  have erk := hr4 _ hlt
  have hrkn : inN (rkX u (gvc u) (pFx u r a b)) 1154 := (rk_rng h hlt).resolve_left (by rw [← erk]; exact hr1)
  -- the reference's side
  have hV := find_V h.2.2.2
  have hw4 : eqr (mFind v 4) (rkX u (gvc u)) := (hV.2.2.1.2 (by rw [← fa_uv h]; exact hfa)).tr (rk_uv h).sy
  have pgw : pgq u (up (mFind v) 0 4 0) := (h.1.2.2.2.1.sy).tr (hV.2.2.2.1.pg.tr (up4_sv (mFind v) 0).pg)
  have e4 : up (mFind v) 0 4 0 4 = mFind v 4 := up_rows _ _ _ (by decide)
  have e33 : up (mFind v) 0 4 0 3 = mFind v 3 := up_rows _ _ _ (by decide)
  have e01 : tn (mFind v 0 1) = tn (u 0 1) := by rw [g3]
  have hlyw : lyq (up (mFind v) 0 4 0) (laX u) := by
    unfold lyq
    rw [e33, la_uv h]
    exact hV.2.2.1.1.2 (by rw [← fa_uv h]; exact hfa)
  rw [hfx, e01]
  obtain ⟨pk1, pk2⟩ := pk_spec (w := up (mFind v) 0 4 0) (wfR_pg pgw hR) hr8 hlt hdv ht (tn (u 0 1)) 0 (up (mFind v) 0 4 0) (by omega) (kp.rf _ _)
  have hU := mE.pk (u := up (mFind v) 0 4 0) r (pFx u r a b) t (tn (u 0 1)) 0 (up (mFind v) 0 4 0) (mE.rf (Rl_up4 (Rl_find h) 0).2.2.2.1.2.2.2.2.1)
  -- the class's side
  have kl := pLook_kp (pJS u 3 (tn r)) (pJS u 4 (pFx u r a b)) (pJS u)
  have hsee := see_p hW.1.2.1 hly h7 hr4 hρ (h7 _ hr8.2) hrkn
  rw [← e3, ← erk] at hsee
  obtain ⟨q1, q2, q3⟩ := grd_of hW kl hsee
  have edC : pPr u r a b = pLR r (nI (tn (pFst u r a))) (nI (tn (pSnd u r b))) (tn (u 0 1)) 0 (pLook (pJS u 3 (tn r)) (pJS u 4 (pFx u r a b)) (pJS u)) := by
    unfold pPr
    rw [← ha.1, ← hb'.1]
  generalize hy : pLook (pJS u 3 (tn r)) (pJS u 4 (pFx u r a b)) (pJS u) = y at kl hsee q1 q2 q3 edC
  have ey1 : tn (y 0 1) = tn (u 0 1) := by rw [q1, sm.2.1]
  have pgy : pgq u y := sm.pg.tr (kl.pg (by decide))
  obtain ⟨c1, c2, c3⟩ := lr_c q2 (by rw [ey1]; exact hK) hr8 ha.2 hb'.2 (tn (u 0 1)) 0 y (by rw [ey1]; omega) q3
  rw [← edC, hfe] at c3
  rw [← edC] at c1 c2
  -- both look for the same
  have hsame : ∀ i, i < tn (u 0 1) → ∀ m, gdx (up (mFind v) 0 4 0) (pFx u r a b) (up (mFind v) 0 4 0 4 (pFx u r a b)) i m ↔ gcx y (hlx (laX u) (rkX u (gvc u)) (laX u (tn r)) (tn (pJS u 4 (pFx u r a b)))) (pFx u r a b) i m := by
    intro i hi m
    unfold gdx gcx
    rw [mkx_pg pgw, mkx_pg pgy, fcx_pg pgw, fcx_pg pgy, mtx_pg pgw, mtx_pg pgy]
    by_cases d : fcx u (dg (mkx u i) m) (5 * i) = pFx u r a b
    · have hrel : tn (u 16 (5 * i)) = tn r := by
        rw [← hdv, ← d]; exact (fcx_div (dg_lt _ _) (hR.2 _ (by omega))).symm
      have hl := lower_uv (x := dg (mkx u i) m) hR hK hfa pgw hρu (by rw [e4]; exact hw4) hlyw h7 hrkn hi (dg_lt _ _)
      rw [hrel, ← erk] at hl
      rw [← hl]
      have e5 : up (mFind v) 0 4 0 4 (pFx u r a b) = pJS u 4 (pFx u r a b) := by rw [e4, hw4 _ hlt, erk]
      rw [e5]
    · exact ⟨fun z => absurd z.2.1 d, fun z => absurd z.2.1 d⟩
  -- there is one
  have hex : ∃ i, i < tn (u 0 1) ∧ ∃ m, gcx y (hlx (laX u) (rkX u (gvc u)) (laX u (tn r)) (tn (pJS u 4 (pFx u r a b)))) (pFx u r a b) i m := by
    have hs3 : eqr (abx (pJS u) (pJS u 3) (gvc (pJS u)) 9) (rkX u (gvc u)) := by
      unfold rkX
      exact abx_e sm.pg sm.2.1 hR hK (fun q hq => hly q hq) (fun f _ => by rw [gvc_c (sm.2.2 2 (by decide))]) 9
    have hx1 := abx_ex hW.2.1 hW.K hly h7 (gvc (pJS u)) hlt (by rw [hs3 _ hlt, ← erk]; exact hr1) (by rw [hs3 _ hlt, ← erk]; exact hr0)
    obtain ⟨i, hi, hd⟩ := hx1
    rw [sm.2.1] at hi
    rw [hdv, hs3 _ hlt, ← erk] at hd
    refine ⟨i, hi, ?_⟩
    have hd2 := (dvx_h hW.2.1 (h' := hlx (laX u) (rkX u (gvc u)) (laX u (tn r)) (tn (pJS u 4 (pFx u r a b)))) (fun g hg => by unfold hlx; rw [hs3 g hg]) (by omega) _).mp hd
    rw [dvx_pg sm.pg, ← dvx_pg pgy] at hd2
    obtain ⟨m, -, m1, m2, m3⟩ := (nmx_dv (wfR_pg pgy hR) (by omega)).mpr hd2
    exact ⟨m, m1, m3, m2⟩
  obtain ⟨i1, hi1, hm1⟩ := hex
  obtain ⟨i0, ⟨hi0, hm0⟩, hmin⟩ := low_ex (fun i => i < tn (u 0 1) ∧ ∃ m, gcx y (hlx (laX u) (rkX u (gvc u)) (laX u (tn r)) (tn (pJS u 4 (pFx u r a b)))) (pFx u r a b) i m) i1 ⟨hi1, hm1⟩
  obtain ⟨mm, hmm⟩ := hm0
  obtain ⟨m0, hm0, hmin2⟩ := low_ex (fun m => gcx y (hlx (laX u) (rkX u (gvc u)) (laX u (tn r)) (tn (pJS u 4 (pFx u r a b)))) (pFx u r a b) i0 m) mm hmm
  have hbe : ∀ i', 0 ≤ i' → i' < i0 → ∀ m, ¬ gcx y (hlx (laX u) (rkX u (gvc u)) (laX u (tn r)) (tn (pJS u 4 (pFx u r a b)))) (pFx u r a b) i' m := fun i' _ hl m hg => absurd (hmin i' ⟨by omega, m, hg⟩) (by omega)
  have hbm : ∀ m, m < m0 → ¬ gcx y (hlx (laX u) (rkX u (gvc u)) (laX u (tn r)) (tn (pJS u 4 (pFx u r a b)))) (pFx u r a b) i0 m := fun m hl hg => absurd (hmin2 m hg) (by omega)
  obtain ⟨z1, z2⟩ := c3 i0 m0 (Nat.zero_le _) (by omega) hm0 hbe hbm
  have z3 := pk2 i0 m0 (Nat.zero_le _) (by omega) ((hsame i0 hi0 m0).mpr hm0) (fun i' g hl m hg => hbe i' g hl m ((hsame i' (by omega) m).mp hg)) (fun m hl hg => hbm m hl ((hsame i0 hi0 m).mp hg))
  have hC := hj.2.2.1
  have hk2 : kp [6, 7, 8, 9, 10, 11] (pJS u) (pPr u r a b).2 := (kl.wid (by decide)).tr (c2.kp (by decide))
  obtain ⟨l1, l2, l3⟩ := look_U hk2 c1.2.1 c1.2.2 hW hC
  refine ⟨?_, ?_, ?_⟩
  · rw [z3]
    unfold ansx
    by_cases c : t = 0
    · rw [if_pos c, if_pos c]; exact z1
    · rw [if_neg c, if_neg c]
      have htp := (t_pred ht c).2
      have htn : 0 < tn t := Nat.pos_of_ne_zero (fun e => c (by rw [ht.1, e]; rfl))
      rw [show 19 + tn t = 20 + (tn t - 1) by omega, z2 _ htp, mkx_pg pgw, mkx_pg pgy]
  · obtain ⟨v1, v2⟩ := rV_k6 pk1 hU.2 (Rl_up4 (Rl_find h) 0).2.2.2
    exact ⟨rP_sv v2 (rP_sm (sm.tr l3) (Rl_up4 (Rl_find h) 0).1), l1, l2, v1⟩
  · rw [pk1 0 (by decide), up_same]
theorem pPf_a {u : jU} {r a b t : Int32} (c1 : ¬ (pcFact u r a b = none ∧ ¬ t < 0 ∧ t ≤ 4)) : pPf u r a b t = (some xIA, 0, u) := by
  unfold pPf
  by_cases d1 : pcFact u r a b = none
  · refine (if_pos d1).trans ?_
    by_cases d2 : t < 0
    · exact if_pos d2
    · refine (if_neg d2).trans ?_
      by_cases d3 : t ≤ 4
      · exact absurd ⟨d1, d2, d3⟩ c1
      · exact if_neg d3
  · exact if_neg d1
theorem pPf_b {u : jU} {r a b t : Int32} (c1 : pcFact u r a b = none ∧ ¬ t < 0 ∧ t ≤ 4) (c2 : ¬ pcFault u = none) : pPf u r a b t = (some xIS, 0, pJudge u) := by
  unfold pPf
  exact (if_pos c1.1).trans ((if_neg c1.2.1).trans ((if_pos c1.2.2).trans (if_neg c2)))
theorem pPf_c {u : jU} {r a b t : Int32} (c1 : pcFact u r a b = none ∧ ¬ t < 0 ∧ t ≤ 4) (c2 : pcFault u = none) (d : pJS u 4 (pFx u r a b) = -1 ∨ pJS u 4 (pFx u r a b) = 0) : pPf u r a b t = (some xNS, 0, pJS u) := by
  unfold pPf
  refine (if_pos c1.1).trans ((if_neg c1.2.1).trans ((if_pos c1.2.2).trans ((if_pos c2).trans ?_)))
  by_cases e : pJS u 4 (pFx u r a b) = -1
  · exact if_pos e
  · exact (if_neg e).trans (if_pos (d.resolve_left e))
theorem pPf_d {u : jU} {r a b t : Int32} (c1 : pcFact u r a b = none ∧ ¬ t < 0 ∧ t ≤ 4) (c2 : pcFault u = none) (d1 : ¬ pJS u 4 (pFx u r a b) = -1) (d2 : ¬ pJS u 4 (pFx u r a b) = 0) : pPf u r a b t = (none, if t = 0 then (pPr u r a b).1 else (pPr u r a b).2 6 (19 + tn t), (pPr u r a b).2) := by
  unfold pPf
  refine (if_pos c1.1).trans ((if_neg c1.2.1).trans ((if_pos c1.2.2).trans ((if_pos c2).trans ((if_neg d1).trans ((if_neg d2).trans ?_)))))
  by_cases e : t = 0
  · refine (if_pos e).trans ?_
    rw [if_pos e]
  · refine (if_neg e).trans ?_
    rw [if_neg e]
theorem m_proof_0 {v : jU} {r a b t : Int32} {A B C : Int32} (hA : (if mIs (mFind v) r a b t = 0 then (1 : Int32) else 0) = A) (hB : (if mIs (mFind v) r a b t = 0 then (0 : Int32) else (if mFind v 0 2 < 0 then 0 else 1)) = B) (hC : (if mFine (mFind v) r a b t = 0 then (0 : Int32) else (if 0 < mFind v 4 (mFx (mFind v) r a b) then 0 else 1)) = C) : m_proof v r a b t = if (m_refuse (mFind v) A B C).1 = 0 then mPk r (mFx (mFind v) r a b) t (tn (mFind v 0 1)) 0 (up (mFind v) 0 4 0) else (0, (m_refuse (mFind v) A B C).2) := by
  unfold m_proof
  rw [hA, hB, hC]
theorem m_proof_no {v : jU} {A B C : Int32} (z : Int32 × jU) (h : ¬ cdx A B C = 0) : (if (m_refuse (mFind v) A B C).1 = 0 then z else (0, (m_refuse (mFind v) A B C).2)) = (0, up (mFind v) 0 4 (cdx A B C)) := by
  refine (if_neg (fun y => h (ref_c0.mp y))).trans ?_
  rw [refuse_eq]
theorem m_proof_ya {v : jU} {A B C : Int32} (z : Int32 × jU) (h : cdx A B C = 0) : (if (m_refuse (mFind v) A B C).1 = 0 then z else (0, (m_refuse (mFind v) A B C).2)) = z := if_pos (ref_c0.mpr h)
theorem sim_proof {u v : jU} (h : Rl u v) (r a b t : Int32) : kc xIA xIS (pPf u r a b t).1 = (m_proof v r a b t).2 0 4 ∧ ((pPf u r a b t).1 = none → (pPf u r a b t).2.1 = (m_proof v r a b t).1) ∧ Rl (pPf u r a b t).2.2 (m_proof v r a b t).2 := by
  obtain ⟨g1, g2, g3, g4⟩ := find_rel h
  have his := is_uv g1 g2 g4 r a b t
  have hf := fault_uv h
  have hfin := Rl_find h
  by_cases c1 : pcFact u r a b = none ∧ ¬ t < 0 ∧ t ≤ 4
  · have i1 : ¬ mIs (mFind v) r a b t = 0 := his.mpr c1
    by_cases c2 : pcFault u = none
    · have f1 := hf.mp c2
      have f2 : ¬ mFine (mFind v) r a b t = 0 := by
        unfold mFine
        rw [if_neg i1, if_neg (Int32.not_le.mpr f1)]
        decide
      have hj := JS_U h c2
      have hfa := fault_neg h c2
      have hr8 := rel_in h.2.1.1 (fact_rel c1.1)
      have hlt : pFx u r a b < 1152 := fact2_lt hr8 (fact_fst c1.1) (fact_snd c1.1)
      have hV := find_V h.2.2.2
      have hw4 : eqr (mFind v 4) (rkX u (gvc u)) := (hV.2.2.1.2 (by rw [← fa_uv h]; exact hfa)).tr (rk_uv h).sy
      have e4 : mFind v 4 (mFx (mFind v) r a b) = pJS u 4 (pFx u r a b) := by
        rw [← fx_uv g4, hw4 _ hlt, hj.2.2.2.2.2.1 _ hlt]
      have hrng : pJS u 4 (pFx u r a b) = -1 ∨ inN (pJS u 4 (pFx u r a b)) 1154 := by
        rw [hj.2.2.2.2.2.1 _ hlt]; exact rk_rng h hlt
      by_cases d0 : pJS u 4 (pFx u r a b) = -1 ∨ pJS u 4 (pFx u r a b) = 0
      · have hnp : ¬ 0 < mFind v 4 (mFx (mFind v) r a b) := by
          rw [e4]
          rcases d0 with d | d <;> rw [d] <;> decide
        rw [pPf_c c1 c2 d0, m_proof_0 (if_neg i1) ((if_neg i1).trans (if_pos f1)) ((if_neg f2).trans (if_neg hnp)), m_proof_no _ (by decide)]
        dsimp only
        exact ⟨by rw [up_same]; decide, fun z => (by cases z), Rl_JS (Rl_up4 hfin _) c2⟩
      · have d1 : ¬ pJS u 4 (pFx u r a b) = -1 := fun z => d0 (Or.inl z)
        have d2 : ¬ pJS u 4 (pFx u r a b) = 0 := fun z => d0 (Or.inr z)
        have hin := hrng.resolve_left d1
        have hpos : 0 < mFind v 4 (mFx (mFind v) r a b) := by
          rw [e4]
          have htn : 0 < tn (pJS u 4 (pFx u r a b)) := Nat.pos_of_ne_zero (fun e => d2 (by rw [hin.1, e]; rfl))
          have h9 : nI 0 < nI (tn (pJS u 4 (pFx u r a b))) := (nI_ltI (by omega) (by have := hin.2; omega)).mpr htn
          rw [← hin.1] at h9
          exact h9
        obtain ⟨p1, p2, p3⟩ := proof_uv h c1.1 c2 (what_in c1.2.1 c1.2.2) d1 d2
        rw [pPf_d c1 c2 d1 d2, m_proof_0 (if_neg i1) ((if_neg i1).trans (if_pos f1)) ((if_neg f2).trans (if_pos hpos)), m_proof_ya _ (by decide)]
        dsimp only
        exact ⟨by rw [p3]; decide, fun _ => p1, p2⟩
    · have f1 : ¬ mFind v 0 2 < 0 := fun z => c2 (hf.mpr z)
      have e : ∀ x, cdx 0 1 x = 2 := fun x => by unfold cdx; rw [if_pos rfl, if_neg (by decide)]
      rw [pPf_b c1 c2, m_proof_0 (if_neg i1) ((if_neg i1).trans (if_neg f1)) rfl, m_proof_no _ (by rw [e]; decide), e]
      dsimp only
      exact ⟨by rw [up_same]; decide, fun z => (by cases z), Rl_judge (Rl_up4 hfin 2)⟩
  · have i1 : mIs (mFind v) r a b t = 0 := Classical.byContradiction (fun z => c1 (his.mp z))
    have e : ∀ x y, cdx 1 x y = 1 := fun x y => by unfold cdx; rw [if_neg (by decide)]
    rw [pPf_a c1, m_proof_0 (if_pos i1) (if_pos i1) rfl, m_proof_no _ (by rw [e]; decide), e]
    dsimp only
    exact ⟨by rw [up_same]; decide, fun z => (by cases z), Rl_up4 hfin 1⟩
