-- class and reference side by side: what both keep
def rW (u : jU) : Prop := wfH u ∧ wfR u ∧ cst u ∧ (∀ f, f < 1152 → frs u f = false) ∧ (∀ i, i < tn (u 0 1) → msk u i ∧ m15 u i ∧ tn (u 16 (5 * i)) < tn (u 0 0)) ∧ (∀ f, f < 1152 → gvc u f = true → f / 144 < tn (u 0 0))
/-- what the class has worked out is right -/
def rC (u : jU) : Prop := (¬ u 0 3 = 0 → jgd u u) ∧ (¬ u 0 4 = 0 → ¬ u 0 3 = 0 ∧ faX u = -1 ∧ eqr (u 4) (rkX u (gvc u)))
def rV (v : jU) : Prop := wfD v ∧ gok v ∧ (¬ v 0 3 = 0 → kwn v v)
/-- the same relations, rules and given facts -/
def rP (u v : jU) : Prop := u 0 0 = v 0 0 ∧ u 0 1 = v 0 1 ∧ u 1 = v 1 ∧ pgq v u ∧ (∀ f, f < 1152 → gvc u f = gvr v f)
def Rl (u v : jU) : Prop := rP u v ∧ rW u ∧ rC u ∧ rV v
theorem rW.K {u : jU} (h : rW u) : tn (u 0 1) ≤ 16 := by have := h.1.2.2.2; omega
theorem m13_of {u : jU} {i : Nat} (h : msk u i) : m13 u i := by
  intro v hv
  rw [hb_bt _ (by omega), h.1 (20 + v) (by omega), decide_eq_true (by omega), Bool.true_and, show 20 + v - 20 = v by omega]
theorem rW.ctx {u : jU} (h : rW u) : ctx u := ⟨h.2.1, h.K, fun i hi => ⟨m13_of (h.2.2.2.2.1 i hi).1, (h.2.2.2.2.1 i hi).2.1⟩⟩
/-- all but what is worked out is the same -/
def smP (u w : jU) : Prop := w 0 0 = u 0 0 ∧ w 0 1 = u 0 1 ∧ (∀ c ∈ [1, 2, 12, 13, 14, 15, 16, 17, 18, 19], w c = u c)
theorem smP.rf (u : jU) : smP u u := ⟨rfl, rfl, fun _ _ => rfl⟩
theorem smP.tr {a b c : jU} (h : smP a b) (k : smP b c) : smP a c := ⟨k.1.trans h.1, k.2.1.trans h.2.1, fun q hq => (k.2.2 q hq).trans (h.2.2 q hq)⟩
theorem smP.pg {u w : jU} (h : smP u w) : pgq u w := ⟨h.2.2 12 (by decide), h.2.2 16 (by decide), h.2.2 17 (by decide), h.2.2 18 (by decide), h.2.2 19 (by decide)⟩
theorem kz.sm {u w : jU} (h : kz [3, 4, 5, 6, 7, 8, 9, 10, 11] u w) : smP u w := ⟨h.2.1, h.2.2, fun c hc => h.1 c (by revert c; decide)⟩
theorem kp.sm {u w : jU} (h : kp [3, 4, 5, 6, 7, 8, 9, 10, 11] u w) : smP u w := ⟨by rw [h 0 (by decide)], by rw [h 0 (by decide)], fun c hc => h c (by revert c; decide)⟩
theorem kz.wd {cs ds : List Nat} {u v : jU} (h : kz cs u v) (hs : ∀ c ∈ cs, c ∈ ds) : kz ds u v := ⟨h.1.wid (fun c hc => by
  rcases List.mem_cons.mp hc with e | e
  · rw [e]; exact List.mem_cons_self
  · exact List.mem_cons_of_mem _ (hs c e)), h.2⟩
theorem psn_pg {w w' : jU} (h : pgq w w') (i v : Nat) : ∀ n, psn w' i v n = psn w i v n := by
  intro n
  induction n with
  | zero => rfl
  | succ n ih => unfold psn; rw [ih, ocx_pg h, h.2.2.2.2]
theorem pvx_pg {w w' : jU} (h : pgq w w') (i v : Nat) : pvx w' i v = pvx w i v := by unfold pvx; rw [h.1, psn_pg h]
theorem msk_c {u w : jU} (pg : pgq u w) (h13 : w 13 = u 13) (h14 : w 14 = u 14) {i : Nat} (h : msk u i) : msk w i := by
  unfold msk
  rw [h13, h14]
  exact ⟨fun v hv => by rw [mkx_pg pg]; exact h.1 v hv, fun v hv => by rw [pvx_pg pg]; exact h.2 v hv⟩
theorem gvc_c {u w : jU} (h2 : w 2 = u 2) : gvc w = gvc u := by funext f; unfold gvc; rw [h2]
theorem wfH_sm {u w : jU} (h : smP u w) (hv : wfV w) (hH : wfH u) : wfH w := ⟨hH.1.ofc h.pg.1 h.pg.2.1 h.pg.2.2.1 h.pg.2.2.2.1 h.pg.2.2.2.2 hv, by rw [h.1]; exact hH.2.1, by rw [h.2.1]; exact hH.2.2⟩
theorem rW_sm {u w : jU} (h : smP u w) (hv : wfV w) (hc : cst w) (hz : ∀ f, f < 1152 → frs w f = false) (hW : rW u) : rW w := by
  refine ⟨wfH_sm h hv hW.1, wfR_pg h.pg hW.2.1, hc, hz, ?_, ?_⟩
  · rw [h.1, h.2.1, h.pg.2.1]
    intro i hi
    obtain ⟨a, b, c⟩ := hW.2.2.2.2.1 i hi
    exact ⟨msk_c h.pg (h.2.2 13 (by decide)) (h.2.2 14 (by decide)) a, m15_c h.pg (h.2.2 15 (by decide)) b, c⟩
  · rw [h.1, gvc_c (h.2.2 2 (by decide))]; exact hW.2.2.2.2.2
theorem rP_sm {u w v : jU} (h : smP u w) (hP : rP u v) : rP w v := ⟨h.1.trans hP.1, h.2.1.trans hP.2.1, (h.2.2 1 (by decide)).trans hP.2.2.1, hP.2.2.2.1.tr h.pg, fun f hf => by rw [gvc_c (h.2.2 2 (by decide))]; exact hP.2.2.2.2 f hf⟩
theorem fa_sm {u w : jU} (h : smP u w) : faX w = faX u := faX_pg h.pg h.2.1
theorem la_sm {u w : jU} (h : smP u w) : laX w = laX u := laX_pg h.pg h.2.1
theorem rk_sm {u w : jU} (h : smP u w) (hW : rW u) : eqr (rkX w (gvc w)) (rkX u (gvc u)) := rkX_pg h.pg h.2.1 hW.2.1 hW.K (fun f _ => by rw [gvc_c (h.2.2 2 (by decide))])
theorem jgd_sm {u w y : jU} (h : smP u w) (hj : jgd u y) : jgd w y := by unfold jgd; rw [fa_sm h, la_sm h]; exact hj
/-- judging -/
theorem judge_U {u : jU} (hW : rW u) (hC : rC u) : rW (pJudge u) ∧ rC (pJudge u) ∧ jgd u (pJudge u) ∧ ¬ pJudge u 0 3 = 0 ∧ smP u (pJudge u) := by
  obtain ⟨j1, j2⟩ := judge_spec hW.2.1 hW.K (fun i hi => (hW.2.2.2.2.1 i hi).1) hC.1
  have kz3 := pJudge_kz u
  have sm := (kz3.wd (ds := [3, 4, 5, 6, 7, 8, 9, 10, 11]) (by decide)).sm
  have e6 : pJudge u 6 = u 6 := kz3.1 6 (by decide)
  have e5 : pJudge u 5 = u 5 := kz3.1 5 (by decide)
  have e4 : pJudge u 4 = u 4 := kz3.1 4 (by decide)
  have e04 : pJudge u 0 4 = u 0 4 := by
    unfold pJudge
    have l : ∀ w : jU, (pLayers w).2 0 4 = w 0 4 := fun w => by
      have k : kp [3] w (pLayers w).2 := (kp_fill (cs := [3]) _ _ (by decide)).tr (pFL_kp 8 _)
      rw [k 0 (by decide)]
    have l1 : pJudge1 u 0 4 = u 0 4 := up_idx _ _ (by decide)
    split
    · split
      · split
        · rw [up_idx _ _ (by decide), up_idx _ _ (by decide), l, l1]
        · rw [up_idx _ _ (by decide), l, l1]
      · rw [up_idx _ _ (by decide), l1]
    · rfl
  refine ⟨rW_sm sm (wfV_of hW.1.1.2.2 e6) (fun c hc => by rw [e6]; exact hW.2.2.1 c hc) (fun f hf => by unfold frs; rw [e5]; exact hW.2.2.2.1 f hf) hW, ⟨fun _ => jgd_sm sm j1, fun h => ?_⟩, j1, j2, sm⟩
  rw [e04] at h
  obtain ⟨h1, h2, h3⟩ := hC.2 h
  refine ⟨j2, by rw [fa_sm sm]; exact h2, ?_⟩
  rw [e4]
  exact h3.tr (rk_sm sm hW).sy
/-- settling -/
theorem settle_U {u : jU} (hW : rW u) (hC : rC u) (h3 : ¬ u 0 3 = 0) (hf : faX u = -1) : wfT u ∧ rW (pSettle u) ∧ rC (pSettle u) ∧ eqr (pSettle u 4) (rkX u (gvc u)) ∧ smP u (pSettle u) ∧ pSettle u 3 = u 3 ∧ pSettle u 0 3 = u 0 3 ∧ pSettle u 0 2 = u 0 2 ∧ ¬ pSettle u 0 4 = 0 := by
  have hj := hC.1 h3
  have hM := hj.2 hf
  have hK := hW.K
  have hx := faX_ok hK hf
  have h7 := laX_7 hW.2.1 hK hx
  obtain ⟨t1, t2, t3, t4, t5⟩ := settle_c hW.ctx hW.2.2.1 hW.1.1.2.2 hW.2.2.2.1 hW.1.2.1 hM h7 (fun i hi => (hW.2.2.2.2.1 i hi).2.2) hW.2.2.2.2.2
  refine ⟨fun _ => t1, ?_⟩
  unfold pSettle
  by_cases c : u 0 4 = 0
  · rw [if_pos c]
    have k1 : kp [3, 4, 5, 6, 7, 8, 9, 10, 11] u (pSettle1 u) := t2.1.wid (by decide)
    generalize pSettle1 u = y at t2 t3 t4 t5 k1 ⊢
    have e0 : y 0 = u 0 := k1 0 (by decide)
    have sm : smP u (up y 0 4 1) := by
      refine k1.sm.tr ⟨up_idx _ _ (by decide), up_idx _ _ (by decide), fun c hc => up_rows _ _ _ (by revert c; decide)⟩
    have e3 : up y 0 4 1 3 = u 3 := (up_rows _ _ _ (by decide)).trans (t2.1 3 (by decide))
    have e4 : up y 0 4 1 4 = y 4 := up_rows _ _ _ (by decide)
    have e5 : up y 0 4 1 5 = y 5 := up_rows _ _ _ (by decide)
    have e6 : up y 0 4 1 6 = y 6 := up_rows _ _ _ (by decide)
    have e03 : up y 0 4 1 0 3 = u 0 3 := by rw [up_idx _ _ (by decide), e0]
    have e02 : up y 0 4 1 0 2 = u 0 2 := by rw [up_idx _ _ (by decide), e0]
    have hrk : eqr (up y 0 4 1 4) (rkX u (gvc u)) := by
      rw [e4]
      refine t5.tr ?_
      unfold rkX
      exact abx_e (pgq.rf u) rfl hW.2.1 hK (fun r hr => hM r hr) (fun f _ => rfl) 9
    refine ⟨rW_sm sm (wfV_of t2.2 e6) (fun c hc => by rw [e6]; exact t3 c hc) (fun f hf => by unfold frs; rw [e5]; exact t4 f hf) hW, ⟨fun _ => ?_, fun _ => ⟨by rw [e03]; exact h3, by rw [fa_sm sm]; exact hf, hrk.tr (rk_sm sm hW).sy⟩⟩, hrk, sm, e3, e03, e02, by rw [up_same]; decide⟩
    refine jgd_sm sm ⟨by rw [e02]; exact hj.1, fun z => ?_⟩
    unfold lyq
    rw [e3]
    exact hM
  · rw [if_neg c]
    exact ⟨hW, hC, (hC.2 c).2.2, smP.rf u, rfl, rfl, rfl, c⟩
/-- looking and searching change nothing that is kept -/
theorem look_U {u w : jU} (hk : kp [6, 7, 8, 9, 10, 11] u w) (hc : cst w) (hv : wfV w) (hW : rW u) (hC : rC u) : rW w ∧ rC w ∧ smP u w := by
  have sm : smP u w := (hk.wid (ds := [3, 4, 5, 6, 7, 8, 9, 10, 11]) (by decide)).sm
  have e0 : w 0 = u 0 := hk 0 (by decide)
  refine ⟨rW_sm sm hv hc (fun f hf => by unfold frs; rw [hk 5 (by decide)]; exact hW.2.2.2.1 f hf) hW, ⟨fun h => ?_, fun h => ?_⟩, sm⟩
  · rw [e0] at h
    have := hC.1 h
    refine jgd_sm sm ⟨by rw [e0]; exact this.1, fun z => ?_⟩
    unfold lyq
    rw [hk 3 (by decide)]
    exact this.2 z
  · rw [e0] at h
    obtain ⟨h1, h2, h3⟩ := hC.2 h
    exact ⟨by rw [e0]; exact h1, by rw [fa_sm sm]; exact h2, by rw [hk 4 (by decide)]; exact h3.tr (rk_sm sm hW).sy⟩
-- the reference
theorem gvr_c {u w : jU} (h2 : w 2 = u 2) : gvr w = gvr u := by funext f; unfold gvr; rw [h2]
def smV (u w : jU) : Prop := w 0 0 = u 0 0 ∧ w 0 1 = u 0 1 ∧ (∀ c ∈ [1, 2, 12, 16, 17, 18, 19], w c = u c)
theorem smV.pg {u w : jU} (h : smV u w) : pgq u w := ⟨h.2.2 12 (by decide), h.2.2 16 (by decide), h.2.2 17 (by decide), h.2.2 18 (by decide), h.2.2 19 (by decide)⟩
theorem smV.tr {a b c : jU} (h : smV a b) (k : smV b c) : smV a c := ⟨k.1.trans h.1, k.2.1.trans h.2.1, fun q hq => (k.2.2 q hq).trans (h.2.2 q hq)⟩
theorem rP_sv {u v w : jU} (h : smV v w) (hP : rP u v) : rP u w := ⟨hP.1.trans h.1.symm, hP.2.1.trans h.2.1.symm, hP.2.2.1.trans (h.2.2 1 (by decide)).symm, h.pg.sy.tr hP.2.2.2.1, fun f hf => by rw [gvr_c (h.2.2 2 (by decide))]; exact hP.2.2.2.2 f hf⟩
theorem fa_sv {u w : jU} (h : smV u w) : faX w = faX u := faX_pg h.pg h.2.1
theorem la_sv {u w : jU} (h : smV u w) : laX w = laX u := laX_pg h.pg h.2.1
theorem wfD_K {v : jU} (h : wfD v) : tn (v 0 1) ≤ 16 := by have := h.2.1.2; omega
theorem rk_sv {u w : jU} (h : smV u w) (hD : wfD u) : eqr (rkX w (gvr w)) (rkX u (gvr u)) := rkX_pg h.pg h.2.1 hD.R (wfD_K hD) (fun f _ => by rw [gvr_c (h.2.2 2 (by decide))])
theorem kwn_sv {u w y : jU} (h : smV u w) (hD : wfD u) (hk : kwn u y) : kwn w y := by
  refine ⟨?_, ?_⟩
  · unfold jgd; rw [fa_sv h, la_sv h]; exact hk.1
  · rw [fa_sv h]; exact fun z => (hk.2 z).tr (rk_sv h hD).sy
theorem wfD_sv {u w : jU} (h : smV u w) (hU : wfU w) (hD : wfD u) : wfD w := by
  refine ⟨by rw [h.1]; exact hD.1, by rw [h.2.1]; exact hD.2.1, by rw [h.2.2 12 (by decide)]; exact hD.2.2.1, (wfR_pg h.pg hD.R).2, hU, by rw [h.2.2 2 (by decide)]; exact hD.2.2.2.2.2⟩
theorem gok_sv {u w : jU} (h : smV u w) (hg : gok u) : gok w := gok_c h.1 (h.2.2 2 (by decide)) hg
theorem rV_sv {u w : jU} (h : smV u w) (hU : wfU w) (hV : rV u) (hk : ¬ w 0 3 = 0 → kwn u w) : rV w := ⟨wfD_sv h hU hV.1, gok_sv h hV.2.1, fun z => kwn_sv h hV.1 (hk z)⟩
theorem up4_sv (v : jU) (x : Int32) : smV v (up v 0 4 x) := ⟨up_idx _ _ (by decide), up_idx _ _ (by decide), fun c hc => up_rows _ _ _ (by revert c; decide)⟩
theorem kwn_c {u v w : jU} (h02 : w 0 2 = v 0 2) (h3 : w 3 = v 3) (h4 : w 4 = v 4) (h : kwn u v) : kwn u w := by
  refine ⟨⟨by rw [h02]; exact h.1.1, fun z => ?_⟩, fun z => by rw [h4]; exact h.2 z⟩
  unfold lyq
  rw [h3]
  exact h.1.2 z
theorem rV_up4 {v : jU} (x : Int32) (hV : rV v) : rV (up v 0 4 x) := by
  refine rV_sv (up4_sv v x) (wfU_of hV.1.2.2.2.2.1 (up_rows _ _ _ (by decide))) hV (fun z => ?_)
  rw [up_idx _ _ (by decide)] at z
  exact kwn_c (up_idx _ _ (by decide)) (up_rows _ _ _ (by decide)) (up_rows _ _ _ (by decide)) (hV.2.2 z)
/-- finding: the reference then knows -/
theorem find_V {v : jU} (hV : rV v) : mEnds v ∧ rV (mFind v) ∧ kwn v (mFind v) ∧ smV v (mFind v) ∧ mFind v 0 4 = v 0 4 ∧ ¬ mFind v 0 3 = 0 := by
  have hK := wfD_K hV.1
  obtain ⟨a1, a2⟩ := find_all hV.1.R hK hV.2.1
  refine ⟨a1, ?_⟩
  by_cases c : v 0 3 = 0
  · obtain ⟨b1, b2⟩ := a2 c
    have hsm : smV v (mFind v) ∧ mFind v 0 4 = v 0 4 := by
      have edef : mFind v = if v 0 3 = 0 then (if mFd1 v 0 2 < 0 then itN mLay 9 (itN mI1 1152 (mFd1 v)) else mFd1 v) else v := rfl
      have kf := mFF_kp (up v 0 3 1)
      have e1 : mFd1 v = up (mFF (up v 0 3 1)).2 0 2 (mFF (up v 0 3 1)).1 := rfl
      have s1 : smV v (mFd1 v) ∧ mFd1 v 0 4 = v 0 4 := by
        rw [e1]
        generalize (mFF (up v 0 3 1)).1 = x
        generalize (mFF (up v 0 3 1)).2 = y at kf ⊢
        have h0 : y 0 = up v 0 3 1 0 := kf 0 (by decide)
        refine ⟨⟨?_, ?_, fun c hc => ?_⟩, ?_⟩
        · rw [up_idx _ _ (by decide), h0]; exact up_idx _ _ (by decide)
        · rw [up_idx _ _ (by decide), h0]; exact up_idx _ _ (by decide)
        · rw [up_rows _ _ _ (by revert c; decide), kf c (by revert c; decide)]
          exact up_rows _ _ _ (by revert c; decide)
        · rw [up_idx _ _ (by decide), h0]; exact up_idx _ _ (by decide)
      rw [edef, if_pos c]
      by_cases d : mFd1 v 0 2 < 0
      · rw [if_pos d]
        have hE := (mFind_E hV.1 d 9).1
        generalize itN mLay 9 (itN mI1 1152 (mFd1 v)) = y at hE ⊢
        have h0 : y 0 = mFd1 v 0 := hE 0 (by decide)
        exact ⟨s1.1.tr ⟨by rw [h0], by rw [h0], fun c hc => hE c (by revert c; decide)⟩, by rw [h0]; exact s1.2⟩
      · rw [if_neg d]; exact s1
    exact ⟨⟨mFind_wf hV.1, gok_sv hsm.1 hV.2.1, fun _ => kwn_sv hsm.1 hV.1 b1⟩, b1, hsm.1, hsm.2, b2⟩
  · have e : mFind v = v := by unfold mFind; rw [if_neg c]
    rw [e]
    exact ⟨hV, hV.2.2 c, ⟨rfl, rfl, fun _ _ => rfl⟩, rfl, c⟩
theorem ends_up4 {v : jU} (x : Int32) (hV : rV v) : mEnds (up v 0 4 x) := (find_V (rV_up4 x hV)).1
