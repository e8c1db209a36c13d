-- class and reference side by side: what changes the house
theorem term_uv (x : Int32) : m_isTerm x = 0 ↔ b2i (pTerm x) = 0 := by
  have hc := con_uv x
  have h23 : (23 : Int32).toInt = 23 := by decide
  have h24 : (24 : Int32).toInt = 24 := by decide
  have e : (23 : Int32) < x ↔ (24 : Int32) ≤ x := by
    rw [Int32.lt_iff_toInt_lt, Int32.le_iff_toInt_le, h23, h24]; omega
  have e20 : m_in x 20 23 = 0 ↔ ¬ (¬ x < 20 ∧ ¬ 24 ≤ x) := by
    unfold m_in
    by_cases c1 : x < 20
    · rw [if_pos c1]; simp [c1]
    · rw [if_neg c1]
      by_cases c2 : (23 : Int32) < x
      · rw [if_pos c2]; have := e.mp c2; simp [this]
      · rw [if_neg c2]
        have : ¬ (24 : Int32) ≤ x := fun z => c2 (e.mpr z)
        simp [this, c1]
  unfold m_isTerm
  have hb : b2i (pTerm x) = 0 ↔ ¬ (¬ b2i (pCon x) = 0 ∨ (¬ x < 20 ∧ ¬ 24 ≤ x)) := by
    unfold pTerm
    by_cases z : (¬ b2i (pCon x) = 0 ∨ (¬ x < 20 ∧ ¬ 24 ≤ x))
    · rw [decide_eq_true z]; exact ⟨fun y => absurd y (by decide), fun y => absurd z y⟩
    · rw [decide_eq_false z]; exact ⟨fun _ => z, fun _ => rfl⟩
  rw [hb]
  by_cases c1 : m_in x 0 11 = 0
  · rw [if_pos c1]
    have k1 := hc.mp c1
    by_cases c2 : m_in x 20 23 = 0
    · rw [if_pos c2]
      have := e20.mp c2
      exact ⟨fun _ y => y.elim (fun q => q k1) this, fun _ => rfl⟩
    · rw [if_neg c2]
      have : ¬ x < 20 ∧ ¬ 24 ≤ x := Classical.byContradiction (fun z => c2 (e20.mpr z))
      constructor
      · intro z; exact absurd z (by decide)
      · intro z; exact absurd (Or.inr this) z
  · rw [if_neg c1]
    have k1 : ¬ b2i (pCon x) = 0 := fun z => c1 (hc.mpr z)
    constructor
    · intro z; exact absurd z (by decide)
    · intro z; exact absurd (Or.inl k1) z
theorem pcTerms_or (u : jU) (r a b : Int32) : pcTerms u r a b = none ∨ pcTerms u r a b = some xIA := by
  cases c : pcTerms u r a b with
  | none => exact Or.inl rfl
  | some x => rw [pcTerms_some c]; exact Or.inr rfl
theorem terms_uv {u w : jU} (h : inN (w 0 0) 9) (h0 : u 0 0 = w 0 0) (h1 : u 1 = w 1) (r a b : Int32) : pcTerms u r a b = none ↔ ¬ m_areTerms w r a b = 0 := by
  have hr := rel_uv h h0 r
  unfold pcTerms m_areTerms
  by_cases c : m_in r 0 (w 0 0 - 1) = 0
  · rw [if_pos c]
    have : ¬ pcRel u r = none := fun z => hr.mp z c
    rw [if_neg this]; simp
  · rw [if_neg c, if_pos (hr.mpr c), if_neg c]
    unfold pFst pSnd
    rw [h1]
    have k0 : ¬ b2i (pTerm 0) = 0 := by decide
    have ca := term_uv a
    have cb := term_uv b
    by_cases p1 : w 1 (tn r) < 1
    · have p2 : w 1 (tn r) < 2 := by
        rw [Int32.lt_iff_toInt_lt] at p1 ⊢
        have h1 : (1 : Int32).toInt = 1 := by decide
        have h2 : (2 : Int32).toInt = 2 := by decide
        omega
      rw [if_pos p1, if_pos p2, if_pos p1, if_pos p2, if_neg k0, if_neg k0]
      simp
    · rw [if_neg p1, if_neg p1]
      by_cases q1 : m_isTerm a = 0
      · rw [if_pos (ca.mp q1), if_pos q1]; simp
      · rw [if_neg (fun z => q1 (ca.mpr z)), if_neg q1]
        by_cases p2 : w 1 (tn r) < 2
        · rw [if_pos p2, if_pos p2, if_neg k0]; simp
        · rw [if_neg p2, if_neg p2]
          by_cases q2 : m_isTerm b = 0
          · rw [if_pos (cb.mp q2), if_pos q2]; simp
          · rw [if_neg (fun z => q2 (cb.mpr z)), if_neg q2]; simp
theorem term_tm {x : Int32} (h : ¬ b2i (pTerm x) = 0) : tm x := by
  have h1 := b2i_1 h
  unfold pTerm at h1
  have h2 := of_decide_eq_true h1
  rcases h2 with h2 | h2
  · exact Or.inl (con_in h2)
  · right
    have h0 : ¬ x < 0 := fun z => h2.1 (Int32.lt_trans z (by decide))
    have h3 := inN_of h0 (show x < nI 24 from Int32.not_le.mp h2.2) (by decide)
    refine ⟨h3, ?_⟩
    have h4 := inN_ltN (n := 20) h3 (by decide) (by decide)
    exact Nat.not_lt.mp (fun z => h2.1 (h4.mpr z))
theorem terms_tm {u : jU} {r a b : Int32} (h : pcTerms u r a b = none) : tm (pFst u r a) ∧ tm (pSnd u r b) := by
  unfold pcTerms at h
  split at h
  · split at h
    · cases h
    · split at h
      · cases h
      · exact ⟨term_tm ‹_›, term_tm ‹_›⟩
  · cases h
/-- states that only flags tell apart -/
theorem stale_flags (u : jU) : pStale u 0 3 = 0 ∧ pStale u 0 4 = 0 ∧ pStale u 0 0 = u 0 0 ∧ pStale u 0 1 = u 0 1 ∧ ∀ c, ¬ c = 0 → pStale u c = u c := by
  unfold pStale
  refine ⟨by rw [up_idx _ _ (by decide), up_same], up_same _ _ _ _, by rw [up_idx _ _ (by decide), up_idx _ _ (by decide)], by rw [up_idx _ _ (by decide), up_idx _ _ (by decide)], fun c hc => (up_rows _ _ _ hc).trans (up_rows _ _ _ hc)⟩
theorem rC_0 {u : jU} (h3 : u 0 3 = 0) (h4 : u 0 4 = 0) : rC u := ⟨fun z => absurd h3 z, fun z => absurd h4 z⟩
theorem wfM_R {u : jU} (hR : wfR u) (hv : wfV u) : wfM u := by
  refine ⟨fun i hi => hR.1 i hi, fun j hj => ?_, hv⟩
  have hB := hR.2 j hj
  exact ⟨hB.1, ⟨(tm_k hB.2.1).1, tm_lt hB.2.1⟩, ⟨(tm_k hB.2.2.1).1, tm_lt hB.2.2.1⟩, hB.2.2.2⟩
theorem inN_succ {x : Int32} {n : Nat} (h : inN x n) (hn : n < 2 ^ 30) : x + 1 = nI (tn x + 1) ∧ tn (x + 1) = tn x + 1 := by
  have h1 : nI (tn x) + nI 1 = nI (tn x + 1) := nI_add (tn x) 1
  rw [← h.1] at h1
  have h2 : x + 1 = nI (tn x + 1) := h1
  exact ⟨h2, by rw [h2]; exact nI_clamp (by have := h.2; omega)⟩
-- relation
theorem sim_relation {u v : jU} (h : Rl u v) (n : Int32) : kc xIA xUO (pcRelation u n) = (m_relation v n).2 0 4 ∧ (pcRelation u n = none → pRelation2 u n 0 0 - 1 = (m_relation v n).1) ∧ Rl (pRelation u n) (m_relation v n).2 := by
  obtain ⟨hP, hW, hC, hV⟩ := h
  have hcnt := hW.1.2.1
  have e8 : (v 0 0 = 8) ↔ ¬ u 0 0 < 8 := by
    rw [← hP.1]
    have h1 := inN_ltN (n := 8) hcnt (by decide) (by decide)
    constructor
    · intro z; rw [z]; decide
    · intro z
      have h2 : ¬ tn (u 0 0) < 8 := fun y => z (h1.mpr y)
      have h3 := hcnt.2
      rw [hcnt.1, show tn (u 0 0) = 8 by omega]
      rfl
  have ein : m_in n 0 2 = 0 ↔ ¬ (¬ n < 0 ∧ n ≤ 2) := by
    unfold m_in
    by_cases c1 : n < 0
    · rw [if_pos c1]; simp [c1]
    · rw [if_neg c1]
      by_cases c2 : (2 : Int32) < n
      · rw [if_pos c2]
        have : ¬ n ≤ 2 := Int32.not_le.mpr c2
        simp [this]
      · rw [if_neg c2]
        have : n ≤ 2 := Int32.not_lt.mp c2
        simp [this, c1]
  unfold m_relation
  rw [refuse_eq]
  dsimp only
  by_cases c1 : ¬ n < 0 ∧ n ≤ 2
  · have i1 : ¬ m_in n 0 2 = 0 := fun z => ein.mp z c1
    by_cases c2 : u 0 0 < 8
    · have i2 : ¬ v 0 0 = 8 := fun z => e8.mp z c2
      have hpc : pcRelation u n = none := by unfold pcRelation; rw [if_neg c1.1, if_pos c1.2, if_pos c2]
      have ec : cdx (if m_in n 0 2 = 0 then 1 else 0) (if v 0 0 = 8 then 1 else 0) 0 = 0 := by rw [if_neg i1, if_neg i2]; decide
      rw [ec, if_pos (by decide), hpc]
      dsimp only
      have hlt : tn (u 0 0) < 8 := (inN_ltN (n := 8) hcnt (by decide) (by decide)).mp c2
      obtain ⟨s1, s2⟩ := inN_succ hcnt (by decide)
      -- the class's state
      have d1 : pRelation u n = pRelation2 u n := by unfold pRelation; rw [if_pos hpc]
      obtain ⟨f3, f4, f0, f1, fc⟩ := stale_flags (up (pRelation1 u n) 0 0 (pRelation1 u n 0 0 + 1))
      have r0 : pRelation1 u n 0 = u 0 := up_rows _ _ _ (by decide)
      have p00 : pRelation2 u n 0 0 = u 0 0 + 1 := by unfold pRelation2; rw [f0, up_same, r0]
      have p01 : pRelation2 u n 0 1 = u 0 1 := by unfold pRelation2; rw [f1, up_idx _ _ (by decide), r0]
      have pc : ∀ c, ¬ c = 0 → ¬ c = 1 → pRelation2 u n c = u c := by
        intro c h0 h1
        unfold pRelation2
        rw [fc c h0, up_rows _ _ _ h0]
        exact up_rows _ _ _ h1
      have p1 : pRelation2 u n 1 = upd (u 1) (tn (u 0 0)) n := by
        unfold pRelation2
        rw [fc 1 (by decide), up_rows _ _ _ (by decide)]
        exact up_row _ _ _ _
      -- the reference's state
      have q0 : up (up v 0 4 0) 1 (tn (v 0 0)) n 0 = up v 0 4 0 0 := up_rows _ _ _ (by decide)
      have q00 : up (up v 0 4 0) 1 (tn (v 0 0)) n 0 0 = v 0 0 := by rw [q0, up_idx _ _ (by decide)]
      rw [q00]
      generalize hz : up (up (up (up v 0 4 0) 1 (tn (v 0 0)) n) 0 0 (v 0 0 + 1)) 0 3 0 = z
      have z00 : z 0 0 = v 0 0 + 1 := by rw [← hz, up_idx _ _ (by decide), up_same]
      have z01 : z 0 1 = v 0 1 := by rw [← hz, up_idx _ _ (by decide), up_idx _ _ (by decide), q0, up_idx _ _ (by decide)]
      have z03 : z 0 3 = 0 := by rw [← hz, up_same]
      have z04 : z 0 4 = 0 := by rw [← hz, up_idx _ _ (by decide), up_idx _ _ (by decide), q0, up_same]
      have zc : ∀ c, ¬ c = 0 → ¬ c = 1 → z c = v c := fun c h0 h1 => by rw [← hz, up_rows _ _ _ h0, up_rows _ _ _ h0, up_rows _ _ _ h1, up_rows _ _ _ h0]
      have z1 : z 1 = upd (v 1) (tn (v 0 0)) n := by
        rw [← hz, up_rows _ _ _ (by decide), up_rows _ _ _ (by decide), up_row, up_rows _ _ _ (by decide)]
      have pgu : pgq u (pRelation2 u n) := ⟨pc 12 (by decide) (by decide), pc 16 (by decide) (by decide), pc 17 (by decide) (by decide), pc 18 (by decide) (by decide), pc 19 (by decide) (by decide)⟩
      have pgv : pgq v z := ⟨zc 12 (by decide) (by decide), zc 16 (by decide) (by decide), zc 17 (by decide) (by decide), zc 18 (by decide) (by decide), zc 19 (by decide) (by decide)⟩
      refine ⟨by rw [z04]; decide, fun _ => by rw [p00, z00, hP.1], ?_⟩
      rw [d1]
      refine ⟨⟨by rw [p00, z00, hP.1], by rw [p01, z01, hP.2.1], by rw [p1, z1, hP.2.2.1, hP.1], (pgv.sy.tr hP.2.2.2.1).tr pgu, fun f hf => by rw [gvc_c (pc 2 (by decide) (by decide)), gvr_c (zc 2 (by decide) (by decide))]; exact hP.2.2.2.2 f hf⟩, ?_, ?_, ?_⟩
      · have hv6 : wfV (pRelation2 u n) := wfV_of hW.1.1.2.2 (pc 6 (by decide) (by decide))
        refine ⟨⟨wfM_R (wfR_pg pgu hW.2.1) hv6, by rw [p00, s1]; exact inN_nI (by omega) (by decide), by rw [p01]; exact hW.1.2.2⟩, wfR_pg pgu hW.2.1, fun c hc => by rw [pc 6 (by decide) (by decide)]; exact hW.2.2.1 c hc, fun f hf => by unfold frs; rw [pc 5 (by decide) (by decide)]; exact hW.2.2.2.1 f hf, ?_, ?_⟩
        · rw [p01, p00, s2, pgu.2.1]
          intro i hi
          obtain ⟨a1, a2, a3⟩ := hW.2.2.2.2.1 i hi
          exact ⟨msk_c pgu (pc 13 (by decide) (by decide)) (pc 14 (by decide) (by decide)) a1, m15_c pgu (pc 15 (by decide) (by decide)) a2, by omega⟩
        · rw [p00, s2, gvc_c (pc 2 (by decide) (by decide))]
          intro f hf hg
          have := hW.2.2.2.2.2 f hf hg
          omega
      · exact rC_0 (by unfold pRelation2; exact f3) (by unfold pRelation2; exact f4)
      · have hD := hV.1
        refine ⟨⟨?_, by rw [z01]; exact hD.2.1, by rw [pgv.1]; exact hD.2.2.1, (wfR_pg pgv hD.R).2, wfU_of hD.2.2.2.2.1 (zc 6 (by decide) (by decide)), by rw [zc 2 (by decide) (by decide)]; exact hD.2.2.2.2.2⟩, ⟨?_, ?_⟩, fun y => absurd z03 y⟩
        · rw [z00, ← hP.1, s1]; exact inN_nI (by omega) (by decide)
        · rw [z00, ← hP.1, s1]; exact inN_nI (by omega) (by decide)
        · rw [z00, ← hP.1, s2, zc 2 (by decide) (by decide)]
          intro f hf hg
          have := hV.2.1.2 f hf hg
          rw [← hP.1] at this
          omega
    · have i2 : v 0 0 = 8 := e8.mpr c2
      have hpc : pcRelation u n = some xUO := by unfold pcRelation; rw [if_neg c1.1, if_pos c1.2, if_neg c2]
      have ec : cdx (if m_in n 0 2 = 0 then 1 else 0) (if v 0 0 = 8 then 1 else 0) 0 = 2 := by rw [if_neg i1, if_pos i2]; decide
      rw [ec, if_neg (by decide), hpc]
      dsimp only
      refine ⟨by rw [up_same]; decide, fun z => (by cases z), ?_⟩
      unfold pRelation
      rw [hpc, if_neg (by decide)]
      exact Rl_up4 ⟨hP, hW, hC, hV⟩ 2
  · have i1 : m_in n 0 2 = 0 := ein.mpr c1
    have hpc : pcRelation u n = some xIA := by
      unfold pcRelation
      by_cases d : n < 0
      · rw [if_pos d]
      · rw [if_neg d, if_neg (fun z => c1 ⟨d, z⟩)]
    have ec : cdx (if m_in n 0 2 = 0 then 1 else 0) (if v 0 0 = 8 then 1 else 0) 0 = 1 := by rw [if_pos i1]; rfl
    rw [ec, if_neg (by decide), hpc]
    dsimp only
    refine ⟨by rw [up_same]; decide, fun z => (by cases z), ?_⟩
    unfold pRelation
    rw [hpc, if_neg (by decide)]
    exact Rl_up4 ⟨hP, hW, hC, hV⟩ 1
