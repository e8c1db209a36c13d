-- class and reference side by side: what is asked
theorem fa_uv {u v : jU} (h : Rl u v) : faX u = faX v := faX_pg h.1.2.2.2.1 h.1.2.1
theorem la_uv {u v : jU} (h : Rl u v) : laX u = laX v := laX_pg h.1.2.2.2.1 h.1.2.1
theorem rk_uv {u v : jU} (h : Rl u v) : eqr (rkX u (gvc u)) (rkX v (gvr v)) := rkX_pg h.1.2.2.2.1 h.1.2.1 h.2.2.2.1.R (wfD_K h.2.2.2.1) h.1.2.2.2.2
/-- the code of what the reference refuses -/
def cdx (a b c : Int32) : Int32 := if a = 0 then (if b = 0 then (if c = 0 then 0 else 3) else 2) else 1
theorem refuse_eq (u : jU) (a b c : Int32) : m_refuse u a b c = (if cdx a b c = 0 then 0 else 1, up u 0 4 (cdx a b c)) := by
  unfold m_refuse
  rw [up_same]
  show (if cdx a b c ≤ 0 then (0 : Int32) else 1, up u 0 4 (cdx a b c)) = _
  have h : (if cdx a b c ≤ 0 then (0 : Int32) else 1) = if cdx a b c = 0 then 0 else 1 := by
    unfold cdx
    split
    · split
      · split <;> decide
      · decide
    · decide
  rw [h]
theorem ref_c0 {u : jU} {a b c : Int32} : (m_refuse u a b c).1 = 0 ↔ cdx a b c = 0 := by
  rw [refuse_eq]
  show (if cdx a b c = 0 then (0 : Int32) else 1) = 0 ↔ _
  by_cases h : cdx a b c = 0
  · rw [if_pos h]; simp [h]
  · rw [if_neg h]; simp [h]
theorem in_k : ∀ k, k < 9 → (nI k - 1).toInt = (k : Int) - 1 ∧ (nI k).toInt = (k : Int) := by decide +kernel
theorem in_iff {x r : Int32} (h : inN x 9) : m_in r 0 (x - 1) = 0 ↔ ¬ (¬ r < 0 ∧ r < x) := by
  obtain ⟨h1, h2⟩ := in_k (tn x) h.2
  rw [← h.1] at h1 h2
  unfold m_in
  have h0 : (0 : Int32).toInt = 0 := by decide
  have e1 : r < 0 ↔ r.toInt < 0 := by rw [Int32.lt_iff_toInt_lt, h0]
  have e2 : x - 1 < r ↔ (tn x : Int) - 1 < r.toInt := by rw [Int32.lt_iff_toInt_lt, h1]
  have e3 : r < x ↔ r.toInt < (tn x : Int) := by rw [Int32.lt_iff_toInt_lt, h2]
  by_cases c1 : r < 0
  · rw [if_pos c1]; simp [c1]
  · rw [if_neg c1]
    by_cases c2 : x - 1 < r
    · rw [if_pos c2]
      have : ¬ r < x := by rw [e3]; rw [e2] at c2; omega
      simp [this]
    · rw [if_neg c2]
      have : r < x := by rw [e3]; rw [e2] at c2; omega
      simp [this, c1]
theorem pcRel_iff (u : jU) (r : Int32) : pcRel u r = none ↔ (¬ r < 0 ∧ r < u 0 0) := by
  unfold pcRel
  by_cases c1 : r < 0
  · rw [if_pos c1]; simp [c1]
  · rw [if_neg c1]
    by_cases c2 : r < u 0 0
    · rw [if_pos c2]; simp [c1, c2]
    · rw [if_neg c2]; simp [c2]
theorem pcRel_or (u : jU) (r : Int32) : pcRel u r = none ∨ pcRel u r = some xIA := by
  unfold pcRel
  split
  · exact Or.inr rfl
  · split
    · exact Or.inl rfl
    · exact Or.inr rfl
theorem rel_uv {u w : jU} (h : inN (w 0 0) 9) (h0 : u 0 0 = w 0 0) (r : Int32) : pcRel u r = none ↔ ¬ m_in r 0 (w 0 0 - 1) = 0 := by
  rw [in_iff h, pcRel_iff, h0]
  exact ⟨fun z y => y z, fun z => Classical.byContradiction z⟩
theorem con_uv (x : Int32) : m_in x 0 11 = 0 ↔ b2i (pCon x) = 0 := by
  have h11 : (11 : Int32).toInt = 11 := by decide
  have h12 : (12 : Int32).toInt = 12 := by decide
  have e : (11 : Int32) < x ↔ (12 : Int32) ≤ x := by
    rw [Int32.lt_iff_toInt_lt, Int32.le_iff_toInt_le, h11, h12]; omega
  unfold m_in pCon b2i
  by_cases c1 : x < 0
  · simp [c1]
  · rw [if_neg c1]
    by_cases c2 : (11 : Int32) < x
    · rw [if_pos c2]
      have := e.mp c2
      simp [this]
    · rw [if_neg c2]
      have : ¬ (12 : Int32) ≤ x := fun z => c2 (e.mpr z)
      simp [this, c1]
theorem lt1_iff (x : Int32) : x < 1 ↔ x ≤ 0 := by
  have h1 : (1 : Int32).toInt = 1 := by decide
  have h0 : (0 : Int32).toInt = 0 := by decide
  rw [Int32.lt_iff_toInt_lt, Int32.le_iff_toInt_le, h1, h0]; omega
theorem lt2_iff (x : Int32) : x < 2 ↔ x ≤ 1 := by
  have h1 : (1 : Int32).toInt = 1 := by decide
  have h2 : (2 : Int32).toInt = 2 := by decide
  rw [Int32.lt_iff_toInt_lt, Int32.le_iff_toInt_le, h1, h2]; omega
theorem fst_uv {u w : jU} (h : u 1 = w 1) (r a : Int32) : pFst u r a = if w 1 (tn r) ≤ 0 then 0 else a := by
  unfold pFst
  rw [h]
  by_cases c : w 1 (tn r) < 1
  · rw [if_pos c, if_pos ((lt1_iff _).mp c)]
  · rw [if_neg c, if_neg (fun z => c ((lt1_iff _).mpr z))]
theorem snd_uv {u w : jU} (h : u 1 = w 1) (r b : Int32) : pSnd u r b = if w 1 (tn r) ≤ 1 then 0 else b := by
  unfold pSnd
  rw [h]
  by_cases c : w 1 (tn r) < 2
  · rw [if_pos c, if_pos ((lt2_iff _).mp c)]
  · rw [if_neg c, if_neg (fun z => c ((lt2_iff _).mpr z))]
theorem pcFact_or (u : jU) (r a b : Int32) : pcFact u r a b = none ∨ pcFact u r a b = some xIA := by
  cases c : pcFact u r a b with
  | none => exact Or.inl rfl
  | some x => rw [pcFact_some c]; exact Or.inr rfl
theorem fact_uv {u w : jU} (h : inN (w 0 0) 9) (h0 : u 0 0 = w 0 0) (h1 : u 1 = w 1) (r a b : Int32) : pcFact u r a b = none ↔ ¬ m_isFact w r a b = 0 := by
  have hr := rel_uv h h0 r
  unfold pcFact m_isFact
  by_cases c : m_in r 0 (w 0 0 - 1) = 0
  · rw [if_pos c]
    have : ¬ pcRel u r = none := fun z => hr.mp z c
    rw [if_neg this]; simp
  · rw [if_neg c, if_pos (hr.mpr c)]
    unfold pFst pSnd
    rw [h1]
    have k0 : ¬ b2i (pCon 0) = 0 := by decide
    have ca := con_uv a
    have cb := con_uv b
    by_cases p1 : w 1 (tn r) < 1
    · have p2 : w 1 (tn r) < 2 := by
        rw [Int32.lt_iff_toInt_lt] at p1 ⊢
        have h1 : (1 : Int32).toInt = 1 := by decide
        have h2 : (2 : Int32).toInt = 2 := by decide
        omega
      rw [if_pos p1, if_pos p2, if_pos p1, if_pos p2, if_neg k0, if_neg k0]
      simp
    · rw [if_neg p1, if_neg p1]
      by_cases q1 : m_in a 0 11 = 0
      · rw [if_pos (ca.mp q1), if_pos q1]; simp
      · rw [if_neg (fun z => q1 (ca.mpr z)), if_neg q1]
        by_cases p2 : w 1 (tn r) < 2
        · rw [if_pos p2, if_pos p2, if_neg k0]; simp
        · rw [if_neg p2, if_neg p2]
          by_cases q2 : m_in b 0 11 = 0
          · rw [if_pos (cb.mp q2), if_pos q2]; simp
          · rw [if_neg (fun z => q2 (cb.mpr z)), if_neg q2]; simp
theorem fx_uv {u w : jU} (h1 : u 1 = w 1) (r a b : Int32) : pFx u r a b = mFx w r a b := by
  unfold pFx mFx
  rw [fst_uv h1, snd_uv h1]
  omega
theorem fault_uv {u v : jU} (h : Rl u v) : pcFault u = none ↔ mFind v 0 2 < 0 := by
  have hj := (judge_U h.2.1 h.2.2.1).2.2.1
  have hk := (find_V h.2.2.2).2.2.1
  unfold pcFault
  rw [hj.1, hk.1.1, fa_uv h]
  by_cases c : faX v = -1
  · rw [if_pos c]; simp [(faX_neg (wfD_K h.2.2.2.1)).mpr c]
  · rw [if_neg c]
    have : ¬ faX v < 0 := fun z => c ((faX_neg (wfD_K h.2.2.2.1)).mp z)
    simp [this]
theorem fault_or (u : jU) : pcFault u = none ∨ pcFault u = some xIS := by
  unfold pcFault
  split
  · exact Or.inl rfl
  · exact Or.inr rfl
/-- what a question refuses, on both sides -/
theorem ask_code {u v : jU} (h : Rl u v) {c0 : Option String} {X : Int32} (hc : c0 = none ↔ ¬ X = 0) (ho : c0 = none ∨ c0 = some xIA) : kc xIA xIS (pcAsk c0 u) = cdx (if X = 0 then 1 else 0) (if X = 0 then 0 else (if mFind v 0 2 < 0 then 0 else 1)) 0 ∧ (pcAsk c0 u = none ↔ cdx (if X = 0 then 1 else 0) (if X = 0 then 0 else (if mFind v 0 2 < 0 then 0 else 1)) 0 = 0) := by
  have hf := fault_uv h
  unfold pcAsk
  by_cases c : X = 0
  · have h1 : ¬ c0 = none := fun z => hc.mp z c
    have h2 := ho.resolve_left h1
    rw [if_neg h1, if_pos c, if_pos c, h2]
    exact ⟨by decide, by simp [cdx]⟩
  · have h1 := hc.mpr c
    rw [if_pos h1, if_neg c, if_neg c]
    by_cases d : mFind v 0 2 < 0
    · rw [if_pos d, hf.mpr d]; exact ⟨by decide, by simp [cdx]⟩
    · rw [if_neg d]
      have h2 := (fault_or u).resolve_left (fun z => d (hf.mp z))
      rw [h2]
      exact ⟨by decide, by simp [cdx]⟩
theorem ask_none {c0 : Option String} {u : jU} (h : pcAsk c0 u = none) : c0 = none ∧ pcFault u = none := by
  unfold pcAsk at h
  by_cases c : c0 = none
  · rw [if_pos c] at h; exact ⟨c, h⟩
  · rw [if_neg c] at h; exact absurd h c
theorem Rl_judge {u v : jU} (h : Rl u v) : Rl (pJudge u) v := by
  obtain ⟨a, b, -, -, s⟩ := judge_U h.2.1 h.2.2.1
  exact ⟨rP_sm s h.1, a, b, h.2.2.2⟩
theorem Rl_up4 {u v : jU} (h : Rl u v) (x : Int32) : Rl u (up v 0 4 x) := ⟨rP_sv (up4_sv v x) h.1, h.2.1, h.2.2.1, rV_up4 x h.2.2.2⟩
theorem Rl_find {u v : jU} (h : Rl u v) : Rl u (mFind v) := by
  have a := (find_V h.2.2.2).2.1
  have s := (find_V h.2.2.2).2.2.2.1
  exact ⟨rP_sv s h.1, h.2.1, h.2.2.1, a⟩
theorem Rl_askJ {u v : jU} (h : Rl u v) (c0 : Option String) : Rl (pAskJ c0 u) v := by
  unfold pAskJ
  split
  · exact Rl_judge h
  · exact h
theorem fault_neg {u v : jU} (h : Rl u v) (hf : pcFault u = none) : faX u = -1 := by
  have hj := (judge_U h.2.1 h.2.2.1).2.2.1
  unfold pcFault at hf
  rw [hj.1] at hf
  by_cases c : faX u = -1
  · exact c
  · rw [if_neg c] at hf; cases hf
/-- the class, settled -/
theorem JS_U {u v : jU} (h : Rl u v) (hf : pcFault u = none) : wfT (pJudge u) ∧ rW (pJS u) ∧ rC (pJS u) ∧ smP u (pJS u) ∧ lyq (pJS u) (laX u) ∧ eqr (pJS u 4) (rkX u (gvc u)) ∧ pJS u 3 = pJudge u 3 := by
  have hfa := fault_neg h hf
  obtain ⟨a1, a2, a3, a4, a5⟩ := judge_U h.2.1 h.2.2.1
  have hfj : faX (pJudge u) = -1 := by rw [fa_sm a5]; exact hfa
  have b := settle_U a1 a2 a4 hfj
  have b6 := b.2.2.2.2.2.1
  refine ⟨b.1, b.2.1, b.2.2.1, a5.tr b.2.2.2.2.1, ?_, b.2.2.2.1.tr (rk_sm a5 h.2.1), b6⟩
  unfold lyq
  show ∀ r, r < 8 → pSettle (pJudge u) 3 r = _
  rw [b6]
  exact a3.2 hfa
theorem Rl_JS {u v : jU} (h : Rl u v) (hf : pcFault u = none) : Rl (pJS u) v := by
  have j := JS_U h hf
  exact ⟨rP_sm j.2.2.2.1 h.1, j.2.1, j.2.2.1, h.2.2.2⟩
theorem Rl_askS {u v : jU} (h : Rl u v) (c0 : Option String) : Rl (pAskS c0 u) v := by
  unfold pAskS
  split
  · split
    · exact Rl_JS h ‹_›
    · exact Rl_judge h
  · exact h
theorem wT_of {u v : jU} (h : Rl u v) : pcFault u = none → wfT (pJudge u) := fun hf => (JS_U h hf).1
theorem find_rel {u v : jU} (h : Rl u v) : inN (mFind v 0 0) 9 ∧ u 0 0 = mFind v 0 0 ∧ u 0 1 = mFind v 0 1 ∧ u 1 = mFind v 1 := by
  have a := (find_V h.2.2.2).2.1
  have s := (find_V h.2.2.2).2.2.2.1
  exact ⟨a.1.1, h.1.1.trans s.1.symm, h.1.2.1.trans s.2.1.symm, h.1.2.2.1.trans (s.2.2 1 (by decide)).symm⟩
theorem sim_fault {u v : jU} (h : Rl u v) : pJudge u 0 2 = (m_fault v).1 ∧ Rl (pJudge u) (m_fault v).2 := by
  have h4 := Rl_up4 h 0
  have hj := (judge_U h.2.1 h.2.2.1).2.2.1
  have hk := (find_V h4.2.2.2).2.2.1
  unfold m_fault
  refine ⟨?_, Rl_judge (Rl_find h4)⟩
  show pJudge u 0 2 = mFind (up v 0 4 0) 0 2
  rw [hj.1, hk.1.1, fa_uv h4]
theorem sim_layer {u v : jU} (h : Rl u v) (r : Int32) : kc xIA xIS (pcAsk (pcRel u r) u) = (m_layer v r).2 0 4 ∧ (pcAsk (pcRel u r) u = none → pJudge u 3 (tn r) = (m_layer v r).1) ∧ Rl (pAskJ (pcRel u r) u) (m_layer v r).2 := by
  obtain ⟨g1, g2, g3, g4⟩ := find_rel h
  obtain ⟨k1, k2⟩ := ask_code h (rel_uv g1 g2 r) (pcRel_or u r)
  unfold m_layer
  dsimp only
  rw [refuse_eq]
  dsimp only
  refine ⟨by rw [up_same]; exact k1, fun hn => ?_, Rl_askJ (Rl_up4 (Rl_find h) _) _⟩
  obtain ⟨n1, n2⟩ := ask_none hn
  have hj := (judge_U h.2.1 h.2.2.1).2.2.1
  have hk := (find_V h.2.2.2).2.2.1
  have hfa := fault_neg h n2
  have hr8 := (rel_in h.2.1.1 n1).2
  rw [k2.mp hn, if_pos rfl, if_pos rfl, up_comp _ _ _ _ (by decide), hj.2 hfa _ hr8, hk.1.2 (by rw [← fa_uv h]; exact hfa) _ hr8, la_uv h]
theorem sim_rank {u v : jU} (h : Rl u v) (r a b : Int32) : kc xIA xIS (pcAsk (pcFact u r a b) u) = (m_rank v r a b).2 0 4 ∧ (pcAsk (pcFact u r a b) u = none → pJS u 4 (pFx u r a b) = (m_rank v r a b).1) ∧ Rl (pAskS (pcFact u r a b) u) (m_rank v r a b).2 := by
  obtain ⟨g1, g2, g3, g4⟩ := find_rel h
  obtain ⟨k1, k2⟩ := ask_code h (fact_uv g1 g2 g4 r a b) (pcFact_or u r a b)
  unfold m_rank
  dsimp only
  rw [refuse_eq]
  dsimp only
  refine ⟨by rw [up_same]; exact k1, fun hn => ?_, Rl_askS (Rl_up4 (Rl_find h) _) _⟩
  obtain ⟨n1, n2⟩ := ask_none hn
  have hfa := fault_neg h n2
  have hk := (find_V h.2.2.2).2.2.1
  have j6 := (JS_U h n2).2.2.2.2.2.1
  have hr8 := rel_in h.2.1.1 (fact_rel n1)
  have hlt : pFx u r a b < 1152 := fact2_lt hr8 (fact_fst n1) (fact_snd n1)
  rw [k2.mp hn, if_pos rfl, if_pos rfl, up_comp _ _ _ _ (by decide), ← fx_uv g4, j6 _ hlt, hk.2 (by rw [← fa_uv h]; exact hfa) _ hlt]
  exact rk_uv h _ hlt
theorem cn_eq {s w : jU} {ρ : Nat → Int32} {cnt : Nat} (hρ : rok cnt ρ) (h1 : eqr (s 4) ρ) (h2 : eqr (w 4) ρ) {b : Nat} (hb' : b + 144 ≤ 1152) : ∀ n, n ≤ 144 → pCn s b n = mCn w b n := by
  intro n
  induction n with
  | zero => intro _; rfl
  | succ n ih =>
    intro hn
    unfold pCn mCn
    rw [ih (by omega), h1 _ (by omega)]
    unfold m_holds
    rw [h2 _ (by omega)]
    rcases hρ (b + n) (by omega) with c | c
    · rw [c, if_pos rfl, if_pos (by decide)]
    · have hnn := inN_nn c.1 (by decide)
      rw [if_neg (fun z => hnn (by rw [z]; decide)), if_neg hnn, if_neg (by decide)]
theorem rok_X {u v : jU} (h : Rl u v) : rok (tn (u 0 0)) (rkX u (gvc u)) := rok_abx h.2.1.2.1 h.2.1.K (fun i hi => (h.2.1.2.2.2.2.1 i hi).2.2) h.2.1.2.2.2.2.2 9
theorem sim_count {u v : jU} (h : Rl u v) (r : Int32) : kc xIA xIS (pcAsk (pcRel u r) u) = (m_count v r).2 0 4 ∧ (pcAsk (pcRel u r) u = none → pCn (pJS u) (144 * tn r) 144 = (m_count v r).1) ∧ Rl (pAskS (pcRel u r) u) (m_count v r).2 := by
  obtain ⟨g1, g2, g3, g4⟩ := find_rel h
  obtain ⟨k1, k2⟩ := ask_code h (rel_uv g1 g2 r) (pcRel_or u r)
  unfold m_count
  rw [refuse_eq]
  dsimp only
  by_cases c : cdx (if m_in r 0 (mFind v 0 0 - 1) = 0 then 1 else 0) (if m_in r 0 (mFind v 0 0 - 1) = 0 then 0 else (if mFind v 0 2 < 0 then 0 else 1)) 0 = 0
  · rw [c] at k1 ⊢
    rw [if_pos rfl, if_pos rfl]
    dsimp only
    refine ⟨by rw [up_same]; exact k1, fun hn => ?_, Rl_askS (Rl_up4 (Rl_find h) _) _⟩
    obtain ⟨n1, n2⟩ := ask_none hn
    have hfa := fault_neg h n2
    have hk := (find_V h.2.2.2).2.2.1
    have j6 := (JS_U h n2).2.2.2.2.2.1
    have hr8 := (rel_in h.2.1.1 n1).2
    refine cn_eq (rok_X h) j6 ?_ (by omega) 144 (Nat.le_refl _)
    rw [up_rows _ _ _ (by decide)]
    exact (hk.2 (by rw [← fa_uv h]; exact hfa)).tr (rk_uv h).sy
  · rw [if_neg (by rw [if_neg c]; decide)]
    dsimp only
    refine ⟨by rw [up_same]; exact k1, fun hn => absurd (k2.mp hn) c, Rl_askS (Rl_up4 (Rl_find h) _) _⟩
