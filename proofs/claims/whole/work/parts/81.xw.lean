-- the mathematics, twentieth part: every rank has its rule
/-- what counts below rank k of layer ly -/
def hlx (M : Nat → Nat) (ρ : Nat → Int32) (ly k : Nat) : Nat → Bool := fun g => decide (¬ ρ g = -1) && (decide (M (g / 144) < ly) || (decide (M (g / 144) = ly) && decide (tn (ρ g) < k)))
theorem hlx_t {M : Nat → Nat} {ρ : Nat → Int32} {ly k g : Nat} : hlx M ρ ly k g = true ↔ ¬ ρ g = -1 ∧ (M (g / 144) < ly ∨ (M (g / 144) = ly ∧ tn (ρ g) < k)) := by
  unfold hlx
  rw [Bool.and_eq_true, Bool.or_eq_true, Bool.and_eq_true, decide_eq_true_iff, decide_eq_true_iff, decide_eq_true_iff, decide_eq_true_iff]
/-- within layer ly, before round rd -/
def rkI (u : jU) (M : Nat → Nat) (ly rd : Nat) (ρ : Nat → Int32) : Prop := ∀ f, f < 1152 → (ρ f = -1 ∨ inN (ρ f) 1154) ∧ (ly < M (f / 144) → ρ f = -1) ∧ (M (f / 144) = ly → ρ f = -1 ∨ tn (ρ f) < rd) ∧ (¬ ρ f = -1 → ¬ ρ f = 0 → ∃ i, i < tn (u 0 1) ∧ dvx u (hlx M ρ (M (f / 144)) (tn (ρ f))) i f)
theorem rkI_hrx {u : jU} {M : Nat → Nat} {ly rd : Nat} {ρ : Nat → Int32} (h : rkI u M ly rd ρ) {f : Nat} (hf : f < 1152) : hrx ρ f = true ↔ ¬ ρ f = -1 := by
  rw [hrx_t]
  rcases (h f hf).1 with c | c
  · rw [c]; exact ⟨fun z => absurd (by decide) z, fun z => absurd rfl z⟩
  · have := inN_nn c (by decide)
    exact ⟨fun _ e => this (by rw [e]; decide), fun _ => this⟩
theorem rkI_st {u : jU} (hR : wfR u) (hK : tn (u 0 1) ≤ 16) {M : Nat → Nat} (hM : lyq u M) (h7 : ∀ r, r < 8 → M r ≤ 7) {ly rd : Nat} (hly : ly < 9) (hrd1 : 1 ≤ rd) (hrd : rd < 1154) {ρ : Nat → Int32} (h : rkI u M ly rd ρ) : rkI u M ly (rd + 1) (stx u (u 3) (nI ly) (nI rd) ρ) := by
  have ern : tn (nI rd) = rd := nI_clamp (by omega)
  have hnew : ∀ f, f < 1152 → nsx u (u 3) (nI ly) ρ f → M (f / 144) = ly ∧ ρ f = -1 := by
    rintro f hf ⟨a1, i, a2, a3, x, hx, -, a4⟩
    have hB := hR.2 (5 * i) (by omega)
    have h1 := tvx_lt hx hB.2.1
    have h2 := tvx_lt hx hB.2.2.1
    have h3 : f / 144 = tn (u 16 (5 * i)) := by unfold fcx at a4; omega
    have h4 := hM _ hB.1.2
    rw [a3] at h4
    have h5 := h7 _ hB.1.2
    have h6 := nI_inj (by omega) (by omega) h4
    refine ⟨by rw [h3, ← h6], Classical.byContradiction (fun z => ?_)⟩
    exact (hrx_t.mp ((rkI_hrx h hf).mpr z)) a1
  have hval : ∀ f, f < 1152 → (nsx u (u 3) (nI ly) ρ f → stx u (u 3) (nI ly) (nI rd) ρ f = nI rd) ∧ (¬ nsx u (u 3) (nI ly) ρ f → stx u (u 3) (nI ly) (nI rd) ρ f = ρ f) := fun f _ => ⟨fun c => cif_pos c _ _, fun c => cif_neg c _ _⟩
  intro f hf
  obtain ⟨p1, p2, p3, p4⟩ := h f hf
  obtain ⟨v1, v2⟩ := hval f hf
  by_cases c : nsx u (u 3) (nI ly) ρ f
  · obtain ⟨c1, c2⟩ := hnew f hf c
    rw [v1 c, ern]
    refine ⟨Or.inr (inN_nI hrd (by decide)), fun z => absurd z (by omega), fun _ => Or.inr (by omega), fun _ _ => ?_⟩
    obtain ⟨-, i, a2, a3, a4⟩ := c
    refine ⟨i, a2, (dvx_h hR (fun g hg => bool_iff ?_) (by omega) f).mp a4⟩
    rw [rkI_hrx h hg, hlx_t, c1]
    obtain ⟨w1, w2⟩ := hval g hg
    obtain ⟨q1, q2, q3, -⟩ := h g hg
    by_cases d : nsx u (u 3) (nI ly) ρ g
    · obtain ⟨d1, d2⟩ := hnew g hg d
      rw [w1 d, ern, d1]
      constructor
      · intro z; exact absurd d2 z
      · rintro ⟨-, z | z⟩
        · exact absurd z (by omega)
        · exact absurd z.2 (by omega)
    · rw [w2 d]
      constructor
      · intro z
        refine ⟨z, ?_⟩
        rcases Nat.lt_trichotomy (M (g / 144)) ly with e | e | e
        · exact Or.inl e
        · exact Or.inr ⟨e, (q3 e).resolve_left z⟩
        · exact absurd (q2 e) z
      · exact fun z => z.1
  · rw [v2 c]
    refine ⟨p1, p2, fun z => (p3 z).imp id (fun y => by omega), fun z1 z2 => ?_⟩
    obtain ⟨i, a2, a4⟩ := p4 z1 z2
    refine ⟨i, a2, (dvx_h hR (fun g hg => bool_iff ?_) (by omega) f).mp a4⟩
    rw [hlx_t, hlx_t]
    obtain ⟨w1, w2⟩ := hval g hg
    by_cases d : nsx u (u 3) (nI ly) ρ g
    · obtain ⟨d1, d2⟩ := hnew g hg d
      rw [w1 d, ern, d1, d2]
      constructor
      · intro z; exact absurd rfl z.1
      · rintro ⟨-, z | z⟩
        · exact absurd (p2 z) z1
        · have := (p3 z.1.symm).resolve_left z1
          exact absurd z.2 (by omega)
    · rw [w2 d]
theorem rkI_rd {u : jU} (hR : wfR u) (hK : tn (u 0 1) ≤ 16) {M : Nat → Nat} (hM : lyq u M) (h7 : ∀ r, r < 8 → M r ≤ 7) {ly : Nat} (hly : ly < 9) : ∀ (n rd : Nat) {ρ : Nat → Int32}, 1 ≤ rd → rd + n ≤ 1154 → rkI u M ly rd ρ → rkI u M ly (rd + n) (rdx u (u 3) (nI ly) n rd ρ) := by
  intro n
  induction n with
  | zero => intro rd ρ _ _ h; exact h
  | succ n ih =>
    intro rd ρ h1 h2 h
    have h3 := ih (rd + 1) (by omega) (by omega) (rkI_st hR hK hM h7 hly h1 (by omega) h)
    rw [show rd + 1 + n = rd + (n + 1) by omega] at h3
    exact h3
/-- before layer n -/
def rkB (u : jU) (M : Nat → Nat) (n : Nat) (ρ : Nat → Int32) : Prop := ∀ f, f < 1152 → (ρ f = -1 ∨ inN (ρ f) 1154) ∧ (n ≤ M (f / 144) → ρ f = -1) ∧ (¬ ρ f = -1 → ¬ ρ f = 0 → ∃ i, i < tn (u 0 1) ∧ dvx u (hlx M ρ (M (f / 144)) (tn (ρ f))) i f)
theorem rkB_abx {u : jU} (hR : wfR u) (hK : tn (u 0 1) ≤ 16) {M : Nat → Nat} (hM : lyq u M) (h7 : ∀ r, r < 8 → M r ≤ 7) (gv : Nat → Bool) : ∀ n, n ≤ 9 → rkB u M n (abx u (u 3) gv n) := by
  intro n
  induction n with
  | zero => intro _ f hf; exact ⟨Or.inl rfl, fun _ => rfl, fun z => absurd rfl z⟩
  | succ n ih =>
    intro hn
    have h := ih (by omega)
    rw [abx_s, lyx_d]
    generalize abx u (u 3) gv n = ρ at h ⊢
    have hg : ∀ f, f < 1152 → (gv f = true ∧ M (f / 144) = n → gvx (u 3) gv (nI n) ρ f = 0) ∧ (¬ (gv f = true ∧ M (f / 144) = n) → gvx (u 3) gv (nI n) ρ f = ρ f) := by
      intro f hf
      have h1 := h7 (f / 144) (by omega)
      have h2 : u 3 (f / 144) = nI n ↔ M (f / 144) = n := by rw [hM _ (by omega)]; exact nI_eq (by omega) (by omega)
      unfold gvx
      exact ⟨fun z => if_pos ⟨z.1, h2.mpr z.2⟩, fun z => if_neg (fun y => z ⟨y.1, h2.mp y.2⟩)⟩
    have h1 : rkI u M n 1 (gvx (u 3) gv (nI n) ρ) := by
      intro f hf
      obtain ⟨p1, p2, p3⟩ := h f hf
      obtain ⟨g1, g2⟩ := hg f hf
      have t0 : tn (0 : Int32) = 0 := by decide
      by_cases c : gv f = true ∧ M (f / 144) = n
      · rw [g1 c, t0]
        exact ⟨Or.inr (inN_0 (by decide)), fun z => absurd z (by omega), fun _ => Or.inr (by omega), fun _ z => absurd rfl z⟩
      · rw [g2 c]
        refine ⟨p1, fun z => p2 (by omega), fun z => Or.inl (p2 (by omega)), fun z1 z2 => ?_⟩
        obtain ⟨i, a2, a4⟩ := p3 z1 z2
        refine ⟨i, a2, (dvx_h hR (fun g hg2 => bool_iff ?_) (by omega) f).mp a4⟩
        rw [hlx_t, hlx_t]
        obtain ⟨w1, w2⟩ := hg g hg2
        by_cases d : gv g = true ∧ M (g / 144) = n
        · have hlt : M (f / 144) < n := Nat.lt_of_not_le (fun z => z1 (p2 z))
          rw [w1 d, (h g hg2).2.1 (by omega)]
          constructor
          · intro z; exact absurd rfl z.1
          · rintro ⟨-, z | z⟩
            · exact absurd z (by omega)
            · exact absurd z.1 (by omega)
        · rw [w2 d]
    have h2 := rkI_rd hR hK hM h7 (show n < 9 by omega) mRx 1 (Nat.le_refl _) (by unfold mRx; omega) h1
    intro f hf
    obtain ⟨q1, q2, -, q4⟩ := h2 f hf
    exact ⟨q1, fun z => q2 (by omega), q4⟩
/-- every rank above 0 has a rule that brings it out of what counts below -/
theorem abx_ex {u : jU} (hR : wfR u) (hK : tn (u 0 1) ≤ 16) {M : Nat → Nat} (hM : lyq u M) (h7 : ∀ r, r < 8 → M r ≤ 7) (gv : Nat → Bool) {f : Nat} (hf : f < 1152) (h1 : ¬ abx u (u 3) gv 9 f = -1) (h0 : ¬ abx u (u 3) gv 9 f = 0) : ∃ i, i < tn (u 0 1) ∧ dvx u (hlx M (abx u (u 3) gv 9) (M (f / 144)) (tn (abx u (u 3) gv 9 f))) i f := (rkB_abx hR hK hM h7 gv 9 (Nat.le_refl _) f hf).2.2 h1 h0
-- ways
/-- in how many ways rule i brings f -/
noncomputable def wcx (w : jU) (h : Nat → Bool) (i f : Nat) : Nat := sm (fun m => cnf (lf0 (mkx w i) m = 0 ∧ fcx w (dg (mkx w i) m) (5 * i) = f ∧ mtx w h (dg (mkx w i) m) i)) nMx
noncomputable def wcn (w : jU) (h : Nat → Bool) (i f n : Nat) : Nat := sm (fun m => cnf (n ≤ m ∧ lf0 (mkx w i) m = 0 ∧ fcx w (dg (mkx w i) m) (5 * i) = f ∧ mtx w h (dg (mkx w i) m) i)) nMx
theorem wcn_0 (w : jU) (h : Nat → Bool) (i f : Nat) : wcn w h i f 0 = wcx w h i f := by
  unfold wcn wcx
  exact sm_congr (fun m _ => cnf_iff ⟨fun z => z.2, fun z => ⟨Nat.zero_le _, z⟩⟩)
theorem sm_zer {g : Nat → Nat} (h : ∀ m, g m = 0) (N : Nat) : sm g N = 0 := (sm_congr (g := fun _ => 0) (fun m _ => h m)).trans (sm_zero N)
theorem wcn_end {w : jU} {h : Nat → Bool} {i f n : Nat} (hn : ¬ lf0 (mkx w i) n = 0) : wcn w h i f n = 0 := by
  unfold wcn
  refine sm_zer (fun m => cnf_neg ?_) nMx
  rintro ⟨a, b, -⟩
  have := lf0_mono (b := mkx w i) a
  omega
theorem wcn_step {w : jU} (hR : wfR w) {i f n : Nat} (hi : i < 16) (hx : ∀ q, q < 4 → w 6 q = nI (dg (mkx w i) n q)) (hn : lf0 (mkx w i) n = 0) : wcn w (hol w) i f n = cnf (fcx w (dg (mkx w i) n) (5 * i) = f ∧ mtx w (hol w) (dg (mkx w i) n) i) + wcn w (hol w) i f (mBeh w i n) := by
  have hb := mBeh_b w i n
  have hlt := lf0_lt hn
  have h1 : cnf (fcx w (dg (mkx w i) n) (5 * i) = f ∧ mtx w (hol w) (dg (mkx w i) n) i) = sm (fun m => cnf (m = n ∧ fcx w (dg (mkx w i) n) (5 * i) = f ∧ mtx w (hol w) (dg (mkx w i) n) i)) nMx := by
    by_cases c : fcx w (dg (mkx w i) n) (5 * i) = f ∧ mtx w (hol w) (dg (mkx w i) n) i
    · rw [cnf_pos c]
      have h2 := sm_uniq (P := fun m => m = n ∧ fcx w (dg (mkx w i) n) (5 * i) = f ∧ mtx w (hol w) (dg (mkx w i) n) i) (m0 := n) (fun m => ⟨fun z => z.1, fun z => ⟨z, c⟩⟩) nMx
      rw [h2, if_pos (by unfold nMx; omega)]
    · rw [cnf_neg c]
      exact (sm_zer (fun m => cnf_neg (fun z => c z.2)) nMx).symm
  rw [h1]
  unfold wcn
  rw [← sm_add]
  refine sm_congr (fun m _ => ?_)
  by_cases e : m = n
  · subst e
    rw [cnf_neg (p := mBeh w i m ≤ m ∧ _) (fun z => absurd z.1 (by omega)), Nat.add_zero]
    exact cnf_iff ⟨fun z => ⟨rfl, z.2.2⟩, fun z => ⟨Nat.le_refl _, hn, z.2⟩⟩
  · rw [cnf_neg (p := m = n ∧ _) (fun z => e z.1), Nat.zero_add]
    refine cnf_iff ⟨fun z => ⟨?_, z.2⟩, fun z => ⟨by omega, z.2⟩⟩
    rcases Nat.lt_or_ge m (mBeh w i n) with h2 | h2
    · exact absurd z.2.2.2 (skip_no hR hi hx (by omega) h2)
    · exact h2
theorem wcn_pg {w w' : jU} (h : pgq w w') (hh : Nat → Bool) (i f n : Nat) : wcn w' hh i f n = wcn w hh i f n := by
  unfold wcn
  rw [mkx_pg h]
  refine sm_congr (fun m _ => cnf_iff ?_)
  rw [fcx_pg h, mtx_pg h]
theorem wcx_pg {w w' : jU} (h : pgq w w') (hh : Nat → Bool) (i f : Nat) : wcx w' hh i f = wcx w hh i f := by rw [← wcn_0, ← wcn_0, wcn_pg h]
theorem wn_spec {w : jU} (hR : wfR w) {i : Nat} (hi : i < 16) {r : Int32} {fx : Nat} (hfx : fx < 1152) (hr : w 16 (5 * i) = r) : ∀ (fuel n z : Nat) (u : jU), kp [6] w u → 20736 < n + fuel → n < 2 ^ 20 →
    kp [6] w (mWn r fx i fuel n (nI z) u).2 ∧ (mWn r fx i fuel n (nI z) u).1 = nI (z + wcn w (hol w) i fx n) := by
  intro fuel
  induction fuel with
  | zero =>
    intro n z u hk hf hn
    have h0 : ¬ lf0 (mkx w i) n = 0 := fun h => by have := lf0_lt h; omega
    rw [wcn_end h0]
    exact ⟨hk, rfl⟩
  | succ fuel ih =>
    intro n z u hk hf hn
    have pg0 : pgq w u := hk.pg (by decide)
    have hR0 : wfR u := wfR_pg pg0 hR
    have ho := mInst_o6 u i n
    have hk1 : kp [6] w (mInst u i n).2 := hk.tr (ho.kp (by decide))
    have pg1 : pgq w (mInst u i n).2 := hk1.pg (by decide)
    have h6 : ∀ q, q < 4 → (mInst u i n).2 6 q = nI (dg (mkx w i) n q) := fun q hq => by rw [inst_6 hR0 hi n hq, mkx_pg pg0]
    have he := inst_1 hR0 hi (show n < 2 ^ 31 by omega)
    rw [mkx_pg pg0] at he
    have hru : u 16 (5 * i) = r := by rw [hk 16 (by decide)]; exact hr
    rw [mWn, if_pos hru]
    by_cases h1 : (mInst u i n).1 = 0
    · rw [if_pos h1, wcn_end (he.mp h1)]
      exact ⟨hk1, rfl⟩
    · rw [if_neg h1]
      have hl0 : lf0 (mkx w i) n = 0 := Classical.byContradiction (fun z => h1 (he.mpr z))
      generalize (mInst u i n).2 = u1 at hk1 pg1 h6 ⊢
      have hR1 : wfR u1 := wfR_pg pg1 hR
      have h41 : u1 4 = w 4 := hk1 4 (by decide)
      have hfe : mFact u1 (5 * i) = fcx w (dg (mkx w i) n) (5 * i) := by
        rw [fact_eq h6 (dg_lt _ _) (hR1.2 _ (by omega)), fcx_pg pg1]
      have hme := met_eq hR1 h6 (dg_lt _ _) hi
      rw [hol_c h41, mtx_pg pg1] at hme
      have hst := wcn_step (f := fx) hR1 hi (by rw [mkx_pg pg1]; exact h6) (by rw [mkx_pg pg1]; exact hl0)
      rw [hol_c h41, mkx_pg pg1, fcx_pg pg1, mtx_pg pg1, wcn_pg pg1, wcn_pg pg1] at hst
      have hlt := lf0_lt hl0
      have hbb := mBeh_b u1 i n
      have hfl : fcx w (dg (mkx w i) n) (5 * i) < 1152 := fcx_lt (dg_lt _ _) (hR.2 _ (by omega))
      have hval : (if nI (mFact u1 (5 * i)) = nI fx then (if mMet u1 i = 0 then nI z else nI z + 1) else nI z) = nI (z + cnf (fcx w (dg (mkx w i) n) (5 * i) = fx ∧ mtx w (hol w) (dg (mkx w i) n) i)) := by
        rw [hfe]
        by_cases c1 : fcx w (dg (mkx w i) n) (5 * i) = fx
        · rw [if_pos (by rw [c1])]
          by_cases c2 : mMet u1 i = 0
          · rw [if_pos c2, cnf_neg (fun y => absurd c2 (hme.mpr y.2)), Nat.add_zero]
          · rw [if_neg c2, cnf_pos ⟨c1, hme.mp c2⟩]; exact nI_add z 1
        · rw [if_neg (fun y => c1 (nI_inj (by omega) (by omega) y)), cnf_neg (fun y => c1 y.1), Nat.add_zero]
      rw [hval, hst, ← Nat.add_assoc]
      exact ih (mBeh u1 i n) _ u1 hk1 (by omega) (by omega)
theorem wcx_no {w : jU} (hR : wfR w) {h : Nat → Bool} {i f : Nat} (hi : i < 16) (hne : ¬ f / 144 = tn (w 16 (5 * i))) : wcx w h i f = 0 := by
  unfold wcx
  refine sm_zer (fun m => cnf_neg ?_) nMx
  rintro ⟨-, b, -⟩
  have hB := hR.2 (5 * i) (by omega)
  have h1 := tvx_lt (dg_lt (mkx w i) m) hB.2.1
  have h2 := tvx_lt (dg_lt (mkx w i) m) hB.2.2.1
  unfold fcx at b
  omega
theorem wk_spec {w : jU} (hR : wfR w) {r : Int32} (hr : inN r 8) {fx : Nat} (hfx : fx < 1152) (hfr : fx / 144 = tn r) : ∀ n, n ≤ 16 → kp [6] w (itG (mWk r fx) n (0, w)).2 ∧ (itG (mWk r fx) n (0, w)).1 = nI (sm (fun i => wcx w (hol w) i fx) n) := by
  intro n
  induction n with
  | zero => intro _; exact ⟨kp.rf _ w, rfl⟩
  | succ n ih =>
    intro hn
    obtain ⟨k1, a1⟩ := ih (by omega)
    rw [itG_s]
    generalize itG (mWk r fx) n (0, w) = y at k1 a1 ⊢
    unfold mWk
    rw [a1]
    have pg : pgq w y.2 := k1.pg (by decide)
    by_cases c : w 16 (5 * n) = r
    · obtain ⟨b1, b2⟩ := wn_spec hR (show n < 16 by omega) hfx c mFuel 0 (sm (fun i => wcx w (hol w) i fx) n) y.2 k1 (by unfold mFuel; omega) (by decide)
      rw [wcn_0] at b2
      exact ⟨b1, b2⟩
    · have h0 : wcx w (hol w) n fx = 0 := wcx_no hR (by omega) (fun z => c (by
        have hB := hR.2 (5 * n) (by omega)
        rw [hB.1.1, hr.1, ← hfr, z]))
      have e : ∀ fuel, mWn r fx n (fuel + 1) 0 (nI (sm (fun i => wcx w (hol w) i fx) n)) y.2 = (nI (sm (fun i => wcx w (hol w) i fx) n), y.2) := fun fuel => by
        rw [mWn, if_neg (by rw [k1 16 (by decide)]; exact c)]
      have ef : mFuel = 20736 + 1 := rfl
      rw [ef, e]
      refine ⟨k1, ?_⟩
      show nI _ = nI (sm (fun i => wcx w (hol w) i fx) n + wcx w (hol w) n fx)
      rw [h0, Nat.add_zero]
/-- the class's ways -/
theorem ways_c {u : jU} {h : Nat → Bool} (hg : ∀ i, i < tn (u 0 1) → grd u h i) (hK : tn (u 0 1) ≤ 16) {r : Int32} (hr : inN r 8) {a b : Nat} (ha : a < 12) (hb' : b < 12) : ∀ (n i z : Nat) (w : jU), i + n ≤ tn (u 0 1) → rst u w →
    rst u (pWays r (nI a) (nI b) n i (nI z) w).2 ∧ only6 w (pWays r (nI a) (nI b) n i (nI z) w).2 ∧ (pWays r (nI a) (nI b) n i (nI z) w).1 = nI (z + sm (fun k => wcx u h (i + k) (144 * tn r + 12 * a + b)) n) := by
  intro n
  induction n with
  | zero => intro i z w _ hw; exact ⟨hw, only6.rf w, rfl⟩
  | succ n ih =>
    intro i z w hin hw
    have hi : i < tn (u 0 1) := by omega
    have hi16 : i < 16 := by omega
    have hs := (hg i hi).srch hw
    have pg : pgq u w := hw.1.pg (by decide)
    have hmt := meets_c hi16 hs hr ha hb'
    have hmo := pMeets_ok (u := w) i r (nI a) (nI b) (inN_nI ha (by decide)) (inN_nI hb' (by decide))
    have e2 : (fun k => wcx u h (i + (k + 1)) (144 * tn r + 12 * a + b)) = (fun k => wcx u h (i + 1 + k) (144 * tn r + 12 * a + b)) := by
      funext k; rw [show i + (k + 1) = i + 1 + k by omega]
    rw [sm_front, e2, Nat.add_zero]
    unfold pWays
    generalize pMeets w i r (nI a) (nI b) = p at hmt hmo ⊢
    obtain ⟨m1, m2, m3, m4⟩ := hmt
    have rp : rst u p.2 := hw.o6 hmo.1 m2 (hmo.2 hw.2.2)
    have pgp : pgq u p.2 := rp.1.pg (by decide)
    cases c : p.1 with
    | false =>
      rw [if_pos (by decide)]
      have h0 : wcx u h i (144 * tn r + 12 * a + b) = 0 := by
        unfold wcx
        refine sm_zer (fun m => cnf_neg ?_) nMx
        rintro ⟨-, q1, q2⟩
        exact m4 c _ (dg_lt _ _) (by rw [fcx_pg pg]; exact q1) ((mtx_pg pg _ _ _).mpr q2)
      obtain ⟨b1, b2, b3⟩ := ih (i + 1) z p.2 (by omega) rp
      refine ⟨b1, hmo.1.tr b2, ?_⟩
      rw [b3]
      show _ = nI (z + (wcx u h i (144 * tn r + 12 * a + b) + _))
      rw [h0, Nat.zero_add]
    | true =>
      rw [if_neg (by decide)]
      obtain ⟨k1, k2, k3⟩ := m3 c
      have hcc := count_c (h := h) hi16 5 20 p.2 m1 k1 (by omega) (by omega) (fun v _ y => absurd y (by omega)) (by omega)
      have h0 : cnx p.2 h i = wcx u h i (144 * tn r + 12 * a + b) := by
        unfold cnx wcx
        rw [mkx_pg pgp]
        refine sm_congr (fun m _ => cnf_iff ?_)
        rw [k3 _ (dg_lt _ _), mtx_pg pgp, fcx_pg pg]
      rw [hcc]
      dsimp only
      rw [h0, nI_add]
      obtain ⟨b1, b2, b3⟩ := ih (i + 1) (z + wcx u h i (144 * tn r + 12 * a + b)) p.2 (by omega) rp
      refine ⟨b1, hmo.1.tr b2, ?_⟩
      rw [b3, Nat.add_assoc]
      rfl
