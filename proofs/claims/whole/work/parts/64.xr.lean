-- the mathematics, fourth part: the reference's rounds
/-- the same rules -/
def pgq (w w' : jU) : Prop := w' 12 = w 12 ∧ w' 16 = w 16 ∧ w' 17 = w 17 ∧ w' 18 = w 18 ∧ w' 19 = w 19
theorem pgq.rf (w : jU) : pgq w w := ⟨rfl, rfl, rfl, rfl, rfl⟩
theorem pgq.tr {a b c : jU} (h : pgq a b) (k : pgq b c) : pgq a c := ⟨k.1.trans h.1, k.2.1.trans h.2.1, k.2.2.1.trans h.2.2.1, k.2.2.2.1.trans h.2.2.2.1, k.2.2.2.2.trans h.2.2.2.2⟩
theorem pgq.sy {a b : jU} (h : pgq a b) : pgq b a := ⟨h.1.symm, h.2.1.symm, h.2.2.1.symm, h.2.2.2.1.symm, h.2.2.2.2.symm⟩
theorem kp.pg {cs : List Nat} {u v : jU} (h : kp cs u v) (hc : ∀ c ∈ [12, 16, 17, 18, 19], c ∉ cs) : pgq u v := ⟨h 12 (hc _ (by decide)), h 16 (hc _ (by decide)), h 17 (hc _ (by decide)), h 18 (hc _ (by decide)), h 19 (hc _ (by decide))⟩
theorem ocx_pg {w w' : jU} (h : pgq w w') (j v : Nat) : ocx w' j v = ocx w j v := by unfold ocx; rw [h.2.2.1, h.2.2.2.1]
theorem mkn_pg {w w' : jU} (h : pgq w w') (i v : Nat) : ∀ n, mkn w' i v n = mkn w i v n := by
  intro n
  induction n with
  | zero => rfl
  | succ n ih => unfold mkn; rw [ih, ocx_pg h]
theorem mkx_pg {w w' : jU} (h : pgq w w') (i : Nat) : mkx w' i = mkx w i := by
  funext v
  unfold mkx
  rw [h.1, mkn_pg h]
theorem fcx_pg {w w' : jU} (h : pgq w w') (x : Nat → Nat) (j : Nat) : fcx w' x j = fcx w x j := by unfold fcx; rw [h.2.1, h.2.2.1, h.2.2.2.1]
theorem mtx_pg {w w' : jU} (h : pgq w w') (hh : Nat → Bool) (x : Nat → Nat) (i : Nat) : mtx w' hh x i ↔ mtx w hh x i := by
  unfold mtx
  rw [h.1, h.2.2.2.2]
  constructor
  · intro k q hq; rw [← fcx_pg h]; exact k q hq
  · intro k q hq; rw [fcx_pg h]; exact k q hq
theorem wfR_pg {w w' : jU} (h : pgq w w') (hR : wfR w) : wfR w' := by
  refine ⟨fun i hi => ?_, fun j hj => ?_⟩
  · rw [h.1]; exact hR.1 i hi
  · have := hR.2 j hj
    unfold wfB at this ⊢
    rw [h.2.1, h.2.2.1, h.2.2.2.1, h.2.2.2.2]; exact this
/-- a fact that rule i brings, what holds being h -/
def dvx (w : jU) (h : Nat → Bool) (i f : Nat) : Prop := ∃ x : Nat → Nat, (∀ v, x v < 12) ∧ mtx w h x i ∧ fcx w x (5 * i) = f
theorem dvx_pg {w w' : jU} (h : pgq w w') (hh : Nat → Bool) (i f : Nat) : dvx w' hh i f ↔ dvx w hh i f := by
  constructor
  · rintro ⟨x, hx, hm, hf⟩; exact ⟨x, hx, (mtx_pg h _ _ _).mp hm, by rw [← fcx_pg h]; exact hf⟩
  · rintro ⟨x, hx, hm, hf⟩; exact ⟨x, hx, (mtx_pg h _ _ _).mpr hm, by rw [fcx_pg h]; exact hf⟩
theorem mtx_h {w : jU} (hR : wfR w) {h h' : Nat → Bool} (he : ∀ f, f < 1152 → h f = h' f) {x : Nat → Nat} (hx : ∀ v, x v < 12) {i : Nat} (hi : i < 16) : mtx w h x i ↔ mtx w h' x i := by
  have hs := (hR.1 i hi).2
  constructor
  · intro k q hq; rw [← he _ (fcx_lt hx (hR.2 _ (by omega)))]; exact k q hq
  · intro k q hq; rw [he _ (fcx_lt hx (hR.2 _ (by omega)))]; exact k q hq
theorem dvx_h {w : jU} (hR : wfR w) {h h' : Nat → Bool} (he : ∀ f, f < 1152 → h f = h' f) {i : Nat} (hi : i < 16) (f : Nat) : dvx w h i f ↔ dvx w h' i f := by
  constructor
  · rintro ⟨x, hx, hm, hf⟩; exact ⟨x, hx, (mtx_h hR he hx hi).mp hm, hf⟩
  · rintro ⟨x, hx, hm, hf⟩; exact ⟨x, hx, (mtx_h hR he hx hi).mpr hm, hf⟩
theorem dvx_lt {w : jU} (hR : wfR w) {h : Nat → Bool} {i f : Nat} (hi : i < 16) (hd : dvx w h i f) : f < 1152 := by
  obtain ⟨x, hx, -, rfl⟩ := hd
  exact fcx_lt hx (hR.2 _ (by omega))
/-- a number from n on whose values meet the rule and bring f -/
def nmx (w : jU) (h : Nat → Bool) (i n f : Nat) : Prop := ∃ m, n ≤ m ∧ lf0 (mkx w i) m = 0 ∧ mtx w h (dg (mkx w i) m) i ∧ fcx w (dg (mkx w i) m) (5 * i) = f
theorem nmx_dv {w : jU} (hR : wfR w) {h : Nat → Bool} {i f : Nat} (hi : i < 16) : nmx w h i 0 f ↔ dvx w h i f := by
  constructor
  · rintro ⟨m, -, -, hm, hf⟩
    exact ⟨dg (mkx w i) m, dg_lt _ _, hm, hf⟩
  · rintro ⟨x, hx, hm, hf⟩
    obtain ⟨n, hn, he⟩ := dg_surj (mkx w i) hx
    exact ⟨n, Nat.zero_le _, hn, (mtx_congr hR hi he).mpr hm, (head_congr hR hi he).trans hf⟩
theorem nmx_pg {w w' : jU} (h : pgq w w') {hh : Nat → Bool} {i n f : Nat} : nmx w' hh i n f ↔ nmx w hh i n f := by
  unfold nmx
  rw [mkx_pg h]
  constructor
  · rintro ⟨m, a, b, c, d⟩; exact ⟨m, a, b, (mtx_pg h _ _ _).mp c, by rw [← fcx_pg h]; exact d⟩
  · rintro ⟨m, a, b, c, d⟩; exact ⟨m, a, b, (mtx_pg h _ _ _).mpr c, by rw [fcx_pg h]; exact d⟩
theorem nmx_none {w : jU} {h : Nat → Bool} {i n f : Nat} (hn : ¬ lf0 (mkx w i) n = 0) : ¬ nmx w h i n f := by
  rintro ⟨m, a, b, -⟩
  have := lf0_mono (b := mkx w i) a
  omega
/-- the number n itself, or one behind those that are skipped -/
theorem nmx_step {w : jU} (hR : wfR w) {i n f : Nat} (hi : i < 16) (hx : ∀ q, q < 4 → w 6 q = nI (dg (mkx w i) n q)) (hn : lf0 (mkx w i) n = 0) : nmx w (hol w) i n f ↔ (mtx w (hol w) (dg (mkx w i) n) i ∧ fcx w (dg (mkx w i) n) (5 * i) = f) ∨ nmx w (hol w) i (mBeh w i n) f := by
  have hb := mBeh_b w i n
  constructor
  · rintro ⟨m, a, b, c, d⟩
    by_cases e : m = n
    · subst e; exact Or.inl ⟨c, d⟩
    · rcases Nat.lt_or_ge m (mBeh w i n) with h | h
      · exact absurd c (skip_no hR hi hx (by omega) h)
      · exact Or.inr ⟨m, h, b, c, d⟩
  · rintro (⟨c, d⟩ | ⟨m, a, b, c, d⟩)
    · exact ⟨n, Nat.le_refl _, hn, c, d⟩
    · exact ⟨m, by omega, b, c, d⟩
theorem hol_c {w w' : jU} (h : w' 4 = w 4) : hol w' = hol w := by unfold hol; rw [h]
/-- new facts of rule i from number n on -/
def nwx (w : jU) (i n f : Nat) : Prop := nmx w (hol w) i n f ∧ hol w f = false
theorem nwx_c {w w' : jU} (h : pgq w w') (h4 : w' 4 = w 4) {i n f : Nat} : nwx w' i n f ↔ nwx w i n f := by
  unfold nwx
  rw [hol_c h4, nmx_pg h]
theorem rn_spec {w : jU} (hR : wfR w) {i : Nat} (hi : i < 16) : ∀ (fuel n : Nat) (z : Int32) (u : jU), kp [5, 6] w u → 20736 < n + fuel → n < 2 ^ 20 →
    kp [5, 6] w (mRn i fuel n z u).2 ∧ (∀ f, nwx w i n f → (mRn i fuel n z u).2 5 f = 1) ∧ (∀ f, ¬ nwx w i n f → (mRn i fuel n z u).2 5 f = u 5 f) ∧ ((∃ f, nwx w i n f) → (mRn i fuel n z u).1 = 1) ∧ ((¬ ∃ f, nwx w i n f) → (mRn i fuel n z u).1 = z) := by
  intro fuel
  induction fuel with
  | zero =>
    intro n z u hk hf hn
    have h0 : ¬ lf0 (mkx w i) n = 0 := fun h => by have := lf0_lt h; omega
    have hno : ∀ f, ¬ nwx w i n f := fun f h => nmx_none h0 h.1
    exact ⟨hk, fun f h => absurd h (hno f), fun f _ => rfl, fun ⟨f, h⟩ => absurd h (hno f), fun _ => rfl⟩
  | succ fuel ih =>
    intro n z u hk hf hn
    have pg0 : pgq w u := hk.pg (by decide)
    have hR0 : wfR u := wfR_pg pg0 hR
    have h40 : u 4 = w 4 := hk 4 (by decide)
    have ho := mInst_o6 u i n
    have hk1 : kp [5, 6] w (mInst u i n).2 := hk.tr (ho.kp (by decide))
    have h5 : (mInst u i n).2 5 = u 5 := ho 5 (by decide)
    have pg1 : pgq w (mInst u i n).2 := hk1.pg (by decide)
    have h6 : ∀ q, q < 4 → (mInst u i n).2 6 q = nI (dg (mkx w i) n q) := fun q hq => by rw [inst_6 hR0 hi n hq, mkx_pg pg0]
    have he := inst_1 hR0 hi (show n < 2 ^ 31 by omega)
    rw [mkx_pg pg0] at he
    rw [mRn]
    split
    · rename_i h1
      have hno : ∀ f, ¬ nwx w i n f := fun f h => nmx_none (he.mp h1) h.1
      exact ⟨hk1, fun f h => absurd h (hno f), fun f _ => by rw [h5], fun ⟨f, h⟩ => absurd h (hno f), fun _ => rfl⟩
    · rename_i h1
      have hl0 : lf0 (mkx w i) n = 0 := Classical.byContradiction (fun z => h1 (he.mpr z))
      generalize (mInst u i n).2 = u1 at hk1 h5 pg1 h6
      have hR1 : wfR u1 := wfR_pg pg1 hR
      have h41 : u1 4 = w 4 := hk1 4 (by decide)
      have hfe : mFact u1 (5 * i) = fcx w (dg (mkx w i) n) (5 * i) := by
        rw [fact_eq h6 (dg_lt _ _) (hR1.2 _ (by omega)), fcx_pg pg1]
      have hme := met_eq hR1 h6 (dg_lt _ _) hi
      rw [hol_c h41, mtx_pg pg1] at hme
      have hhe : m_holds u1 (mFact u1 (5 * i)) = 0 ↔ hol w (fcx w (dg (mkx w i) n) (5 * i)) = false := by
        rw [hfe, hol_is (Or.inl rfl), hol_c h41]
        simp
      -- the state behind
      have key : kp [5, 6] w (mRb i z u1).2 ∧ (mRb i z u1).2 6 = u1 6 ∧
          ((mtx w (hol w) (dg (mkx w i) n) i ∧ hol w (fcx w (dg (mkx w i) n) (5 * i)) = false → (mRb i z u1).1 = 1 ∧ ∀ f, (mRb i z u1).2 5 f = if f = fcx w (dg (mkx w i) n) (5 * i) then 1 else u1 5 f)) ∧
          (¬ (mtx w (hol w) (dg (mkx w i) n) i ∧ hol w (fcx w (dg (mkx w i) n) (5 * i)) = false) → (mRb i z u1).1 = z ∧ ∀ f, (mRb i z u1).2 5 f = u1 5 f) := by
        unfold mRb
        by_cases c1 : m_holds u1 (mFact u1 (5 * i)) = 0
        · by_cases c2 : mMet u1 i = 0
          · rw [if_pos c1, if_pos c2]
            exact ⟨hk1, rfl, fun h => absurd c2 (hme.mpr h.1), fun _ => ⟨rfl, fun _ => rfl⟩⟩
          · rw [if_pos c1, if_neg c2]
            refine ⟨hk1.tr (kp_up _ _ _ (by decide)), up_rows u1 (mFact u1 (5 * i)) 1 (show 6 ≠ 5 by decide), fun _ => ⟨rfl, fun f => ?_⟩, fun h => absurd ⟨hme.mp c2, hhe.mp c1⟩ h⟩
            show up u1 5 (mFact u1 (5 * i)) 1 5 f = _
            rw [hfe]
            by_cases e : f = fcx w (dg (mkx w i) n) (5 * i)
            · subst e; rw [if_pos rfl, up_same]
            · rw [if_neg e, up_idx _ _ e]
        · rw [if_neg c1]
          exact ⟨hk1, rfl, fun h => absurd (hhe.mpr h.2) c1, fun _ => ⟨rfl, fun _ => rfl⟩⟩
      obtain ⟨hk2, h62, hyes, hno⟩ := key
      generalize (mRb i z u1).2 = u2 at hk2 h62 hyes hno ⊢
      generalize (mRb i z u1).1 = z2 at hyes hno ⊢
      have pg2 : pgq w u2 := hk2.pg (by decide)
      have hR2 : wfR u2 := wfR_pg pg2 hR
      have h42 : u2 4 = w 4 := hk2 4 (by decide)
      have h6' : ∀ q, q < 4 → u2 6 q = nI (dg (mkx u2 i) n q) := fun q hq => by rw [h62, mkx_pg pg2]; exact h6 q hq
      have hst : ∀ f, nwx w i n f ↔ ((mtx w (hol w) (dg (mkx w i) n) i ∧ hol w (fcx w (dg (mkx w i) n) (5 * i)) = false) ∧ fcx w (dg (mkx w i) n) (5 * i) = f) ∨ nwx w i (mBeh u2 i n) f := by
        intro f
        have h := nmx_step (f := f) hR2 hi h6' (by rw [mkx_pg pg2]; exact hl0)
        rw [hol_c h42, mkx_pg pg2, fcx_pg pg2, mtx_pg pg2, nmx_pg pg2, nmx_pg pg2] at h
        unfold nwx
        rw [h]
        constructor
        · rintro ⟨⟨a, b⟩ | a, c⟩
          · exact Or.inl ⟨⟨a, by rw [b]; exact c⟩, b⟩
          · exact Or.inr ⟨a, c⟩
        · rintro (⟨⟨a, c⟩, b⟩ | ⟨a, c⟩)
          · exact ⟨Or.inl ⟨a, b⟩, by rw [← b]; exact c⟩
          · exact ⟨Or.inr a, c⟩
      have hlt := lf0_lt hl0
      have hbb := mBeh_b u2 i n
      obtain ⟨r1, r2, r3, r4, r5⟩ := ih (mBeh u2 i n) z2 u2 hk2 (by omega) (by omega)
      by_cases hcur : mtx w (hol w) (dg (mkx w i) n) i ∧ hol w (fcx w (dg (mkx w i) n) (5 * i)) = false
      · obtain ⟨a1, a2⟩ := hyes hcur
        refine ⟨r1, fun f hf' => ?_, fun f hf' => ?_, fun _ => ?_, fun h => absurd ⟨_, (hst _).mpr (Or.inl ⟨hcur, rfl⟩)⟩ h⟩
        · by_cases c : nwx w i (mBeh u2 i n) f
          · exact r2 f c
          · rcases (hst f).mp hf' with ⟨-, e⟩ | h
            · rw [r3 f c, a2, if_pos e.symm]
            · exact absurd h c
        · have c : ¬ nwx w i (mBeh u2 i n) f := fun h => hf' ((hst f).mpr (Or.inr h))
          have c2 : ¬ f = fcx w (dg (mkx w i) n) (5 * i) := fun e => hf' ((hst f).mpr (Or.inl ⟨hcur, e.symm⟩))
          rw [r3 f c, a2, if_neg c2, h5]
        · by_cases c : ∃ f, nwx w i (mBeh u2 i n) f
          · exact r4 c
          · rw [r5 c, a1]
      · obtain ⟨a1, a2⟩ := hno hcur
        have hst2 : ∀ f, nwx w i n f ↔ nwx w i (mBeh u2 i n) f := fun f => by rw [hst f]; exact ⟨fun h => h.elim (fun z => absurd z.1 hcur) id, Or.inr⟩
        refine ⟨r1, fun f hf' => r2 f ((hst2 f).mp hf'), fun f hf' => ?_, fun ⟨f, h⟩ => r4 ⟨f, (hst2 f).mp h⟩, fun h => ?_⟩
        · rw [r3 f (fun h => hf' ((hst2 f).mpr h)), a2, h5]
        · rw [r5 (fun ⟨f, c⟩ => h ⟨f, (hst2 f).mpr c⟩), a1]
