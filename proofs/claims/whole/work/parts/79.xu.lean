-- the mathematics, eighteenth part: the class's layers
def m13 (u : jU) (i : Nat) : Prop := ∀ v, v < 4 → hb (u 13 i) (nI (20 + v)) = mkx u i v
def m15 (u : jU) (i : Nat) : Prop := ∀ q, q < tn (u 12 i) → u 19 (5 * i + 1 + q) = 0 → bt (u 15 i) (tn (u 16 (5 * i + 1 + q))) = true
/-- rules and their masks in order -/
def ctx (u : jU) : Prop := wfR u ∧ tn (u 0 1) ≤ 16 ∧ ∀ i, i < tn (u 0 1) → m13 u i ∧ m15 u i
theorem m13_c {u w : jU} (pg : pgq u w) (h13 : w 13 = u 13) {i : Nat} (h : m13 u i) : m13 w i := by
  intro v hv
  rw [h13, mkx_pg pg]
  exact h v hv
theorem m15_c {u w : jU} (pg : pgq u w) (h15 : w 15 = u 15) {i : Nat} (h : m15 u i) : m15 w i := by
  unfold m15
  rw [pg.1, pg.2.1, pg.2.2.2.2, h15]
  exact h
theorem pE.pg {u w : jU} (h : pE u w) : pgq u w := h.1.pg (by decide)
theorem pE.ctx {u w : jU} (h : pE u w) (hc : ctx u) : ctx w := by
  have e0 : w 0 = u 0 := h.1 0 (by decide)
  refine ⟨wfR_pg h.pg hc.1, by rw [e0]; exact hc.2.1, ?_⟩
  rw [e0]
  intro i hi
  exact ⟨m13_c h.pg (h.1 13 (by decide)) (hc.2.2 i hi).1, m15_c h.pg (h.1 15 (by decide)) (hc.2.2 i hi).2⟩
/-- the class's ranks against those of the mathematics: X are the facts that are in play -/
def crx (X : Nat → Prop) (σ ρ : Nat → Int32) (w : jU) : Prop := ∀ f, f < 1152 → (X f → w 4 f = ρ f) ∧ (¬ X f → ρ f = -1 ∧ w 4 f = σ f)
theorem crx_e {X : Nat → Prop} {σ ρ ρ' : Nat → Int32} {w : jU} (h : crx X σ ρ w) (he : eqr ρ ρ') : crx X σ ρ' w := fun f hf => by rw [← he f hf]; exact h f hf
/-- no rule that is left out would bring anything -/
def skp (u : jU) (ly ch : Int32) (ρ : Nat → Int32) : Prop := ∀ i, i < tn (u 0 1) → u 3 (tn (u 16 (5 * i))) = ly → u 15 i &&& ch = 0 → ∀ f, dvx u (hrx ρ) i f → hrx ρ f = true
theorem hrx_neg {ρ : Nat → Int32} {f : Nat} : hrx ρ f = false ↔ ρ f < 0 := by unfold hrx; simp
theorem hrx_t {ρ : Nat → Int32} {f : Nat} : hrx ρ f = true ↔ ¬ ρ f < 0 := by unfold hrx; exact decide_eq_true_iff
theorem stx_hrx {u : jU} {L : Nat → Int32} {ly : Int32} {rd : Nat} (hrd : rd < 2 ^ 31) {ρ : Nat → Int32} {f : Nat} : hrx (stx u L ly (nI rd) ρ) f = true ↔ hrx ρ f = true ∨ nsx u L ly ρ f := by
  rw [hrx_t, hrx_t]
  unfold stx
  by_cases c : nsx u L ly ρ f
  · rw [cif_pos c]; exact ⟨fun _ => Or.inr c, fun _ => nI_nn hrd⟩
  · rw [cif_neg c]; exact ⟨Or.inl, fun z => z.resolve_right c⟩
theorem skp_next {u : jU} (hc : ctx u) {ly : Int32} {rd : Nat} (hrd : rd < 2 ^ 31) {ρ : Nat → Int32} {ch : Int32} (hch : ∀ f, f < 1152 → nsx u (u 3) ly ρ f → bt ch (f / 144) = true) : skp u ly ch (stx u (u 3) ly (nI rd) ρ) := by
  intro i hi hl h0 f ⟨x, hx, hm, hf⟩
  have hsz := (hc.1.1 i (by have := hc.2.1; omega)).2
  have hi16 : i < 16 := by have := hc.2.1; omega
  have hm2 : mtx u (hrx ρ) x i := by
    intro q hq
    have h1 := hm q hq
    have hB := hc.1.2 (5 * i + 1 + q) (by omega)
    by_cases z : u 19 (5 * i + 1 + q) = 0
    · rw [decide_eq_true z] at h1 ⊢
      rcases (stx_hrx hrd).mp h1 with h2 | h2
      · exact h2
      · exfalso
        have h3 := hch _ (fcx_lt hx hB) h2
        have h4 := (hc.2.2 i hi).2 q hq z
        have h5 : fcx u x (5 * i + 1 + q) / 144 = tn (u 16 (5 * i + 1 + q)) := by
          have a1 := tvx_lt hx hB.2.1
          have a2 := tvx_lt hx hB.2.2.1
          unfold fcx
          omega
        rw [h5] at h3
        have h6 := b_and (u 15 i) ch (tn (u 16 (5 * i + 1 + q)))
        rw [h0, b_0, h3, h4] at h6
        cases h6
    · rw [decide_eq_false z] at h1 ⊢
      cases c : hrx ρ (fcx u x (5 * i + 1 + q)) with
      | false => rfl
      | true => rw [(stx_hrx hrd).mpr (Or.inl c)] at h1; cases h1
  rw [stx_hrx hrd]
  cases c : hrx ρ f with
  | true => exact Or.inl rfl
  | false => exact Or.inr ⟨hrx_neg.mp c, i, hi, hl, x, hx, hm2, hf⟩
theorem rd_c {u : jU} (hc : ctx u) {ly : Int32} {X : Nat → Prop} {σ : Nat → Int32} (hX : ∀ i, i < tn (u 0 1) → u 3 (tn (u 16 (5 * i))) = ly → ∀ h f, dvx u h i f → X f) : ∀ (n rd : Nat) (ch : Int32) (w : jU) (ρ : Nat → Int32), 1 ≤ rd → rd + n < 2 ^ 31 → pE u w → cst w → sP w (fun f => hrx ρ f = true) → (∀ f, f < 1152 → frs w f = false) → crx X σ ρ w → (rd = 1 → ¬ ch = 0) → (¬ rd = 1 → skp u ly ch ρ) →
    pE u (pRd ly n rd ch w) ∧ cst (pRd ly n rd ch w) ∧ (∀ f, f < 1152 → frs (pRd ly n rd ch w) f = false) ∧ crx X σ (rdx u (u 3) ly n rd ρ) (pRd ly n rd ch w) := by
  intro n
  induction n with
  | zero => intro rd ch w ρ _ _ he hct _ hz hx _ _; exact ⟨he, hct, hz, hx⟩
  | succ n ih =>
    intro rd ch w ρ hrd1 hrdn he hct hs hz hx hch1 hsk
    unfold pRd
    have e0 : w 0 = u 0 := he.1 0 (by decide)
    have e3 : w 3 = u 3 := he.1 3 (by decide)
    have e16 : w 16 = u 16 := he.1 16 (by decide)
    have e15 : w 15 = u 15 := he.1 15 (by decide)
    have pg := he.pg
    by_cases c0 : ch = 0
    · rw [if_pos c0]
      refine ⟨he, hct, hz, crx_e hx (rdx_no hc.1 hc.2.1 (fun f hf hn => ?_) (n + 1) rd).sy⟩
      have hne : ¬ rd = 1 := fun z => hch1 z c0
      obtain ⟨a1, i, a2, a3, a4⟩ := hn
      have h1 := hsk hne i a2 a3 (by rw [c0]; exact Int32.and_zero) f a4
      rw [hrx_neg.mpr a1] at h1
      cases h1
    · rw [if_neg c0]
      have hcw := he.ctx hc
      obtain ⟨r1, r2⟩ := round_c (u := w) (h := hrx ρ) hcw.2.1 (fun i hi => ⟨hcw.1, hs, (hcw.2.2 i hi).1⟩) hct he.2 hz ly (nI rd) ch
      have k4 : pE u (pRound ly (nI rd) ch w) := ⟨he.1.tr (r1.1.wid (by decide)), r1.2.2⟩
      have hnew : ∀ f, f < 1152 → ((hrx ρ f = false ∧ ∃ i, i < tn (w 0 1) ∧ w 3 (tn (w 16 (5 * i))) = ly ∧ ¬ (¬ nI rd = 1 ∧ w 15 i &&& ch = 0) ∧ dvx w (hrx ρ) i f) ↔ nsx u (u 3) ly ρ f) := by
        intro f hf
        rw [e0, e3, e16, e15]
        unfold nsx
        rw [hrx_neg]
        constructor
        · rintro ⟨a1, i, a2, a3, -, a5⟩; exact ⟨a1, i, a2, a3, (dvx_pg pg _ _ _).mp a5⟩
        · rintro ⟨a1, i, a2, a3, a5⟩
          refine ⟨a1, i, a2, a3, ?_, (dvx_pg pg _ _ _).mpr a5⟩
          rintro ⟨b1, b2⟩
          have hne : ¬ rd = 1 := fun z => b1 (by rw [z]; rfl)
          have h1 := hsk hne i a2 a3 b2 f a5
          rw [hrx_neg.mpr a1] at h1
          cases h1
      have r3 := mkd_iff hnew r2
      generalize pRound ly (nI rd) ch w = y at r1 r3 k4 ⊢
      have hsy : sP y (fun f => hrx ρ f = true) := sP_c (fun c hc => r1.1 c (by revert c; decide)) hs
      have hfy : ∀ f, f < 1152 → (frs y f = true ↔ nsx u (u 3) ly ρ f) := by
        intro f hf
        obtain ⟨p1, p2⟩ := r3 f hf
        constructor
        · intro z
          refine Classical.byContradiction (fun q => ?_)
          rw [(p2 q).2, hz f hf] at z
          cases z
        · intro z; exact (p1 z).2
      obtain ⟨f1, f2, f3, f4⟩ := fresh_spec hsy
      have k5 : pE u (pShowFresh y).2 := ⟨k4.1.tr (f1.wid (by decide)), wfV_of k4.2 (f1 6 (by decide))⟩
      have hct5 : cst (pShowFresh y).2 := fun c hl => by rw [f1 6 (by decide)]; exact r1.2.1 c hl
      generalize pShowFresh y = z at f1 f2 f3 f4 k5 hct5 ⊢
      have hrd : rd < 2 ^ 31 := by omega
      refine ih (rd + 1) z.1 z.2 (stx u (u 3) ly (nI rd) ρ) (by omega) (by omega) k5 hct5 (sP_iff (fun f hf => ?_) f2) f3 (fun f hf => ?_) (fun q => absurd q (by omega)) (fun _ => skp_next hc hrd (fun f hf hn => ?_))
      · rw [stx_hrx hrd, hfy f hf]
      · obtain ⟨p1, p2⟩ := r3 f hf
        obtain ⟨q1, q2⟩ := hx f hf
        rw [f1 4 (by decide)]
        unfold stx
        by_cases c : nsx u (u 3) ly ρ f
        · rw [cif_pos c]
          have hXf : X f := by
            obtain ⟨-, i, a2, a3, a4⟩ := c
            exact hX i a2 a3 _ f a4
          exact ⟨fun _ => (p1 c).1, fun q => absurd hXf q⟩
        · rw [cif_neg c, (p2 c).1]
          exact ⟨q1, q2⟩
      · exact (f4 (f / 144) (by omega)).mpr ⟨f, hf, rfl, (hfy f hf).mpr hn⟩
