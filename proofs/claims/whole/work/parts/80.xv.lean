-- the mathematics, nineteenth part: settling
def gvc (u : jU) (f : Nat) : Bool := hb (u 2 (f / 12)) (nI (f % 12))
/-- a rank in its bounds -/
def rok (cnt : Nat) (ρ : Nat → Int32) : Prop := ∀ f, f < 1152 → ρ f = -1 ∨ (inN (ρ f) 1154 ∧ f / 144 < cnt)
theorem inN_nn {x : Int32} {B : Nat} (h : inN x B) (hB : B ≤ 2 ^ 31) : ¬ x < 0 := by
  rw [h.1]
  exact nI_nn (by have := h.2; omega)
theorem rok_hrx {cnt : Nat} {ρ : Nat → Int32} (h : rok cnt ρ) {f : Nat} (hf : f < 1152) : hrx ρ f = true ↔ ¬ ρ f = -1 := by
  unfold hrx
  rw [decide_eq_true_iff]
  rcases h f hf with c | c
  · rw [c]; exact ⟨fun z => absurd (by decide) z, fun z => absurd rfl z⟩
  · have := inN_nn c.1 (by decide)
    exact ⟨fun _ e => this (by rw [e]; decide), fun _ => this⟩
theorem rok_stx {u : jU} (hR : wfR u) (hK : tn (u 0 1) ≤ 16) {cnt : Nat} (hh : ∀ i, i < tn (u 0 1) → tn (u 16 (5 * i)) < cnt) {L : Nat → Int32} {ly : Int32} {rd : Nat} (hrd : rd < 1154) {ρ : Nat → Int32} (h : rok cnt ρ) : rok cnt (stx u L ly (nI rd) ρ) := by
  intro f hf
  unfold stx
  by_cases c : nsx u L ly ρ f
  · rw [cif_pos c]
    obtain ⟨-, i, a2, -, x, hx, -, a4⟩ := c
    have hB := hR.2 (5 * i) (by omega)
    have h1 := tvx_lt hx hB.2.1
    have h2 := tvx_lt hx hB.2.2.1
    have h3 := hh i a2
    unfold fcx at a4
    exact Or.inr ⟨inN_nI hrd (by decide), by omega⟩
  · rw [cif_neg c]; exact h f hf
theorem rok_rdx {u : jU} (hR : wfR u) (hK : tn (u 0 1) ≤ 16) {cnt : Nat} (hh : ∀ i, i < tn (u 0 1) → tn (u 16 (5 * i)) < cnt) {L : Nat → Int32} {ly : Int32} : ∀ (n rd : Nat) {ρ : Nat → Int32}, rd + n ≤ 1154 → rok cnt ρ → rok cnt (rdx u L ly n rd ρ) := by
  intro n
  induction n with
  | zero => intro rd ρ _ h; exact h
  | succ n ih => intro rd ρ hn h; exact ih (rd + 1) (by omega) (rok_stx hR hK hh (by omega) h)
theorem rok_gvx {cnt : Nat} {L : Nat → Int32} {gv : Nat → Bool} (hg : ∀ f, f < 1152 → gv f = true → f / 144 < cnt) {ly : Int32} {ρ : Nat → Int32} (h : rok cnt ρ) : rok cnt (gvx L gv ly ρ) := by
  intro f hf
  unfold gvx
  split
  · rename_i c; exact Or.inr ⟨inN_0 (by decide), hg f hf c.1⟩
  · exact h f hf
theorem abx_s (w : jU) (L : Nat → Int32) (gv : Nat → Bool) (n : Nat) : abx w L gv (n + 1) = lyx w L gv n (abx w L gv n) := rfl
theorem lyx_d (w : jU) (L : Nat → Int32) (gv : Nat → Bool) (n : Nat) (ρ : Nat → Int32) : lyx w L gv n ρ = rdx w L (nI n) mRx 1 (gvx L gv (nI n) ρ) := by unfold lyx; exact Eq.refl _
theorem rok_abx {u : jU} (hR : wfR u) (hK : tn (u 0 1) ≤ 16) {cnt : Nat} (hh : ∀ i, i < tn (u 0 1) → tn (u 16 (5 * i)) < cnt) {L : Nat → Int32} {gv : Nat → Bool} (hg : ∀ f, f < 1152 → gv f = true → f / 144 < cnt) : ∀ n, rok cnt (abx u L gv n) := by
  intro n
  induction n with
  | zero => exact fun f _ => Or.inl rfl
  | succ n ih => rw [abx_s, lyx_d]; exact rok_rdx hR hK hh mRx 1 (by unfold mRx; omega) (rok_gvx hg ih)
/-- the class at the beginning of layer n -/
def lyI (u : jU) (M : Nat → Nat) (n : Nat) (ρ : Nat → Int32) (w : jU) : Prop := pE u w ∧ cst w ∧ (∀ f, f < 1152 → frs w f = false) ∧ crx (fun f => M (f / 144) < n) (fun f => if gvc u f then 0 else -1) ρ w
theorem layer_c {u : jU} (hc : ctx u) (h0 : inN (u 0 0) 9) {M : Nat → Nat} (hM : lyq u M) (h7 : ∀ r, r < 8 → M r ≤ 7) (hh : ∀ i, i < tn (u 0 1) → tn (u 16 (5 * i)) < tn (u 0 0)) (hgv : ∀ f, f < 1152 → gvc u f = true → f / 144 < tn (u 0 0)) {n : Nat} (hn : n < 9) {ρ : Nat → Int32} (hρ : rok (tn (u 0 0)) ρ) {w : jU} (hw : lyI u M n ρ w) : lyI u M (n + 1) (lyx u (u 3) (gvc u) n ρ) (pLayer n w) := by
  obtain ⟨he, hct, hz, hx⟩ := hw
  have e0 : w 0 = u 0 := he.1 0 (by decide)
  have e3 : w 3 = u 3 := he.1 3 (by decide)
  have hLy : ∀ f, f < 1152 → u 3 (f / 144) = nI (M (f / 144)) ∧ M (f / 144) ≤ 7 := fun f hf => ⟨hM _ (by omega), h7 _ (by omega)⟩
  have hg1 := rok_gvx (L := u 3) hgv (ly := nI n) hρ
  have hx1 : crx (fun f => M (f / 144) < n + 1) (fun f => if gvc u f then 0 else -1) (gvx (u 3) (gvc u) (nI n) ρ) w := by
    intro f hf
    obtain ⟨q1, q2⟩ := hx f hf
    obtain ⟨l1, l2⟩ := hLy f hf
    unfold gvx
    rw [l1]
    have hne : nI (M (f / 144)) = nI n ↔ M (f / 144) = n := nI_eq (by omega) (by omega)
    rcases Nat.lt_trichotomy (M (f / 144)) n with c | c | c
    · rw [if_neg (fun z => absurd (hne.mp z.2) (by omega))]
      exact ⟨fun _ => q1 c, fun z => absurd (show M (f / 144) < n + 1 by omega) z⟩
    · obtain ⟨y1, y2⟩ := q2 (by omega)
      refine ⟨fun _ => ?_, fun z => absurd (show M (f / 144) < n + 1 by omega) z⟩
      rw [y2, y1]
      by_cases g : gvc u f = true
      · simp [g, c]
      · simp [g]
    · rw [if_neg (fun z => absurd (hne.mp z.2) (by omega))]
      exact ⟨fun z => absurd z (by omega), fun _ => q2 (by omega)⟩
  have hl := look_spec (u := w) (by rw [e0]; exact h0) (nI n) 1
  have kl := pLook_kp (nI n) 1 w
  have hsl : sP (pLook (nI n) 1 w) (fun f => hrx (gvx (u 3) (gvc u) (nI n) ρ) f = true) := by
    refine sP_iff (fun f hf => ?_) hl
    rw [rok_hrx hg1 hf]
    unfold lkP
    rw [e0, e3]
    obtain ⟨q1, q2⟩ := hx1 f hf
    obtain ⟨l1, l2⟩ := hLy f hf
    rw [l1]
    have hne : nI (M (f / 144)) = nI n ↔ M (f / 144) = n := nI_eq (by omega) (by omega)
    have hlt : nI (M (f / 144)) < nI n ↔ M (f / 144) < n := nI_ltI (by omega) (by omega)
    rw [hne, hlt]
    have hcnt : ¬ gvx (u 3) (gvc u) (nI n) ρ f = -1 → f / 144 < tn (u 0 0) := fun z => ((hg1 f hf).resolve_left z).2
    have hmax : rkb (gvx (u 3) (gvc u) (nI n) ρ f) 2147483647 ↔ ¬ gvx (u 3) (gvc u) (nI n) ρ f = -1 := by
      unfold rkb
      refine ⟨fun z => z.1, fun z => ⟨z, fun y => ?_⟩⟩
      have h1 := ((hg1 f hf).resolve_left z).1
      have h2 := (inN_leN (n := 2147483646) h1 (by decide) (by decide)).mpr (by have := h1.2; omega)
      exact absurd (Int32.le_trans y h2) (by decide)
    rcases Nat.lt_trichotomy (M (f / 144)) n with c | c | c
    · rw [q1 (by omega)]
      constructor
      · rintro ⟨-, z | z⟩
        · exact absurd z.1 (by omega)
        · exact hmax.mp z.2
      · intro z; exact ⟨hcnt z, Or.inr ⟨c, hmax.mpr z⟩⟩
    · have y1 := q1 (show M (f / 144) < n + 1 by omega)
      rw [y1]
      have hgx : gvx (u 3) (gvc u) (nI n) ρ f = -1 ∨ gvx (u 3) (gvc u) (nI n) ρ f = 0 := by
        have := (hx f hf).2 (by omega)
        unfold gvx
        split
        · exact Or.inr rfl
        · exact Or.inl this.1
      constructor
      · rintro ⟨-, z | z⟩
        · exact z.2.1
        · exact absurd z.1 (by omega)
      · intro z
        refine ⟨hcnt z, Or.inl ⟨c, z, ?_⟩⟩
        rw [hgx.resolve_left z]
        decide
    · have y1 := (q2 (by omega)).1
      constructor
      · rintro ⟨-, z | z⟩
        · exact absurd z.1 (by omega)
        · exact absurd z.1 (by omega)
      · intro z; exact absurd y1 z
  have e : pLayer n w = pRd (nI n) mRx 1 255 (pLook (nI n) 1 w) := rfl
  rw [e]
  have hEl : pE u (pLook (nI n) 1 w) := ⟨he.1.tr (kl.wid (by decide)), wfV_of he.2 (kl 6 (by decide))⟩
  have hX : ∀ i, i < tn (u 0 1) → u 3 (tn (u 16 (5 * i))) = nI n → ∀ h f, dvx u h i f → M (f / 144) < n + 1 := by
    rintro i hi hl2 h f ⟨x, hx2, -, hf⟩
    have hB := hc.1.2 (5 * i) (by have := hc.2.1; omega)
    have h1 := tvx_lt hx2 hB.2.1
    have h2 := tvx_lt hx2 hB.2.2.1
    have h3 : f / 144 = tn (u 16 (5 * i)) := by unfold fcx at hf; omega
    have h4 := hM _ hB.1.2
    rw [hl2] at h4
    have h5 := h7 _ hB.1.2
    have h6 := nI_inj (by omega) (by omega) h4
    rw [h3, ← h6]
    omega
  obtain ⟨b1, b2, b3, b4⟩ := rd_c hc (ly := nI n) (X := fun f => M (f / 144) < n + 1) (σ := fun f => if gvc u f then 0 else -1) hX mRx 1 255 (pLook (nI n) 1 w) (gvx (u 3) (gvc u) (nI n) ρ) (Nat.le_refl _) (by unfold mRx; omega) hEl (fun c hl2 => by rw [kl 6 (by decide)]; exact hct c hl2) hsl (fun f hf => by unfold frs; rw [kl 5 (by decide)]; exact hz f hf) (fun f hf => by rw [kl 4 (by decide)]; exact hx1 f hf) (fun _ => by decide) (fun z => absurd rfl z)
  exact ⟨b1, b2, b3, b4⟩
theorem rg_spec (u : jU) : ∀ n, n ≤ 96 → kp [4] u (itN pRow n u) ∧ (∀ f, f / 12 < n → itN pRow n u 4 f = if gvc u f then 0 else -1) ∧ (∀ f, n ≤ f / 12 → itN pRow n u 4 f = u 4 f) := by
  intro n
  induction n with
  | zero => intro _; exact ⟨kp.rf _ u, fun f hf => absurd hf (by omega), fun f _ => rfl⟩
  | succ n ih =>
    intro hn
    obtain ⟨k1, a1, a2⟩ := ih (by omega)
    rw [itN_s]
    generalize itN pRow n u = y at k1 a1 a2 ⊢
    have key : ∀ m, m ≤ 12 → kp [4] y (itN (pRG n) m y) ∧ (∀ q, q < m → itN (pRG n) m y 4 (n * 12 + q) = if gvc u (n * 12 + q) then 0 else -1) ∧ (∀ f, ¬ (f / 12 = n ∧ f % 12 < m) → itN (pRG n) m y 4 f = y 4 f) := by
      intro m
      induction m with
      | zero => intro _; exact ⟨kp.rf _ y, fun q hq => absurd hq (by omega), fun f _ => rfl⟩
      | succ m ih2 =>
        intro hm
        obtain ⟨k2, b1, b2⟩ := ih2 (by omega)
        rw [itN_s]
        generalize itN (pRG n) m y = z at k2 b1 b2 ⊢
        unfold pRG
        refine ⟨k2.tr (kp_up _ _ _ (by decide)), fun q hq => ?_, fun f hf => ?_⟩
        · by_cases e : q = m
          · subst e
            rw [up_same, k2 2 (by decide), k1 2 (by decide)]
            unfold gvc
            rw [show (n * 12 + q) / 12 = n by omega, show (n * 12 + q) % 12 = q by omega]
            cases hb (u 2 n) (nI q) <;> rfl
          · rw [up_idx _ _ (by omega)]; exact b1 q (by omega)
        · rw [up_idx _ _ (by omega)]; exact b2 f (by omega)
    obtain ⟨k2, b1, b2⟩ := key 12 (Nat.le_refl _)
    have e : pRow n y = itN (pRG n) 12 y := rfl
    rw [e]
    refine ⟨k1.tr k2, fun f hf => ?_, fun f hf => ?_⟩
    · by_cases e2 : f / 12 = n
      · have e3 : f = n * 12 + f % 12 := by omega
        rw [e3]; exact b1 (f % 12) (by omega)
      · rw [b2 f (fun z => e2 z.1)]; exact a1 f (by omega)
    · rw [b2 f (fun z => by omega)]; exact a2 f (by omega)
theorem layers_c {u : jU} (hc : ctx u) (hct : cst u) (hv : wfV u) (hz : ∀ f, f < 1152 → frs u f = false) (h0 : inN (u 0 0) 9) {M : Nat → Nat} (hM : lyq u M) (h7 : ∀ r, r < 8 → M r ≤ 7) (hh : ∀ i, i < tn (u 0 1) → tn (u 16 (5 * i)) < tn (u 0 0)) (hgv : ∀ f, f < 1152 → gvc u f = true → f / 144 < tn (u 0 0)) : ∀ n, n ≤ 9 → lyI u M n (abx u (u 3) (gvc u) n) (itN pLayer n (pRankGiven u)) := by
  intro n
  induction n with
  | zero =>
    intro _
    obtain ⟨k1, a1, -⟩ := rg_spec u 96 (Nat.le_refl _)
    have e : itN pLayer 0 (pRankGiven u) = itN pRow 96 u := rfl
    rw [e]
    generalize itN pRow 96 u = y at k1 a1 ⊢
    exact ⟨⟨k1.wid (by decide), wfV_of hv (k1 6 (by decide))⟩, fun c hl => by rw [k1 6 (by decide)]; exact hct c hl, fun f hf => by unfold frs; rw [k1 5 (by decide)]; exact hz f hf, fun f hf => ⟨fun z => absurd z (by omega), fun _ => ⟨rfl, a1 f (by omega)⟩⟩⟩
  | succ n ih =>
    intro hn
    rw [itN_s]
    exact layer_c hc h0 hM h7 hh hgv (by omega) (rok_abx hc.1 hc.2.1 hh hgv n) (ih (by omega))
theorem top_spec {u : jU} {M : Nat → Nat} (hM : lyq u M) (h7 : ∀ r, r < 8 → M r ≤ 7) : ∀ n, n ≤ 8 → ∃ t, t ≤ 7 ∧ pTop u n = nI t ∧ ∀ r, r < n → M r ≤ t := by
  intro n
  induction n with
  | zero => intro _; exact ⟨0, by omega, rfl, fun r hr => absurd hr (by omega)⟩
  | succ n ih =>
    intro hn
    obtain ⟨t, t1, t2, t3⟩ := ih (by omega)
    have h1 := h7 n (by omega)
    have hlt : nI t < nI (M n) ↔ t < M n := nI_ltI (by omega) (by omega)
    unfold pTop
    rw [t2, hM n (by omega)]
    by_cases c : t < M n
    · rw [if_pos (hlt.mpr c)]
      refine ⟨M n, h1, rfl, fun r hr => ?_⟩
      by_cases e : r = n
      · subst e; exact Nat.le_refl _
      · have := t3 r (by omega); omega
    · rw [if_neg (fun z => c (hlt.mp z))]
      refine ⟨t, t1, rfl, fun r hr => ?_⟩
      by_cases e : r = n
      · subst e; omega
      · exact t3 r (by omega)
/-- above the top layer nothing comes -/
theorem abx_top {u : jU} (hc : ctx u) {M : Nat → Nat} (hM : lyq u M) (h7 : ∀ r, r < 8 → M r ≤ 7) (hh : ∀ i, i < tn (u 0 1) → tn (u 16 (5 * i)) < tn (u 0 0)) (h0 : tn (u 0 0) ≤ 8) (hgv : ∀ f, f < 1152 → gvc u f = true → f / 144 < tn (u 0 0)) {t : Nat} (ht : ∀ r, r < tn (u 0 0) → M r ≤ t) : ∀ n, t + 1 ≤ n → n ≤ 9 → eqr (abx u (u 3) (gvc u) n) (abx u (u 3) (gvc u) (t + 1)) := by
  intro n
  induction n with
  | zero => intro h; exact absurd h (by omega)
  | succ n ih =>
    intro h1 h2
    by_cases e : n = t
    · subst e; exact eqr.rf _
    · refine eqr.tr ?_ (ih (by omega) (by omega))
      rw [abx_s, lyx_d]
      have hg : eqr (gvx (u 3) (gvc u) (nI n) (abx u (u 3) (gvc u) n)) (abx u (u 3) (gvc u) n) := by
        intro f hf
        unfold gvx
        rw [if_neg]
        rintro ⟨z1, z2⟩
        have h3 := hgv f hf z1
        have h4 := ht _ h3
        rw [hM _ (by omega)] at z2
        have h5 := h7 (f / 144) (by omega)
        have := nI_inj (by omega) (by omega) z2
        omega
      have hno : nox u (u 3) (nI n) (abx u (u 3) (gvc u) n) := by
        rintro f hf ⟨-, i, a2, a3, -⟩
        have h3 := hh i a2
        have h4 := ht _ h3
        rw [hM _ (by omega)] at a3
        have h5 := h7 (tn (u 16 (5 * i))) (by omega)
        have := nI_inj (by omega) (by omega) a3
        omega
      exact (rdx_e hc.1 hc.2.1 mRx 1 hg).tr (rdx_no hc.1 hc.2.1 hno mRx 1)
theorem settle_c {u : jU} (hc : ctx u) (hct : cst u) (hv : wfV u) (hz : ∀ f, f < 1152 → frs u f = false) (h0 : inN (u 0 0) 9) {M : Nat → Nat} (hM : lyq u M) (h7 : ∀ r, r < 8 → M r ≤ 7) (hh : ∀ i, i < tn (u 0 1) → tn (u 16 (5 * i)) < tn (u 0 0)) (hgv : ∀ f, f < 1152 → gvc u f = true → f / 144 < tn (u 0 0)) :
    inN (pTop (pRankGiven u) (tn (pRankGiven u 0 0))) 9 ∧ pE u (pSettle1 u) ∧ cst (pSettle1 u) ∧ (∀ f, f < 1152 → frs (pSettle1 u) f = false) ∧ eqr (pSettle1 u 4) (abx u (u 3) (gvc u) 9) := by
  have h8 := h0.2
  have kr := pRankGiven_kp u
  have hMr : lyq (pRankGiven u) M := by unfold lyq; rw [kr 3 (by decide)]; exact hM
  have e0 : pRankGiven u 0 0 = u 0 0 := by rw [kr 0 (by decide)]
  obtain ⟨t, t1, t2, t3⟩ := top_spec hMr h7 (tn (u 0 0)) (by omega)
  have et : tn (nI t) = t := nI_clamp (by omega)
  have es : pSettle1 u = itN pLayer (t + 1) (pRankGiven u) := by unfold pSettle1; rw [e0, t2, et]
  rw [e0, t2, es]
  obtain ⟨b1, b2, b3, b4⟩ := layers_c hc hct hv hz h0 hM h7 hh hgv (t + 1) (by omega)
  refine ⟨inN_nI (by omega) (by decide), b1, b2, b3, ?_⟩
  refine eqr.tr (fun f hf => ?_) (abx_top hc hM h7 hh (by omega) hgv t3 9 (by omega) (Nat.le_refl _)).sy
  obtain ⟨q1, q2⟩ := b4 f hf
  by_cases c : M (f / 144) < t + 1
  · exact q1 c
  · obtain ⟨y1, y2⟩ := q2 c
    rw [y1, y2]
    show (if gvc u f = true then (0 : Int32) else -1) = -1
    rw [if_neg]
    intro z
    have := t3 _ (hgv f hf z)
    omega
