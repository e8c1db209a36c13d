-- the mathematics, seventh part: the layers of class and reference
def rH (w : jU) (i : Nat) : Nat := if i < 16 then tn (w 16 (5 * i)) else 0
def rS (w : jU) (i : Nat) : Nat := tn (w 12 i)
def rB (w : jU) (i q : Nat) : Nat := tn (w 16 (5 * i + 1 + q))
def rG (w : jU) (i q : Nat) : Nat := if w 19 (5 * i + 1 + q) = 0 then 0 else 1
theorem rG_1 (w : jU) (i q : Nat) : rG w i q ≤ 1 := by unfold rG; split <;> omega
theorem rH_8 {w : jU} (hR : wfR w) (i : Nat) : rH w i < 8 := by
  unfold rH
  split
  · exact (hR.2 _ (by omega)).1.2
  · decide
theorem rB_8 {w : jU} (hR : wfR w) {i q : Nat} (hi : i < 16) (hq : q < rS w i) : rB w i q < 8 := by
  have := (hR.1 i hi).2
  unfold rS at hq
  exact (hR.2 _ (by omega)).1.2
theorem rH_pg {w w' : jU} (h : pgq w w') : rH w' = rH w := by funext i; unfold rH; rw [h.2.1]
theorem rS_pg {w w' : jU} (h : pgq w w') : rS w' = rS w := by funext i; unfold rS; rw [h.1]
theorem rB_pg {w w' : jU} (h : pgq w w') : rB w' = rB w := by funext i q; unfold rB; rw [h.2.1]
theorem rG_pg {w w' : jU} (h : pgq w w') : rG w' = rG w := by funext i q; unfold rG; rw [h.2.2.2.2]
/-- the layers as numbers -/
def lyq (w : jU) (L : Nat → Nat) : Prop := ∀ r, r < 8 → w 3 r = nI (L r)
abbrev xP (w : jU) (L : Nat → Nat) (n : Nat) : Nat → Nat := lP (rH w) (rS w) (rB w) (rG w) L n
abbrev xC (w : jU) (L : Nat → Nat) (n : Nat) : Bool := lC (rH w) (rS w) (rB w) (rG w) L n
abbrev xN (w : jU) (L : Nat → Nat) (i q : Nat) : Nat := laN (rB w) (rG w) L i q
theorem xN_b {w : jU} (hR : wfR w) {L : Nat → Nat} {M i : Nat} (hi : i < 16) (hL : ∀ r, r < 8 → L r ≤ M) {k : Nat} (hk : k ≤ rS w i) : xN w L i k ≤ M + 1 := by
  refine laN_le.mpr (fun q hq => ?_)
  have h1 := hL _ (rB_8 hR hi (show q < rS w i by omega))
  have h2 := rG_1 w i q
  omega
theorem xP_b {w : jU} (hR : wfR w) {L : Nat → Nat} {M : Nat} (hL : ∀ r, r < 8 → L r ≤ M) : ∀ n, n ≤ 16 → ∀ r, r < 8 → xP w L n r ≤ M + n := by
  intro n
  induction n with
  | zero => intro _ r hr; exact hL r hr
  | succ n ih =>
    intro hn r hr
    have ih' := ih (by omega)
    show lS (rH w) (rS w) (rB w) (rG w) (xP w L n) n r ≤ M + (n + 1)
    unfold lS
    split
    · have := ih' r hr; omega
    · unfold nset
      split
      · have := xN_b hR (show n < 16 by omega) ih' (Nat.le_refl (rS w n)); omega
      · have := ih' r hr; omega
theorem lit_ly {w : jU} (hR : wfR w) {L : Nat → Nat} (hl : lyq w L) {i q : Nat} (hi : i < 16) (hq : q < rS w i) : w 3 (tn (w 16 (5 * i + 1 + q))) + (if w 19 (5 * i + 1 + q) = 0 then 0 else 1) = nI (L (rB w i q) + rG w i q) := by
  have h9 := hl _ (rB_8 hR hi hq)
  unfold rB at h9
  rw [h9]
  unfold rG rB
  split
  · rw [Nat.add_zero]; exact Int32.add_zero _
  · exact nI_add _ 1
theorem least_c {w : jU} (hR : wfR w) {L : Nat → Nat} (hl : lyq w L) {M : Nat} (hL : ∀ r, r < 8 → L r ≤ M) (hM : M < 2 ^ 20) {i : Nat} (hi : i < 16) : ∀ q, q ≤ rS w i → pLeast w i q = nI (xN w L i q) := by
  intro q
  induction q with
  | zero => intro _; rfl
  | succ q ih =>
    intro hq
    have ih' := ih (by omega)
    have h1 := lit_ly hR hl hi (show q < rS w i by omega)
    have h2 := hL _ (rB_8 hR hi (show q < rS w i by omega))
    have h3 := rG_1 w i q
    have h4 := xN_b hR hi hL (show q ≤ rS w i by omega)
    unfold pLeast
    rw [ih', h1]
    show _ = nI (if xN w L i q < L (rB w i q) + rG w i q then L (rB w i q) + rG w i q else xN w L i q)
    have hc := nI_ltI (a := xN w L i q) (b := L (rB w i q) + rG w i q) (by omega) (by omega)
    by_cases c : xN w L i q < L (rB w i q) + rG w i q
    · rw [if_pos (hc.mpr c), if_pos c]
    · rw [if_neg (fun z => c (hc.mp z)), if_neg c]
theorem least_m {w : jU} (hR : wfR w) {L : Nat → Nat} (hl : lyq w L) {M : Nat} (hL : ∀ r, r < 8 → L r ≤ M) (hM : M < 2 ^ 20) {i : Nat} (hi : i < 16) : ∀ q, q ≤ rS w i → mLe w i q = nI (xN w L i q) := by
  intro q
  induction q with
  | zero => intro _; rfl
  | succ q ih =>
    intro hq
    have ih' := ih (by omega)
    have h1 := lit_ly hR hl hi (show q < rS w i by omega)
    have h2 := hL _ (rB_8 hR hi (show q < rS w i by omega))
    have h3 := rG_1 w i q
    have h4 := xN_b hR hi hL (show q ≤ rS w i by omega)
    unfold mLe mLy
    rw [ih', show 5 * i + (q + 1) = 5 * i + 1 + q by omega, h1]
    show _ = nI (if xN w L i q < L (rB w i q) + rG w i q then L (rB w i q) + rG w i q else xN w L i q)
    have hc := nI_leI (a := L (rB w i q) + rG w i q) (b := xN w L i q) (by omega) (by omega)
    by_cases c : xN w L i q < L (rB w i q) + rG w i q
    · rw [if_neg (fun z => by have := hc.mp z; omega), if_pos c]
    · rw [if_pos (hc.mpr (by omega)), if_neg c]
theorem lyq_set {w : jU} {L : Nat → Nat} (hl : lyq w L) (r x : Nat) : lyq (up w 3 r (nI x)) (nset L r x) := by
  intro t ht
  unfold nset
  by_cases e : t = r
  · subst e; rw [up_same, if_pos rfl]
  · rw [up_idx _ _ e, if_neg e]; exact hl t ht
theorem rs_spec {w : jU} (hR : wfR w) {L : Nat → Nat} (hl : lyq w L) {M : Nat} (hL : ∀ r, r < 8 → L r ≤ M) (hM : M < 2 ^ 19) : ∀ n, n ≤ 16 → lyq (pRs w n).2 (xP w L n) ∧ (pRs w n).1 = (if xC w L n then 1 else 0) := by
  intro n
  induction n with
  | zero => intro _; exact ⟨hl, rfl⟩
  | succ n ih =>
    intro hn
    obtain ⟨a1, a2⟩ := ih (by omega)
    have k1 := pRs_kp w n
    have hb := xP_b hR hL n (by omega)
    have pg : pgq w (pRs w n).2 := k1.pg (by decide)
    have e0 : pRs w (n + 1) = if pLeast (pRs w n).2 n (tn ((pRs w n).2 12 n)) ≤ (pRs w n).2 3 (tn ((pRs w n).2 16 (5 * n))) then pRs w n else (1, up (pRs w n).2 3 (tn ((pRs w n).2 16 (5 * n))) (pLeast (pRs w n).2 n (tn ((pRs w n).2 12 n)))) := rfl
    have e1 : xC w L (n + 1) = if xN w (xP w L n) n (rS w n) ≤ xP w L n (rH w n) then xC w L n else true := rfl
    have e2 : xP w L (n + 1) = if xN w (xP w L n) n (rS w n) ≤ xP w L n (rH w n) then xP w L n else nset (xP w L n) (rH w n) (xN w (xP w L n) n (rS w n)) := rfl
    rw [e0, e1, e2]
    generalize pRs w n = y at k1 a1 a2 pg ⊢
    have hRy := wfR_pg pg hR
    have h1 := least_c hRy a1 hb (by omega) (show n < 16 by omega) (rS y.2 n) (Nat.le_refl _)
    have hh : tn (y.2 16 (5 * n)) = rH w n := by unfold rH; rw [if_pos (by omega), pg.2.1]
    have h2 : pLeast y.2 n (tn (y.2 12 n)) = nI (xN w (xP w L n) n (rS w n)) := by
      have h9 := h1
      unfold xN at h9 ⊢
      rw [rB_pg pg, rG_pg pg, rS_pg pg] at h9
      have h8 : tn (y.2 12 n) = rS w n := by unfold rS; rw [pg.1]
      rw [h8]
      exact h9
    have h3 := hb _ (rH_8 hR n)
    have h4 := xN_b hR (show n < 16 by omega) hb (Nat.le_refl (rS w n))
    rw [h2, hh, a1 _ (rH_8 hR n)]
    have hc := nI_leI (a := xN w (xP w L n) n (rS w n)) (b := xP w L n (rH w n)) (by omega) (by omega)
    by_cases c : xN w (xP w L n) n (rS w n) ≤ xP w L n (rH w n)
    · rw [if_pos (hc.mpr c), if_pos c, if_pos c]; exact ⟨a1, a2⟩
    · rw [if_neg (fun z => c (hc.mp z)), if_neg c, if_neg c]
      exact ⟨lyq_set a1 _ _, rfl⟩
theorem ps_spec {w : jU} (hR : wfR w) {L : Nat → Nat} (hl : lyq w L) {M : Nat} (hL : ∀ r, r < 8 → L r ≤ M) (hM : M < 2 ^ 19) : ∀ n, n ≤ 16 →
    lyq (itG mPs n (0, 1, w)).2.2 (xP w L n) ∧ (itG mPs n (0, 1, w)).1 = (if xC w L n then 1 else 0) ∧ ((∀ r, r < 8 → xP w L n r ≤ 8) → (itG mPs n (0, 1, w)).2.1 = 1) ∧ ((∀ r, r < 8 → L r ≤ 8) → (itG mPs n (0, 1, w)).2.1 = 0 ∨ ∀ r, r < 8 → xP w L n r ≤ 8) := by
  intro n
  induction n with
  | zero => intro _; exact ⟨hl, rfl, fun _ => rfl, fun h => Or.inr h⟩
  | succ n ih =>
    intro hn
    obtain ⟨a1, a2, a3, a4⟩ := ih (by omega)
    have k1 := itPs_kp w (0, 1, w) (kp.rf _ w) n
    have hb := xP_b hR hL n (by omega)
    have hb2 := xP_b hR hL (n + 1) hn
    have pg : pgq w (itG mPs n (0, 1, w)).2.2 := k1.pg (by decide)
    have e1 : xC w L (n + 1) = if xN w (xP w L n) n (rS w n) ≤ xP w L n (rH w n) then xC w L n else true := rfl
    have e2 : xP w L (n + 1) = if xN w (xP w L n) n (rS w n) ≤ xP w L n (rH w n) then xP w L n else nset (xP w L n) (rH w n) (xN w (xP w L n) n (rS w n)) := rfl
    have hup : ∀ r, xP w L n r ≤ xP w L (n + 1) r := fun r => lS_up _ _ _
    rw [itG_s, e1]
    generalize itG mPs n (0, 1, w) = y at k1 a1 a2 a3 a4 pg ⊢
    have hRy := wfR_pg pg hR
    have h1 := least_m hRy a1 hb (by omega) (show n < 16 by omega) (rS y.2.2 n) (Nat.le_refl _)
    have hh : tn (y.2.2 16 (5 * n)) = rH w n := by unfold rH; rw [if_pos (by omega), pg.2.1]
    have h2 : mLe y.2.2 n (tn (y.2.2 12 n)) = nI (xN w (xP w L n) n (rS w n)) := by
      have h9 := h1
      unfold xN at h9 ⊢
      rw [rB_pg pg, rG_pg pg, rS_pg pg] at h9
      have h8 : tn (y.2.2 12 n) = rS w n := by unfold rS; rw [pg.1]
      rw [h8]
      exact h9
    have h3 := hb _ (rH_8 hR n)
    have h4 := xN_b hR (show n < 16 by omega) hb (Nat.le_refl (rS w n))
    have hc := nI_leI (a := xN w (xP w L n) n (rS w n)) (b := xP w L n (rH w n)) (by omega) (by omega)
    have hlow : mLow y.2.2 n = if xN w (xP w L n) n (rS w n) ≤ xP w L n (rH w n) then 0 else 1 := by
      unfold mLow
      rw [h2, hh, a1 _ (rH_8 hR n)]
      by_cases c : xN w (xP w L n) n (rS w n) ≤ xP w L n (rH w n)
      · rw [if_pos (hc.mpr c), if_pos c]
      · rw [if_neg (fun z => c (hc.mp z)), if_neg c]
    have hst : lyq (mRaise y.2.2 n).2 (xP w L (n + 1)) := by
      unfold mRaise
      rw [hlow, h2, hh, e2]
      show lyq (up y.2.2 3 (rH w n) _) _
      by_cases c : xN w (xP w L n) n (rS w n) ≤ xP w L n (rH w n)
      · rw [if_pos c, if_pos c, if_pos rfl, up_self]; exact a1
      · rw [if_neg c, if_neg c, if_neg (by decide)]; exact lyq_set a1 _ _
    have hr1 : (mRaise y.2.2 n).1 = if xN w (xP w L n) n (rS w n) ≤ xP w L n (rH w n) then 0 else 1 := hlow
    have hhd : tn ((mRaise y.2.2 n).2 16 (5 * n)) = rH w n := by rw [mRaise_kp y.2.2 n 16 (by decide)]; exact hh
    have h5 := hb2 _ (rH_8 hR n)
    have hgt := nI_ltI (a := 8) (b := xP w L (n + 1) (rH w n)) (by omega) (by omega)
    have hx : (mPs n y).2.1 = if y.2.1 = 0 then 0 else (if (8 : Int32) < nI (xP w L (n + 1) (rH w n)) then 0 else 1) := by
      unfold mPs
      show (if y.2.1 = 0 then (0 : Int32) else if 8 < (mRaise y.2.2 n).2 3 (tn ((mRaise y.2.2 n).2 16 (5 * n))) then 0 else 1) = _
      rw [hhd, hst _ (rH_8 hR n)]
    refine ⟨hst, ?_, ?_, ?_⟩
    · show (if y.1 = 0 then (if (mRaise y.2.2 n).1 = 0 then 0 else 1) else 1 : Int32) = _
      rw [hr1, a2]
      by_cases c : xN w (xP w L n) n (rS w n) ≤ xP w L n (rH w n)
      · rw [if_pos c, if_pos c]
        cases xC w L n <;> rfl
      · rw [if_neg c, if_neg c]
        cases xC w L n <;> rfl
    · intro h
      rw [hx, a3 (fun r hr => Nat.le_trans (hup r) (h r hr)), if_neg (by decide), if_neg]
      intro z
      have := hgt.mp z
      have := h _ (rH_8 hR n)
      omega
    · intro h
      rw [hx]
      rcases a4 h with h6 | h6
      · rw [if_pos h6]; exact Or.inl rfl
      · by_cases c2 : (8 : Int32) < nI (xP w L (n + 1) (rH w n))
        · left; rw [if_pos c2]; split <;> rfl
        · right
          intro r hr
          have h7 : ¬ 8 < xP w L (n + 1) (rH w n) := fun z => c2 (hgt.mpr z)
          rw [e2] at h7 ⊢
          by_cases c : xN w (xP w L n) n (rS w n) ≤ xP w L n (rH w n)
          · rw [if_pos c]; exact h6 r hr
          · rw [if_neg c] at h7 ⊢
            unfold nset at h7 ⊢
            rw [if_pos rfl] at h7
            split
            · omega
            · exact h6 r hr
