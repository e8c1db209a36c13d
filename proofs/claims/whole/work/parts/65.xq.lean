-- the mathematics, fifth part: rounds without their machine
noncomputable def cif (p : Prop) (a b : Int32) : Int32 := @ite _ p (Classical.propDecidable p) a b
theorem cif_pos {p : Prop} (h : p) (a b : Int32) : cif p a b = a := by unfold cif; exact if_pos h
theorem cif_neg {p : Prop} (h : ¬ p) (a b : Int32) : cif p a b = b := by unfold cif; exact if_neg h
theorem cif_iff {p q : Prop} (h : p ↔ q) (a b : Int32) : cif p a b = cif q a b := by
  by_cases c : p
  · rw [cif_pos c, cif_pos (h.mp c)]
  · rw [cif_neg c, cif_neg (fun z => c (h.mpr z))]
/-- what holds by the ranks -/
def hrx (ρ : Nat → Int32) : Nat → Bool := fun f => decide (¬ ρ f < 0)
/-- what a round of layer ly brings -/
def nsx (w : jU) (L : Nat → Int32) (ly : Int32) (ρ : Nat → Int32) (f : Nat) : Prop := ρ f < 0 ∧ ∃ i, i < tn (w 0 1) ∧ L (tn (w 16 (5 * i))) = ly ∧ dvx w (hrx ρ) i f
noncomputable def stx (w : jU) (L : Nat → Int32) (ly rd : Int32) (ρ : Nat → Int32) : Nat → Int32 := fun f => cif (nsx w L ly ρ f) rd (ρ f)
/-- n rounds of layer ly, from round rd on -/
noncomputable def rdx (w : jU) (L : Nat → Int32) (ly : Int32) : Nat → Nat → (Nat → Int32) → Nat → Int32
  | 0, _, ρ => ρ
  | n + 1, rd, ρ => rdx w L ly n (rd + 1) (stx w L ly (nI rd) ρ)
/-- the same ranks -/
def eqr (ρ σ : Nat → Int32) : Prop := ∀ f, f < 1152 → ρ f = σ f
theorem eqr.rf (ρ : Nat → Int32) : eqr ρ ρ := fun _ _ => rfl
theorem eqr.tr {a b c : Nat → Int32} (h : eqr a b) (k : eqr b c) : eqr a c := fun f hf => (h f hf).trans (k f hf)
theorem eqr.sy {a b : Nat → Int32} (h : eqr a b) : eqr b a := fun f hf => (h f hf).symm
theorem hrx_e {ρ σ : Nat → Int32} (h : eqr ρ σ) : ∀ f, f < 1152 → hrx ρ f = hrx σ f := fun f hf => by unfold hrx; rw [h f hf]
theorem nsx_e {w : jU} (hR : wfR w) (hK : tn (w 0 1) ≤ 16) {L : Nat → Int32} {ly : Int32} {ρ σ : Nat → Int32} (h : eqr ρ σ) {f : Nat} (hf : f < 1152) : nsx w L ly ρ f ↔ nsx w L ly σ f := by
  unfold nsx
  rw [h f hf]
  constructor
  · rintro ⟨a, i, b, c, d⟩; exact ⟨a, i, b, c, (dvx_h hR (hrx_e h) (by omega) f).mp d⟩
  · rintro ⟨a, i, b, c, d⟩; exact ⟨a, i, b, c, (dvx_h hR (hrx_e h) (by omega) f).mpr d⟩
theorem stx_e {w : jU} (hR : wfR w) (hK : tn (w 0 1) ≤ 16) {L : Nat → Int32} {ly rd : Int32} {ρ σ : Nat → Int32} (h : eqr ρ σ) : eqr (stx w L ly rd ρ) (stx w L ly rd σ) := by
  intro f hf
  unfold stx
  rw [cif_iff (nsx_e hR hK h hf), h f hf]
theorem rdx_e {w : jU} (hR : wfR w) (hK : tn (w 0 1) ≤ 16) {L : Nat → Int32} {ly : Int32} : ∀ (n rd : Nat) {ρ σ : Nat → Int32}, eqr ρ σ → eqr (rdx w L ly n rd ρ) (rdx w L ly n rd σ) := by
  intro n
  induction n with
  | zero => intro rd ρ σ h; exact h
  | succ n ih => intro rd ρ σ h; exact ih (rd + 1) (stx_e hR hK h)
/-- no fact comes any more -/
def nox (w : jU) (L : Nat → Int32) (ly : Int32) (ρ : Nat → Int32) : Prop := ∀ f, f < 1152 → ¬ nsx w L ly ρ f
theorem stx_no {w : jU} {L : Nat → Int32} {ly rd : Int32} {ρ : Nat → Int32} (h : nox w L ly ρ) : eqr (stx w L ly rd ρ) ρ := fun f hf => cif_neg (h f hf) _ _
theorem rdx_no {w : jU} (hR : wfR w) (hK : tn (w 0 1) ≤ 16) {L : Nat → Int32} {ly : Int32} {ρ : Nat → Int32} (h : nox w L ly ρ) : ∀ (n rd : Nat), eqr (rdx w L ly n rd ρ) ρ := by
  intro n
  induction n with
  | zero => intro rd; exact eqr.rf ρ
  | succ n ih => intro rd; exact (rdx_e hR hK n (rd + 1) (stx_no h)).tr (ih (rd + 1))
/-- how many facts have no rank -/
def unr (ρ : Nat → Int32) : Nat := sm (fun f => if ρ f < 0 then 1 else 0) 1152
theorem unr_le (ρ : Nat → Int32) : unr ρ ≤ 1152 := by
  have h : unr ρ ≤ sm (fun _ => 1) 1152 := sm_le (fun f _ => by show (if ρ f < 0 then 1 else 0) ≤ 1; split <;> omega)
  rw [sm_const] at h
  omega
theorem stx_lt {w : jU} {L : Nat → Int32} {ly rd : Int32} (hrd : ¬ rd < 0) {ρ : Nat → Int32} (h : ¬ nox w L ly ρ) : unr (stx w L ly rd ρ) < unr ρ := by
  have h1 : ∃ f, f < 1152 ∧ nsx w L ly ρ f := Classical.byContradiction (fun c => h (fun f hf hn => c ⟨f, hf, hn⟩))
  obtain ⟨f, hf, hn⟩ := h1
  refine sm_lt (fun g _ => ?_) f hf ?_
  · show (if stx w L ly rd ρ g < 0 then 1 else 0) ≤ (if ρ g < 0 then 1 else 0)
    unfold stx
    by_cases c : nsx w L ly ρ g
    · rw [cif_pos c, if_neg hrd]; exact Nat.zero_le _
    · rw [cif_neg c]; exact Nat.le_refl _
  · show (if stx w L ly rd ρ f < 0 then 1 else 0) < (if ρ f < 0 then 1 else 0)
    unfold stx
    rw [cif_pos hn, if_neg hrd, if_pos hn.1]
    exact Nat.one_pos
-- the reference's round
theorem rk_spec {u : jU} (hR : wfR u) (ly : Int32) : ∀ n, n ≤ 16 →
    kp [5, 6] u (itG (mRk ly) n (0, u)).2 ∧ (∀ f, (∃ i, i < n ∧ u 3 (tn (u 16 (5 * i))) = ly ∧ nwx u i 0 f) → (itG (mRk ly) n (0, u)).2 5 f = 1) ∧ (∀ f, (¬ ∃ i, i < n ∧ u 3 (tn (u 16 (5 * i))) = ly ∧ nwx u i 0 f) → (itG (mRk ly) n (0, u)).2 5 f = u 5 f) ∧ ((∃ f i, i < n ∧ u 3 (tn (u 16 (5 * i))) = ly ∧ nwx u i 0 f) → (itG (mRk ly) n (0, u)).1 = 1) ∧ ((¬ ∃ f i, i < n ∧ u 3 (tn (u 16 (5 * i))) = ly ∧ nwx u i 0 f) → (itG (mRk ly) n (0, u)).1 = 0) := by
  intro n
  induction n with
  | zero =>
    intro _
    exact ⟨kp.rf _ u, fun f ⟨i, hi, _⟩ => absurd hi (by omega), fun f _ => rfl, fun ⟨f, i, hi, _⟩ => absurd hi (by omega), fun _ => rfl⟩
  | succ n ih =>
    intro hn
    obtain ⟨k1, a1, a2, a3, a4⟩ := ih (by omega)
    rw [itG_s]
    generalize itG (mRk ly) n (0, u) = y at k1 a1 a2 a3 a4 ⊢
    unfold mRk
    rw [k1 3 (by decide), k1 16 (by decide)]
    by_cases c : u 3 (tn (u 16 (5 * n))) = ly
    · rw [if_pos c]
      obtain ⟨r1, r2, r3, r4, r5⟩ := rn_spec hR (show n < 16 by omega) mFuel 0 y.1 y.2 k1 (by unfold mFuel; omega) (by decide)
      generalize mRn n mFuel 0 y.1 y.2 = z at r1 r2 r3 r4 r5 ⊢
      refine ⟨r1, fun f h => ?_, fun f h => ?_, fun h => ?_, fun h => ?_⟩
      · by_cases c2 : nwx u n 0 f
        · exact r2 f c2
        · rw [r3 f c2]
          obtain ⟨i, hi, b⟩ := h
          refine a1 f ⟨i, ?_, b⟩
          rcases Nat.lt_or_ge i n with h | h
          · exact h
          · have : i = n := by omega
            subst this; exact absurd b.2 c2
      · rw [r3 f (fun z => h ⟨n, by omega, c, z⟩), a2 f (fun ⟨i, hi, b⟩ => h ⟨i, by omega, b⟩)]
      · by_cases c2 : ∃ f, nwx u n 0 f
        · exact r4 c2
        · rw [r5 c2]
          obtain ⟨f, i, hi, b⟩ := h
          refine a3 ⟨f, i, ?_, b⟩
          rcases Nat.lt_or_ge i n with h | h
          · exact h
          · have : i = n := by omega
            subst this; exact absurd ⟨f, b.2⟩ c2
      · rw [r5 (fun ⟨f, z⟩ => h ⟨f, n, by omega, c, z⟩), a4 (fun ⟨f, i, hi, b⟩ => h ⟨f, i, by omega, b⟩)]
    · rw [if_neg c]
      have hx : ∀ f i, (i < n + 1 ∧ u 3 (tn (u 16 (5 * i))) = ly ∧ nwx u i 0 f) → i < n ∧ u 3 (tn (u 16 (5 * i))) = ly ∧ nwx u i 0 f := by
        rintro f i ⟨hi, b⟩
        refine ⟨?_, b⟩
        rcases Nat.lt_or_ge i n with h | h
        · exact h
        · have : i = n := by omega
          subst this; exact absurd b.1 c
      exact ⟨k1, fun f ⟨i, h⟩ => a1 f ⟨i, hx f i h⟩, fun f h => a2 f (fun ⟨i, hi, b⟩ => h ⟨i, by omega, b⟩), fun ⟨f, i, h⟩ => a3 ⟨f, i, hx f i h⟩, fun h => a4 (fun ⟨f, i, hi, b⟩ => h ⟨f, i, by omega, b⟩)⟩
theorem nw_spec (rd : Int32) (y : jU) : ∀ n, kp [4, 5] y (itN (mNw rd) n y) ∧ (∀ f, f < n → itN (mNw rd) n y 4 f = (if y 5 f = 0 then y 4 f else rd) ∧ itN (mNw rd) n y 5 f = 0) ∧ (∀ f, n ≤ f → itN (mNw rd) n y 4 f = y 4 f ∧ itN (mNw rd) n y 5 f = y 5 f) := by
  intro n
  induction n with
  | zero => exact ⟨kp.rf _ y, fun f hf => absurd hf (by omega), fun f _ => ⟨rfl, rfl⟩⟩
  | succ n ih =>
    obtain ⟨k1, a1, a2⟩ := ih
    rw [itN_s]
    generalize itN (mNw rd) n y = z at k1 a1 a2 ⊢
    unfold mNw
    refine ⟨(k1.tr (kp_up _ _ _ (by decide))).tr (kp_up _ _ _ (by decide)), fun f hf => ?_, fun f hf => ?_⟩
    · rw [up_comp (c := 5) (c' := 4) _ _ _ _ (by decide)]
      by_cases e : f = n
      · subst e
        rw [up_same, up_same, (a2 f (Nat.le_refl _)).1, (a2 f (Nat.le_refl _)).2]
        exact ⟨rfl, rfl⟩
      · rw [up_idx _ _ e, up_idx _ _ e, up_comp (c := 4) (c' := 5) _ _ _ _ (by decide)]
        exact a1 f (by omega)
    · have e : f ≠ n := by omega
      rw [up_comp (c := 5) (c' := 4) _ _ _ _ (by decide), up_idx _ _ e, up_idx _ _ e, up_comp (c := 4) (c' := 5) _ _ _ _ (by decide)]
      exact a2 f (by omega)
theorem nwx_ns {u : jU} (hR : wfR u) {i f : Nat} (hi : i < 16) : nwx u i 0 f ↔ u 4 f < 0 ∧ dvx u (hrx (u 4)) i f := by
  unfold nwx
  rw [nmx_dv hR hi]
  have : hol u f = false ↔ u 4 f < 0 := by unfold hol; simp
  rw [this]
  exact ⟨fun h => ⟨h.2, h.1⟩, fun h => ⟨h.2, h.1⟩⟩
theorem round_spec {u : jU} (hR : wfR u) (hK : tn (u 0 1) ≤ 16) (ly rd : Int32) (hz : ∀ f, f < 1152 → u 5 f = 0) :
    kp [4, 5, 6] u (mRound ly rd u).2 ∧ eqr ((mRound ly rd u).2 4) (stx u (u 3) ly rd (u 4)) ∧ (∀ f, f < 1152 → (mRound ly rd u).2 5 f = 0) ∧ ((mRound ly rd u).1 = 0 ↔ nox u (u 3) ly (u 4)) := by
  obtain ⟨k1, a1, a2, a3, a4⟩ := rk_spec hR ly (tn (u 0 1)) hK
  have e1 : (mRound ly rd u).1 = (itG (mRk ly) (tn (u 0 1)) (0, u)).1 := rfl
  rw [mRound_2, e1]
  generalize itG (mRk ly) (tn (u 0 1)) (0, u) = y at k1 a1 a2 a3 a4 ⊢
  obtain ⟨k2, b1, b2⟩ := nw_spec rd y.2 1152
  generalize itN (mNw rd) 1152 y.2 = z at k2 b1 b2 ⊢
  have hns : ∀ f, (∃ i, i < tn (u 0 1) ∧ u 3 (tn (u 16 (5 * i))) = ly ∧ nwx u i 0 f) ↔ nsx u (u 3) ly (u 4) f := by
    intro f
    constructor
    · rintro ⟨i, hi, c, d⟩
      have := (nwx_ns hR (by omega)).mp d
      exact ⟨this.1, i, hi, c, this.2⟩
    · rintro ⟨a, i, hi, c, d⟩
      exact ⟨i, hi, c, (nwx_ns hR (by omega)).mpr ⟨a, d⟩⟩
  refine ⟨(k1.wid (by decide)).tr (k2.wid (by decide)), fun f hf => ?_, fun f hf => (b1 f hf).2, ?_⟩
  · rw [(b1 f hf).1]
    unfold stx
    by_cases c : nsx u (u 3) ly (u 4) f
    · rw [cif_pos c, a1 f ((hns f).mpr c), if_neg (by decide)]
    · rw [cif_neg c, a2 f (fun z => c ((hns f).mp z)), hz f hf, if_pos rfl, k1 4 (by decide)]
  · constructor
    · intro h f hf hn
      have := a3 ⟨f, (hns f).mpr hn⟩
      rw [h] at this
      exact absurd this (by decide)
    · intro h
      refine a4 (fun ⟨f, i, hi, c, d⟩ => ?_)
      have h1 := (nwx_ns hR (by omega)).mp d
      exact h f (dvx_lt hR (by omega) h1.2) ((hns f).mp ⟨i, hi, c, d⟩)
