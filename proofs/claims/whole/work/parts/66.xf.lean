-- the mathematics, sixth part: the reference's layers, one after the other
theorem stx_pg {w w' : jU} (h : pgq w w') (hK : w' 0 1 = w 0 1) {L L' : Nat → Int32} (hR : wfR w) (hK16 : tn (w 0 1) ≤ 16) (hL : ∀ r, r < 8 → L' r = L r) (ly rd : Int32) (ρ : Nat → Int32) : stx w' L' ly rd ρ = stx w L ly rd ρ := by
  funext f
  unfold stx
  refine cif_iff ?_ _ _
  unfold nsx
  rw [hK, h.2.1]
  have hh : ∀ i, i < tn (w 0 1) → L' (tn (w 16 (5 * i))) = L (tn (w 16 (5 * i))) := fun i hi => hL _ (hR.2 (5 * i) (by omega)).1.2
  constructor
  · rintro ⟨a, i, b, c, d⟩; exact ⟨a, i, b, by rw [← hh i b]; exact c, (dvx_pg h _ _ _).mp d⟩
  · rintro ⟨a, i, b, c, d⟩; exact ⟨a, i, b, by rw [hh i b]; exact c, (dvx_pg h _ _ _).mpr d⟩
theorem rdx_pg {w w' : jU} (h : pgq w w') (hK : w' 0 1 = w 0 1) {L L' : Nat → Int32} (hR : wfR w) (hK16 : tn (w 0 1) ≤ 16) (hL : ∀ r, r < 8 → L' r = L r) (ly : Int32) : ∀ (n rd : Nat) (ρ : Nat → Int32), rdx w' L' ly n rd ρ = rdx w L ly n rd ρ := by
  intro n
  induction n with
  | zero => intro rd ρ; rfl
  | succ n ih =>
    intro rd ρ
    show rdx w' L' ly n (rd + 1) (stx w' L' ly (nI rd) ρ) = rdx w L ly n (rd + 1) (stx w L ly (nI rd) ρ)
    rw [stx_pg h hK hR hK16 hL, ih]
theorem unr_e {ρ σ : Nat → Int32} (h : eqr ρ σ) : unr ρ = unr σ := sm_congr (fun f hf => by show (if ρ f < 0 then 1 else 0) = (if σ f < 0 then 1 else 0); rw [h f hf])
theorem wh_spec (ly : Int32) : ∀ (fuel rd : Nat) (u : jU), wfR u → tn (u 0 1) ≤ 16 → (∀ f, f < 1152 → u 5 f = 0) → unr (u 4) < fuel → rd + fuel < 2 ^ 31 →
    (mWh ly fuel rd u).1 = 0 ∧ kp [4, 5, 6] u (mWh ly fuel rd u).2 ∧ (∀ f, f < 1152 → (mWh ly fuel rd u).2 5 f = 0) ∧ ∀ m, unr (u 4) ≤ m → eqr ((mWh ly fuel rd u).2 4) (rdx u (u 3) ly m rd (u 4)) := by
  intro fuel
  induction fuel with
  | zero => intro rd u _ _ _ h; exact absurd h (by omega)
  | succ fuel ih =>
    intro rd u hR hK hz hu hrd
    obtain ⟨k1, a1, a2, a3⟩ := round_spec hR hK ly (nI rd) hz
    rw [mWh]
    generalize mRound ly (nI rd) u = r at k1 a1 a2 a3 ⊢
    split
    · rename_i h0
      have hno := a3.mp h0
      exact ⟨rfl, k1, a2, fun m _ => (a1.tr (stx_no hno)).tr (rdx_no hR hK hno m rd).sy⟩
    · rename_i h0
      have hno : ¬ nox u (u 3) ly (u 4) := fun z => h0 (a3.mpr z)
      have hlt := stx_lt (rd := nI rd) (nI_nn (by omega)) hno
      have pg : pgq u r.2 := k1.pg (by decide)
      have h01 : r.2 0 1 = u 0 1 := by rw [k1 0 (by decide)]
      have hu2 : unr (r.2 4) < fuel := by rw [unr_e a1]; omega
      obtain ⟨b0, b1, b2, b3⟩ := ih (rd + 1) r.2 (wfR_pg pg hR) (by rw [h01]; exact hK) a2 hu2 (by omega)
      refine ⟨b0, k1.tr b1, b2, fun m hm => ?_⟩
      match m, hm with
      | 0, hm => exact absurd hlt (by omega)
      | m + 1, hm =>
        have h := b3 m (by rw [unr_e a1]; omega)
        rw [rdx_pg pg h01 hR hK (fun q _ => by rw [k1 3 (by decide)])] at h
        exact h.tr (rdx_e hR hK m (rd + 1) a1)
/-- given facts of the layer ly come into it -/
def gvx (L : Nat → Int32) (gv : Nat → Bool) (ly : Int32) (ρ : Nat → Int32) : Nat → Int32 := fun f => if gv f = true ∧ L (f / 144) = ly then 0 else ρ f
def mRx : Nat := 1153
noncomputable def lyx (w : jU) (L : Nat → Int32) (gv : Nat → Bool) (ly : Nat) (ρ : Nat → Int32) : Nat → Int32 := rdx w L (nI ly) mRx 1 (gvx L gv (nI ly) ρ)
/-- the ranks when the layers below n are done -/
noncomputable def abx (w : jU) (L : Nat → Int32) (gv : Nat → Bool) : Nat → Nat → Int32
  | 0 => fun _ => -1
  | n + 1 => lyx w L gv n (abx w L gv n)
theorem gvx_e {L L' : Nat → Int32} {gv gv' : Nat → Bool} (hL : ∀ r, r < 8 → L' r = L r) (hg : ∀ f, f < 1152 → gv' f = gv f) {ly : Int32} {ρ σ : Nat → Int32} (h : eqr ρ σ) : eqr (gvx L' gv' ly ρ) (gvx L gv ly σ) := by
  intro f hf
  unfold gvx
  rw [hL (f / 144) (by omega), hg f hf, h f hf]
theorem lyx_e {w w' : jU} (h : pgq w w') (hK : w' 0 1 = w 0 1) (hR : wfR w) (hK16 : tn (w 0 1) ≤ 16) {L L' : Nat → Int32} {gv gv' : Nat → Bool} (hL : ∀ r, r < 8 → L' r = L r) (hg : ∀ f, f < 1152 → gv' f = gv f) (ly : Nat) {ρ σ : Nat → Int32} (he : eqr ρ σ) : eqr (lyx w' L' gv' ly ρ) (lyx w L gv ly σ) := by
  unfold lyx
  rw [rdx_pg h hK hR hK16 hL]
  exact rdx_e hR hK16 _ _ (gvx_e hL hg he)
theorem abx_e {w w' : jU} (h : pgq w w') (hK : w' 0 1 = w 0 1) (hR : wfR w) (hK16 : tn (w 0 1) ≤ 16) {L L' : Nat → Int32} {gv gv' : Nat → Bool} (hL : ∀ r, r < 8 → L' r = L r) (hg : ∀ f, f < 1152 → gv' f = gv f) : ∀ n, eqr (abx w' L' gv' n) (abx w L gv n) := by
  intro n
  induction n with
  | zero => exact eqr.rf _
  | succ n ih => exact lyx_e h hK hR hK16 hL hg n ih
/-- what the reference was given -/
def gvr (w : jU) : Nat → Bool := fun f => !decide (w 2 f = 0)
/-- given facts are of relations that are there -/
def gok (w : jU) : Prop := inN (w 0 0) 9 ∧ ∀ f, f < 1152 → ¬ w 2 f = 0 → f / 144 < tn (w 0 0)
theorem gv_spec {w : jU} (hg : gok w) (ly : Int32) : ∀ n, n ≤ 1152 → kp [4] w (itN (mGv ly) n w) ∧ (∀ f, f < n → itN (mGv ly) n w 4 f = gvx (w 3) (gvr w) ly (w 4) f) ∧ (∀ f, n ≤ f → itN (mGv ly) n w 4 f = w 4 f) := by
  intro n
  induction n with
  | zero => intro _; exact ⟨kp.rf _ w, fun f hf => absurd hf (by omega), fun f _ => rfl⟩
  | succ n ih =>
    intro hn
    obtain ⟨k1, a1, a2⟩ := ih (by omega)
    rw [itN_s]
    generalize itN (mGv ly) n w = z at k1 a1 a2 ⊢
    unfold mGv
    refine ⟨k1.tr (kp_up _ _ _ (by decide)), fun f hf => ?_, fun f hf => ?_⟩
    · by_cases e : f = n
      · subst e
        rw [up_same, a2 f (Nat.le_refl _), k1 2 (by decide), k1 0 (by decide), k1 3 (by decide)]
        unfold gvx gvr
        by_cases c : w 2 f = 0
        · rw [if_pos c, if_neg (by simp [c])]
        · have h1 := hg.2 f (by omega) c
          have h2 : ¬ w 0 0 ≤ nI (f / 144) := by
            rw [hg.1.1]
            intro z
            have h9 := hg.1.2
            have := (nI_leI (by omega) (by omega)).mp z
            omega
          rw [if_neg c, if_neg h2]
          by_cases d : w 3 (f / 144) = ly
          · rw [if_pos d, if_pos ⟨by simp [c], d⟩]
          · rw [if_neg d, if_neg (fun z => d z.2)]
      · rw [up_idx _ _ e]; exact a1 f (by omega)
    · rw [up_idx _ _ (show f ≠ n by omega)]; exact a2 f (by omega)
theorem lay_spec {w : jU} (hR : wfR w) (hK : tn (w 0 1) ≤ 16) (hg : gok w) (hz : ∀ f, f < 1152 → w 5 f = 0) (ly : Nat) :
    (mWh (nI ly) mWhf 1 (itN (mGv (nI ly)) 1152 w)).1 = 0 ∧ kp [4, 5, 6] w (mLay ly w) ∧ (∀ f, f < 1152 → mLay ly w 5 f = 0) ∧ eqr (mLay ly w 4) (lyx w (w 3) (gvr w) ly (w 4)) := by
  obtain ⟨k1, a1, -⟩ := gv_spec hg (nI ly) 1152 (Nat.le_refl _)
  have e : mLay ly w = (mWh (nI ly) mWhf 1 (itN (mGv (nI ly)) 1152 w)).2 := rfl
  rw [e]
  generalize itN (mGv (nI ly)) 1152 w = y at k1 a1 ⊢
  have pg : pgq w y := k1.pg (by decide)
  have h01 : y 0 1 = w 0 1 := by rw [k1 0 (by decide)]
  have hu := unr_le (y 4)
  obtain ⟨b0, b1, b2, b3⟩ := wh_spec (nI ly) mWhf 1 y (wfR_pg pg hR) (by rw [h01]; exact hK) (fun f hf => by rw [k1 5 (by decide)]; exact hz f hf) (by unfold mWhf; omega) (by unfold mWhf; omega)
  refine ⟨b0, (k1.wid (by decide)).tr b1, b2, ?_⟩
  have h := b3 mRx (by unfold mRx; omega)
  rw [rdx_pg pg h01 hR hK (fun q _ => by rw [k1 3 (by decide)])] at h
  exact h.tr (rdx_e hR hK _ _ a1)
theorem gok_c {w w' : jU} (h0 : w' 0 0 = w 0 0) (h2 : w' 2 = w 2) (hg : gok w) : gok w' := by
  unfold gok
  rw [h0, h2]
  exact hg
theorem lays_spec {w : jU} (hR : wfR w) (hK : tn (w 0 1) ≤ 16) (hg : gok w) (hz : ∀ f, f < 1152 → w 5 f = 0) (h4 : eqr (w 4) (fun _ => -1)) : ∀ n,
    kp [4, 5, 6] w (itN mLay n w) ∧ (∀ f, f < 1152 → itN mLay n w 5 f = 0) ∧ eqr (itN mLay n w 4) (abx w (w 3) (gvr w) n) ∧ (mWh (nI n) mWhf 1 (itN (mGv (nI n)) 1152 (itN mLay n w))).1 = 0 := by
  intro n
  induction n with
  | zero => exact ⟨kp.rf _ w, hz, h4, (lay_spec hR hK hg hz 0).1⟩
  | succ n ih =>
    obtain ⟨k1, a1, a2, -⟩ := ih
    rw [itN_s]
    generalize itN mLay n w = y at k1 a1 a2 ⊢
    have pg : pgq w y := k1.pg (by decide)
    have h0 : y 0 = w 0 := k1 0 (by decide)
    have hRy := wfR_pg pg hR
    have hKy : tn (y 0 1) ≤ 16 := by rw [h0]; exact hK
    have hgy : gok y := gok_c (by rw [h0]) (k1 2 (by decide)) hg
    obtain ⟨-, b1, b2, b3⟩ := lay_spec hRy hKy hgy a1 n
    have k2 := k1.tr b1
    generalize mLay n y = z at b1 b2 b3 k2 ⊢
    have pg2 : pgq w z := k2.pg (by decide)
    have h02 : z 0 = w 0 := k2 0 (by decide)
    refine ⟨k2, b2, ?_, (lay_spec (wfR_pg pg2 hR) (by rw [h02]; exact hK) (gok_c (by rw [h02]) (k2 2 (by decide)) hg) b2 (n + 1)).1⟩
    refine b3.tr ?_
    refine lyx_e pg (by rw [h0]) hR hK (fun q _ => by rw [k1 3 (by decide)]) (fun f _ => ?_) n a2
    unfold gvr
    rw [k1 2 (by decide)]
theorem i1_spec (w : jU) : ∀ n, kp [4, 5] w (itN mI1 n w) ∧ (∀ f, f < n → itN mI1 n w 4 f = -1 ∧ itN mI1 n w 5 f = 0) := by
  intro n
  induction n with
  | zero => exact ⟨kp.rf _ w, fun f hf => absurd hf (by omega)⟩
  | succ n ih =>
    obtain ⟨k1, a1⟩ := ih
    rw [itN_s]
    generalize itN mI1 n w = z at k1 a1 ⊢
    unfold mI1
    refine ⟨(k1.tr (kp_up _ _ _ (by decide))).tr (kp_up _ _ _ (by decide)), fun f hf => ?_⟩
    rw [up_comp (c := 5) (c' := 4) _ _ _ _ (by decide)]
    by_cases e : f = n
    · subst e; rw [up_same, up_same]; exact ⟨rfl, rfl⟩
    · rw [up_idx _ _ e, up_idx _ _ e, up_comp (c := 4) (c' := 5) _ _ _ _ (by decide)]; exact a1 f (by omega)
theorem find_spec {w : jU} (hR : wfR w) (hK : tn (w 0 1) ≤ 16) (hg : gok w) : ∀ n, kp [4, 5, 6] w (itN mLay n (itN mI1 1152 w)) ∧ eqr (itN mLay n (itN mI1 1152 w) 4) (abx w (w 3) (gvr w) n) ∧ (mWh (nI n) mWhf 1 (itN (mGv (nI n)) 1152 (itN mLay n (itN mI1 1152 w)))).1 = 0 := by
  intro n
  obtain ⟨k1, a1⟩ := i1_spec w 1152
  generalize itN mI1 1152 w = y at k1 a1 ⊢
  have pg : pgq w y := k1.pg (by decide)
  have h0 : y 0 = w 0 := k1 0 (by decide)
  obtain ⟨b1, -, b3, b4⟩ := lays_spec (wfR_pg pg hR) (by rw [h0]; exact hK) (gok_c (by rw [h0]) (k1 2 (by decide)) hg) (fun f hf => (a1 f hf).2) (fun f hf => (a1 f hf).1) n
  refine ⟨(k1.wid (by decide)).tr b1, b3.tr (abx_e pg (by rw [h0]) hR hK (fun q _ => by rw [k1 3 (by decide)]) (fun f _ => ?_) n), b4⟩
  unfold gvr
  rw [k1 2 (by decide)]
