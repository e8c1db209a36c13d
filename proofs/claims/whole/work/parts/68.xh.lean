-- the mathematics, eighth part: which layers there are, on both sides
abbrev xF (w : jU) (n : Nat) (K : Nat → Nat) : Prop := lF (rH w) (rS w) (rB w) (rG w) n K
abbrev xL (w : jU) (n : Nat) (K : Nat → Nat) : Prop := lL (rH w) (rS w) (rB w) (rG w) n K
theorem lE_le (L M : Nat → Nat) : lE L M ≤ 8 := by
  have h : lE L M ≤ sm (fun _ => 1) 8 := sm_le (fun r _ => by show (if L r = M r then 1 else 0) ≤ 1; split <;> omega)
  rw [sm_const] at h
  omega
theorem xP_pg {w y : jU} (h : pgq w y) (L : Nat → Nat) (n : Nat) : xP y L n = xP w L n := by unfold xP; rw [rH_pg h, rS_pg h, rB_pg h, rG_pg h]
theorem xC_pg {w y : jU} (h : pgq w y) (L : Nat → Nat) (n : Nat) : xC y L n = xC w L n := by unfold xC; rw [rH_pg h, rS_pg h, rB_pg h, rG_pg h]
theorem xF_8 {w : jU} (hR : wfR w) {n : Nat} (hn : n ≤ 16) {L M : Nat → Nat} (hM : xF w n M) (h : ∀ r, r < 8 → L r = M r) : xF w n L := by
  intro i hi q hq
  rw [h _ (rB_8 hR (by omega) hq), h _ (rH_8 hR i)]
  exact hM i hi q hq
theorem bB {w : jU} (hR : wfR w) {n : Nat} (hn : n ≤ 16) : ∀ i q, i < n → q < rS w i → rB w i q < 8 := fun i q hi hq => rB_8 hR (by omega) hq
theorem lyq_8 {y : jU} {L M : Nat → Nat} (h : lyq y L) (he : ∀ r, r < 8 → L r = M r) : lyq y M := fun r hr => by rw [h r hr, he r hr]
/-- one pass below the least layers: it changes nothing and they are reached, or one more is reached -/
theorem pass_1 {w : jU} (hR : wfR w) {n : Nat} (hn : n ≤ 16) {L M : Nat → Nat} (hM : xL w n M) (hL : ∀ r, L r ≤ M r) :
    (xC w L n = false ∧ xP w L n = L ∧ ∀ r, L r = M r) ∨ (xC w L n = true ∧ (∀ r, xP w L n r ≤ M r) ∧ lE L M < lE (xP w L n) M) := by
  cases c : xC w L n with
  | false =>
    obtain ⟨a, b⟩ := lC_no c
    exact Or.inl ⟨rfl, a, fun r => Nat.le_antisymm (hL r) (hM.2 L b r)⟩
  | true =>
    refine Or.inr ⟨rfl, lP_below hM.1 hL n (Nat.le_refl _), ?_⟩
    rcases lE_pass (bB hR hn) (rH_8 hR) hM hL with h | h
    · have h1 := xF_8 hR hn hM.1 (lE_8 hL h)
      have h2 := (lC_fix h1 n (Nat.le_refl _)).1
      have h3 : xC w L n = false := h2
      rw [c] at h3; cases h3
    · exact h
theorem fl_1 {w : jU} (hR : wfR w) (hK : tn (w 0 1) ≤ 16) {M : Nat → Nat} (hM : xL w (tn (w 0 1)) M) : ∀ (n : Nat) (y : jU) (L : Nat → Nat), kp [3] w y → lyq y L → (∀ r, L r ≤ M r) → 9 ≤ n + lE L M → (pFL n y).1 = true ∧ lyq (pFL n y).2 M := by
  have h7 := lL_7 (rG_1 w) (bB hR hK) (rH_8 hR) hM
  intro n
  induction n with
  | zero => intro y L _ _ _ h; have := lE_le L M; exact absurd h (by omega)
  | succ n ih =>
    intro y L hk hl hL h9
    have pg : pgq w y := hk.pg (by decide)
    have h01 : y 0 1 = w 0 1 := by rw [hk 0 (by decide)]
    obtain ⟨a1, a2⟩ := rs_spec (wfR_pg pg hR) hl (M := 7) (fun r hr => Nat.le_trans (hL r) (h7 r hr)) (by decide) (tn (y 0 1)) (by rw [h01]; exact hK)
    have k1 := hk.tr (pRs_kp y (tn (y 0 1)))
    unfold pFL
    generalize pRs y (tn (y 0 1)) = z at a1 a2 k1 ⊢
    rw [h01] at a1 a2
    rw [xP_pg pg] at a1
    rw [xC_pg pg] at a2
    rcases pass_1 hR hK hM hL with ⟨c1, c2, c3⟩ | ⟨c1, c2, c3⟩
    · rw [c1] at a2
      rw [if_pos (show z.1 = 0 from a2)]
      rw [c2] at a1
      exact ⟨rfl, lyq_8 a1 (fun r _ => c3 r)⟩
    · rw [c1] at a2
      rw [if_neg (by rw [a2]; decide)]
      exact ih z.2 _ k1 a1 c2 (by omega)
theorem fl_2 {w : jU} (hR : wfR w) (hK : tn (w 0 1) ≤ 16) (hN : ¬ ∃ K, xF w (tn (w 0 1)) K) : ∀ (n : Nat) (y : jU) (L : Nat → Nat) (B : Nat), kp [3] w y → lyq y L → (∀ r, r < 8 → L r ≤ B) → B + 16 * n < 2 ^ 19 → (pFL n y).1 = false := by
  intro n
  induction n with
  | zero => intro y L B _ _ _ _; rfl
  | succ n ih =>
    intro y L B hk hl hL hB
    have pg : pgq w y := hk.pg (by decide)
    have h01 : y 0 1 = w 0 1 := by rw [hk 0 (by decide)]
    have hKy : tn (y 0 1) ≤ 16 := by rw [h01]; exact hK
    obtain ⟨a1, a2⟩ := rs_spec (wfR_pg pg hR) hl hL (by omega) (tn (y 0 1)) hKy
    have hb := xP_b (wfR_pg pg hR) hL (tn (y 0 1)) hKy
    have k1 := hk.tr (pRs_kp y (tn (y 0 1)))
    unfold pFL
    generalize pRs y (tn (y 0 1)) = z at a1 a2 k1 ⊢
    rw [h01] at a1 a2 hb
    rw [xP_pg pg] at a1 hb
    rw [xC_pg pg] at a2
    cases c : xC w L (tn (w 0 1)) with
    | false => exact absurd ⟨L, (lC_no c).2⟩ hN
    | true =>
      rw [c] at a2
      rw [if_neg (by rw [a2]; decide)]
      exact ih z.2 _ (B + 16) k1 a1 (fun r hr => by have := hb r hr; omega) (by omega)
theorem wl_1 {w : jU} (hR : wfR w) (hK : tn (w 0 1) ≤ 16) {M : Nat → Nat} (hM : xL w (tn (w 0 1)) M) : ∀ (n : Nat) (y : jU) (L : Nat → Nat), kp [3] w y → lyq y L → (∀ r, L r ≤ M r) → 9 ≤ n + lE L M → (mWl n (1, 1, y)).1 = 0 ∧ (mWl n (1, 1, y)).2.1 = 1 ∧ lyq (mWl n (1, 1, y)).2.2 M := by
  have h7 := lL_7 (rG_1 w) (bB hR hK) (rH_8 hR) hM
  intro n
  induction n with
  | zero => intro y L _ _ _ h; have := lE_le L M; exact absurd h (by omega)
  | succ n ih =>
    intro y L hk hl hL h9
    have pg : pgq w y := hk.pg (by decide)
    have h01 : y 0 1 = w 0 1 := by rw [hk 0 (by decide)]
    obtain ⟨a1, a2, a3, -⟩ := ps_spec (wfR_pg pg hR) hl (M := 7) (fun r hr => Nat.le_trans (hL r) (h7 r hr)) (by decide) (tn (y 0 1)) (by rw [h01]; exact hK)
    have k1 := itPs_kp w (0, 1, y) hk (tn (y 0 1))
    have e : mWl (n + 1) (1, 1, y) = mWl n (itG mPs (tn (y 0 1)) (0, 1, y)) := rfl
    rw [e]
    generalize itG mPs (tn (y 0 1)) (0, 1, y) = z at a1 a2 a3 k1 ⊢
    rw [h01] at a1 a2 a3
    rw [xP_pg pg] at a1 a3
    rw [xC_pg pg] at a2
    have hbl := lP_below hM.1 hL (tn (w 0 1)) (Nat.le_refl _)
    have b3 := a3 (fun r hr => Nat.le_trans (hbl r) (Nat.le_trans (h7 r hr) (by decide)))
    rcases pass_1 hR hK hM hL with ⟨c1, c2, c3⟩ | ⟨c1, c2, c3⟩
    · rw [c1] at a2
      have a2' : z.1 = 0 := a2
      rw [mWl_stop (Or.inl a2')]
      rw [c2] at a1
      exact ⟨a2', b3, lyq_8 a1 (fun r _ => c3 r)⟩
    · rw [c1] at a2
      have a2' : z.1 = 1 := a2
      have ez : z = (1, 1, z.2.2) := Prod.ext a2' (Prod.ext b3 rfl)
      rw [ez]
      exact ih z.2.2 _ k1 a1 c2 (by omega)
theorem wl_2 {w : jU} (hR : wfR w) (hK : tn (w 0 1) ≤ 16) (hN : ¬ ∃ K, xF w (tn (w 0 1)) K) : ∀ (n : Nat) (y : jU) (L : Nat → Nat), kp [3] w y → lyq y L → (∀ r, r < 8 → L r ≤ 8) → 65 ≤ n + sm L 8 → (mWl n (1, 1, y)).2.1 = 0 := by
  have hsm : ∀ L : Nat → Nat, (∀ r, r < 8 → L r ≤ 8) → sm L 8 ≤ 64 := fun L h => by
    have h1 : sm L 8 ≤ sm (fun _ => 8) 8 := sm_le h
    rw [sm_const] at h1
    omega
  intro n
  induction n with
  | zero => intro y L _ _ h h2; have := hsm L h; exact absurd h2 (by omega)
  | succ n ih =>
    intro y L hk hl hL h9
    have pg : pgq w y := hk.pg (by decide)
    have h01 : y 0 1 = w 0 1 := by rw [hk 0 (by decide)]
    obtain ⟨a1, a2, a3, a4⟩ := ps_spec (wfR_pg pg hR) hl hL (by decide) (tn (y 0 1)) (by rw [h01]; exact hK)
    have a4' := a4 hL
    have k1 := itPs_kp w (0, 1, y) hk (tn (y 0 1))
    have e : mWl (n + 1) (1, 1, y) = mWl n (itG mPs (tn (y 0 1)) (0, 1, y)) := rfl
    rw [e]
    generalize itG mPs (tn (y 0 1)) (0, 1, y) = z at a1 a2 a3 a4' k1 ⊢
    rw [h01] at a1 a2 a3 a4'
    rw [xP_pg pg] at a1 a3 a4'
    rw [xC_pg pg] at a2
    cases c : xC w L (tn (w 0 1)) with
    | false => exact absurd ⟨L, (lC_no c).2⟩ hN
    | true =>
      rw [c] at a2
      have a2' : z.1 = 1 := a2
      have hlt := lC_yes (rH_8 hR) c
      by_cases c2 : z.2.1 = 0
      · rw [mWl_stop (Or.inr c2)]; exact c2
      · have hb8 := a4'.resolve_left c2
        have ez : z = (1, 1, z.2.2) := Prod.ext a2' (Prod.ext (a3 hb8) rfl)
        rw [ez]
        have hlt' : sm L 8 < sm (xP w L (tn (w 0 1))) 8 := hlt
        exact ih z.2.2 _ k1 a1 hb8 (by omega)

theorem mZ_ly (w : jU) : lyq (mZ w) (fun _ => 0) := by
  intro r hr
  match r, hr with
  | 0, _ => rfl
  | 1, _ => rfl
  | 2, _ => rfl
  | 3, _ => rfl
  | 4, _ => rfl
  | 5, _ => rfl
  | 6, _ => rfl
  | 7, _ => rfl
theorem fill_ly (w : jU) : lyq (pFill w 3 8) (fun _ => 0) := by
  intro r hr
  unfold pFill
  rw [if_pos ⟨rfl, hr⟩]
  rfl
/-- the fault, without its machine -/
noncomputable def faX (w : jU) : Int32 := if mUn w (tn (w 0 1)) (tn (w 0 1)) < 0 then cif (∃ K, xF w (tn (w 0 1)) K) (-1) 100 else mUn w (tn (w 0 1)) (tn (w 0 1))
/-- the layers, without their machine -/
noncomputable def laX (w : jU) : Nat → Nat := @dite _ (∃ M, xL w (tn (w 0 1)) M) (Classical.propDecidable _) (fun h => Classical.choose h) (fun _ _ => 0)
theorem laX_is {w : jU} (h : ∃ K, xF w (tn (w 0 1)) K) : xL w (tn (w 0 1)) (laX w) := by
  have h1 : ∃ M, xL w (tn (w 0 1)) M := lL_ex h
  unfold laX
  rw [dif_pos h1]
  exact Classical.choose_spec h1
theorem wl_all {w : jU} (hR : wfR w) (hK : tn (w 0 1) ≤ 16) : mEnd (mWl mWlf (1, 1, mZ w)) ∧ ((∃ K, xF w (tn (w 0 1)) K) → (mWl mWlf (1, 1, mZ w)).2.1 = 1 ∧ lyq (mWl mWlf (1, 1, mZ w)).2.2 (laX w)) ∧ ((¬ ∃ K, xF w (tn (w 0 1)) K) → (mWl mWlf (1, 1, mZ w)).2.1 = 0) := by
  by_cases h : ∃ K, xF w (tn (w 0 1)) K
  · have hM := laX_is h
    have h1 := lE_0 (bB hR hK) hM
    obtain ⟨a, b, c⟩ := wl_1 hR hK hM mWlf (mZ w) (fun _ => 0) (mZ_kp w) (mZ_ly w) (fun r => Nat.zero_le _) (by unfold mWlf; omega)
    exact ⟨Or.inl a, fun _ => ⟨b, c⟩, fun z => absurd h z⟩
  · have a := wl_2 hR hK h mWlf (mZ w) (fun _ => 0) (mZ_kp w) (mZ_ly w) (fun r _ => Nat.zero_le _) (by unfold mWlf; omega)
    exact ⟨Or.inr a, fun z => absurd z h, fun _ => a⟩
theorem ff_spec {w : jU} (hR : wfR w) (hK : tn (w 0 1) ≤ 16) : (mFF w).1 = faX w ∧ ((∃ K, xF w (tn (w 0 1)) K) → lyq (mFF w).2 (laX w)) := by
  obtain ⟨-, a, b⟩ := wl_all hR hK
  refine ⟨?_, fun h => (a h).2⟩
  unfold mFF faX
  show (if mUn w (tn (w 0 1)) (tn (w 0 1)) < 0 then (if (mWl mWlf (1, 1, mZ w)).2.1 = 0 then (100 : Int32) else -1) else mUn w (tn (w 0 1)) (tn (w 0 1))) = _
  by_cases h : ∃ K, xF w (tn (w 0 1)) K
  · rw [cif_pos h, (a h).1, if_neg (show ¬ (1 : Int32) = 0 by decide)]
  · rw [cif_neg h, b h, if_pos rfl]
theorem layers_spec {w : jU} (hR : wfR w) (hK : tn (w 0 1) ≤ 16) : ((∃ K, xF w (tn (w 0 1)) K) → (pLayers w).1 = true ∧ lyq (pLayers w).2 (laX w)) ∧ ((¬ ∃ K, xF w (tn (w 0 1)) K) → (pLayers w).1 = false) := by
  have k : kp [3] w (pFill w 3 8) := kp_fill w 8 (by decide)
  constructor
  · intro h
    have hM := laX_is h
    have h1 := lE_0 (bB hR hK) hM
    exact fl_1 hR hK hM 8 (pFill w 3 8) (fun _ => 0) k (fill_ly w) (fun r => Nat.zero_le _) (by omega)
  · intro h
    exact fl_2 hR hK h 8 (pFill w 3 8) (fun _ => 0) 0 k (fill_ly w) (fun r _ => Nat.zero_le _) (by decide)
theorem laX_7 {w : jU} (hR : wfR w) (hK : tn (w 0 1) ≤ 16) (h : ∃ K, xF w (tn (w 0 1)) K) : ∀ r, r < 8 → laX w r ≤ 7 := lL_7 (rG_1 w) (bB hR hK) (rH_8 hR) (laX_is h)
theorem xF_pg {w y : jU} (h : pgq w y) (n : Nat) (K : Nat → Nat) : xF y n K ↔ xF w n K := by unfold xF; rw [rH_pg h, rS_pg h, rB_pg h, rG_pg h]
theorem laX_pg {w y : jU} (h : pgq w y) (h1 : y 0 1 = w 0 1) : laX y = laX w := by
  unfold laX xL
  rw [h1, rH_pg h, rS_pg h, rB_pg h, rG_pg h]
