-- the mathematics, fifteenth part: sight
/-- what is seen is P -/
def sP (u : jU) (P : Nat → Prop) : Prop := ∀ r, r < 8 → ∀ a, a < 12 → (∀ b, b < 12 → (hb (u 7 (r * 12 + a)) (nI b) = true ↔ P (144 * r + 12 * a + b)) ∧ (hb (u 8 (r * 12 + b)) (nI a) = true ↔ P (144 * r + 12 * a + b))) ∧ (hb (u 9 r) (nI a) = true ↔ ∃ b, b < 12 ∧ P (144 * r + 12 * a + b)) ∧ (hb (u 10 r) (nI a) = true ↔ ∃ b, b < 12 ∧ P (144 * r + 12 * b + a)) ∧ (hb (u 11 r) (nI a) = true ↔ P (144 * r + 12 * a + a))
theorem sP_iff {u : jU} {P Q : Nat → Prop} (h : ∀ f, f < 1152 → (P f ↔ Q f)) (hs : sP u P) : sP u Q := by
  intro r hr a ha
  obtain ⟨h1, h2, h3, h4⟩ := hs r hr a ha
  refine ⟨fun b hb' => ?_, ?_, ?_, ?_⟩
  · rw [← h _ (show 144 * r + 12 * a + b < 1152 by omega)]; exact h1 b hb'
  · rw [h2]
    exact ⟨fun ⟨b, hb', k⟩ => ⟨b, hb', (h _ (by omega)).mp k⟩, fun ⟨b, hb', k⟩ => ⟨b, hb', (h _ (by omega)).mpr k⟩⟩
  · rw [h3]
    exact ⟨fun ⟨b, hb', k⟩ => ⟨b, hb', (h _ (by omega)).mp k⟩, fun ⟨b, hb', k⟩ => ⟨b, hb', (h _ (by omega)).mpr k⟩⟩
  · rw [h4]; exact h _ (by omega)
theorem sP_c {u v : jU} {P : Nat → Prop} (hk : ∀ c ∈ [7, 8, 9, 10, 11], v c = u c) (hs : sP u P) : sP v P := by
  unfold sP
  rw [hk 7 (by decide), hk 8 (by decide), hk 9 (by decide), hk 10 (by decide), hk 11 (by decide)]
  exact hs
theorem bool_iff {a b : Bool} (h : a = true ↔ b = true) : a = b := by cases a <;> cases b <;> simp_all
theorem sP_h {u : jU} {h : Nat → Bool} (hs : sP u (fun f => h f = true)) : sgt u h ∧ sgs u h := by
  constructor
  · intro r hr a ha b hb'
    obtain ⟨h1, -⟩ := hs r hr a ha
    exact ⟨bool_iff (h1 b hb').1, bool_iff (h1 b hb').2⟩
  · intro r hr a ha
    obtain ⟨-, h2, h3, h4⟩ := hs r hr a ha
    exact ⟨h2, h3, bool_iff h4⟩
theorem show_7 (u : jU) (r a b : Int32) (k : Nat) : pShow u r a b 7 k = if k = tn r * 12 + tn a then u 7 k ||| 1 <<< (b &&& 31) else u 7 k := by
  unfold pShow
  have h4 : pS4 u r a b 7 k = if k = tn r * 12 + tn a then u 7 k ||| 1 <<< (b &&& 31) else u 7 k := by
    unfold pS4 pS3 pS2 pS1
    rw [up_comp _ _ _ _ (by decide), up_comp _ _ _ _ (by decide), up_comp _ _ _ _ (by decide)]
    by_cases e : k = tn r * 12 + tn a
    · subst e; rw [up_same, if_pos rfl]
    · rw [up_idx _ _ e, if_neg e]
  split
  · rw [up_comp _ _ _ _ (by decide)]; exact h4
  · exact h4
theorem show_8 (u : jU) (r a b : Int32) (k : Nat) : pShow u r a b 8 k = if k = tn r * 12 + tn b then u 8 k ||| 1 <<< (a &&& 31) else u 8 k := by
  unfold pShow
  have h4 : pS4 u r a b 8 k = if k = tn r * 12 + tn b then u 8 k ||| 1 <<< (a &&& 31) else u 8 k := by
    unfold pS4 pS3 pS2
    rw [up_comp _ _ _ _ (by decide), up_comp _ _ _ _ (by decide)]
    have e1 : pS1 u r a b 8 = u 8 := up_rows _ _ _ (by decide)
    rw [e1]
    by_cases e : k = tn r * 12 + tn b
    · subst e; rw [up_same, if_pos rfl]
    · rw [up_idx _ _ e, if_neg e, e1]
  split
  · rw [up_comp _ _ _ _ (by decide)]; exact h4
  · exact h4
theorem show_9 (u : jU) (r a b : Int32) (k : Nat) : pShow u r a b 9 k = if k = tn r then u 9 k ||| 1 <<< (a &&& 31) else u 9 k := by
  unfold pShow
  have h4 : pS4 u r a b 9 k = if k = tn r then u 9 k ||| 1 <<< (a &&& 31) else u 9 k := by
    unfold pS4 pS3
    rw [up_comp _ _ _ _ (by decide)]
    have e1 : pS2 u r a b 9 = u 9 := (up_rows _ _ _ (by decide)).trans (up_rows _ _ _ (by decide))
    rw [e1]
    by_cases e : k = tn r
    · subst e; rw [up_same, if_pos rfl]
    · rw [up_idx _ _ e, if_neg e, e1]
  split
  · rw [up_comp _ _ _ _ (by decide)]; exact h4
  · exact h4
theorem show_10 (u : jU) (r a b : Int32) (k : Nat) : pShow u r a b 10 k = if k = tn r then u 10 k ||| 1 <<< (b &&& 31) else u 10 k := by
  unfold pShow
  have h4 : pS4 u r a b 10 k = if k = tn r then u 10 k ||| 1 <<< (b &&& 31) else u 10 k := by
    unfold pS4
    have e1 : pS3 u r a b 10 = u 10 := (up_rows _ _ _ (by decide)).trans ((up_rows _ _ _ (by decide)).trans (up_rows _ _ _ (by decide)))
    rw [e1]
    by_cases e : k = tn r
    · subst e; rw [up_same, if_pos rfl]
    · rw [up_idx _ _ e, if_neg e, e1]
  split
  · rw [up_comp _ _ _ _ (by decide)]; exact h4
  · exact h4
theorem show_11 (u : jU) (r a b : Int32) (k : Nat) : pShow u r a b 11 k = if a = b ∧ k = tn r then u 11 k ||| 1 <<< (a &&& 31) else u 11 k := by
  unfold pShow
  have e1 : pS4 u r a b 11 = u 11 := (up_rows _ _ _ (by decide)).trans ((up_rows _ _ _ (by decide)).trans ((up_rows _ _ _ (by decide)).trans (up_rows _ _ _ (by decide))))
  by_cases c : a = b
  · rw [if_pos c, e1]
    by_cases e : k = tn r
    · subst e; rw [up_same, if_pos ⟨c, rfl⟩]
    · rw [up_idx _ _ e, if_neg (fun z => e z.2), e1]
  · rw [if_neg c, if_neg (fun z => c z.1), e1]
theorem hb_set {x : Int32} {b c : Nat} (hb' : b < 12) (hc : c < 12) {p : Prop} [Decidable p] : hb (if p then x ||| 1 <<< (nI b &&& 31) else x) (nI c) = true ↔ hb x (nI c) = true ∨ (p ∧ c = b) := by
  split
  · rename_i h
    rw [hb_or _ _ (by omega), hb_one (by omega) (by omega), Bool.or_eq_true, decide_eq_true_iff]
    constructor
    · rintro (z | z)
      · exact Or.inl z
      · exact Or.inr ⟨h, z.symm⟩
    · rintro (z | z)
      · exact Or.inl z
      · exact Or.inr z.2.symm
  · rename_i h
    exact ⟨Or.inl, fun z => z.elim id (fun y => absurd y.1 h)⟩
theorem sP_show {u : jU} {P : Nat → Prop} (hs : sP u P) {r a b : Nat} (hr : r < 8) (ha : a < 12) (hb' : b < 12) : sP (pShow u (nI r) (nI a) (nI b)) (fun g => P g ∨ g = 144 * r + 12 * a + b) := by
  have er : tn (nI r) = r := nI_clamp (by omega)
  have ea : tn (nI a) = a := nI_clamp (by omega)
  have eb : tn (nI b) = b := nI_clamp (by omega)
  have eab : nI a = nI b ↔ a = b := nI_eq (by omega) (by omega)
  intro r' hr' a' ha'
  obtain ⟨h1, h2, h3, h4⟩ := hs r' hr' a' ha'
  refine ⟨fun b' hb'' => ⟨?_, ?_⟩, ?_, ?_, ?_⟩
  · rw [show_7, er, ea, hb_set hb' hb'', (h1 b' hb'').1]
    have : (r' * 12 + a' = r * 12 + a ∧ b' = b) ↔ 144 * r' + 12 * a' + b' = 144 * r + 12 * a + b := by omega
    rw [this]
  · rw [show_8, er, eb, hb_set ha ha', (h1 b' hb'').2]
    have : (r' * 12 + b' = r * 12 + b ∧ a' = a) ↔ 144 * r' + 12 * a' + b' = 144 * r + 12 * a + b := by omega
    rw [this]
  · rw [show_9, er, hb_set ha ha', h2]
    constructor
    · rintro (⟨c, hc, z⟩ | z)
      · exact ⟨c, hc, Or.inl z⟩
      · exact ⟨b, hb', Or.inr (by omega)⟩
    · rintro ⟨c, hc, z | z⟩
      · exact Or.inl ⟨c, hc, z⟩
      · exact Or.inr (by omega)
  · rw [show_10, er, hb_set hb' ha', h3]
    constructor
    · rintro (⟨c, hc, z⟩ | z)
      · exact ⟨c, hc, Or.inl z⟩
      · exact ⟨a, ha, Or.inr (by omega)⟩
    · rintro ⟨c, hc, z | z⟩
      · exact Or.inl ⟨c, hc, z⟩
      · exact Or.inr (by omega)
  · rw [show_11, er, hb_set ha ha', h4, eab]
    have h5 : ((a = b ∧ r' = r) ∧ a' = a) ↔ 144 * r' + 12 * a' + a' = 144 * r + 12 * a + b := by
      clear h1 h2 h3 h4 hs er ea eb eab
      constructor
      · rintro ⟨⟨z1, z2⟩, z3⟩; omega
      · intro z
        have g1 : r' = r := by omega
        have g2 : a' = a := by omega
        exact ⟨⟨by omega, g1⟩, g2⟩
    rw [h5]
theorem sP_blind (u : jU) : sP (pBlind u) (fun _ => False) := by
  have h7 : ∀ k, k < 96 → pBlind u 7 k = 0 := fun k hk => by simp [pBlind, pFill, hk]
  have h8 : ∀ k, k < 96 → pBlind u 8 k = 0 := fun k hk => by simp [pBlind, pFill, hk]
  have h9 : ∀ k, k < 8 → pBlind u 9 k = 0 := fun k hk => by simp [pBlind, pFill, hk]
  have h10 : ∀ k, k < 8 → pBlind u 10 k = 0 := fun k hk => by simp [pBlind, pFill, hk]
  have h11 : ∀ k, k < 8 → pBlind u 11 k = 0 := fun k hk => by simp [pBlind, pFill, hk]
  intro r hr a ha
  refine ⟨fun b hb' => ⟨?_, ?_⟩, ?_, ?_, ?_⟩
  · rw [h7 _ (by omega), hb0]; simp
  · rw [h8 _ (by omega), hb0]; simp
  · rw [h9 _ hr, hb0]; simp
  · rw [h10 _ hr, hb0]; simp
  · rw [h11 _ hr, hb0]; simp
/-- a rank below a limit -/
def rkb (x lim : Int32) : Prop := ¬ x = -1 ∧ ¬ lim ≤ x
theorem lk_spec {r : Nat} (hr : r < 8) (lim : Int32) {a : Nat} (ha : a < 12) {w : jU} {P : Nat → Prop} (hs : sP w P) : ∀ n, n ≤ 12 → sP (itN (pLk r lim a) n w) (fun g => P g ∨ ∃ b, b < n ∧ g = 144 * r + 12 * a + b ∧ rkb (w 4 g) lim) := by
  intro n
  induction n with
  | zero => intro _; exact sP_iff (fun f _ => ⟨Or.inl, fun z => z.elim id (fun ⟨b, hb', _⟩ => absurd hb' (by omega))⟩) hs
  | succ n ih =>
    intro hn
    have h1 := ih (by omega)
    have k1 : kp [7, 8, 9, 10, 11] w (itN (pLk r lim a) n w) := itN_inv (P := fun v => kp [7, 8, 9, 10, 11] w v) (kp.rf _ w) n (fun b v _ hv => by
      unfold pLk
      split
      · exact hv
      · split
        · exact hv
        · exact hv.tr (pShow_kp _ _ _ _))
    rw [itN_s]
    generalize itN (pLk r lim a) n w = y at h1 k1 ⊢
    unfold pLk
    rw [k1 4 (by decide), show (r * 12 + a) * 12 + n = 144 * r + 12 * a + n by omega]
    have hstep : ∀ f, (P f ∨ ∃ b, b < n + 1 ∧ f = 144 * r + 12 * a + b ∧ rkb (w 4 f) lim) ↔ ((P f ∨ ∃ b, b < n ∧ f = 144 * r + 12 * a + b ∧ rkb (w 4 f) lim) ∨ (f = 144 * r + 12 * a + n ∧ rkb (w 4 f) lim)) := by
      intro f
      constructor
      · rintro (z | ⟨b, hb', e, z⟩)
        · exact Or.inl (Or.inl z)
        · by_cases e2 : b = n
          · subst e2; exact Or.inr ⟨e, z⟩
          · exact Or.inl (Or.inr ⟨b, by omega, e, z⟩)
      · rintro ((z | ⟨b, hb', e, z⟩) | ⟨e, z⟩)
        · exact Or.inl z
        · exact Or.inr ⟨b, by omega, e, z⟩
        · exact Or.inr ⟨n, by omega, e, z⟩
    by_cases c1 : w 4 (144 * r + 12 * a + n) = -1
    · rw [if_pos c1]
      refine sP_iff (fun f _ => ?_) h1
      rw [hstep f]
      exact ⟨Or.inl, fun z => z.elim id (fun ⟨e, q⟩ => by subst e; exact absurd c1 q.1)⟩
    · rw [if_neg c1]
      by_cases c2 : lim ≤ w 4 (144 * r + 12 * a + n)
      · rw [if_pos c2]
        refine sP_iff (fun f _ => ?_) h1
        rw [hstep f]
        exact ⟨Or.inl, fun z => z.elim id (fun ⟨e, q⟩ => by subst e; exact absurd c2 q.2)⟩
      · rw [if_neg c2]
        refine sP_iff (fun f _ => ?_) (sP_show h1 hr ha (show n < 12 by omega))
        rw [hstep f]
        exact ⟨fun z => z.elim Or.inl (fun e => Or.inr ⟨e, by subst e; exact ⟨c1, c2⟩⟩), fun z => z.elim Or.inl (fun e => Or.inr e.1)⟩
theorem lookat_spec {r : Nat} (hr : r < 8) (lim : Int32) {w : jU} {P : Nat → Prop} (hs : sP w P) : sP (pLookAt r lim w) (fun g => P g ∨ (g / 144 = r ∧ rkb (w 4 g) lim)) := by
  have key : ∀ n, n ≤ 12 → kp [7, 8, 9, 10, 11] w (itN (pLk1 r lim) n w) ∧ sP (itN (pLk1 r lim) n w) (fun g => P g ∨ ∃ a, a < n ∧ ∃ b, b < 12 ∧ g = 144 * r + 12 * a + b ∧ rkb (w 4 g) lim) := by
    intro n
    induction n with
    | zero => intro _; exact ⟨kp.rf _ w, sP_iff (fun f _ => ⟨Or.inl, fun z => z.elim id (fun ⟨b, hb', _⟩ => absurd hb' (by omega))⟩) hs⟩
    | succ n ih =>
      intro hn
      obtain ⟨k1, h1⟩ := ih (by omega)
      rw [itN_s]
      generalize itN (pLk1 r lim) n w = y at h1 k1 ⊢
      have h2 := lk_spec hr lim (show n < 12 by omega) h1 12 (Nat.le_refl _)
      rw [k1 4 (by decide)] at h2
      have k2 : kp [7, 8, 9, 10, 11] y (pLk1 r lim n y) := itN_inv (P := fun v => kp [7, 8, 9, 10, 11] y v) (kp.rf _ y) 12 (fun b v _ hv => by
        unfold pLk
        split
        · exact hv
        · split
          · exact hv
          · exact hv.tr (pShow_kp _ _ _ _))
      refine ⟨k1.tr k2, sP_iff (fun f _ => ?_) h2⟩
      constructor
      · rintro ((z | ⟨a, ha, z⟩) | ⟨b, hb', z⟩)
        · exact Or.inl z
        · exact Or.inr ⟨a, by omega, z⟩
        · exact Or.inr ⟨n, by omega, b, hb', z⟩
      · rintro (z | ⟨a, ha, z⟩)
        · exact Or.inl (Or.inl z)
        · by_cases e : a = n
          · subst e; exact Or.inr z
          · exact Or.inl (Or.inr ⟨a, by omega, z⟩)
  refine sP_iff (fun f hf => ?_) (key 12 (Nat.le_refl _)).2
  constructor
  · rintro (z | ⟨a, ha, b, hb', e, z⟩)
    · exact Or.inl z
    · exact Or.inr ⟨by omega, z⟩
  · rintro (z | ⟨e, z⟩)
    · exact Or.inl z
    · exact Or.inr ⟨f % 144 / 12, by omega, f % 12, by omega, by omega, z⟩
/-- what looking at layer ly shows, its own facts up to a rank -/
def lkP (u : jU) (ly lim : Int32) (g : Nat) : Prop := g / 144 < tn (u 0 0) ∧ ((u 3 (g / 144) = ly ∧ rkb (u 4 g) lim) ∨ (u 3 (g / 144) < ly ∧ rkb (u 4 g) 2147483647))
theorem le_eq {a b : Int32} (h1 : ¬ a < b) (h2 : a ≤ b) : b = a := by
  rw [Int32.lt_iff_toInt_lt] at h1
  rw [Int32.le_iff_toInt_le] at h2
  exact Int32.toInt_inj.mp (by omega)
theorem look_spec {u : jU} (h0 : inN (u 0 0) 9) (ly lim : Int32) : sP (pLook ly lim u) (lkP u ly lim) := by
  have hc := h0.2
  have kb := pBlind_kp u
  have key : ∀ n, n ≤ 8 → kp [7, 8, 9, 10, 11] u (itN (pLook1 ly lim) n (pBlind u)) ∧ sP (itN (pLook1 ly lim) n (pBlind u)) (fun g => g / 144 < n ∧ ((u 3 (g / 144) = ly ∧ rkb (u 4 g) lim) ∨ (u 3 (g / 144) < ly ∧ rkb (u 4 g) 2147483647))) := by
    intro n
    induction n with
    | zero => intro _; exact ⟨kb, sP_iff (fun f _ => ⟨False.elim, fun z => absurd z.1 (by omega)⟩) (sP_blind u)⟩
    | succ n ih =>
      intro hn
      obtain ⟨k1, h1⟩ := ih (by omega)
      rw [itN_s]
      generalize itN (pLook1 ly lim) n (pBlind u) = y at h1 k1 ⊢
      refine ⟨k1.tr (pLook1_kp ly lim n y), ?_⟩
      unfold pLook1
      rw [k1 3 (by decide)]
      have hstep : ∀ (g : Nat) (Q : Prop), (g / 144 < n + 1 ∧ Q) ↔ ((g / 144 < n ∧ Q) ∨ (g / 144 = n ∧ Q)) := by
        intro g Q
        constructor
        · rintro ⟨z, q⟩
          by_cases e : g / 144 = n
          · exact Or.inr ⟨e, q⟩
          · exact Or.inl ⟨by omega, q⟩
        · rintro (⟨z, q⟩ | ⟨z, q⟩)
          · exact ⟨by omega, q⟩
          · exact ⟨by omega, q⟩
      by_cases c1 : ly < u 3 n
      · rw [if_pos c1]
        refine sP_iff (fun f _ => ?_) h1
        rw [hstep]
        refine ⟨Or.inl, fun z => z.elim id (fun ⟨e, q⟩ => ?_)⟩
        rw [e] at q
        rcases q with q | q
        · rw [q.1] at c1; exact absurd c1 (Int32.lt_irrefl)
        · exact absurd q.1 (Int32.lt_asymm c1)
      · rw [if_neg c1]
        by_cases c2 : ly ≤ u 3 n
        · have e3 : u 3 n = ly := le_eq c1 c2
          rw [if_pos c2]
          have h2 := lookat_spec (show n < 8 by omega) lim h1
          rw [k1 4 (by decide)] at h2
          refine sP_iff (fun f _ => ?_) h2
          rw [hstep]
          constructor
          · rintro (z | ⟨e, z⟩)
            · exact Or.inl z
            · exact Or.inr ⟨e, Or.inl ⟨by rw [e]; exact e3, z⟩⟩
          · rintro (z | ⟨e, z⟩)
            · exact Or.inl z
            · rcases z with z | z
              · exact Or.inr ⟨e, z.2⟩
              · rw [e, e3] at z; exact absurd z.1 (Int32.lt_irrefl)
        · rw [if_neg c2]
          have c3 : u 3 n < ly := Int32.not_le.mp c2
          have h2 := lookat_spec (show n < 8 by omega) 2147483647 h1
          rw [k1 4 (by decide)] at h2
          refine sP_iff (fun f _ => ?_) h2
          rw [hstep]
          constructor
          · rintro (z | ⟨e, z⟩)
            · exact Or.inl z
            · exact Or.inr ⟨e, Or.inr ⟨by rw [e]; exact c3, z⟩⟩
          · rintro (z | ⟨e, z⟩)
            · exact Or.inl z
            · rcases z with z | z
              · rw [e] at z; rw [z.1] at c3; exact absurd c3 (Int32.lt_irrefl)
              · exact Or.inr ⟨e, z.2⟩
  exact (key (tn (u 0 0)) (by omega)).2
