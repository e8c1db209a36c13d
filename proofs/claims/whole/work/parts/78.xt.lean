-- the mathematics, seventeenth part: the rounds of the class
theorem bt_set (x : Int32) {k v : Nat} (hk : k < 32) (hv : v < 32) : bt (x ||| 1 <<< (nI k &&& 31)) v = true ↔ bt x v = true ∨ v = k := by
  rw [b_or, ← hb_bt (1 <<< (nI k &&& 31)) hv, hb_one hk hv, Bool.or_eq_true, decide_eq_true_iff]
  exact ⟨fun z => z.elim Or.inl (fun e => Or.inr e.symm), fun z => z.elim Or.inl (fun e => Or.inr e.symm)⟩
theorem sh_spec {row : Nat} (hr : row < 96) {w : Int32 × jU} {P : Nat → Prop} (hs : sP w.2 P) : ∀ n, n ≤ 12 → kp [7, 8, 9, 10, 11] w.2 (itS (pSh row) n w).2 ∧ sP (itS (pSh row) n w).2 (fun f => P f ∨ ∃ q, q < n ∧ f = row * 12 + q ∧ frs w.2 f = true) ∧ (∀ v, v < 32 → (bt (itS (pSh row) n w).1 v = true ↔ bt w.1 v = true ∨ ∃ q, q < n ∧ v = row / 12 ∧ frs w.2 (row * 12 + q) = true)) := by
  intro n
  induction n with
  | zero => intro _; exact ⟨kp.rf _ _, sP_iff (fun f _ => ⟨Or.inl, fun z => z.elim id (fun ⟨q, hq, _⟩ => absurd hq (by omega))⟩) hs, fun v _ => ⟨Or.inl, fun z => z.elim id (fun ⟨q, hq, _⟩ => absurd hq (by omega))⟩⟩
  | succ n ih =>
    intro hn
    obtain ⟨k1, h1, h2⟩ := ih (by omega)
    rw [itS_s]
    generalize itS (pSh row) n w = y at k1 h1 h2 ⊢
    have hfr : hb (y.2 5 row) (nI n) = frs w.2 (row * 12 + n) := by
      unfold frs
      rw [k1 5 (by decide), show (row * 12 + n) / 12 = row by omega, show (row * 12 + n) % 12 = n by omega]
    unfold pSh
    rw [hfr]
    cases c : frs w.2 (row * 12 + n) with
    | false =>
      rw [if_pos (by decide)]
      refine ⟨k1, sP_iff (fun f _ => ?_) h1, fun v hv => ?_⟩
      · constructor
        · rintro (z | ⟨q, hq, z⟩)
          · exact Or.inl z
          · exact Or.inr ⟨q, by omega, z⟩
        · rintro (z | ⟨q, hq, e, z⟩)
          · exact Or.inl z
          · by_cases e2 : q = n
            · subst e2; rw [e, c] at z; cases z
            · exact Or.inr ⟨q, by omega, e, z⟩
      · rw [h2 v hv]
        constructor
        · rintro (z | ⟨q, hq, z⟩)
          · exact Or.inl z
          · exact Or.inr ⟨q, by omega, z⟩
        · rintro (z | ⟨q, hq, e, z⟩)
          · exact Or.inl z
          · by_cases e2 : q = n
            · subst e2; rw [c] at z; cases z
            · exact Or.inr ⟨q, by omega, e, z⟩
    | true =>
      rw [if_neg (by decide)]
      have h3 := sP_show h1 (show row / 12 < 8 by omega) (show row % 12 < 12 by omega) (show n < 12 by omega)
      refine ⟨k1.tr (pShow_kp _ _ _ _), sP_iff (fun f _ => ?_) h3, fun v hv => ?_⟩
      · constructor
        · rintro ((z | ⟨q, hq, z⟩) | z)
          · exact Or.inl z
          · exact Or.inr ⟨q, by omega, z⟩
          · have e : f = row * 12 + n := by omega
            exact Or.inr ⟨n, by omega, e, by rw [e]; exact c⟩
        · rintro (z | ⟨q, hq, e, z⟩)
          · exact Or.inl (Or.inl z)
          · by_cases e2 : q = n
            · subst e2; exact Or.inr (by omega)
            · exact Or.inl (Or.inr ⟨q, by omega, e, z⟩)
      · rw [bt_set _ (by omega) hv, h2 v hv]
        constructor
        · rintro ((z | ⟨q, hq, z⟩) | z)
          · exact Or.inl z
          · exact Or.inr ⟨q, by omega, z⟩
          · exact Or.inr ⟨n, by omega, z, c⟩
        · rintro (z | ⟨q, hq, e, z⟩)
          · exact Or.inl (Or.inl z)
          · exact Or.inr e
theorem fresh_spec {y : jU} {P : Nat → Prop} (hs : sP y P) : kp [5, 7, 8, 9, 10, 11] y (pShowFresh y).2 ∧ sP (pShowFresh y).2 (fun f => P f ∨ frs y f = true) ∧ (∀ f, f < 1152 → frs (pShowFresh y).2 f = false) ∧ (∀ v, v < 32 → (bt (pShowFresh y).1 v = true ↔ ∃ f, f < 1152 ∧ f / 144 = v ∧ frs y f = true)) := by
  have key : ∀ n, n ≤ 96 → sP (itS pSh1 n (0, y)).2 (fun f => P f ∨ (f / 12 < n ∧ frs y f = true)) ∧ (∀ k, k < n → (itS pSh1 n (0, y)).2 5 k = 0) ∧ (∀ k, n ≤ k → (itS pSh1 n (0, y)).2 5 k = y 5 k) ∧ (∀ v, v < 32 → (bt (itS pSh1 n (0, y)).1 v = true ↔ ∃ f, f < 1152 ∧ f / 12 < n ∧ f / 144 = v ∧ frs y f = true)) := by
    intro n
    induction n with
    | zero => intro _; exact ⟨sP_iff (fun f _ => ⟨Or.inl, fun z => z.elim id (fun q => absurd q.1 (by omega))⟩) hs, fun k hk => absurd hk (by omega), fun k _ => rfl, fun v _ => ⟨fun z => (by rw [show (itS pSh1 0 (0, y)).1 = 0 from rfl, b_0] at z; cases z), fun ⟨f, _, q, _⟩ => absurd q (by omega)⟩⟩
    | succ n ih =>
      intro hn
      obtain ⟨h1, h2, h3, h4⟩ := ih (by omega)
      rw [itS_s]
      generalize itS pSh1 n (0, y) = z at h1 h2 h3 h4 ⊢
      obtain ⟨k5, g1, g2⟩ := sh_spec (show n < 96 by omega) h1 12 (Nat.le_refl _)
      unfold pSh1
      generalize itS (pSh n) 12 z = t at k5 g1 g2 ⊢
      dsimp only
      have hfr : ∀ q, q < 12 → frs z.2 (n * 12 + q) = frs y (n * 12 + q) := fun q hq => by
        unfold frs
        rw [show (n * 12 + q) / 12 = n by omega, h3 n (Nat.le_refl _)]
      refine ⟨sP_iff (fun f hf => ?_) (sP_c (v := up t.2 5 n 0) (fun c hc => up_rows _ _ _ (by revert c; decide)) g1), fun k hk => ?_, fun k hk => ?_, fun v hv => ?_⟩
      · constructor
        · rintro ((a | a) | ⟨q, hq, e, a⟩)
          · exact Or.inl a
          · exact Or.inr ⟨by omega, a.2⟩
          · exact Or.inr ⟨by omega, by rw [e, ← hfr q hq, ← e]; exact a⟩
        · rintro (a | ⟨a1, a2⟩)
          · exact Or.inl (Or.inl a)
          · by_cases e : f / 12 = n
            · have e2 : f = n * 12 + f % 12 := by omega
              exact Or.inr ⟨f % 12, by omega, e2, by rw [e2, hfr _ (by omega), ← e2]; exact a2⟩
            · exact Or.inl (Or.inr ⟨by omega, a2⟩)
      · by_cases e : k = n
        · subst e; rw [up_same]
        · rw [up_idx _ _ e, k5 5 (by decide)]; exact h2 k (by omega)
      · rw [up_idx _ _ (by omega), k5 5 (by decide)]; exact h3 k (by omega)
      · rw [g2 v hv, h4 v hv]
        constructor
        · rintro (⟨f, a1, a2, a3⟩ | ⟨q, hq, e, a⟩)
          · exact ⟨f, a1, by omega, a3⟩
          · exact ⟨n * 12 + q, by omega, by omega, by omega, by rw [← hfr q hq]; exact a⟩
        · rintro ⟨f, a1, a2, a3, a4⟩
          by_cases e : f / 12 = n
          · have e2 : f = n * 12 + f % 12 := by omega
            exact Or.inr ⟨f % 12, by omega, by omega, by rw [hfr _ (by omega), ← e2]; exact a4⟩
          · exact Or.inl ⟨f, a1, by omega, a3, a4⟩
  obtain ⟨h1, h2, -, h4⟩ := key 96 (Nat.le_refl _)
  have e0 : pShowFresh y = itS pSh1 96 (0, y) := rfl
  refine ⟨pShowFresh_kp y, ?_, ?_, ?_⟩
  · rw [e0]; exact sP_iff (fun f hf => ⟨fun z => z.elim Or.inl (fun q => Or.inr q.2), fun z => z.elim Or.inl (fun q => Or.inr ⟨by omega, q⟩)⟩) h1
  · intro f hf
    unfold frs
    rw [e0, h2 _ (by omega), hb0]
  · intro v hv
    rw [e0, h4 v hv]
    exact ⟨fun ⟨f, a1, _, a3⟩ => ⟨f, a1, a3⟩, fun ⟨f, a1, a3⟩ => ⟨f, a1, by omega, a3⟩⟩
/-- the round of the class: which facts it marks -/
theorem round_c {u : jU} {h : Nat → Bool} (hK : tn (u 0 1) ≤ 16) (hg : ∀ i, i < tn (u 0 1) → grd u h i) (hc : cst u) (hv : wfV u) (hz : ∀ f, f < 1152 → frs u f = false) (ly rd ch : Int32) :
    rst u (pRound ly rd ch u) ∧ mkd u (pRound ly rd ch u) (fun f => h f = false ∧ ∃ i, i < tn (u 0 1) ∧ u 3 (tn (u 16 (5 * i))) = ly ∧ ¬ (¬ rd = 1 ∧ u 15 i &&& ch = 0) ∧ dvx u h i f) rd := by
  have key : ∀ n, n ≤ tn (u 0 1) → rst u (itN (pBR ly rd ch) n u) ∧ mkd u (itN (pBR ly rd ch) n u) (fun f => h f = false ∧ ∃ i, i < n ∧ u 3 (tn (u 16 (5 * i))) = ly ∧ ¬ (¬ rd = 1 ∧ u 15 i &&& ch = 0) ∧ dvx u h i f) rd := by
    intro n
    induction n with
    | zero => intro _; exact ⟨⟨kp.rf _ u, hc, hv⟩, mkd_no rfl rfl (fun f _ ⟨_, i, hi, _⟩ => absurd hi (by omega))⟩
    | succ n ih =>
      intro hn
      obtain ⟨r1, h1⟩ := ih (by omega)
      rw [itN_s]
      generalize itN (pBR ly rd ch) n u = y at r1 h1 ⊢
      have hskip : (¬ (u 3 (tn (u 16 (5 * n))) = ly ∧ ¬ (¬ rd = 1 ∧ u 15 n &&& ch = 0))) → rst u y ∧ mkd u y (fun f => h f = false ∧ ∃ i, i < n + 1 ∧ u 3 (tn (u 16 (5 * i))) = ly ∧ ¬ (¬ rd = 1 ∧ u 15 i &&& ch = 0) ∧ dvx u h i f) rd := by
        intro hno
        refine ⟨r1, mkd_iff (fun f _ => ?_) h1⟩
        constructor
        · rintro ⟨a, i, hi, b⟩; exact ⟨a, i, by omega, b⟩
        · rintro ⟨a, i, hi, b1, b2, b3⟩
          by_cases e : i = n
          · subst e; exact absurd ⟨b1, b2⟩ hno
          · exact ⟨a, i, by omega, b1, b2, b3⟩
      have hbring : (u 3 (tn (u 16 (5 * n))) = ly ∧ ¬ (¬ rd = 1 ∧ u 15 n &&& ch = 0)) → rst u (pBring n rd y) ∧ mkd u (pBring n rd y) (fun f => h f = false ∧ ∃ i, i < n + 1 ∧ u 3 (tn (u 16 (5 * i))) = ly ∧ ¬ (¬ rd = 1 ∧ u 15 i &&& ch = 0) ∧ dvx u h i f) rd := by
        intro hyes
        obtain ⟨r2, h2⟩ := bring_spec (rd := rd) (show n < 16 by omega) (hg n (by omega)) r1
        refine ⟨r2, mkd_iff (fun f hf => ?_) (mkd_tr h1 h2)⟩
        constructor
        · rintro (⟨a, i, hi, b⟩ | ⟨a, -, b⟩)
          · exact ⟨a, i, by omega, b⟩
          · exact ⟨a, n, by omega, hyes.1, hyes.2, b⟩
        · rintro ⟨a, i, hi, b1, b2, b3⟩
          by_cases q : h f = false ∧ ∃ i, i < n ∧ u 3 (tn (u 16 (5 * i))) = ly ∧ ¬ (¬ rd = 1 ∧ u 15 i &&& ch = 0) ∧ dvx u h i f
          · exact Or.inl q
          · have e : i = n := by
              rcases Nat.lt_or_ge i n with z | z
              · exact absurd ⟨a, i, z, b1, b2, b3⟩ q
              · omega
            subst e
            exact Or.inr ⟨a, by rw [((h1 f hf).2 q).2]; exact hz f hf, b3⟩
      unfold pBR
      rw [r1.1 3 (by decide), r1.1 16 (by decide), r1.1 15 (by decide)]
      by_cases c1 : u 3 (tn (u 16 (5 * n))) = ly
      · rw [if_pos c1]
        by_cases c2 : rd = 1
        · rw [if_pos c2]; exact hbring ⟨c1, fun z => z.1 c2⟩
        · rw [if_neg c2]
          by_cases c3 : u 15 n &&& ch = 0
          · rw [if_pos c3]; exact hskip (fun z => z.2 ⟨c2, c3⟩)
          · rw [if_neg c3]; exact hbring ⟨c1, fun z => c3 z.2⟩
      · rw [if_neg c1]; exact hskip (fun z => c1 z.1)
  exact key _ (Nat.le_refl _)
