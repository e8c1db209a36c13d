-- the mathematics, eleventh part: the search of the class
/-- x goes on from the values that the terms of rule i have -/
def extm (u : jU) (i : Nat) (x : Nat → Nat) : Prop := ∀ v, v < 4 → mkx u i v = true → u 6 (20 + v) = -1 ∨ u 6 (20 + v) = nI (x v)
def srch (u : jU) (h : Nat → Bool) (i : Nat) : Prop := wfR u ∧ sgt u h ∧ sgs u h ∧ cst u ∧ wfV u ∧ (∀ v, v < 4 → hb (u 13 i) (nI (20 + v)) = mkx u i v)
theorem sgt_c {u v : jU} {h : Nat → Bool} (h7 : v 7 = u 7) (h8 : v 8 = u 8) (hs : sgt u h) : sgt v h := by unfold sgt; rw [h7, h8]; exact hs
theorem sgs_c {u v : jU} {h : Nat → Bool} (h9 : v 9 = u 9) (h10 : v 10 = u 10) (h11 : v 11 = u 11) (hs : sgs u h) : sgs v h := by unfold sgs; rw [h9, h10, h11]; exact hs
theorem only6.pg {u v : jU} (h : only6 u v) : pgq u v := ⟨h 12 (by decide), h 16 (by decide), h 17 (by decide), h 18 (by decide), h 19 (by decide)⟩
theorem srch.of {u v : jU} {h : Nat → Bool} {i : Nat} (hs : srch u h i) (ho : only6 u v) (hc : cst v) (hv : wfV v) : srch v h i :=
  ⟨wfR_pg ho.pg hs.1, sgt_c (ho 7 (by decide)) (ho 8 (by decide)) hs.2.1, sgs_c (ho 9 (by decide)) (ho 10 (by decide)) (ho 11 (by decide)) hs.2.2.1, hc, hv, fun q hq => by rw [ho 13 (by decide), mkx_pg ho.pg]; exact hs.2.2.2.2.2 q hq⟩
theorem cst_up {u : jU} (hc : cst u) {o : Nat} (ho : 20 ≤ o) (z : Int32) : cst (up u 6 o z) := fun c hl => by rw [up_idx _ _ (by omega)]; exact hc c hl
theorem srch.up {u : jU} {h : Nat → Bool} {i : Nat} (hs : srch u h i) {o : Nat} (ho : 20 ≤ o) {z : Int32} (hz : z = -1 ∨ inN z 12) : srch (up u 6 o z) h i :=
  hs.of (only6_up u o z) (cst_up hs.2.2.2.1 ho z) (wfV_up hs.2.2.2.2.1 o hz)
theorem tv_ext {u : jU} {h : Nat → Bool} {i : Nat} (hs : srch u h i) {x : Nat → Nat} (he : extm u i x) {t : Int32} (ht : tm t) (hm : ∀ v, v < 4 → tn t = 20 + v → mkx u i v = true) : u 6 (tn t) = -1 ∨ u 6 (tn t) = nI (tvx x t) := by
  unfold tvx
  have h1 := tm_lt ht
  by_cases c : tn t < 20
  · rw [if_pos c]
    rcases ht with h2 | h2
    · exact Or.inr (hs.2.2.2.1 _ h2.2)
    · exact absurd h2.2 (by omega)
  · rw [if_neg c]
    have h2 := he (tn t - 20) (by omega) (hm _ (by omega) (by omega))
    rw [show 20 + (tn t - 20) = tn t by omega] at h2
    exact h2
theorem mk_17 {u : jU} {i q v : Nat} (hq : q ≤ tn (u 12 i)) (h : tn (u 17 (5 * i + q)) = 20 + v) : mkx u i v = true := mkx_of hq (by unfold ocx; rw [decide_eq_true h]; rfl)
theorem mk_18 {u : jU} {i q v : Nat} (hq : q ≤ tn (u 12 i)) (h : tn (u 18 (5 * i + q)) = 20 + v) : mkx u i v = true := mkx_of hq (by unfold ocx; rw [decide_eq_true h, Bool.or_true])
theorem mk_17' {u : jU} {i q v : Nat} (hq : q < tn (u 12 i)) (h : tn (u 17 (5 * i + 1 + q)) = 20 + v) : mkx u i v = true := mk_17 (q := 1 + q) (by omega) (by rw [← h, Nat.add_assoc])
theorem mk_18' {u : jU} {i q v : Nat} (hq : q < tn (u 12 i)) (h : tn (u 18 (5 * i + 1 + q)) = 20 + v) : mkx u i v = true := mk_18 (q := 1 + q) (by omega) (by rw [← h, Nat.add_assoc])
theorem kn_all {u : jU} {i : Nat} : pKnown u i = true ↔ ∀ q, q < tn (u 12 i) → pAgree u (5 * i + 1 + q) = true := by
  unfold pKnown
  rw [List.all_eq_true]
  exact ⟨fun h q hq => h q (List.mem_range.mpr hq), fun h q hq => h q (List.mem_range.mp hq)⟩
theorem agree_open {u : jU} {j : Nat} (h : u 6 (tn (u 17 j)) = -1 ∨ u 6 (tn (u 18 j)) = -1) : pAgree u j = true := by
  unfold pAgree
  rcases h with h | h <;> rw [h] <;> simp
/-- a value that isn't barred leaves what is known in order -/
theorem kn_up {u : jU} {h : Nat → Bool} {i : Nat} (hi : i < 16) (hs : srch u h i) (hk : pKnown u i = true) {o : Nat} (ho : 20 ≤ o) (ho4 : o < 24) (hop : u 6 o = -1) {c : Nat} (hc : c < 12) (hch : hb (pCh u i (nI o) (tn (u 12 i))) (nI c) = true) : pKnown (up u 6 o (nI c)) i = true := by
  have hsz := (hs.1.1 i hi).2
  rw [kn_all] at hk ⊢
  intro q hq
  have e12 : up u 6 o (nI c) 12 = u 12 := up_rows _ _ _ (by decide)
  rw [e12] at hq
  have hB := hs.1.2 (5 * i + 1 + q) (by omega)
  have hs2 := hs.up ho (z := nI c) (Or.inr (inN_nI hc (by decide)))
  have hto : tm (nI o) := Or.inr ⟨inN_nI ho4 (by decide), by rw [show tn (nI o) = o from nI_clamp (by omega)]; exact ho⟩
  have hno : tn (nI o) = o := nI_clamp (by omega)
  have e16 : up u 6 o (nI c) 16 = u 16 := up_rows _ _ _ (by decide)
  have e17 : up u 6 o (nI c) 17 = u 17 := up_rows _ _ _ (by decide)
  have e18 : up u 6 o (nI c) 18 = u 18 := up_rows _ _ _ (by decide)
  have e19 : up u 6 o (nI c) 19 = u 19 := up_rows _ _ _ (by decide)
  have va := val_c hs2.2.2.2.1 hs2.2.2.2.2.1 hB.2.1
  have vb := val_c hs2.2.2.2.1 hs2.2.2.2.2.1 hB.2.2.1
  rcases va with va | ⟨a, ha, va⟩
  · exact agree_open (Or.inl (by rw [e17]; exact va))
  · rcases vb with vb | ⟨b, hb', vb⟩
    · exact agree_open (Or.inr (by rw [e18]; exact vb))
    · have hag := agree_c (j := 5 * i + 1 + q) hs2.2.1 (hs2.1.2 _ (by omega)) ha hb' (by rw [e17]; exact va) (by rw [e18]; exact vb)
      rw [hag, e16, e19]
      by_cases hj : u 17 (5 * i + 1 + q) = nI o ∨ u 18 (5 * i + 1 + q) = nI o
      · have h1 := (ch_bit hc _).mp hch q hq hj
        rw [by_bit hB hc, seen_full hs.2.1 hs.2.2.1 hB hto (by rw [hno]; exact hop) hj hc ha hb' (by rw [hno]; exact va) (by rw [hno]; exact vb)] at h1
        exact h1
      · have n17 : tn (u 17 (5 * i + 1 + q)) ≠ o := fun z => hj (Or.inl (tn_inj hB.2.1 hto (by rw [hno]; exact z)))
        have n18 : tn (u 18 (5 * i + 1 + q)) ≠ o := fun z => hj (Or.inr (tn_inj hB.2.2.1 hto (by rw [hno]; exact z)))
        rw [up_idx _ _ n17] at va
        rw [up_idx _ _ n18] at vb
        have h1 := hk q hq
        rw [agree_c hs.2.1 hB ha hb' va vb] at h1
        exact h1
/-- a value that some way takes isn't barred -/
theorem ch_in {u : jU} {h : Nat → Bool} {i : Nat} (hi : i < 16) (hs : srch u h i) {o : Nat} (ho : 20 ≤ o) (ho4 : o < 24) (hop : u 6 o = -1) {x : Nat → Nat} (hx : ∀ v, x v < 12) (he : extm u i x) (hm : mtx u h x i) : hb (pCh u i (nI o) (tn (u 12 i))) (nI (x (o - 20))) = true := by
  have hsz := (hs.1.1 i hi).2
  have hno : tn (nI o) = o := nI_clamp (by omega)
  have hto : tm (nI o) := Or.inr ⟨inN_nI ho4 (by decide), by rw [hno]; exact ho⟩
  rw [ch_bit (hx _)]
  intro q hq hj
  have hB := hs.1.2 (5 * i + 1 + q) (by omega)
  have he2 : extm (up u 6 o (nI (x (o - 20)))) i x := by
    intro v hv hmv
    rw [mkx_pg (only6_up u o _).pg] at hmv
    by_cases e : 20 + v = o
    · rw [← e, up_same, show 20 + v - 20 = v by omega]; exact Or.inr rfl
    · rw [up_idx _ _ e]; exact he v hv hmv
  have hs2 := hs.up ho (z := nI (x (o - 20))) (Or.inr (inN_nI (hx _) (by decide)))
  have pg := (only6_up u o (nI (x (o - 20)))).pg
  refine by_in hs.2.1 hs.2.2.1 hs.2.2.2.1 hs.2.2.2.2.1 hB hto (by rw [hno]; exact hop) hj (hx _) (tvx_lt hx hB.2.1) (tvx_lt hx hB.2.2.1) ?_ ?_ (hm q hq)
  · rw [hno]; exact tv_ext hs2 he2 hB.2.1 (fun v hv e => by rw [mkx_pg pg]; exact mk_17' hq e)
  · rw [hno]; exact tv_ext hs2 he2 hB.2.2.1 (fun v hv e => by rw [mkx_pg pg]; exact mk_18' hq e)
/-- all variables have values: they are one number's, and it meets the rule -/
theorem all_bound {u : jU} {h : Nat → Bool} {i : Nat} (hi : i < 16) (hs : srch u h i) (hk : pKnown u i = true) (hb' : ∀ v, v < 4 → mkx u i v = true → ¬ u 6 (20 + v) = -1) : ∃ m, lf0 (mkx u i) m = 0 ∧ extm u i (dg (mkx u i) m) ∧ mtx u h (dg (mkx u i) m) i ∧ (∀ v, v < 4 → mkx u i v = true → u 6 (20 + v) = nI (dg (mkx u i) m v)) := by
  have hsz := (hs.1.1 i hi).2
  have hv := hs.2.2.2.2.1
  have hx : ∀ v, (if mkx u i v then tn (u 6 (20 + v)) else 0) < 12 := by
    intro v
    by_cases c : mkx u i v = true
    · rw [if_pos c]
      have h4 : v < 4 := by
        rcases Nat.lt_or_ge v 4 with h4 | h4
        · exact h4
        · rw [mkx_4 hs.1 hi h4] at c; cases c
      exact ((hv (20 + v) (by omega)).resolve_left (hb' v h4 c)).2
    · rw [if_neg c]; decide
  obtain ⟨m, hm, he⟩ := dg_surj (mkx u i) hx
  have hval : ∀ v, v < 4 → mkx u i v = true → u 6 (20 + v) = nI (dg (mkx u i) m v) := by
    intro v h4 c
    rw [he v h4 c, if_pos c]
    exact ((hv (20 + v) (by omega)).resolve_left (hb' v h4 c)).1
  have hext : extm u i (dg (mkx u i) m) := fun v h4 c => Or.inr (hval v h4 c)
  refine ⟨m, hm, hext, fun q hq => ?_, hval⟩
  have hB := hs.1.2 (5 * i + 1 + q) (by omega)
  have key : ∀ {t : Int32}, tm t → (∀ v, v < 4 → tn t = 20 + v → mkx u i v = true) → u 6 (tn t) = nI (tvx (dg (mkx u i) m) t) := by
    intro t ht hmk
    rcases tv_ext hs hext ht hmk with h1 | h1
    · have h2 := open_var hs.2.2.2.1 ht h1
      have h3 := tm_lt ht
      have h4 := hb' (tn t - 20) (by omega) (hmk _ (by omega) (by omega))
      rw [show 20 + (tn t - 20) = tn t by omega] at h4
      exact absurd h1 h4
    · exact h1
  have h1 := kn_all.mp hk q hq
  rw [agree_c hs.2.1 hB (tvx_lt (dg_lt _ _) hB.2.1) (tvx_lt (dg_lt _ _) hB.2.2.1) (key hB.2.1 (fun v _ e => mk_17' hq e)) (key hB.2.2.1 (fun v _ e => mk_18' hq e)), decide_eq_true_iff] at h1
  exact h1
theorem try_spec {f : jU → Bool × jU} {o : Nat} {ch : Int32} {u : jU} (hf : ∀ c, c < 12 → hb ch (nI c) = true → (f (up u 6 o (nI c))).1 = false → (f (up u 6 o (nI c))).2 = up u 6 o (nI c)) : ∀ (n q : Nat) (y : jU), q + n = 12 → (∃ z, y = up u 6 o z) →
    ((pTry f o ch n q y).1 = true → ∃ c, q ≤ c ∧ c < 12 ∧ hb ch (nI c) = true ∧ (f (up u 6 o (nI c))).1 = true ∧ (pTry f o ch n q y).2 = (f (up u 6 o (nI c))).2 ∧ ∀ c', q ≤ c' → c' < c → hb ch (nI c') = true → (f (up u 6 o (nI c'))).1 = false) ∧
    ((pTry f o ch n q y).1 = false → (pTry f o ch n q y).2 = up u 6 o (-1) ∧ ∀ c, q ≤ c → c < 12 → hb ch (nI c) = true → (f (up u 6 o (nI c))).1 = false) := by
  intro n
  induction n with
  | zero =>
    rintro q y hq ⟨z, rfl⟩
    exact ⟨fun h => (by cases h), fun _ => ⟨up_up _ _ _ _ _, fun c h1 h2 => absurd h1 (by omega)⟩⟩
  | succ n ih =>
    rintro q y hq ⟨z, rfl⟩
    have ext : ∀ c', q ≤ c' → ¬ (q + 1 ≤ c') → c' = q := fun c' h1 h2 => by omega
    unfold pTry
    rw [up_up]
    cases c1 : hb ch (nI q) with
    | false =>
      rw [if_pos (by decide)]
      obtain ⟨a, b⟩ := ih (q + 1) (up u 6 o z) (by omega) ⟨z, rfl⟩
      refine ⟨fun h => ?_, fun h => ?_⟩
      · obtain ⟨c, h1, h2, h3, h4, h5, h6⟩ := a h
        refine ⟨c, by omega, h2, h3, h4, h5, fun c' g1 g2 g3 => ?_⟩
        by_cases e : q + 1 ≤ c'
        · exact h6 c' e g2 g3
        · rw [ext c' g1 e, c1] at g3; cases g3
      · obtain ⟨h1, h2⟩ := b h
        refine ⟨h1, fun c' g1 g2 g3 => ?_⟩
        by_cases e : q + 1 ≤ c'
        · exact h2 c' e g2 g3
        · rw [ext c' g1 e, c1] at g3; cases g3
    | true =>
      rw [if_neg (by decide)]
      cases c2 : (f (up u 6 o (nI q))).1 with
      | false =>
        rw [if_pos (by decide)]
        obtain ⟨a, b⟩ := ih (q + 1) (f (up u 6 o (nI q))).2 (by omega) ⟨nI q, hf q (by omega) c1 c2⟩
        refine ⟨fun h => ?_, fun h => ?_⟩
        · obtain ⟨c, h1, h2, h3, h4, h5, h6⟩ := a h
          refine ⟨c, by omega, h2, h3, h4, h5, fun c' g1 g2 g3 => ?_⟩
          by_cases e : q + 1 ≤ c'
          · exact h6 c' e g2 g3
          · rw [ext c' g1 e]; exact c2
        · obtain ⟨h1, h2⟩ := b h
          refine ⟨h1, fun c' g1 g2 g3 => ?_⟩
          by_cases e : q + 1 ≤ c'
          · exact h2 c' e g2 g3
          · rw [ext c' g1 e]; exact c2
      | true =>
        rw [if_neg (by decide)]
        exact ⟨fun _ => ⟨q, Nat.le_refl _, by omega, c1, c2, rfl, fun c' g1 g2 => absurd g1 (by omega)⟩, fun h => (by cases h)⟩
