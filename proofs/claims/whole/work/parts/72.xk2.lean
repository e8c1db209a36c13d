-- the mathematics, twelfth part: what the search finds
theorem next_c {u : jU} {i n : Nat} (h : n ≤ 24) : (∀ m, n ≤ m → m < pNext u i n → ¬ (hb (u 13 i) (nI m) = true ∧ u 6 m = -1)) ∧ (pNext u i n < 24 → hb (u 13 i) (nI (pNext u i n)) = true ∧ u 6 (pNext u i n) = -1) := by
  obtain ⟨a, b⟩ := next_spec u i (24 - n) n
  exact ⟨a, fun h2 => b (by show pNext u i n < _; omega)⟩
theorem lt24 {o : Nat} (h : o ≤ 24) : nI o < 24 ↔ o < 24 := nI_ltI (b := 24) (by omega) (by decide)
/-- one value more for the first variable without one: the state of the search goes on -/
theorem srch_step {u : jU} {h : Nat → Bool} {i : Nat} (hi : i < 16) (hs : srch u h i) (hk : pKnown u i = true) {n : Nat} (hn : 20 ≤ n) (hn4 : n ≤ 24) (hbd : ∀ v, v < 4 → 20 + v < n → mkx u i v = true → ¬ u 6 (20 + v) = -1) {o : Nat} (ho : o = pNext u i n) (ho4 : o < 24) :
    20 ≤ o ∧ n ≤ o ∧ u 6 o = -1 ∧ mkx u i (o - 20) = true ∧ (∀ v, v < 4 → 20 + v < o → mkx u i v = true → ¬ u 6 (20 + v) = -1) ∧ pChoices u i (nI o) = pCh u i (nI o) (tn (u 12 i)) ∧
    ∀ c, c < 12 → hb (pCh u i (nI o) (tn (u 12 i))) (nI c) = true → srch (up u 6 o (nI c)) h i ∧ pKnown (up u 6 o (nI c)) i = true ∧ (∀ v, v < 4 → 20 + v < o + 1 → mkx (up u 6 o (nI c)) i v = true → ¬ up u 6 o (nI c) 6 (20 + v) = -1) := by
  have hle := pNext_le (u := u) (i := i) hn4
  obtain ⟨a, b⟩ := next_c (u := u) (i := i) hn4
  rw [← ho] at hle a b
  obtain ⟨b1, b2⟩ := b ho4
  have hmk : mkx u i (o - 20) = true := by
    have h1 := hs.2.2.2.2.2 (o - 20) (by omega)
    rw [show 20 + (o - 20) = o by omega, b1] at h1
    exact h1.symm
  have hbd2 : ∀ v, v < 4 → 20 + v < o → mkx u i v = true → ¬ u 6 (20 + v) = -1 := by
    intro v hv hlt hm hop
    rcases Nat.lt_or_ge (20 + v) n with h1 | h1
    · exact hbd v hv h1 hm hop
    · exact a (20 + v) h1 hlt ⟨by rw [hs.2.2.2.2.2 v hv]; exact hm, hop⟩
  refine ⟨by omega, hle.1, b2, hmk, hbd2, ?_, fun c hc hch => ⟨hs.up (by omega) (Or.inr (inN_nI hc (by decide))), kn_up hi hs hk (by omega) ho4 b2 hc hch, fun v hv hlt hm => ?_⟩⟩
  · unfold pChoices
    rw [show tn (nI o) = o from nI_clamp (by omega), if_pos b2]
  · rw [mkx_pg (only6_up u o _).pg] at hm
    by_cases e : 20 + v = o
    · rw [← e, up_same]; exact nI_m1 (by omega)
    · rw [up_idx _ _ e]; exact hbd2 v hv (by omega) hm
theorem extm_up {u : jU} {i o c : Nat} (ho : 20 ≤ o) (ho4 : o < 24) (hc : c < 12) (hop : u 6 o = -1) (hm : mkx u i (o - 20) = true) {x : Nat → Nat} (hx : ∀ v, x v < 12) : extm (up u 6 o (nI c)) i x ↔ extm u i x ∧ x (o - 20) = c := by
  have pg := (only6_up u o (nI c)).pg
  constructor
  · intro h
    refine ⟨fun v hv hmv => ?_, ?_⟩
    · have h1 := h v hv (by rw [mkx_pg pg]; exact hmv)
      by_cases e : 20 + v = o
      · left; rw [e]; exact hop
      · rw [up_idx _ _ e] at h1; exact h1
    · have h1 := h (o - 20) (by omega) (by rw [mkx_pg pg]; exact hm)
      rw [show 20 + (o - 20) = o by omega, up_same] at h1
      have h2 := hx (o - 20)
      exact (nI_inj (by omega) (by omega) (h1.resolve_left (nI_m1 (by omega)))).symm
  · rintro ⟨h, e2⟩ v hv hmv
    rw [mkx_pg pg] at hmv
    by_cases e : 20 + v = o
    · right; rw [← e, up_same, ← e2, ← e, show 20 + v - 20 = v by omega]
    · rw [up_idx _ _ e]; exact h v hv hmv
theorem find_c {h : Nat → Bool} {i : Nat} (hi : i < 16) : ∀ (d n : Nat) (u : jU), srch u h i → pKnown u i = true → 20 ≤ n → n ≤ 24 → (∀ v, v < 4 → 20 + v < n → mkx u i v = true → ¬ u 6 (20 + v) = -1) → 25 ≤ n + d →
    ((pFind i d n u).1 = true → ∃ m, lf0 (mkx u i) m = 0 ∧ mtx u h (dg (mkx u i) m) i ∧ extm u i (dg (mkx u i) m) ∧ (∀ v, v < 4 → (pFind i d n u).2 6 (20 + v) = if mkx u i v then nI (dg (mkx u i) m v) else u 6 (20 + v)) ∧ (∀ c, c < 20 → (pFind i d n u).2 6 c = u 6 c) ∧ ∀ m', lf0 (mkx u i) m' = 0 → mtx u h (dg (mkx u i) m') i → extm u i (dg (mkx u i) m') → m ≤ m') ∧
    ((pFind i d n u).1 = false → (pFind i d n u).2 = u ∧ ∀ m, lf0 (mkx u i) m = 0 → extm u i (dg (mkx u i) m) → ¬ mtx u h (dg (mkx u i) m) i) := by
  intro d
  induction d with
  | zero => intro n u _ _ _ h4 _ h5; exact absurd h5 (by omega)
  | succ d ih =>
    intro n u hs hk hn hn4 hbd hd
    have hle := pNext_le (u := u) (i := i) hn4
    unfold pFind
    by_cases c : pNext u i n < 24
    · rw [if_pos ((lt24 hle.2).mpr c)]
      obtain ⟨s1, s2, s3, s4, s5, s6, s7⟩ := srch_step hi hs hk hn hn4 hbd rfl c
      rw [s6]
      generalize pNext u i n = o at c s1 s2 s3 s4 s5 s6 s7 ⊢
      generalize hch : pCh u i (nI o) (tn (u 12 i)) = ch at s7 ⊢
      have IH : ∀ c, c < 12 → hb ch (nI c) = true → _ := fun c hc h1 => ih (o + 1) (up u 6 o (nI c)) (s7 c hc h1).1 (s7 c hc h1).2.1 (by omega) (by omega) (s7 c hc h1).2.2 (by omega)
      obtain ⟨t1, t2⟩ := try_spec (f := fun v => pFind i d (o + 1) v) (o := o) (ch := ch) (u := u) (fun c hc h1 h2 => ((IH c hc h1).2 h2).1) 12 0 u (by omega) ⟨-1, by rw [← s3, up_self]⟩
      have hin : ∀ m, lf0 (mkx u i) m = 0 → mtx u h (dg (mkx u i) m) i → extm u i (dg (mkx u i) m) → hb ch (nI (dg (mkx u i) m (o - 20))) = true := fun m _ h2 h3 => by rw [← hch]; exact ch_in hi hs s1 c s3 (dg_lt _ _) h3 h2
      constructor
      · intro hr
        obtain ⟨k, -, k2, k3, k4, k5, k6⟩ := t1 hr
        have pg := (only6_up u o (nI k)).pg
        obtain ⟨m, m1, m2, m3, m4, m5, m6⟩ := (IH k k2 k3).1 k4
        rw [mkx_pg pg] at m1 m2 m3 m4 m6
        rw [mtx_pg pg] at m2
        obtain ⟨m3a, m3b⟩ := (extm_up s1 c k2 s3 s4 (dg_lt _ _)).mp m3
        refine ⟨m, m1, m2, m3a, fun v hv => ?_, fun q hq => ?_, fun m' h1 h2 h3 => ?_⟩
        · rw [k5, m4 v hv]
          by_cases e : mkx u i v = true
          · rw [if_pos e, if_pos e]
          · rw [if_neg e, if_neg e, up_idx]
            intro z
            rw [← z, show 20 + v - 20 = v by omega] at s4
            exact e s4
        · rw [k5, m5 q hq, up_idx _ _ (by omega)]
        · have h4 := hin m' h1 h2 h3
          rcases Nat.lt_trichotomy (dg (mkx u i) m' (o - 20)) k with h5 | h5 | h5
          · have h6 := k6 _ (Nat.zero_le _) h5 h4
            have h7 := ((IH _ (dg_lt _ _ _) h4).2 h6).2 m'
            rw [mkx_pg (only6_up u o _).pg, mtx_pg (only6_up u o _).pg] at h7
            exact absurd h2 (h7 h1 ((extm_up s1 c (dg_lt _ _ _) s3 s4 (dg_lt _ _)).mpr ⟨h3, rfl⟩))
          · have h7 := m6 m' h1
            rw [mtx_pg pg] at h7
            exact h7 h2 ((extm_up s1 c k2 s3 s4 (dg_lt _ _)).mpr ⟨h3, h5⟩)
          · refine Nat.le_of_lt (dg_ord m1 h1 (o := o - 20) (by omega) s4 (fun v hv hmv => ?_) (by rw [m3b]; exact h5))
            have g1 := (m3a v (by omega) hmv).resolve_left (s5 v (by omega) (by omega) hmv)
            have g2 := (h3 v (by omega) hmv).resolve_left (s5 v (by omega) (by omega) hmv)
            rw [g1] at g2
            have := dg_lt (mkx u i) m v
            have := dg_lt (mkx u i) m' v
            exact nI_inj (by omega) (by omega) g2
      · intro hr
        obtain ⟨k1, k2⟩ := t2 hr
        refine ⟨by rw [k1, ← s3, up_self], fun m h1 h3 h2 => ?_⟩
        have h4 := hin m h1 h2 h3
        have h6 := k2 _ (Nat.zero_le _) (dg_lt _ _ _) h4
        have h7 := ((IH _ (dg_lt _ _ _) h4).2 h6).2 m
        rw [mkx_pg (only6_up u o _).pg, mtx_pg (only6_up u o _).pg] at h7
        exact h7 h1 ((extm_up s1 c (dg_lt _ _ _) s3 s4 (dg_lt _ _)).mpr ⟨h3, rfl⟩) h2
    · rw [if_neg (fun z => c ((lt24 hle.2).mp z))]
      have hall : ∀ v, v < 4 → mkx u i v = true → ¬ u 6 (20 + v) = -1 := by
        intro v hv hm hop
        rcases Nat.lt_or_ge (20 + v) n with h1 | h1
        · exact hbd v hv h1 hm hop
        · exact (next_c (u := u) (i := i) hn4).1 (20 + v) h1 (by omega) ⟨by rw [hs.2.2.2.2.2 v hv]; exact hm, hop⟩
      obtain ⟨m, m1, m2, m3, m4⟩ := all_bound hi hs hk hall
      refine ⟨fun _ => ⟨m, m1, m3, m2, fun v hv => ?_, fun q _ => rfl, fun m' h1 _ h3 => ?_⟩, fun hz => by cases hz⟩
      · by_cases e : mkx u i v = true
        · rw [if_pos e]; exact m4 v hv e
        · rw [if_neg e]
      · refine Nat.le_of_eq (dg_inj m1 h1 (fun v hv hmv => ?_))
        have g2 := (h3 v hv hmv).resolve_left (hall v hv hmv)
        rw [m4 v hv hmv] at g2
        have := dg_lt (mkx u i) m v
        have := dg_lt (mkx u i) m' v
        exact nI_inj (by omega) (by omega) g2
