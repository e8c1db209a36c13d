-- the reference's own work, in words of its ints: bounds
/-- a term: a constant or a variable -/
def tm (t : Int32) : Prop := inN t 12 ∨ (inN t 24 ∧ 20 ≤ tn t)
def wfB (u : jU) (j : Nat) : Prop := inN (u 16 j) 8 ∧ tm (u 17 j) ∧ tm (u 18 j) ∧ (u 19 j = 0 ∨ u 19 j = 1)
def wfU (u : jU) : Prop := ∀ q, q < 4 → inN (u 6 q) 12
/-- the reference in its bounds: relations, rules, counts, atoms, values, given facts -/
def wfD (u : jU) : Prop := inN (u 0 0) 9 ∧ inN (u 0 1) 17 ∧ (∀ i, i < 16 → inN (u 12 i) 5) ∧ (∀ j, j < 80 → wfB u j) ∧ wfU u ∧ (∀ f, f < 1152 → u 2 f = 0 ∨ u 2 f = 1)
theorem m_in_1 {x lo hi : Int32} (h : ¬ m_in x lo hi = 0) : ¬ x < lo ∧ ¬ hi < x := by
  unfold m_in at h
  split at h
  · exact absurd rfl h
  · split at h
    · exact absurd rfl h
    · exact ⟨‹_›, ‹_›⟩
theorem m_in_0 {x lo hi : Int32} (h : m_in x lo hi = 0) : x < lo ∨ hi < x := by
  unfold m_in at h
  split at h
  · exact Or.inl ‹_›
  · split at h
    · exact Or.inr ‹_›
    · cases h
theorem predN {n : Nat} (h : 0 < n) : nI n - 1 = nI (n - 1) := by
  have h1 := nI_pred (n - 1)
  rw [show n - 1 + 1 = n by omega] at h1
  exact h1
theorem in_lt {n : Nat} {x r : Int32} (hn : n < 2 ^ 31) (hx : x = nI n) (h : ¬ m_in r 0 (x - 1) = 0) : inN r n := by
  obtain ⟨h1, h2⟩ := m_in_1 h
  obtain ⟨j, hj, rfl⟩ := nI_of h1
  subst hx
  by_cases h0 : n = 0
  · subst h0
    exfalso
    apply h2
    have : (nI 0 - 1 : Int32) = -1 := by decide
    rw [this]
    have h3 : ¬ nI j < 0 := h1
    have h4 : (0 : Int32) ≤ nI j := Int32.not_lt.mp h3
    exact Int32.lt_of_lt_of_le (by decide) h4
  · rw [predN (by omega)] at h2
    have h3 : ¬ n - 1 < j := fun z => h2 ((nI_ltI (by omega) hj).mpr z)
    exact inN_nI (by omega) (by omega)
theorem in_rel {u : jU} (hD : wfD u) {r : Int32} (h : ¬ m_in r 0 (u 0 0 - 1) = 0) : inN r (tn (u 0 0)) :=
  in_lt (by have := hD.1.2; omega) hD.1.1 h
theorem rel8 {u : jU} (hD : wfD u) {r : Int32} (h : inN r (tn (u 0 0))) : tn r < 8 := by
  have h1 := h.2
  have h2 := hD.1.2
  omega
theorem inN_0 {n : Nat} (h : 0 < n) : inN 0 n := ⟨by decide, by show tn 0 < n; rw [show tn 0 = 0 from by decide]; exact h⟩
theorem rel_or {u : jU} (hD : wfD u) (r : Int32) : inN (if m_in r 0 (u 0 0 - 1) = 0 then 0 else r) 8 := by
  split
  · exact inN_0 (by decide)
  · exact (in_rel hD ‹_›).mono (by have := hD.1.2; omega)
theorem last_or {u : jU} (hD : wfD u) : inN (if u 0 1 ≤ 0 then 0 else u 0 1 - 1) 16 := by
  have h := hD.2.1
  split
  · exact inN_0 (by decide)
  · rename_i h0
    have hp : 0 < tn (u 0 1) := by
      apply Nat.pos_of_ne_zero
      intro e
      apply h0
      rw [h.1, e]
      exact (by decide : nI 0 ≤ (0 : Int32))
    rw [h.1, predN hp]
    exact inN_nI (by have := h.2; omega) (by decide)
theorem ref_val {u : jU} {a b c : Int32} (h : (m_refuse u a b c).1 = 0) : (if a = 0 then (if b = 0 then (if c = 0 then (0 : Int32) else 3) else 2) else 1) = 0 := by
  unfold m_refuse at h
  simp only [up_same] at h
  revert h
  split
  · split
    · split
      · intro _; rfl
      · intro h; exact absurd h (by decide)
    · intro h; exact absurd h (by decide)
  · intro h; exact absurd h (by decide)
theorem ref_st {u : jU} {a b c : Int32} (h : (m_refuse u a b c).1 = 0) : (m_refuse u a b c).2 = up u 0 4 0 := by
  have := ref_val h
  unfold m_refuse
  simp only [this]
theorem ref_0 {u : jU} {a b c : Int32} (h : (m_refuse u a b c).1 = 0) : a = 0 ∧ b = 0 ∧ c = 0 := by
  have := ref_val h
  split at this
  · split at this
    · split at this
      · exact ⟨‹_›, ‹_›, ‹_›⟩
      · exact absurd this (by decide)
    · exact absurd this (by decide)
  · exact absurd this (by decide)
theorem neg_if {c : Prop} [Decidable c] (h : (if c then (1 : Int32) else 0) = 0) : ¬ c := by
  split at h
  · exact absurd h (by decide)
  · assumption
theorem relation_ix {u : jU} (hD : wfD u) {a c : Int32} (h : (m_refuse u a (if u 0 0 = 8 then 1 else 0) c).1 = 0) : tn (u 0 0) < 8 := by
  have h1 := neg_if (ref_0 h).2.1
  have h2 := hD.1
  have h3 := h2.2
  rcases Nat.lt_or_ge (tn (u 0 0)) 8 with h4 | h4
  · exact h4
  · exfalso
    apply h1
    rw [h2.1, show tn (u 0 0) = 8 by omega]
    decide
theorem ref_fact {u : jU} {r a b : Int32} (h : (m_refuse u (if m_isFact u r a b = 0 then 1 else 0) 0 0).1 = 0) : ¬ m_isFact u r a b = 0 := neg_if (ref_0 h).1
theorem isFact_in {u : jU} {r a b : Int32} (h : ¬ m_isFact u r a b = 0) : ¬ m_in r 0 (u 0 0 - 1) = 0 := by
  unfold m_isFact at h
  split at h
  · exact absurd rfl h
  · assumption
theorem isFact_rel {u : jU} (hD : wfD u) {r a b : Int32} (h : ¬ m_isFact u r a b = 0) : inN r 8 := (in_rel hD (isFact_in h)).mono (by have := hD.1.2; omega)
theorem in_11 {x : Int32} (h : ¬ m_in x 0 11 = 0) : inN x 12 := in_lt (n := 12) (x := 12) (by decide) (by decide) h
theorem lt_le1 {x : Int32} (h : x < 1) : x ≤ 0 := by
  rw [Int32.le_iff_toInt_le]
  rw [Int32.lt_iff_toInt_lt] at h
  have h1 : (1 : Int32).toInt = 1 := by decide
  have h0 : (0 : Int32).toInt = 0 := by decide
  omega
theorem lt_le2 {x : Int32} (h : x < 2) : x ≤ 1 := by
  rw [Int32.le_iff_toInt_le]
  rw [Int32.lt_iff_toInt_lt] at h
  have h1 : (1 : Int32).toInt = 1 := by decide
  have h0 : (2 : Int32).toInt = 2 := by decide
  omega
theorem isFact_ab {u : jU} {r a b : Int32} (h : ¬ m_isFact u r a b = 0) : inN (if u 1 (tn r) ≤ 0 then 0 else a) 12 ∧ inN (if u 1 (tn r) ≤ 1 then 0 else b) 12 := by
  have hb : ∀ {z : Int32}, ¬ (if u 1 (tn r) < 2 then (1 : Int32) else if m_in b 0 11 = 0 then 0 else 1) = 0 → inN (if u 1 (tn r) ≤ 1 then 0 else b) 12 := by
    intro z h9
    split at h9
    · rw [if_pos (lt_le2 ‹_›)]; exact inN_0 (by decide)
    · split at h9
      · exact absurd rfl h9
      · split
        · exact inN_0 (by decide)
        · exact in_11 ‹_›
  unfold m_isFact at h
  split at h
  · exact absurd rfl h
  · split at h
    · refine ⟨?_, hb (z := 0) h⟩
      rw [if_pos (lt_le1 ‹_›)]
      exact inN_0 (by decide)
    · split at h
      · exact absurd rfl h
      · refine ⟨?_, hb (z := 0) h⟩
        split
        · exact inN_0 (by decide)
        · exact in_11 ‹_›
theorem fact3 {r a b : Int32} {B C D : Nat} (hr : inN r B) (ha : inN a C) (hb : inN b D) : 144 * r + 12 * a + b = nI (144 * tn r + 12 * tn a + tn b) := by
  have e1 : (144 : Int32) * nI (tn r) = nI (144 * tn r) := pk_mul 144 (tn r)
  have e2 : (12 : Int32) * nI (tn a) = nI (12 * tn a) := pk_mul 12 (tn a)
  rw [← hr.1] at e1
  rw [← ha.1] at e2
  have e3 : nI (144 * tn r + 12 * tn a) + nI (tn b) = nI (144 * tn r + 12 * tn a + tn b) := nI_add _ _
  rw [← hb.1] at e3
  rw [e1, e2, nI_add, e3]
theorem fact_ix {u : jU} (hD : wfD u) {r a b : Int32} (h : ¬ m_isFact u r a b = 0) : m_factAt u r a b = nI (mFx u r a b) ∧ mFx u r a b < 1152 := by
  have hr := isFact_rel hD h
  obtain ⟨ha, hb⟩ := isFact_ab h
  refine ⟨fact3 hr ha hb, ?_⟩
  unfold mFx
  have := hr.2; have := ha.2; have := hb.2; omega
theorem areTerms_rel {u : jU} (hD : wfD u) {r a b : Int32} (h : ¬ m_areTerms u r a b = 0) : inN r 8 := by
  unfold m_areTerms at h
  split at h
  · exact absurd rfl h
  · exact (in_rel hD ‹_›).mono (by have := hD.1.2; omega)
theorem rule_ok {u : jU} (hD : wfD u) {r a b c : Int32} (h : (m_refuse u (if m_areTerms u r a b = 0 then 1 else 0) (if u 0 1 = 16 then 1 else 0) c).1 = 0) : inN r 8 ∧ tn (u 0 1) < 16 ∧ 5 * u 0 1 = nI (5 * tn (u 0 1)) := by
  have h1 := neg_if (ref_0 h).1
  have h2 := neg_if (ref_0 h).2.1
  have h3 := hD.2.1
  have h4 := h3.2
  refine ⟨areTerms_rel hD h1, ?_, ?_⟩
  · rcases Nat.lt_or_ge (tn (u 0 1)) 16 with h5 | h5
    · exact h5
    · exfalso
      apply h2
      rw [h3.1, show tn (u 0 1) = 16 by omega]
      decide
  · conv => lhs; rw [h3.1]
    exact pk_mul 5 _
theorem fine_1 {u : jU} {r a b : Int32} (h : ¬ m_fine u r a b = 0) : ¬ u 0 1 ≤ 0 ∧ ¬ m_areTerms u r a b = 0 := by
  unfold m_fine at h
  split at h
  · exact absurd rfl h
  · split at h
    · exact absurd rfl h
    · exact ⟨‹_›, ‹_›⟩
theorem rules_pos {u : jU} (hD : wfD u) (h : ¬ u 0 1 ≤ 0) : 0 < tn (u 0 1) := by
  apply Nat.pos_of_ne_zero
  intro e
  apply h
  rw [hD.2.1.1, e]
  exact (by decide : nI 0 ≤ (0 : Int32))
theorem lit_ok {u : jU} (hD : wfD u) {r a b : Int32} (h : (m_refuse u (if u 0 1 = 0 then 1 else 0) (if u 0 1 ≤ 0 then 0 else (if m_fine u r a b = 0 then 1 else 0)) (if m_fine u r a b = 0 then 0 else (if u 12 (tn (if u 0 1 ≤ 0 then 0 else u 0 1 - 1)) = 4 then 1 else 0))).1 = 0) :
    inN r 8 ∧ tn (u 0 1) - 1 < 16 ∧ u 0 1 - 1 = nI (tn (u 0 1) - 1) ∧ 5 * (u 0 1 - 1) + (u 12 (tn (u 0 1) - 1) + 1) = nI (mLj u) ∧ mLj u < 80 := by
  obtain ⟨h1, h2, h3⟩ := ref_0 h
  have hp : ¬ u 0 1 ≤ 0 := by
    intro hle
    have hne := neg_if h1
    apply hne
    have h9 := hD.2.1
    rw [h9.1] at hle ⊢
    have h8 : tn (u 0 1) ≤ 0 := (nI_leI (b := 0) (by have := h9.2; omega) (by decide)).mp hle
    rw [show tn (u 0 1) = 0 by omega]
    decide
  rw [if_neg hp] at h2
  have hf := neg_if h2
  rw [if_neg hf, if_neg hp] at h3
  have hpos := rules_pos hD hp
  have hK := hD.2.1
  have hK2 := hK.2
  have e1 : u 0 1 - 1 = nI (tn (u 0 1) - 1) := by
    conv => lhs; rw [hK.1]
    exact predN hpos
  rw [e1, show tn (nI (tn (u 0 1) - 1)) = tn (u 0 1) - 1 from nI_clamp (by omega)] at h3
  have h4 := neg_if h3
  have hc := hD.2.2.1 (tn (u 0 1) - 1) (by omega)
  have hc2 := hc.2
  have hc4 : tn (u 12 (tn (u 0 1) - 1)) < 4 := by
    rcases Nat.lt_or_ge (tn (u 12 (tn (u 0 1) - 1))) 4 with h5 | h5
    · exact h5
    · exfalso
      apply h4
      rw [hc.1, show tn (u 12 (tn (u 0 1) - 1)) = 4 by omega]
      decide
  refine ⟨areTerms_rel hD (fine_1 hf).2, by omega, e1, ?_, by unfold mLj; omega⟩
  rw [e1]
  conv => lhs; rw [hc.1]
  have e5 : (5 : Int32) * nI (tn (u 0 1) - 1) = nI (5 * (tn (u 0 1) - 1)) := pk_mul 5 _
  rw [e5, nI_1, nI_add]
  unfold mLj
  rfl
theorem tv_20 {t : Int32} (h : tm t) (h2 : ¬ t < 20) : inN t 24 ∧ 20 ≤ tn t := by
  rcases h with h | h
  · exfalso
    apply h2
    have := (inN_ltN (n := 20) h (by decide) (by decide)).mpr (by have := h.2; omega)
    exact this
  · exact h
theorem tv_ix {t : Int32} (h : tm t) (h2 : ¬ t < 20) : t - 20 = nI (tn t - 20) := by
  obtain ⟨h3, h4⟩ := tv_20 h h2
  have := pk_sub h4
  rw [← h3.1] at this
  exact this
theorem tv_lt {t : Int32} (h : tm t) (h2 : ¬ t < 20) : tn t - 20 < 4 := by
  obtain ⟨h3, h4⟩ := tv_20 h h2
  have := h3.2
  omega
theorem tv_lo {t : Int32} (h : tm t) (h2 : t < 20) : inN t 12 := by
  rcases h with h | h
  · exact h
  · exfalso
    have := (inN_ltN (n := 20) h.1 (by decide) (by decide)).mp h2
    omega
theorem tv_in {u : jU} (hv : wfU u) {t : Int32} (h : tm t) : inN (m_tv u t) 12 := by
  unfold m_tv
  split
  · exact tv_lo h ‹_›
  · exact hv _ (tv_lt h ‹_›)
def mFact (u : jU) (j : Nat) : Nat := 144 * tn (u 16 j) + 12 * tn (m_tv u (u 17 j)) + tn (m_tv u (u 18 j))
theorem factOf_eq {u : jU} {j : Nat} (hB : wfB u j) (hv : wfU u) : 144 * u 16 j + 12 * m_tv u (u 17 j) + m_tv u (u 18 j) = nI (mFact u j) := fact3 hB.1 (tv_in hv hB.2.1) (tv_in hv hB.2.2.1)
theorem mFact_lt {u : jU} {j : Nat} (hB : wfB u j) (hv : wfU u) : mFact u j < 1152 := by
  have h1 := hB.1.2
  have h2 := (tv_in hv hB.2.1).2
  have h3 := (tv_in hv hB.2.2.1).2
  unfold mFact
  omega
