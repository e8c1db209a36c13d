-- the mathematics, tenth part: what the class sees and tries
/-- what is seen is h -/
def sgt (u : jU) (h : Nat → Bool) : Prop := ∀ r, r < 8 → ∀ a, a < 12 → ∀ b, b < 12 → hb (u 7 (r * 12 + a)) (nI b) = h (144 * r + 12 * a + b) ∧ hb (u 8 (r * 12 + b)) (nI a) = h (144 * r + 12 * a + b)
def sgs (u : jU) (h : Nat → Bool) : Prop := ∀ r, r < 8 → ∀ a, a < 12 → (hb (u 9 r) (nI a) = true ↔ ∃ b, b < 12 ∧ h (144 * r + 12 * a + b) = true) ∧ (hb (u 10 r) (nI a) = true ↔ ∃ b, b < 12 ∧ h (144 * r + 12 * b + a) = true) ∧ hb (u 11 r) (nI a) = h (144 * r + 12 * a + a)
/-- the constants stand for themselves -/
def cst (u : jU) : Prop := ∀ c, c < 12 → u 6 c = nI c
theorem nI_m1 {n : Nat} (h : n < 2 ^ 31) : ¬ nI n = -1 := fun z => nI_nn h (by rw [z]; decide)
theorem nI_inj {a b : Nat} (ha : a < 2 ^ 31) (hb : b < 2 ^ 31) (h : nI a = nI b) : a = b := (nI_eq ha hb).mp h
/-- a term's value: none yet, or a constant -/
theorem val_c {u : jU} (hc : cst u) (hv : wfV u) {t : Int32} (ht : tm t) : u 6 (tn t) = -1 ∨ ∃ c, c < 12 ∧ u 6 (tn t) = nI c := by
  have h1 := tm_lt ht
  rcases hv _ h1 with h | h
  · exact Or.inl h
  · exact Or.inr ⟨tn (u 6 (tn t)), h.2, h.1⟩
theorem open_var {u : jU} (hc : cst u) {t : Int32} (ht : tm t) (h : u 6 (tn t) = -1) : 20 ≤ tn t := by
  rcases ht with h1 | h1
  · rw [hc _ h1.2] at h
    exact absurd h (nI_m1 (by have := h1.2; omega))
  · exact h1.2
theorem sees_c {u : jU} {h : Nat → Bool} (hs : sgt u h) {r : Int32} (hr : inN r 8) {a b : Nat} (ha : a < 12) (hb' : b < 12) : pSees u r (nI a) (nI b) = h (144 * tn r + 12 * a + b) := by
  unfold pSees
  rw [show tn (nI a) = a from nI_clamp (by omega)]
  exact (hs _ hr.2 a ha b hb').1
theorem b2i_ne {p : Bool} {z : Int32} (hz : z = 0 ∨ z = 1) : (!decide (b2i p = z)) = decide (p = decide (z = 0)) := by
  cases p <;> rcases hz with rfl | rfl <;> rfl
theorem agree_c {u : jU} {h : Nat → Bool} (hs : sgt u h) {j : Nat} (hB : wfB u j) {a b : Nat} (ha : a < 12) (hb' : b < 12) (ea : u 6 (tn (u 17 j)) = nI a) (eb : u 6 (tn (u 18 j)) = nI b) : pAgree u j = decide (h (144 * tn (u 16 j) + 12 * a + b) = decide (u 19 j = 0)) := by
  unfold pAgree
  rw [ea, eb, decide_eq_false (nI_m1 (by omega)), decide_eq_false (nI_m1 (by omega)), sees_c hs hB.1 ha hb', Bool.false_or, Bool.false_or]
  exact b2i_ne hB.2.2.2
theorem by_bit {u : jU} {j : Nat} {t : Int32} (hB : wfB u j) {c : Nat} (hc : c < 12) : hb (pBy u j t) (nI c) = decide (hb (pSeen u j t) (nI c) = decide (u 19 j = 0)) := by
  unfold pBy
  rcases hB.2.2.2 with h | h
  · rw [if_pos h, h]; cases hb (pSeen u j t) (nI c) <;> rfl
  · rw [if_neg (by rw [h]; decide), h, hb_not _ (by omega)]; cases hb (pSeen u j t) (nI c) <;> rfl
theorem tn_inj {s t : Int32} (hs : tm s) (ht : tm t) (h : tn s = tn t) : s = t := by
  have h1 := (tm_k hs).1
  have h2 := (tm_k ht).1
  rw [h1, h2, h]
/-- the bit of c in what a literal leaves, where both terms then have values -/
theorem seen_full {u : jU} {h : Nat → Bool} (hs : sgt u h) (hg : sgs u h) {j : Nat} (hB : wfB u j) {t : Int32} (ht : tm t) (ho : u 6 (tn t) = -1) (hj : u 17 j = t ∨ u 18 j = t) {c : Nat} (hc : c < 12) {a b : Nat} (ha : a < 12) (hb' : b < 12)
    (ea : up u 6 (tn t) (nI c) 6 (tn (u 17 j)) = nI a) (eb : up u 6 (tn t) (nI c) 6 (tn (u 18 j)) = nI b) : hb (pSeen u j t) (nI c) = h (144 * tn (u 16 j) + 12 * a + b) := by
  have hr := hB.1.2
  unfold pSeen
  by_cases c1 : u 17 j = t
  · rw [if_pos c1]
    have hac : a = c := by rw [c1, up_same] at ea; exact (nI_inj (by omega) (by omega) ea).symm
    subst hac
    by_cases c2 : u 17 j = u 18 j
    · rw [if_pos c2]
      have hbc : b = a := by rw [← c2, c1, up_same] at eb; exact (nI_inj (by omega) (by omega) eb).symm
      subst hbc
      exact (hg _ hr b hc).2.2
    · rw [if_neg c2]
      have h3 : tn (u 18 j) ≠ tn t := fun z => c2 (by rw [c1]; exact (tn_inj hB.2.2.1 ht z).symm)
      rw [up_idx _ _ h3] at eb
      rw [if_neg (by rw [eb]; exact nI_m1 (by omega)), eb, show tn (nI b) = b from nI_clamp (by omega)]
      exact (hs _ hr a ha b hb').2
  · have c3 : u 18 j = t := hj.resolve_left c1
    rw [if_neg c1, if_neg (fun z => c1 (by rw [z, c3]))]
    have hbc : b = c := by rw [c3, up_same] at eb; exact (nI_inj (by omega) (by omega) eb).symm
    subst hbc
    have h3 : tn (u 17 j) ≠ tn t := fun z => c1 (tn_inj hB.2.1 ht z)
    rw [up_idx _ _ h3] at ea
    rw [if_neg (by rw [ea]; exact nI_m1 (by omega)), ea, show tn (nI a) = a from nI_clamp (by omega)]
    exact (hs _ hr a ha b hb').1
/-- a value that can be taken isn't barred -/
theorem by_in {u : jU} {h : Nat → Bool} (hs : sgt u h) (hg : sgs u h) (hct : cst u) (hv : wfV u) {j : Nat} (hB : wfB u j) {t : Int32} (ht : tm t) (ho : u 6 (tn t) = -1) (hj : u 17 j = t ∨ u 18 j = t) {c : Nat} (hc : c < 12) {a b : Nat} (ha : a < 12) (hb' : b < 12)
    (ea : up u 6 (tn t) (nI c) 6 (tn (u 17 j)) = -1 ∨ up u 6 (tn t) (nI c) 6 (tn (u 17 j)) = nI a) (eb : up u 6 (tn t) (nI c) 6 (tn (u 18 j)) = -1 ∨ up u 6 (tn t) (nI c) 6 (tn (u 18 j)) = nI b)
    (hh : h (144 * tn (u 16 j) + 12 * a + b) = decide (u 19 j = 0)) : hb (pBy u j t) (nI c) = true := by
  have hr := hB.1.2
  rw [by_bit hB hc, decide_eq_true_iff]
  rcases ea with ea | ea
  · -- the first term has no value yet
    have c1 : ¬ u 17 j = t := fun z => by rw [z, up_same] at ea; exact nI_m1 (by omega) ea
    have c3 : u 18 j = t := hj.resolve_left c1
    have hbc : b = c := by
      rcases eb with eb | eb
      · rw [c3, up_same] at eb; exact absurd eb (nI_m1 (by omega))
      · rw [c3, up_same] at eb; exact (nI_inj (by omega) (by omega) eb).symm
    subst hbc
    have h3 : tn (u 17 j) ≠ tn t := fun z => c1 (tn_inj hB.2.1 ht z)
    rw [up_idx _ _ h3] at ea
    unfold pSeen
    rw [if_neg c1, if_neg (fun z => c1 (by rw [z, c3])), if_pos ea]
    by_cases z : u 19 j = 0
    · rw [if_pos z, decide_eq_true z]
      rw [decide_eq_true z] at hh
      exact (hg _ hr b hc).2.1.mpr ⟨a, ha, hh⟩
    · rw [if_neg z, decide_eq_false z]; exact hb0 _
  · rcases eb with eb | eb
    · have c3 : ¬ u 18 j = t := fun z => by rw [z, up_same] at eb; exact nI_m1 (by omega) eb
      have c1 : u 17 j = t := hj.resolve_right c3
      have hac : a = c := by rw [c1, up_same] at ea; exact (nI_inj (by omega) (by omega) ea).symm
      subst hac
      have h3 : tn (u 18 j) ≠ tn t := fun z => c3 (tn_inj hB.2.2.1 ht z)
      rw [up_idx _ _ h3] at eb
      unfold pSeen
      rw [if_pos c1, if_neg (fun z => c3 (by rw [← z, c1])), if_pos eb]
      by_cases z : u 19 j = 0
      · rw [if_pos z, decide_eq_true z]
        rw [decide_eq_true z] at hh
        exact (hg _ hr a hc).1.mpr ⟨b, hb', hh⟩
      · rw [if_neg z, decide_eq_false z]; exact hb0 _
    · rw [seen_full hs hg hB ht ho hj hc ha hb' ea eb, hh]
theorem ch_bit {u : jU} {i : Nat} {t : Int32} {c : Nat} (hc : c < 12) : ∀ n, hb (pCh u i t n) (nI c) = true ↔ ∀ q, q < n → (u 17 (5 * i + 1 + q) = t ∨ u 18 (5 * i + 1 + q) = t) → hb (pBy u (5 * i + 1 + q) t) (nI c) = true := by
  intro n
  induction n with
  | zero => exact ⟨fun _ q hq => absurd hq (by omega), fun _ => hb_4095 hc⟩
  | succ n ih =>
    unfold pCh
    by_cases e : u 17 (5 * i + 1 + n) = t ∨ u 18 (5 * i + 1 + n) = t
    · rw [if_pos e, hb_and _ _ (by omega), Bool.and_eq_true, ih]
      constructor
      · rintro ⟨h1, h2⟩ q hq hj
        by_cases e2 : q = n
        · subst e2; exact h2
        · exact h1 q (by omega) hj
      · intro h; exact ⟨fun q hq => h q (by omega), h n (by omega) e⟩
    · rw [if_neg e, ih]
      constructor
      · intro h1 q hq hj
        by_cases e2 : q = n
        · subst e2; exact absurd hj e
        · exact h1 q (by omega) hj
      · intro h q hq; exact h q (by omega)
theorem next_spec (u : jU) (i : Nat) : ∀ d n, (∀ m, n ≤ m → m < pNextN u i d n → ¬ (hb (u 13 i) (nI m) = true ∧ u 6 m = -1)) ∧ (pNextN u i d n < n + d → hb (u 13 i) (nI (pNextN u i d n)) = true ∧ u 6 (pNextN u i d n) = -1) := by
  intro d
  induction d with
  | zero => intro n; exact ⟨fun m h1 h2 => absurd h2 (by show ¬ m < n; omega), fun h => absurd h (by show ¬ n < n + 0; omega)⟩
  | succ d ih =>
    intro n
    unfold pNextN
    by_cases c : hb (u 13 i) (nI n) = true ∧ u 6 n = -1
    · rw [if_pos c]; exact ⟨fun m h1 h2 => absurd h2 (by omega), fun _ => c⟩
    · rw [if_neg c]
      obtain ⟨a, b⟩ := ih (n + 1)
      refine ⟨fun m h1 h2 => ?_, fun h => b (by omega)⟩
      by_cases e : m = n
      · subst e; exact c
      · exact a m (by omega) h2
