-- the class's own work, in words of its ints
def b2i (b : Bool) : Int32 := if b then 1 else 0
abbrev tn (x : Int32) : Nat := x.toNatClampNeg
def hb (x i : Int32) : Bool := decide (¬ x >>> (i &&& 31) &&& 1 = 0)
theorem hb_0 {x i : Int32} (h : x >>> (i &&& 31) &&& 1 = 0) : 0 = b2i (hb x i) := by simp [b2i, hb, h]
theorem hb_1 {x i : Int32} (h : ¬ x >>> (i &&& 31) &&& 1 = 0) : 1 = b2i (hb x i) := by simp [b2i, hb, h]
theorem b2i_0 {b : Bool} (h : b2i b = 0) : b = false := by cases b <;> simp [b2i] at h ⊢
theorem b2i_1 {b : Bool} (h : ¬ b2i b = 0) : b = true := by cases b <;> simp [b2i] at h ⊢
theorem b2i_n (b : Bool) : narrow .boolean (.int (b2i b)) = .int (b2i b) := by cases b <;> rfl
/-- a natural number below B -/
def inN (x : Int32) (B : Nat) : Prop := x = nI (tn x) ∧ tn x < B
theorem inN.mono {x : Int32} {B C : Nat} (h : inN x B) (hB : B ≤ C) : inN x C := ⟨h.1, Nat.lt_of_lt_of_le h.2 hB⟩
theorem inN_nI {n B : Nat} (h : n < B) (hB : B ≤ 2 ^ 31) : inN (nI n) B := by
  have e : tn (nI n) = n := nI_clamp (Nat.lt_of_lt_of_le h hB)
  exact ⟨by rw [e], by rw [e]; exact h⟩
theorem inN_leN {x : Int32} {B n : Nat} (h : inN x B) (hB : B ≤ 2 ^ 31) (hn : n < 2 ^ 31) : x ≤ nI n ↔ tn x ≤ n := by
  have h1 : tn x < 2 ^ 31 := Nat.lt_of_lt_of_le h.2 hB
  have h2 : nI (tn x) ≤ nI n ↔ tn x ≤ n := nI_leI h1 hn
  rw [← h.1] at h2
  exact h2
theorem in_row {r a : Int32} (hr : inN r 8) (ha : inN a 12) : r * 12 + a = nI (tn r * 12 + tn a) := by
  rw [hr.1, ha.1]
  show nI (tn r) * nI 12 + nI (tn a) = _
  rw [pk_mul, nI_add, ← hr.1, ← ha.1]
theorem row_lt {r a : Int32} (hr : inN r 8) (ha : inN a 12) : tn r * 12 + tn a < 96 := by
  have := hr.2; have := ha.2; omega
def wfA (u : jU) (j : Nat) : Prop := inN (u 16 j) 8 ∧ inN (u 17 j) 24 ∧ inN (u 18 j) 24 ∧ (u 19 j = 0 ∨ u 19 j = 1)
def wfV (u : jU) : Prop := ∀ t, t < 24 → u 6 t = -1 ∨ inN (u 6 t) 12
def wfS (u : jU) (i : Nat) : Prop := inN (u 12 i) 5
def pSees (u : jU) (r a b : Int32) : Bool := hb (u 7 (tn r * 12 + tn a)) b
def pForget (u : jU) : jU := up (up (up (up u 6 20 (-1)) 6 21 (-1)) 6 22 (-1)) 6 23 (-1)
def pBind (u : jU) (t x : Int32) : jU := if u 6 (tn t) = -1 then up u 6 (tn t) x else u
def pBound (u : jU) (t x : Int32) : Bool := decide (pBind u t x 6 (tn t) = x)
/-- a literal agrees with what is seen, or isn't known yet -/
def pAgree (u : jU) (j : Nat) : Bool :=
  decide (u 6 (tn (u 17 j)) = -1) || decide (u 6 (tn (u 18 j)) = -1) || !decide (b2i (pSees u (u 16 j) (u 6 (tn (u 17 j))) (u 6 (tn (u 18 j)))) = u 19 j)
def pKnown (u : jU) (i : Nat) : Bool := (List.range (tn (u 12 i))).all (fun q => pAgree u (5 * i + 1 + q))
theorem pKnown_1 {u : jU} {i : Nat} (h : ∀ q, q < tn (u 12 i) → pAgree u (5 * i + 1 + q) = true) : 1 = b2i (pKnown u i) := by
  have : pKnown u i = true := List.all_eq_true.mpr (fun q hq => h q (List.mem_range.mp hq))
  rw [this]; rfl
theorem pKnown_0 {u : jU} {i q : Nat} (hq : q < tn (u 12 i)) (h : pAgree u (5 * i + 1 + q) = false) : 0 = b2i (pKnown u i) := by
  have : pKnown u i = false := by
    rw [← Bool.not_eq_true]
    intro h2
    have := List.all_eq_true.mp h2 q (List.mem_range.mpr hq)
    rw [h] at this; cases this
  rw [this]; rfl
def pMeets1 (u : jU) (i : Nat) (a : Int32) : jU := pBind (pForget u) (pForget u 17 (5 * i)) a
def pMeets2 (u : jU) (i : Nat) (a b : Int32) : jU := pBind (pMeets1 u i a) (pMeets1 u i a 18 (5 * i)) b
def pMeets (u : jU) (i : Nat) (r a b : Int32) : Bool × jU :=
  if pForget u 16 (5 * i) = r then
    (if b2i (pBound (pForget u) (pForget u 17 (5 * i)) a) = 0 then (false, pMeets1 u i a) else
     if b2i (pBound (pMeets1 u i a) (pMeets1 u i a 18 (5 * i)) b) = 0 then (false, pMeets2 u i a b) else (pKnown (pMeets2 u i a b) i, pMeets2 u i a b))
  else (false, pForget u)
/-- only the values of the terms differ -/
def only6 (u v : jU) : Prop := ∀ c, c ≠ 6 → v c = u c
theorem only6.rf (u : jU) : only6 u u := fun _ _ => rfl
theorem only6.tr {u v w : jU} (h : only6 u v) (h2 : only6 v w) : only6 u w := fun c hc => (h2 c hc).trans (h c hc)
theorem only6_up (u : jU) (t : Nat) (x : Int32) : only6 u (up u 6 t x) := fun c hc => up_rows u t x hc
theorem only6_forget (u : jU) : only6 u (pForget u) := (only6_up u _ _).tr ((only6_up _ _ _).tr ((only6_up _ _ _).tr (only6_up _ _ _)))
theorem only6_bind (u : jU) (t x : Int32) : only6 u (pBind u t x) := by
  unfold pBind; split
  · exact only6_up u _ _
  · exact only6.rf u
theorem wfV_up {u : jU} (h : wfV u) (t : Nat) {x : Int32} (hx : x = -1 ∨ inN x 12) : wfV (up u 6 t x) := by
  intro q hq
  by_cases e : q = t
  · subst e; rw [up_same]; exact hx
  · rw [up_idx u x e]; exact h q hq
theorem wfV_forget {u : jU} (h : wfV u) : wfV (pForget u) := wfV_up (wfV_up (wfV_up (wfV_up h _ (Or.inl rfl)) _ (Or.inl rfl)) _ (Or.inl rfl)) _ (Or.inl rfl)
theorem wfV_bind {u : jU} (h : wfV u) (t : Int32) {x : Int32} (hx : inN x 12) : wfV (pBind u t x) := by
  unfold pBind; split
  · exact wfV_up h _ (Or.inr hx)
  · exact h
/-- rules, atoms and values are in their bounds -/
def wfM (u : jU) : Prop := (∀ i, i < 16 → wfS u i) ∧ (∀ j, j < 80 → wfA u j) ∧ wfV u
theorem wfM.of {u v : jU} (h : wfM u) (ho : only6 u v) (hv : wfV v) : wfM v := by
  refine ⟨fun i hi => ?_, fun j hj => ?_, hv⟩
  · have := h.1 i hi
    unfold wfS at this ⊢
    rw [ho 12 (by decide)]; exact this
  · have := h.2.1 j hj
    unfold wfA at this ⊢
    rw [ho 16 (by decide), ho 17 (by decide), ho 18 (by decide), ho 19 (by decide)]; exact this
/-- what a literal leaves of the constants for an open variable -/
def pSeen (u : jU) (j : Nat) (t : Int32) : Int32 :=
  if u 17 j = t then
    (if u 17 j = u 18 j then u 11 (tn (u 16 j)) else if u 6 (tn (u 18 j)) = -1 then (if u 19 j = 0 then u 9 (tn (u 16 j)) else 0) else u 8 (tn (u 16 j) * 12 + tn (u 6 (tn (u 18 j)))))
  else
    (if u 17 j = u 18 j then u 11 (tn (u 16 j)) else if u 6 (tn (u 17 j)) = -1 then (if u 19 j = 0 then u 10 (tn (u 16 j)) else 0) else u 7 (tn (u 16 j) * 12 + tn (u 6 (tn (u 17 j)))))
def pBy (u : jU) (j : Nat) (t : Int32) : Int32 := if u 19 j = 0 then pSeen u j t else pSeen u j t ^^^ (-1)
def pCh (u : jU) (i : Nat) (t : Int32) : Nat → Int32
  | 0 => 4095
  | q + 1 => if u 17 (5 * i + 1 + q) = t ∨ u 18 (5 * i + 1 + q) = t then pCh u i t q &&& pBy u (5 * i + 1 + q) t else pCh u i t q
def pChoices (u : jU) (i : Nat) (t : Int32) : Int32 := if u 6 (tn t) = -1 then pCh u i t (tn (u 12 i)) else 1 <<< (u 6 (tn t) &&& 31)
/-- the first open variable of the rule from n on, looking at d places -/
def pNextN (u : jU) (i : Nat) : Nat → Nat → Nat
  | 0, n => n
  | d + 1, n => if hb (u 13 i) (nI n) = true ∧ u 6 n = -1 then n else pNextN u i d (n + 1)
def pNext (u : jU) (i n : Nat) : Nat := pNextN u i (24 - n) n
/-- tries the values q, q + 1, .. for the open variable o -/
def pTry (f : jU → Bool × jU) (o : Nat) (ch : Int32) : Nat → Nat → jU → Bool × jU
  | 0, _, u => (false, up u 6 o (-1))
  | n + 1, q, u => if b2i (hb ch (nI q)) = 0 then pTry f o ch n (q + 1) u else if b2i (f (up u 6 o (nI q))).1 = 0 then pTry f o ch n (q + 1) (f (up u 6 o (nI q))).2 else (true, (f (up u 6 o (nI q))).2)
def pFind (i : Nat) : Nat → Nat → jU → Bool × jU
  | 0, _, u => (true, u)
  | d + 1, n, u => if nI (pNext u i n) < 24 then pTry (fun v => pFind i d (pNext u i n + 1) v) (pNext u i n) (pChoices u i (nI (pNext u i n))) 12 0 u else (true, u)
theorem pTry_frame {f : jU → Bool × jU} {o : Nat} {ch : Int32} (hf : ∀ v, only6 v (f v).2 ∧ (wfV v → wfV (f v).2)) : ∀ (n q : Nat) (u : jU), q + n ≤ 12 → only6 u (pTry f o ch n q u).2 ∧ (wfV u → wfV (pTry f o ch n q u).2) := by
  intro n
  induction n with
  | zero => intro q u _; exact ⟨only6_up u _ _, fun h => wfV_up h _ (Or.inl rfl)⟩
  | succ n ih =>
    intro q u hq
    have hv : ∀ w : jU, wfV w → wfV (up w 6 o (nI q)) := fun w h => wfV_up h _ (Or.inr (inN_nI (by omega) (by decide)))
    have h1 := hf (up u 6 o (nI q))
    unfold pTry
    split
    · exact ih (q + 1) u (by omega)
    · split
      · have h2 := ih (q + 1) (f (up u 6 o (nI q))).2 (by omega)
        exact ⟨((only6_up u _ _).tr h1.1).tr h2.1, fun h => h2.2 (h1.2 (hv u h))⟩
      · exact ⟨(only6_up u _ _).tr h1.1, fun h => h1.2 (hv u h)⟩
theorem pFind_frame (i : Nat) : ∀ (d n : Nat) (u : jU), only6 u (pFind i d n u).2 ∧ (wfV u → wfV (pFind i d n u).2) := by
  intro d
  induction d with
  | zero => intro n u; exact ⟨only6.rf u, fun h => h⟩
  | succ d ih =>
    intro n u
    unfold pFind
    split
    · exact pTry_frame (fun v => ih _ v) 12 0 u (by omega)
    · exact ⟨only6.rf u, fun h => h⟩
theorem pNextN_le (u : jU) (i : Nat) : ∀ d n, n ≤ pNextN u i d n ∧ pNextN u i d n ≤ n + d := by
  intro d
  induction d with
  | zero => intro n; exact ⟨Nat.le_refl _, Nat.le_refl _⟩
  | succ d ih =>
    intro n
    unfold pNextN
    split
    · omega
    · have := ih (n + 1); omega
theorem pNext_le {u : jU} {i n : Nat} (h : n ≤ 24) : n ≤ pNext u i n ∧ pNext u i n ≤ 24 := by
  have := pNextN_le u i (24 - n) n
  unfold pNext; omega
