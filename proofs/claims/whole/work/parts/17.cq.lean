-- the class's own work, second part
def pSum (f : jU → Int32 × jU) (o : Nat) (ch : Int32) : Nat → Nat → Int32 → jU → Int32 × jU
  | 0, _, z, u => (z, up u 6 o (-1))
  | n + 1, q, z, u => if b2i (hb ch (nI q)) = 0 then pSum f o ch n (q + 1) z u else pSum f o ch n (q + 1) (z + (f (up u 6 o (nI q))).1) (f (up u 6 o (nI q))).2
def pCount (i : Nat) : Nat → Nat → jU → Int32 × jU
  | 0, _, u => (1, u)
  | d + 1, n, u => if nI (pNext u i n) < 24 then (if nI (pNext u i (pNext u i n + 1)) < 24 then pSum (fun v => pCount i d (pNext u i n + 1) v) (pNext u i n) (pChoices u i (nI (pNext u i n))) 12 0 0 u else (pBC (pChoices u i (nI (pNext u i n))), u)) else (1, u)
theorem pSum_frame {f : jU → Int32 × jU} {o : Nat} {ch : Int32} (hf : ∀ v, only6 v (f v).2 ∧ (wfV v → wfV (f v).2)) : ∀ (n q : Nat) (z : Int32) (u : jU), q + n ≤ 12 → only6 u (pSum f o ch n q z u).2 ∧ (wfV u → wfV (pSum f o ch n q z u).2) := by
  intro n
  induction n with
  | zero => intro q z u _; exact ⟨only6_up u _ _, fun h => wfV_up h _ (Or.inl rfl)⟩
  | succ n ih =>
    intro q z u hq
    have hv : ∀ w : jU, wfV w → wfV (up w 6 o (nI q)) := fun w h => wfV_up h _ (Or.inr (inN_nI (by omega) (by decide)))
    have h1 := hf (up u 6 o (nI q))
    unfold pSum
    split
    · exact ih (q + 1) z u (by omega)
    · have h2 := ih (q + 1) (z + (f (up u 6 o (nI q))).1) (f (up u 6 o (nI q))).2 (by omega)
      exact ⟨((only6_up u _ _).tr h1.1).tr h2.1, fun h => h2.2 (h1.2 (hv u h))⟩
theorem pCount_frame (i : Nat) : ∀ (d n : Nat) (u : jU), only6 u (pCount i d n u).2 ∧ (wfV u → wfV (pCount i d n u).2) := by
  intro d
  induction d with
  | zero => intro n u; exact ⟨only6.rf u, fun h => h⟩
  | succ d ih =>
    intro n u
    unfold pCount
    split
    · split
      · exact pSum_frame (fun v => ih _ v) 12 0 0 u (by omega)
      · exact ⟨only6.rf u, fun h => h⟩
    · exact ⟨only6.rf u, fun h => h⟩
theorem inN_ltN {x : Int32} {B n : Nat} (h : inN x B) (hB : B ≤ 2 ^ 31) (hn : n < 2 ^ 31) : x < nI n ↔ tn x < n := by
  have h1 : tn x < 2 ^ 31 := Nat.lt_of_lt_of_le h.2 hB
  have h2 : nI (tn x) < nI n ↔ tn x < n := nI_ltI h1 hn
  rw [← h.1] at h2
  exact h2
-- what is seen
def pS1 (u : jU) (r a b : Int32) : jU := up u 7 (tn r * 12 + tn a) (u 7 (tn r * 12 + tn a) ||| 1 <<< (b &&& 31))
def pS2 (u : jU) (r a b : Int32) : jU := up (pS1 u r a b) 8 (tn r * 12 + tn b) (pS1 u r a b 8 (tn r * 12 + tn b) ||| 1 <<< (a &&& 31))
def pS3 (u : jU) (r a b : Int32) : jU := up (pS2 u r a b) 9 (tn r) (pS2 u r a b 9 (tn r) ||| 1 <<< (a &&& 31))
def pS4 (u : jU) (r a b : Int32) : jU := up (pS3 u r a b) 10 (tn r) (pS3 u r a b 10 (tn r) ||| 1 <<< (b &&& 31))
def pShow (u : jU) (r a b : Int32) : jU := if a = b then up (pS4 u r a b) 11 (tn r) (pS4 u r a b 11 (tn r) ||| 1 <<< (a &&& 31)) else pS4 u r a b
def pBlind (u : jU) : jU := pFill (pFill (pFill (pFill (pFill u 7 96) 8 96) 9 8) 10 8) 11 8
-- atoms and rules
theorem z01_n {z : Int32} (h : z = 0 ∨ z = 1) : narrow .boolean (.int z) = .int z := by rcases h with rfl | rfl <;> rfl
theorem z01_f {z : Int32} (h : z = 0 ∨ z = 1) : fits .boolean (.int z) = true := by rcases h with rfl | rfl <;> rfl
def pBecome (u : jU) (j : Nat) (r a b z : Int32) : jU := up (up (up (up u 16 j r) 17 j a) 18 j b) 19 j z
def pVars (u : jU) (j : Nat) : Int32 := ((1 <<< (u 17 j &&& 31)) ||| (1 <<< (u 18 j &&& 31))) &&& 15728640
def pBegin1 (u : jU) (i : Nat) (r a b : Int32) : jU := up (pBecome u (5 * i) r a b 0) 12 i 0
def pBegin (u : jU) (i : Nat) (r a b : Int32) : jU := up (up (up (pBegin1 u i r a b) 13 i (pVars (pBegin1 u i r a b) (5 * i))) 14 i 0) 15 i 0
def pFull (u : jU) (i : Nat) : Bool := decide (¬ u 12 i < 4)
def pAdd1 (u : jU) (i : Nat) (r a b z : Int32) : jU := pBecome u (5 * i + 1 + tn (u 12 i)) r a b z
def pAdd2 (u : jU) (i : Nat) (r a b z : Int32) : jU := up (pAdd1 u i r a b z) 12 i (pAdd1 u i r a b z 12 i + 1)
def pAdd3 (u : jU) (i : Nat) (r a b z : Int32) : jU := up (pAdd2 u i r a b z) 13 i (pAdd2 u i r a b z 13 i ||| pVars (pAdd2 u i r a b z) (5 * i + 1 + tn (u 12 i)))
def pAdd4 (u : jU) (i : Nat) (r a b z : Int32) : jU := up (pAdd3 u i r a b z) 14 i (pAdd3 u i r a b z 14 i ||| pVars (pAdd3 u i r a b z) (5 * i + 1 + tn (u 12 i)))
def pAdd (u : jU) (i : Nat) (r a b z : Int32) : jU :=
  if b2i (pFull u i) = 0 then (if z = 0 then up (pAdd4 u i r a b z) 15 i (pAdd4 u i r a b z 15 i ||| 1 <<< (r &&& 31)) else pAdd3 u i r a b z) else u
def pSafe (u : jU) (i : Nat) : Bool := decide (u 13 i = u 14 i)
def pLeast (u : jU) (i : Nat) : Nat → Int32
  | 0 => 0
  | q + 1 => if pLeast u i q < u 3 (tn (u 16 (5 * i + 1 + q))) + (if u 19 (5 * i + 1 + q) = 0 then 0 else 1) then u 3 (tn (u 16 (5 * i + 1 + q))) + (if u 19 (5 * i + 1 + q) = 0 then 0 else 1) else pLeast u i q
-- places and terms
def pFst (u : jU) (r a : Int32) : Int32 := if u 1 (tn r) < 1 then 0 else a
def pSnd (u : jU) (r b : Int32) : Int32 := if u 1 (tn r) < 2 then 0 else b
def pCon (x : Int32) : Bool := decide (¬ x < 0 ∧ ¬ 12 ≤ x)
def pTerm (x : Int32) : Bool := decide (¬ b2i (pCon x) = 0 ∨ (¬ x < 20 ∧ ¬ 24 ≤ x))
def pStale (u : jU) : jU := up (up u 0 3 0) 0 4 0
