-- the class's own work, third part: the house
/-- only the components cs differ -/
def kp (cs : List Nat) (u v : jU) : Prop := ∀ c, c ∉ cs → v c = u c
theorem kp.rf (cs : List Nat) (u : jU) : kp cs u u := fun _ _ => rfl
theorem kp.tr {cs : List Nat} {u v w : jU} (h : kp cs u v) (h2 : kp cs v w) : kp cs u w := fun c hc => (h2 c hc).trans (h c hc)
theorem kp_up {cs : List Nat} (u : jU) {c : Nat} (i : Nat) (x : Int32) (h : c ∈ cs) : kp cs u (up u c i x) := fun c' hc => up_rows u i x (fun e => hc (e ▸ h))
theorem kp_fill {cs : List Nat} (u : jU) {c : Nat} (n : Nat) (h : c ∈ cs) : kp cs u (pFill u c n) := fun c' hc => by
  funext j
  have : c' ≠ c := fun e => hc (e ▸ h)
  simp [pFill, this]
theorem only6.kp {cs : List Nat} {u v : jU} (h : only6 u v) (h6 : 6 ∈ cs) : kp cs u v := fun c hc => h c (fun e => hc (e ▸ h6))
theorem wfV_of {u v : jU} (h : wfV u) (e : v 6 = u 6) : wfV v := by
  intro t ht
  have := h t ht
  rw [← e] at this
  exact this
theorem wfM.ofc {u v : jU} (h : wfM u) (e12 : v 12 = u 12) (e16 : v 16 = u 16) (e17 : v 17 = u 17) (e18 : v 18 = u 18) (e19 : v 19 = u 19) (hv : wfV v) : wfM v := by
  refine ⟨fun i hi => ?_, fun j hj => ?_, hv⟩
  · have := h.1 i hi
    unfold wfS at this ⊢
    rw [e12]; exact this
  · have := h.2.1 j hj
    unfold wfA at this ⊢
    rw [e16, e17, e18, e19]; exact this
/-- the house in its bounds: at most eight relations, at most sixteen rules -/
def wfH (u : jU) : Prop := wfM u ∧ inN (u 0 0) 9 ∧ inN (u 0 1) 17
theorem wfH.kp {cs : List Nat} {u v : jU} (h : wfH u) (hk : kp cs u v) (hc : ∀ c ∈ [0, 12, 16, 17, 18, 19], c ∉ cs) (hv : wfV v) : wfH v := by
  refine ⟨h.1.ofc (hk 12 (hc _ (by decide))) (hk 16 (hc _ (by decide))) (hk 17 (hc _ (by decide))) (hk 18 (hc _ (by decide))) (hk 19 (hc _ (by decide))) hv, ?_, ?_⟩
  · rw [hk 0 (hc _ (by decide))]; exact h.2.1
  · rw [hk 0 (hc _ (by decide))]; exact h.2.2
def itN (f : Nat → jU → jU) : Nat → jU → jU
  | 0, u => u
  | n + 1, u => f n (itN f n u)
theorem itN_0 (f : Nat → jU → jU) (u : jU) : itN f 0 u = u := rfl
theorem itN_s (f : Nat → jU → jU) (n : Nat) (u : jU) : itN f (n + 1) u = f n (itN f n u) := rfl
theorem itN_inv {f : Nat → jU → jU} {P : jU → Prop} {u : jU} (h0 : P u) : ∀ n, (∀ q w, q < n → P w → P (f q w)) → P (itN f n u) := by
  intro n
  induction n with
  | zero => intro _; exact h0
  | succ n ih => intro hs; exact hs n _ (by omega) (ih (fun q w hq => hs q w (by omega)))
theorem nI_row (row q : Nat) : nI row * 12 + nI q = nI (row * 12 + q) := by
  show nI row * nI 12 + nI q = _
  rw [pk_mul, nI_add]
theorem in_rowN {r : Int32} (hr : inN r 8) (a : Nat) : r * 12 + nI a = nI (tn r * 12 + a) := by
  have h := nI_row (tn r) a
  rw [← hr.1] at h
  exact h
theorem in_fact {r : Int32} (hr : inN r 8) (a b : Nat) : (r * 12 + nI a) * 12 + nI b = nI ((tn r * 12 + a) * 12 + b) := by
  rw [in_rowN hr, nI_row]
def pUns (u : jU) : Nat → Nat → Int32
  | 0, _ => -1
  | d + 1, i => if b2i (pSafe u i) = 0 then nI i else pUns u d (i + 1)
def pRs (u : jU) : Nat → Int32 × jU
  | 0 => (0, u)
  | i + 1 => if pLeast (pRs u i).2 i (tn ((pRs u i).2 12 i)) ≤ (pRs u i).2 3 (tn ((pRs u i).2 16 (5 * i))) then pRs u i else (1, up (pRs u i).2 3 (tn ((pRs u i).2 16 (5 * i))) (pLeast (pRs u i).2 i (tn ((pRs u i).2 12 i))))
theorem pRs_kp (u : jU) : ∀ n, kp [3] u (pRs u n).2 := by
  intro n
  induction n with
  | zero => exact kp.rf _ u
  | succ n ih =>
    unfold pRs
    split
    · exact ih
    · exact ih.tr (kp_up _ _ _ (by decide))
theorem pRs_01 (u : jU) : ∀ n, (pRs u n).1 = 0 ∨ (pRs u n).1 = 1 := by
  intro n
  induction n with
  | zero => exact Or.inl rfl
  | succ n ih =>
    unfold pRs
    split
    · exact ih
    · exact Or.inr rfl
def pFL : Nat → jU → Bool × jU
  | 0, u => (false, u)
  | n + 1, u => if (pRs u (tn (u 0 1))).1 = 0 then (true, (pRs u (tn (u 0 1))).2) else pFL n (pRs u (tn (u 0 1))).2
theorem pFL_kp : ∀ (n : Nat) (u : jU), kp [3] u (pFL n u).2 := by
  intro n
  induction n with
  | zero => intro u; exact kp.rf _ u
  | succ n ih =>
    intro u
    unfold pFL
    split
    · exact pRs_kp u _
    · exact (pRs_kp u _).tr (ih _)
def pLayers (u : jU) : Bool × jU := pFL 8 (pFill u 3 8)
def pJudge1 (u : jU) : jU := up u 0 2 (pUns u (tn (u 0 1)) 0)
def pJudge (u : jU) : jU :=
  if u 0 3 = 0 then
    (if pJudge1 u 0 2 = -1 then (if b2i (pLayers (pJudge1 u)).1 = 0 then up (up (pLayers (pJudge1 u)).2 0 2 100) 0 3 1 else up (pLayers (pJudge1 u)).2 0 3 1) else up (pJudge1 u) 0 3 1)
  else u
def pTop (u : jU) : Nat → Int32
  | 0 => 0
  | i + 1 => if pTop u i < u 3 i then u 3 i else pTop u i
def pRG (row q : Nat) (w : jU) : jU := up w 4 (row * 12 + q) (if b2i (hb (w 2 row) (nI q)) = 0 then -1 else 0)
def pRow (row : Nat) (w : jU) : jU := itN (pRG row) 12 w
def pRankGiven (u : jU) : jU := itN pRow 96 u
def pLk (r : Nat) (lim : Int32) (a b : Nat) (w : jU) : jU := if w 4 ((r * 12 + a) * 12 + b) = -1 then w else if lim ≤ w 4 ((r * 12 + a) * 12 + b) then w else pShow w (nI r) (nI a) (nI b)
def pLk1 (r : Nat) (lim : Int32) (a : Nat) (w : jU) : jU := itN (pLk r lim a) 12 w
def pLookAt (r : Nat) (lim : Int32) (u : jU) : jU := itN (pLk1 r lim) 12 u
def pLook1 (ly lim : Int32) (i : Nat) (w : jU) : jU := if ly < w 3 i then w else if ly ≤ w 3 i then pLookAt i lim w else pLookAt i 2147483647 w
def pLook (ly lim : Int32) (u : jU) : jU := itN (pLook1 ly lim) (tn (u 0 0)) (pBlind u)
theorem pShow_kp (u : jU) (r a b : Int32) : kp [7, 8, 9, 10, 11] u (pShow u r a b) := by
  have h4 : kp [7, 8, 9, 10, 11] u (pS4 u r a b) := (kp_up u _ _ (by decide)).tr ((kp_up _ _ _ (by decide)).tr ((kp_up _ _ _ (by decide)).tr (kp_up _ _ _ (by decide))))
  unfold pShow
  split
  · exact h4.tr (kp_up _ _ _ (by decide))
  · exact h4
theorem pBlind_kp (u : jU) : kp [7, 8, 9, 10, 11] u (pBlind u) := (kp_fill u _ (by decide)).tr ((kp_fill _ _ (by decide)).tr ((kp_fill _ _ (by decide)).tr ((kp_fill _ _ (by decide)).tr (kp_fill _ _ (by decide)))))
theorem pLookAt_kp (r : Nat) (lim : Int32) (u : jU) : kp [7, 8, 9, 10, 11] u (pLookAt r lim u) := by
  refine itN_inv (P := fun w => kp [7, 8, 9, 10, 11] u w) (kp.rf _ u) 12 (fun a w _ hw => ?_)
  refine itN_inv (P := fun w => kp [7, 8, 9, 10, 11] u w) hw 12 (fun b v _ hv => ?_)
  unfold pLk
  split
  · exact hv
  · split
    · exact hv
    · exact hv.tr (pShow_kp _ _ _ _)
theorem pLook1_kp (ly lim : Int32) (i : Nat) (w : jU) : kp [7, 8, 9, 10, 11] w (pLook1 ly lim i w) := by
  unfold pLook1
  split
  · exact kp.rf _ w
  · split
    · exact pLookAt_kp _ _ _
    · exact pLookAt_kp _ _ _
