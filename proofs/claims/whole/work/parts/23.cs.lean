-- the class's own work, fourth part: rounds
theorem hb0 (i : Int32) : hb 0 i = false := by simp [hb]
/-- what the round brought is shown, row by row: the relations that changed, the state -/
def pSh (row : Nat) (q : Nat) (w : Int32 × jU) : Int32 × jU := if b2i (hb (w.2 5 row) (nI q)) = 0 then w else (w.1 ||| 1 <<< (nI (row / 12) &&& 31), pShow w.2 (nI (row / 12)) (nI (row % 12)) (nI q))
def itS (f : Nat → Int32 × jU → Int32 × jU) : Nat → Int32 × jU → Int32 × jU
  | 0, u => u
  | n + 1, u => f n (itS f n u)
theorem itS_0 (f : Nat → Int32 × jU → Int32 × jU) (u : Int32 × jU) : itS f 0 u = u := rfl
theorem itS_s (f : Nat → Int32 × jU → Int32 × jU) (n : Nat) (u : Int32 × jU) : itS f (n + 1) u = f n (itS f n u) := rfl
theorem pSh_kp (row : Nat) (w : Int32 × jU) : ∀ n, kp [7, 8, 9, 10, 11] w.2 (itS (pSh row) n w).2 := by
  intro n
  induction n with
  | zero => exact kp.rf _ _
  | succ n ih =>
    rw [itS_s, pSh]
    split
    · exact ih
    · exact ih.tr (pShow_kp _ _ _ _)
theorem pSh_zero {row : Nat} {w : Int32 × jU} (h : w.2 5 row = 0) : ∀ n, itS (pSh row) n w = w := by
  intro n
  induction n with
  | zero => rfl
  | succ n ih => rw [itS_s, ih, pSh, h, hb0]; rfl
def pSh1 (row : Nat) (w : Int32 × jU) : Int32 × jU := ((itS (pSh row) 12 w).1, up (itS (pSh row) 12 w).2 5 row 0)
def pShowFresh (u : jU) : Int32 × jU := itS pSh1 96 (0, u)
theorem pSh1_kp (row : Nat) (w : Int32 × jU) : kp [5, 7, 8, 9, 10, 11] w.2 (pSh1 row w).2 :=
  fun c hc => (up_rows _ _ _ (fun e => hc (by rw [e]; decide))).trans (pSh_kp row w 12 c (fun h => hc (List.mem_cons_of_mem _ h)))
theorem pShowFresh_kp (u : jU) : kp [5, 7, 8, 9, 10, 11] u (pShowFresh u).2 := by
  have : ∀ n, kp [5, 7, 8, 9, 10, 11] u (itS pSh1 n (0, u)).2 := by
    intro n
    induction n with
    | zero => exact kp.rf _ _
    | succ n ih => rw [itS_s]; exact ih.tr (pSh1_kp _ _)
  exact this 96
def pMark (w : jU) (row q : Nat) (rd : Int32) : jU := up (up w 4 (row * 12 + q) rd) 5 row (up w 4 (row * 12 + q) rd 5 row ||| 1 <<< (nI q &&& 31))
def pB2 (i : Nat) (rd : Int32) (a row : Nat) (sc : Int32) (q : Nat) (w : jU) : jU :=
  if b2i (hb sc (nI q)) = 0 then w else
  if b2i (pMeets w i (w 16 (5 * i)) (nI a) (nI q)).1 = 0 then (pMeets w i (w 16 (5 * i)) (nI a) (nI q)).2 else
  if b2i (pFind i 5 20 (pMeets w i (w 16 (5 * i)) (nI a) (nI q)).2).1 = 0 then (pFind i 5 20 (pMeets w i (w 16 (5 * i)) (nI a) (nI q)).2).2 else
  pMark (pFind i 5 20 (pMeets w i (w 16 (5 * i)) (nI a) (nI q)).2).2 row q rd
theorem pMeets_ok {u : jU} (i : Nat) (r a b : Int32) (ha : inN a 12) (hb12 : inN b 12) : only6 u (pMeets u i r a b).2 ∧ (wfV u → wfV (pMeets u i r a b).2) := by
  have o1 : only6 u (pMeets1 u i a) := (only6_forget u).tr (only6_bind _ _ _)
  have o2 : only6 u (pMeets2 u i a b) := o1.tr (only6_bind _ _ _)
  unfold pMeets
  split
  · split
    · exact ⟨o1, fun h => wfV_bind (wfV_forget h) _ ha⟩
    · split
      · exact ⟨o2, fun h => wfV_bind (wfV_bind (wfV_forget h) _ ha) _ hb12⟩
      · exact ⟨o2, fun h => wfV_bind (wfV_bind (wfV_forget h) _ ha) _ hb12⟩
  · exact ⟨only6_forget u, wfV_forget⟩
/-- a state of the rounds: only ranks, what is fresh and the values of terms have changed, and the values are in their bounds -/
def pR (u w : jU) : Prop := kp [4, 5, 6] u w ∧ wfV w
theorem pB2_ok {u w : jU} {i : Nat} {rd : Int32} {a row : Nat} {sc : Int32} {q : Nat} (ha : a < 12) (hq : q < 12) (h : pR u w) : pR u (pB2 i rd a row sc q w) := by
  have hm := pMeets_ok (u := w) i (w 16 (5 * i)) (nI a) (nI q) (inN_nI ha (by decide)) (inN_nI hq (by decide))
  have hf := pFind_frame i 5 20 (pMeets w i (w 16 (5 * i)) (nI a) (nI q)).2
  have km := h.1.tr (hm.1.kp (cs := [4, 5, 6]) (by decide))
  have kf := km.tr (hf.1.kp (cs := [4, 5, 6]) (by decide))
  unfold pB2
  split
  · exact h
  · split
    · exact ⟨km, hm.2 h.2⟩
    · split
      · exact ⟨kf, hf.2 (hm.2 h.2)⟩
      · exact ⟨kf.tr ((kp_up _ _ _ (by decide)).tr (kp_up _ _ _ (by decide))), wfV_of (hf.2 (hm.2 h.2)) ((up_rows _ _ _ (by decide)).trans (up_rows _ _ _ (by decide)))⟩
theorem pB2_zero (i : Nat) (rd : Int32) (a row : Nat) (w : jU) : ∀ n, itN (pB2 i rd a row 0) n w = w := by
  intro n
  induction n with
  | zero => rfl
  | succ n ih => rw [itN_s, ih, pB2, hb0]; rfl
def pRowOf (i a : Nat) (w : jU) : Nat := tn (w 16 (5 * i)) * 12 + a
def pB1w (i a : Nat) (w : jU) : jU := pBind (pForget w) (pForget w 17 (5 * i)) (nI a)
def pB1s (i a : Nat) (w : jU) : Int32 := pChoices (pB1w i a w) i (pB1w i a w 18 (5 * i)) &&& ((w 7 (pRowOf i a w) ||| w 5 (pRowOf i a w)) ^^^ (-1))
def pB1 (i : Nat) (rd fs : Int32) (a : Nat) (w : jU) : jU := if b2i (hb fs (nI a)) = 0 then w else itN (pB2 i rd a (pRowOf i a w) (pB1s i a w)) 12 (pB1w i a w)
def pBring (i : Nat) (rd : Int32) (u : jU) : jU := itN (pB1 i rd (pChoices (pForget u) i (pForget u 17 (5 * i)))) 12 (pForget u)
theorem pB1w_ok {u w : jU} {i a : Nat} (ha : a < 12) (h : pR u w) : pR u (pB1w i a w) :=
  ⟨h.1.tr (((only6_forget w).tr (only6_bind _ _ _)).kp (by decide)), wfV_bind (wfV_forget h.2) _ (inN_nI ha (by decide))⟩
theorem pB1_ok {u w : jU} {i : Nat} {rd fs : Int32} {a : Nat} (ha : a < 12) (h : pR u w) : pR u (pB1 i rd fs a w) := by
  unfold pB1
  split
  · exact h
  · exact itN_inv (P := pR u) (pB1w_ok ha h) 12 (fun q v hq hv => pB2_ok ha hq hv)
theorem pBring_ok {u w : jU} {i : Nat} {rd : Int32} (h : pR u w) : pR u (pBring i rd w) :=
  itN_inv (P := pR u) ⟨h.1.tr ((only6_forget w).kp (by decide)), wfV_forget h.2⟩ 12 (fun a v ha hv => pB1_ok ha hv)
theorem pR.wfM {u w : jU} (h : pR u w) (hM : wfM u) : wfM w := hM.ofc (h.1 12 (by decide)) (h.1 16 (by decide)) (h.1 17 (by decide)) (h.1 18 (by decide)) (h.1 19 (by decide)) h.2
theorem pR.wfH {u w : jU} (h : pR u w) (hH : wfH u) : wfH w := hH.kp h.1 (by decide) h.2
def pBR (ly rd ch : Int32) (i : Nat) (w : jU) : jU := if w 3 (tn (w 16 (5 * i))) = ly then (if rd = 1 then pBring i rd w else if w 15 i &&& ch = 0 then w else pBring i rd w) else w
def pRound (ly rd ch : Int32) (u : jU) : jU := itN (pBR ly rd ch) (tn (u 0 1)) u
theorem pBR_ok {u w : jU} {ly rd ch : Int32} {i : Nat} (h : pR u w) : pR u (pBR ly rd ch i w) := by
  unfold pBR
  split
  · split
    · exact pBring_ok h
    · split
      · exact h
      · exact pBring_ok h
  · exact h
theorem pRound_ok {u : jU} {ly rd ch : Int32} (hv : wfV u) : pR u (pRound ly rd ch u) := itN_inv (P := pR u) ⟨kp.rf _ u, hv⟩ _ (fun i w _ hw => pBR_ok hw)
/-- the rounds of a layer, from round rd on, at most n of them -/
def pRd (ly : Int32) : Nat → Nat → Int32 → jU → jU
  | 0, _, _, u => u
  | n + 1, rd, ch, u => if ch = 0 then u else pRd ly n (rd + 1) (pShowFresh (pRound ly (nI rd) ch u)).1 (pShowFresh (pRound ly (nI rd) ch u)).2
def pLayer (ly : Nat) (w : jU) : jU := pRd (nI ly) 1153 1 255 (pLook (nI ly) 1 w)
def pSettle1 (u : jU) : jU := itN pLayer (tn (pTop (pRankGiven u) (tn (pRankGiven u 0 0))) + 1) (pRankGiven u)
def pSettle (u : jU) : jU := if u 0 4 = 0 then up (pSettle1 u) 0 4 1 else u
/-- the first rule that brings the fact, its values left in the terms -/
def pLR (r a b : Int32) : Nat → Nat → jU → Int32 × jU
  | 0, _, u => (-1, u)
  | n + 1, i, u => if b2i (pMeets u i r a b).1 = 0 then pLR r a b n (i + 1) (pMeets u i r a b).2 else if b2i (pFind i 5 20 (pMeets u i r a b).2).1 = 0 then pLR r a b n (i + 1) (pFind i 5 20 (pMeets u i r a b).2).2 else (nI i, (pFind i 5 20 (pMeets u i r a b).2).2)
