-- the class's own work, fifth part: what is asked
theorem kp.wid {cs ds : List Nat} {u v : jU} (h : kp cs u v) (hs : ∀ c ∈ cs, c ∈ ds) : kp ds u v := fun c hc => h c (fun z => hc (hs c z))
theorem pLook_kp (ly lim : Int32) (u : jU) : kp [7, 8, 9, 10, 11] u (pLook ly lim u) :=
  (pBlind_kp u).tr (itN_inv (P := fun w => kp [7, 8, 9, 10, 11] (pBlind u) w) (kp.rf _ _) _ (fun i w _ hw => hw.tr (pLook1_kp ly lim i w)))
theorem pRankGiven_kp (u : jU) : kp [4] u (pRankGiven u) :=
  itN_inv (P := fun w => kp [4] u w) (kp.rf _ u) 96 (fun row w _ hw => itN_inv (P := fun w => kp [4] u w) hw 12 (fun q v _ hv => hv.tr (kp_up _ _ _ (by decide))))
def pE (u w : jU) : Prop := kp [4, 5, 6, 7, 8, 9, 10, 11] u w ∧ wfV w
theorem pE.wfH {u w : jU} (h : pE u w) (hH : wfH u) : wfH w := hH.kp h.1 (by decide) h.2
theorem pE.rd {u w : jU} (h : pE u w) (ly rd ch : Int32) : pE u (pShowFresh (pRound ly rd ch w)).2 := by
  have h1 := pRound_ok (u := w) (ly := ly) (rd := rd) (ch := ch) h.2
  have h2 := pShowFresh_kp (pRound ly rd ch w)
  exact ⟨(h.1.tr (h1.1.wid (by decide))).tr (h2.wid (by decide)), wfV_of h1.2 (h2 6 (by decide))⟩
theorem pRd_ok (ly : Int32) : ∀ (n rd : Nat) (ch : Int32) (u w : jU), pE u w → pE u (pRd ly n rd ch w) := by
  intro n
  induction n with
  | zero => intro rd ch u w h; exact h
  | succ n ih =>
    intro rd ch u w h
    unfold pRd
    split
    · exact h
    · exact ih _ _ _ _ (h.rd _ _ _)
theorem pLook_ok {u w : jU} (ly lim : Int32) (h : pE u w) : pE u (pLook ly lim w) := ⟨h.1.tr ((pLook_kp _ _ w).wid (by decide)), wfV_of h.2 (pLook_kp _ _ w 6 (by decide))⟩
theorem pLayer_ok {u w : jU} {q : Nat} (h : pE u w) : pE u (pLayer q w) := pRd_ok _ _ _ _ _ _ (pLook_ok _ _ h)
theorem pRankGiven_ok {u : jU} (hv : wfV u) : pE u (pRankGiven u) := ⟨(pRankGiven_kp u).wid (by decide), wfV_of hv (pRankGiven_kp u 6 (by decide))⟩
theorem pSettle1_ok {u : jU} (hv : wfV u) : pE u (pSettle1 u) := itN_inv (P := pE u) (pRankGiven_ok hv) _ (fun q w _ hw => pLayer_ok hw)
theorem pRd_zero (ly : Int32) (n rd : Nat) (u : jU) : pRd ly n rd 0 u = u := by
  cases n with
  | zero => rfl
  | succ n => rw [pRd, if_pos rfl]
/-- the same but for these components and the flags -/
def kz (cs : List Nat) (u v : jU) : Prop := kp (0 :: cs) u v ∧ v 0 0 = u 0 0 ∧ v 0 1 = u 0 1
theorem kz.rf (cs : List Nat) (u : jU) : kz cs u u := ⟨kp.rf _ u, rfl, rfl⟩
theorem kz.tr {cs : List Nat} {u v w : jU} (h : kz cs u v) (h2 : kz cs v w) : kz cs u w := ⟨h.1.tr h2.1, h2.2.1.trans h.2.1, h2.2.2.trans h.2.2⟩
theorem kz.up {cs : List Nat} (u : jU) {i : Nat} (hi : 2 ≤ i) (x : Int32) : kz cs u (up u 0 i x) := ⟨kp_up u i x List.mem_cons_self, up_idx u x (by omega), up_idx u x (by omega)⟩
theorem kz.of {cs ds : List Nat} {u v : jU} (h : kp cs u v) (hs : ∀ c ∈ cs, c ∈ ds) (h0 : 0 ∉ cs) : kz ds u v := ⟨h.wid (fun c hc => List.mem_cons_of_mem _ (hs c hc)), by rw [h 0 h0], by rw [h 0 h0]⟩
theorem wfH.kz {cs : List Nat} {u v : jU} (h : wfH u) (hk : kz cs u v) (hc : ∀ c ∈ [12, 16, 17, 18, 19], c ∉ 0 :: cs) (hv : wfV v) : wfH v := by
  refine ⟨h.1.ofc (hk.1 12 (hc _ (by decide))) (hk.1 16 (hc _ (by decide))) (hk.1 17 (hc _ (by decide))) (hk.1 18 (hc _ (by decide))) (hk.1 19 (hc _ (by decide))) hv, ?_, ?_⟩
  · rw [hk.2.1]; exact h.2.1
  · rw [hk.2.2]; exact h.2.2
theorem pJudge_kz (u : jU) : kz [3] u (pJudge u) := by
  have h1 : kz [3] u (pJudge1 u) := kz.up u (by decide) _
  have h2 : kz [3] u (pLayers (pJudge1 u)).2 := h1.tr (kz.of ((kp_fill (cs := [3]) _ _ (by decide)).tr (pFL_kp 8 _)) (fun _ h => h) (by decide))
  unfold pJudge
  split
  · split
    · split
      · exact (h2.tr (kz.up _ (by decide) _)).tr (kz.up _ (by decide) _)
      · exact h2.tr (kz.up _ (by decide) _)
    · exact h1.tr (kz.up _ (by decide) _)
  · exact kz.rf _ u
theorem pJudge_wf {u : jU} (hH : wfH u) : wfH (pJudge u) := hH.kz (pJudge_kz u) (by decide) (wfV_of hH.1.2.2 ((pJudge_kz u).1 6 (by decide)))
theorem pSettle_kz {u : jU} (hv : wfV u) : kz [4, 5, 6, 7, 8, 9, 10, 11] u (pSettle u) ∧ wfV (pSettle u) := by
  unfold pSettle
  split
  · have h := pSettle1_ok hv
    exact ⟨(kz.of h.1 (fun _ h => h) (by decide)).tr (kz.up _ (by decide) _), wfV_of h.2 (up_rows _ _ _ (by decide))⟩
  · exact ⟨kz.rf _ u, hv⟩
theorem pSettle_wf {u : jU} (hH : wfH u) : wfH (pSettle u) := hH.kz (pSettle_kz hH.1.2.2).1 (by decide) (pSettle_kz hH.1.2.2).2
/-- the layers have a top -/
def wfT (u : jU) : Prop := u 0 4 = 0 → inN (pTop (pRankGiven u) (tn (pRankGiven u 0 0))) 9
/-- the state behind judging and settling -/
def pJS (u : jU) : jU := pSettle (pJudge u)
theorem pJS_wf {u : jU} (hH : wfH u) : wfH (pJS u) := pSettle_wf (pJudge_wf hH)
theorem pJS_1 {u : jU} (hH : wfH u) : pJS u 1 = u 1 := ((pSettle_kz (pJudge_wf hH).1.2.2).1.1 1 (by decide)).trans ((pJudge_kz u).1 1 (by decide))
theorem pJS_00 {u : jU} (hH : wfH u) : pJS u 0 0 = u 0 0 := (pSettle_kz (pJudge_wf hH).1.2.2).1.2.1.trans (pJudge_kz u).2.1
theorem pJS_01 {u : jU} (hH : wfH u) : pJS u 0 1 = u 0 1 := (pSettle_kz (pJudge_wf hH).1.2.2).1.2.2.trans (pJudge_kz u).2.2
theorem pFst_eq {u w : jU} (h : w 1 = u 1) (r a : Int32) : pFst w r a = pFst u r a := by unfold pFst; rw [h]
theorem pSnd_eq {u w : jU} (h : w 1 = u 1) (r b : Int32) : pSnd w r b = pSnd u r b := by unfold pSnd; rw [h]
def pFx (u : jU) (r a b : Int32) : Nat := (tn r * 12 + tn (pFst u r a)) * 12 + tn (pSnd u r b)
theorem in_fact2 {r a b : Int32} (hr : inN r 8) (ha : inN a 12) (hb : inN b 12) : (r * 12 + a) * 12 + b = nI ((tn r * 12 + tn a) * 12 + tn b) := by
  have h := in_fact hr (tn a) (tn b)
  rw [← ha.1, ← hb.1] at h
  exact h
theorem fact2_lt {r a b : Int32} (hr : inN r 8) (ha : inN a 12) (hb : inN b 12) : (tn r * 12 + tn a) * 12 + tn b < 1152 := by
  have := hr.2; have := ha.2; have := hb.2; omega
def pcAsk (c0 : Option String) (u : jU) : Option String := if c0 = none then pcFault u else c0
def pAskJ (c0 : Option String) (u : jU) : jU := if c0 = none then pJudge u else u
def pAskS (c0 : Option String) (u : jU) : jU := if c0 = none then (if pcFault u = none then pJS u else pJudge u) else u
def pCn (w : jU) (b : Nat) : Nat → Int32
  | 0 => 0
  | n + 1 => if w 4 (b + n) = -1 then pCn w b n else pCn w b n + 1
/-- the ways, rule by rule -/
def pWays (r a b : Int32) : Nat → Nat → Int32 → jU → Int32 × jU
  | 0, _, z, u => (z, u)
  | n + 1, i, z, u => if b2i (pMeets u i r a b).1 = 0 then pWays r a b n (i + 1) z (pMeets u i r a b).2 else pWays r a b n (i + 1) (z + (pCount i 5 20 (pMeets u i r a b).2).1) (pCount i 5 20 (pMeets u i r a b).2).2
def pWy (u : jU) (r a b : Int32) : Int32 × jU := pWays r (pFst u r a) (pSnd u r b) (tn (u 0 1)) 0 0 (pLook (pJS u 3 (tn r)) 2147483647 (pJS u))
def pAskW (u : jU) (r a b : Int32) : jU := if pcFact u r a b = none then (if pcFault u = none then (pWy u r a b).2 else pJudge u) else u
def pPr (u : jU) (r a b : Int32) : Int32 × jU := pLR r (pFst u r a) (pSnd u r b) (tn (u 0 1)) 0 (pLook (pJS u 3 (tn r)) (pJS u 4 (pFx u r a b)) (pJS u))
/-- a proof's end: what is thrown, the answer, the state -/
def pPf (u : jU) (r a b t : Int32) : Option String × Int32 × jU :=
  if pcFact u r a b = none then
    (if t < 0 then (some xIA, 0, u) else if t ≤ 4 then
      (if pcFault u = none then
        (if pJS u 4 (pFx u r a b) = -1 then (some xNS, 0, pJS u) else if pJS u 4 (pFx u r a b) = 0 then (some xNS, 0, pJS u) else
          (if t = 0 then (none, (pPr u r a b).1, (pPr u r a b).2) else (none, (pPr u r a b).2 6 (19 + tn t), (pPr u r a b).2)))
       else (some xIS, 0, pJudge u))
     else (some xIA, 0, u))
  else (some xIA, 0, u)
theorem what_in {t : Int32} (h0 : ¬ t < 0) (h4 : t ≤ 4) : inN t 5 := by
  obtain ⟨j, hj, rfl⟩ := nI_of h0
  have h9 : j ≤ 4 := (nI_leI (b := 4) hj (by decide)).mp h4
  exact inN_nI (by omega) (by decide)
theorem what_ix {t : Int32} (h : inN t 5) (h0 : ¬ t = 0) : 20 + t - 1 = nI (19 + tn t) := by
  have h1 := nI_pred (19 + tn t)
  have h2 : nI 20 + nI (tn t) = nI (20 + tn t) := nI_add 20 (tn t)
  rw [← h.1] at h2
  rw [show (20 : Int32) + t = nI (19 + tn t + 1) from h2.trans (congrArg nI (by omega))]
  exact h1
theorem what_lt {t : Int32} (h : inN t 5) : 19 + tn t < 24 := by have := h.2; omega
theorem fact_snd2 {u : jU} {r a b : Int32} (h : pcFact u r a b = none) : inN (pFst u r a) 12 ∧ inN (pSnd u r b) 12 := ⟨fact_fst h, fact_snd h⟩
theorem pLayer_eq (q : Nat) (w : jU) : pRd (nI q) (1154 - 1) 1 255 (pLook (nI q) 1 w) = pLayer q w := by
  have h : (1154 - 1 : Nat) = 1153 := by decide
  rw [h]
  unfold pLayer
  exact Eq.refl _
theorem n1153 : (1153 : Int32) = nI 1153 := by decide +kernel
theorem rd_gt {rd : Nat} (h : rd < 2 ^ 31) : (1153 : Int32) < nI rd ↔ 1153 < rd := by
  rw [n1153]
  exact nI_ltI (by decide) h
