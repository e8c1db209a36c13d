-- the face of the class: what each call throws, answers and leaves
def xIA : String := "java/lang/IllegalArgumentException"
def xIS : String := "java/lang/IllegalStateException"
def xUO : String := "java/lang/UnsupportedOperationException"
def xNS : String := "java/util/NoSuchElementException"
theorem if_so {c : Option String} {x : String} (h : c = some x) (a b : jU) : (if c = none then a else b) = b := by rw [h]; rfl
theorem if_no {c : Option String} (h : c = none) (a b : jU) : (if c = none then a else b) = a := if_pos h
def pcRel (u : jU) (r : Int32) : Option String := if r < 0 then some xIA else if r < u 0 0 then none else some xIA
def pcFact (u : jU) (r a b : Int32) : Option String := if pcRel u r = none then (if b2i (pCon (pFst u r a)) = 0 then some xIA else if b2i (pCon (pSnd u r b)) = 0 then some xIA else none) else some xIA
def pcTerms (u : jU) (r a b : Int32) : Option String := if pcRel u r = none then (if b2i (pTerm (pFst u r a)) = 0 then some xIA else if b2i (pTerm (pSnd u r b)) = 0 then some xIA else none) else some xIA
def pcRule (u : jU) : Option String := if u 0 1 = 0 then some xIS else none
def pcFault (u : jU) : Option String := if pJudge u 0 2 = -1 then none else some xIS
theorem pcRel_some {u : jU} {r : Int32} {cn : String} (h : pcRel u r = some cn) : cn = xIA := by
  unfold pcRel at h
  split at h
  · exact (Option.some.inj h).symm
  · split at h
    · cases h
    · exact (Option.some.inj h).symm
theorem pcFact_some {u : jU} {r a b : Int32} {cn : String} (h : pcFact u r a b = some cn) : cn = xIA := by
  unfold pcFact at h
  split at h
  · split at h
    · exact (Option.some.inj h).symm
    · split at h
      · exact (Option.some.inj h).symm
      · cases h
  · exact (Option.some.inj h).symm
theorem pcTerms_some {u : jU} {r a b : Int32} {cn : String} (h : pcTerms u r a b = some cn) : cn = xIA := by
  unfold pcTerms at h
  split at h
  · split at h
    · exact (Option.some.inj h).symm
    · split at h
      · exact (Option.some.inj h).symm
      · cases h
  · exact (Option.some.inj h).symm
theorem pcRule_some {u : jU} {cn : String} (h : pcRule u = some cn) : cn = xIS := by
  unfold pcRule at h
  split at h
  · exact (Option.some.inj h).symm
  · cases h
theorem pcFault_some {u : jU} {cn : String} (h : pcFault u = some cn) : cn = xIS := by
  unfold pcFault at h
  split at h
  · cases h
  · exact (Option.some.inj h).symm
theorem inN_of {x : Int32} {n : Nat} (h0 : ¬ x < 0) (h : x < nI n) (hn : n < 2 ^ 31) : inN x n := by
  obtain ⟨j, hj, rfl⟩ := nI_of h0
  have := (nI_ltI hj hn).mp h
  exact inN_nI this (by omega)
theorem rel_lt {u : jU} (hH : wfH u) {r : Int32} (h : pcRel u r = none) : inN r (tn (u 0 0)) := by
  unfold pcRel at h
  split at h
  · cases h
  · rename_i h0
    split at h
    · rename_i h1
      have h9 := hH.2.1
      rw [h9.1] at h1
      have h8 := h9.2
      exact inN_of h0 h1 (by omega)
    · cases h
theorem rel_in {u : jU} (hH : wfH u) {r : Int32} (h : pcRel u r = none) : inN r 8 := (rel_lt hH h).mono (by have := hH.2.1.2; omega)
theorem con_in {x : Int32} (h : ¬ b2i (pCon x) = 0) : inN x 12 := by
  have h1 := b2i_1 h
  unfold pCon at h1
  have h2 : ¬ x < 0 ∧ ¬ 12 ≤ x := by simpa using h1
  exact inN_of h2.1 (show x < 12 from Int32.not_le.mp h2.2) (by decide)
theorem fact_rel {u : jU} {r a b : Int32} (h : pcFact u r a b = none) : pcRel u r = none := by
  unfold pcFact at h
  split at h
  · assumption
  · cases h
theorem fact_fst {u : jU} {r a b : Int32} (h : pcFact u r a b = none) : inN (pFst u r a) 12 := by
  unfold pcFact at h
  split at h
  · split at h
    · cases h
    · exact con_in ‹_›
  · cases h
theorem fact_snd {u : jU} {r a b : Int32} (h : pcFact u r a b = none) : inN (pSnd u r b) 12 := by
  unfold pcFact at h
  split at h
  · split at h
    · cases h
    · split at h
      · cases h
      · exact con_in ‹_›
  · cases h
theorem terms_rel {u : jU} {r a b : Int32} (h : pcTerms u r a b = none) : pcRel u r = none := by
  unfold pcTerms at h
  split at h
  · assumption
  · cases h
def pGRow (u : jU) (r a : Int32) : Nat := tn r * 12 + tn (pFst u r a)
def pSG (u : jU) (r a b z : Int32) : Int32 × jU :=
  if b2i (hb (u 2 (pGRow u r a)) (pSnd u r b)) = z then (0, u) else (1, up (up u 2 (pGRow u r a) (u 2 (pGRow u r a) ^^^ 1 <<< (pSnd u r b &&& 31))) 0 4 0)
def pcGive (u : jU) (r a b : Int32) : Option String := pcFact u r a b
def pGive (u : jU) (r a b z : Int32) : jU := if pcFact u r a b = none then (pSG u r a b z).2 else u
def pcRelation (u : jU) (n : Int32) : Option String := if n < 0 then some xIA else if n ≤ 2 then (if u 0 0 < 8 then none else some xUO) else some xIA
def pRelation1 (u : jU) (n : Int32) : jU := up u 1 (tn (u 0 0)) n
def pRelation2 (u : jU) (n : Int32) : jU := pStale (up (pRelation1 u n) 0 0 (pRelation1 u n 0 0 + 1))
def pRelation (u : jU) (n : Int32) : jU := if pcRelation u n = none then pRelation2 u n else u
def pClear (u : jU) : jU := pStale (up (up (pFill u 2 96) 0 0 0) 0 1 0)
def pcRuleC (u : jU) (r a b : Int32) : Option String := if pcTerms u r a b = none then (if u 0 1 < 16 then none else some xUO) else some xIA
def pRule1 (u : jU) (r a b : Int32) : jU := pBegin u (tn (u 0 1)) r (pFst u r a) (pSnd u r b)
def pRule2 (u : jU) (r a b : Int32) : jU := pStale (up (pRule1 u r a b) 0 1 (pRule1 u r a b 0 1 + 1))
def pRuleC (u : jU) (r a b : Int32) : jU := if pcRuleC u r a b = none then pRule2 u r a b else u
def pcLit (u : jU) (r a b : Int32) : Option String := if pcRule u = none then (if pcTerms u r a b = none then (if b2i (pFull u (tn (u 0 1) - 1)) = 0 then none else some xUO) else some xIA) else some xIS
def pLit1 (u : jU) (r a b z : Int32) : jU := pStale (pAdd u (tn (u 0 1) - 1) r (pFst u r a) (pSnd u r b) z)
def pLit (u : jU) (r a b z : Int32) : jU := if pcLit u r a b = none then pLit1 u r a b z else u
def pUnrule (u : jU) : jU := if pcRule u = none then pStale (up u 0 1 (u 0 1 - 1)) else u
def pcLayer (u : jU) (r : Int32) : Option String := if pcRel u r = none then pcFault u else some xIA
def pQ (u : jU) (c : Option String) : jU := if c = none then pJudge u else u
theorem pSG_01 (u : jU) (r a b z : Int32) : (pSG u r a b z).1 = 0 ∨ (pSG u r a b z).1 = 1 := by
  unfold pSG
  split
  · exact Or.inl rfl
  · exact Or.inr rfl
theorem rule_pos {u : jU} (hH : wfH u) (h : pcRule u = none) : 0 < tn (u 0 1) := by
  unfold pcRule at h
  split at h
  · cases h
  · rename_i h0
    refine Nat.pos_of_ne_zero (fun e => h0 ?_)
    rw [hH.2.2.1, e]; rfl
theorem rule_lt {u : jU} (hH : wfH u) (h : pcRule u = none) : tn (u 0 1) - 1 < 16 := by
  have := hH.2.2.2; have := rule_pos hH h; omega
theorem rule_ix {u : jU} (hH : wfH u) (h : pcRule u = none) : u 0 1 - 1 = nI (tn (u 0 1) - 1) := by
  have h0 := rule_pos hH h
  have h1 := nI_pred (tn (u 0 1) - 1)
  rw [show tn (u 0 1) - 1 + 1 = tn (u 0 1) by omega, ← hH.2.2.1] at h1
  exact h1
