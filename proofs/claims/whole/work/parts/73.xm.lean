-- the mathematics, thirteenth part: a rule's head is met
theorem pBind_at (y : jU) (t z : Int32) : pBind y t z 6 (tn t) = if y 6 (tn t) = -1 then z else y 6 (tn t) := by
  unfold pBind
  split
  · rw [up_same]
  · rfl
theorem bind_srch {y : jU} {h : Nat → Bool} {i : Nat} (hs : srch y h i) {t : Int32} (ht : tm t) {a : Nat} (ha : a < 12) : srch (pBind y t (nI a)) h i := by
  unfold pBind
  split
  · rename_i h1
    exact hs.up (open_var hs.2.2.2.1 ht h1) (Or.inr (inN_nI ha (by decide)))
  · exact hs
theorem tvx_var {x : Nat → Nat} {t : Int32} (h : 20 ≤ tn t) : tvx x t = x (tn t - 20) := by unfold tvx; rw [if_neg (by omega)]
theorem tv_val {y : jU} {h : Nat → Bool} {i : Nat} (hs : srch y h i) {t : Int32} (ht : tm t) (hm : ∀ v, v < 4 → tn t = 20 + v → mkx y i v = true) {x : Nat → Nat} (hx : ∀ v, x v < 12) (he : extm y i x) {c : Nat} (hc : c < 12) (hv : y 6 (tn t) = nI c) : tvx x t = c := by
  have h1 := (tv_ext hs he ht hm).resolve_left (by rw [hv]; exact nI_m1 (by omega))
  rw [hv] at h1
  have := tvx_lt hx ht
  exact (nI_inj (by omega) (by omega) h1).symm
theorem bind_yes {y : jU} {h : Nat → Bool} {i : Nat} (hs : srch y h i) {t : Int32} (ht : tm t) (hm : ∀ v, v < 4 → tn t = 20 + v → mkx y i v = true) {a : Nat} (ha : a < 12) (hb' : pBound y t (nI a) = true) {x : Nat → Nat} (hx : ∀ v, x v < 12) : extm (pBind y t (nI a)) i x ↔ extm y i x ∧ tvx x t = a := by
  unfold pBound at hb'
  rw [decide_eq_true_iff, pBind_at] at hb'
  have h24 := tm_lt ht
  unfold pBind
  by_cases c : y 6 (tn t) = -1
  · rw [if_pos c]
    have h20 := open_var hs.2.2.2.1 ht c
    rw [extm_up h20 h24 ha c (hm (tn t - 20) (by omega) (by omega)) hx, tvx_var h20]
  · rw [if_neg c] at hb' ⊢
    exact ⟨fun h1 => ⟨h1, tv_val hs ht hm hx h1 ha hb'⟩, fun h1 => h1.1⟩
theorem bind_no {y : jU} {h : Nat → Bool} {i : Nat} (hs : srch y h i) {t : Int32} (ht : tm t) (hm : ∀ v, v < 4 → tn t = 20 + v → mkx y i v = true) {a : Nat} (ha : a < 12) (hb' : pBound y t (nI a) = false) {x : Nat → Nat} (hx : ∀ v, x v < 12) (he : extm y i x) : ¬ tvx x t = a := by
  unfold pBound at hb'
  rw [decide_eq_false_iff_not, pBind_at] at hb'
  intro e
  rcases tv_ext hs he ht hm with h1 | h1
  · rw [if_pos h1] at hb'; exact hb' rfl
  · rw [h1, if_neg (nI_m1 (by have := tvx_lt hx ht; omega)), e] at hb'; exact hb' rfl
theorem bind_mk {y : jU} {t z : Int32} {i v : Nat} (hc : cst y) (ht : tm t) (hm : ∀ v, v < 4 → tn t = 20 + v → mkx y i v = true) (hv : v < 4) (hn : mkx y i v = false) : pBind y t z 6 (20 + v) = y 6 (20 + v) := by
  unfold pBind
  split
  · rw [up_idx]
    intro e
    have := hm v hv e.symm
    rw [hn] at this; cases this
  · rfl
theorem forget_6 (u : jU) : (∀ v, v < 4 → pForget u 6 (20 + v) = -1) ∧ (∀ c, c < 20 → pForget u 6 c = u 6 c) := by
  constructor
  · intro v hv
    match v, hv with
    | 0, _ => rfl
    | 1, _ => rfl
    | 2, _ => rfl
    | 3, _ => rfl
  · intro c hc
    unfold pForget
    rw [up_idx _ _ (by omega), up_idx _ _ (by omega), up_idx _ _ (by omega), up_idx _ _ (by omega)]
theorem forget_srch {u : jU} {h : Nat → Bool} {i : Nat} (hs : srch u h i) : srch (pForget u) h i := hs.of (only6_forget u) (fun c hc => by rw [(forget_6 u).2 c (by omega)]; exact hs.2.2.2.1 c hc) (wfV_forget hs.2.2.2.2.1)
theorem forget_ext (u : jU) (i : Nat) (x : Nat → Nat) : extm (pForget u) i x := fun v hv _ => Or.inl ((forget_6 u).1 v hv)
theorem kn_of {y : jU} {h : Nat → Bool} {i : Nat} (hi : i < 16) (hs : srch y h i) {x : Nat → Nat} (hx : ∀ v, x v < 12) (he : extm y i x) (hm : mtx y h x i) : pKnown y i = true := by
  have hsz := (hs.1.1 i hi).2
  rw [kn_all]
  intro q hq
  have hB := hs.1.2 (5 * i + 1 + q) (by omega)
  rcases tv_ext hs he hB.2.1 (fun v _ e => mk_17' hq e) with h1 | h1
  · exact agree_open (Or.inl h1)
  · rcases tv_ext hs he hB.2.2.1 (fun v _ e => mk_18' hq e) with h2 | h2
    · exact agree_open (Or.inr h2)
    · rw [agree_c hs.2.1 hB (tvx_lt hx hB.2.1) (tvx_lt hx hB.2.2.1) h1 h2, decide_eq_true_iff]
      exact hm q hq
/-- the head of rule i against the fact f -/
theorem meets_c {u : jU} {h : Nat → Bool} {i : Nat} (hi : i < 16) (hs : srch u h i) {r : Int32} (hr : inN r 8) {a b : Nat} (ha : a < 12) (hb' : b < 12) :
    srch (pMeets u i r (nI a) (nI b)).2 h i ∧ (∀ c, c < 20 → (pMeets u i r (nI a) (nI b)).2 6 c = u 6 c) ∧
    ((pMeets u i r (nI a) (nI b)).1 = true → pKnown (pMeets u i r (nI a) (nI b)).2 i = true ∧ (∀ v, v < 4 → mkx u i v = false → (pMeets u i r (nI a) (nI b)).2 6 (20 + v) = -1) ∧ ∀ x : Nat → Nat, (∀ v, x v < 12) → (extm (pMeets u i r (nI a) (nI b)).2 i x ↔ fcx u x (5 * i) = 144 * tn r + 12 * a + b)) ∧
    ((pMeets u i r (nI a) (nI b)).1 = false → ∀ x : Nat → Nat, (∀ v, x v < 12) → fcx u x (5 * i) = 144 * tn r + 12 * a + b → ¬ mtx u h x i) := by
  have hB := hs.1.2 (5 * i) (by omega)
  have o0 := only6_forget u
  have hs0 := forget_srch hs
  have e17 : pForget u 17 = u 17 := o0 17 (by decide)
  have e16 : pForget u 16 = u 16 := o0 16 (by decide)
  have hlow : ∀ {y : jU} {t : Int32} {z : Int32}, srch y h i → tm t → ∀ c, c < 20 → pBind y t z 6 c = y 6 c := by
    intro y t z hy ht c hc
    unfold pBind
    split
    · rename_i h1
      have := open_var hy.2.2.2.1 ht h1
      rw [up_idx _ _ (by omega)]
    · rfl
  have hhead : ∀ x : Nat → Nat, (∀ v, x v < 12) → (fcx u x (5 * i) = 144 * tn r + 12 * a + b ↔ tn (u 16 (5 * i)) = tn r ∧ tvx x (u 17 (5 * i)) = a ∧ tvx x (u 18 (5 * i)) = b) := by
    intro x hx
    have h1 := tvx_lt hx hB.2.1
    have h2 := tvx_lt hx hB.2.2.1
    unfold fcx
    omega
  unfold pMeets
  rw [e16]
  by_cases c0 : u 16 (5 * i) = r
  · rw [if_pos c0, e17]
    have hm17 : ∀ v, v < 4 → tn (u 17 (5 * i)) = 20 + v → mkx u i v = true := fun v _ e => mk_17 (q := 0) (by omega) e
    have hm18 : ∀ v, v < 4 → tn (u 18 (5 * i)) = 20 + v → mkx u i v = true := fun v _ e => mk_18 (q := 0) (by omega) e
    have hm17' : ∀ v, v < 4 → tn (u 17 (5 * i)) = 20 + v → mkx (pForget u) i v = true := by rw [mkx_pg o0.pg]; exact hm17
    have d1 : pMeets1 u i (nI a) = pBind (pForget u) (u 17 (5 * i)) (nI a) := by unfold pMeets1; rw [e17]
    have hs1 : srch (pMeets1 u i (nI a)) h i := by rw [d1]; exact bind_srch hs0 hB.2.1 ha
    have o1 : only6 u (pMeets1 u i (nI a)) := by rw [d1]; exact o0.tr (only6_bind _ _ _)
    have e18 : pMeets1 u i (nI a) 18 = u 18 := o1 18 (by decide)
    have d2 : pMeets2 u i (nI a) (nI b) = pBind (pMeets1 u i (nI a)) (u 18 (5 * i)) (nI b) := by unfold pMeets2; rw [e18]
    have hs2 : srch (pMeets2 u i (nI a) (nI b)) h i := by rw [d2]; exact bind_srch hs1 hB.2.2.1 hb'
    have o2 : only6 u (pMeets2 u i (nI a) (nI b)) := by rw [d2]; exact o1.tr (only6_bind _ _ _)
    have hm18' : ∀ v, v < 4 → tn (u 18 (5 * i)) = 20 + v → mkx (pMeets1 u i (nI a)) i v = true := by rw [mkx_pg o1.pg]; exact hm18
    have l1 : ∀ c, c < 20 → pMeets1 u i (nI a) 6 c = u 6 c := fun c hc => by rw [d1, hlow hs0 hB.2.1 c hc, (forget_6 u).2 c hc]
    have l2 : ∀ c, c < 20 → pMeets2 u i (nI a) (nI b) 6 c = u 6 c := fun c hc => by rw [d2, hlow hs1 hB.2.2.1 c hc, l1 c hc]
    rw [e18]
    cases c1 : pBound (pForget u) (u 17 (5 * i)) (nI a) with
    | false =>
      rw [if_pos (by decide)]
      dsimp only
      refine ⟨hs1, l1, fun z => (by cases z), fun _ x hx hf => ?_⟩
      exact absurd ((hhead x hx).mp hf).2.1 (bind_no hs0 hB.2.1 hm17' ha c1 hx (forget_ext u i x))
    | true =>
      rw [if_neg (by decide)]
      have y1 := fun x hx => bind_yes (x := x) hs0 hB.2.1 hm17' ha c1 hx
      rw [← d1] at y1
      cases c2 : pBound (pMeets1 u i (nI a)) (u 18 (5 * i)) (nI b) with
      | false =>
        rw [if_pos (by decide)]
        dsimp only
        refine ⟨hs2, l2, fun z => (by cases z), fun _ x hx hf => ?_⟩
        obtain ⟨-, g1, g2⟩ := (hhead x hx).mp hf
        exact absurd g2 (bind_no hs1 hB.2.2.1 hm18' hb' c2 hx ((y1 x hx).mpr ⟨forget_ext u i x, g1⟩))
      | true =>
        rw [if_neg (by decide)]
        have y2 := fun x hx => bind_yes (x := x) hs1 hB.2.2.1 hm18' hb' c2 hx
        rw [← d2] at y2
        have yy : ∀ x : Nat → Nat, (∀ v, x v < 12) → (extm (pMeets2 u i (nI a) (nI b)) i x ↔ fcx u x (5 * i) = 144 * tn r + 12 * a + b) := by
          intro x hx
          rw [y2 x hx, y1 x hx, hhead x hx]
          exact ⟨fun z => ⟨by rw [c0], z.1.2, z.2⟩, fun z => ⟨⟨forget_ext u i x, z.2.1⟩, z.2.2⟩⟩
        dsimp only
        refine ⟨hs2, l2, fun z => ⟨z, fun v hv hn => ?_, yy⟩, fun z x hx hf hmt => ?_⟩
        · rw [d2, bind_mk hs1.2.2.2.1 hB.2.2.1 hm18' hv (by rw [mkx_pg o1.pg]; exact hn), d1, bind_mk hs0.2.2.2.1 hB.2.1 hm17' hv (by rw [mkx_pg o0.pg]; exact hn)]
          exact (forget_6 u).1 v hv
        · have := kn_of hi hs2 hx ((yy x hx).mpr hf) ((mtx_pg o2.pg _ _ _).mpr hmt)
          have z' : pKnown (pMeets2 u i (nI a) (nI b)) i = false := z
          rw [this] at z'; cases z'
  · rw [if_neg c0]
    have l0 : ∀ c, c < 20 → pForget u 6 c = u 6 c := (forget_6 u).2
    dsimp only
    refine ⟨hs0, l0, fun z => (by cases z), fun _ x hx hf => ?_⟩
    refine absurd ?_ c0
    rw [hB.1.1, hr.1, ((hhead x hx).mp hf).1]
