-- the mathematics, sixteenth part: a rule brings its facts
def frs (w : jU) (f : Nat) : Bool := hb (w 5 (f / 12)) (nI (f % 12))
/-- a state of the rounds over u -/
def rst (u w : jU) : Prop := kp [4, 5, 6] u w ∧ cst w ∧ wfV w
/-- the facts N got the rank rd and are fresh, nothing else has changed -/
def mkd (w w' : jU) (N : Nat → Prop) (rd : Int32) : Prop := ∀ f, f < 1152 → (N f → w' 4 f = rd ∧ frs w' f = true) ∧ (¬ N f → w' 4 f = w 4 f ∧ frs w' f = frs w f)
theorem mkd_no {w w' : jU} {N : Nat → Prop} {rd : Int32} (h4 : w' 4 = w 4) (h5 : w' 5 = w 5) (hn : ∀ f, f < 1152 → ¬ N f) : mkd w w' N rd := fun f hf => ⟨fun h => absurd h (hn f hf), fun _ => ⟨by rw [h4], by unfold frs; rw [h5]⟩⟩
theorem mkd_iff {w w' : jU} {N M : Nat → Prop} {rd : Int32} (h : ∀ f, f < 1152 → (N f ↔ M f)) (hm : mkd w w' N rd) : mkd w w' M rd := fun f hf => ⟨fun z => (hm f hf).1 ((h f hf).mpr z), fun z => (hm f hf).2 (fun y => z ((h f hf).mp y))⟩
theorem mkd_tr {a b c : jU} {N M : Nat → Prop} {rd : Int32} (h1 : mkd a b N rd) (h2 : mkd b c M rd) : mkd a c (fun f => N f ∨ M f) rd := by
  intro f hf
  obtain ⟨p1, p2⟩ := h1 f hf
  obtain ⟨q1, q2⟩ := h2 f hf
  constructor
  · intro z
    by_cases m : M f
    · exact q1 m
    · have n := z.resolve_right m
      exact ⟨(q2 m).1.trans (p1 n).1, (q2 m).2.trans (p1 n).2⟩
  · intro z
    have n : ¬ N f := fun y => z (Or.inl y)
    have m : ¬ M f := fun y => z (Or.inr y)
    exact ⟨(q2 m).1.trans (p2 n).1, (q2 m).2.trans (p2 n).2⟩
theorem mkd_l {a b c : jU} {N : Nat → Prop} {rd : Int32} (h4 : b 4 = a 4) (h5 : b 5 = a 5) (h : mkd b c N rd) : mkd a c N rd := by
  intro f hf
  obtain ⟨p1, p2⟩ := h f hf
  exact ⟨p1, fun z => ⟨by rw [(p2 z).1, h4], by rw [(p2 z).2]; unfold frs; rw [h5]⟩⟩
theorem rst.o6 {u w w' : jU} (h : rst u w) (ho : only6 w w') (hc : ∀ c, c < 20 → w' 6 c = w 6 c) (hv : wfV w') : rst u w' := ⟨h.1.tr (ho.kp (by decide)), fun c hl => by rw [hc c (by omega)]; exact h.2.1 c hl, hv⟩
/-- the ground of the rounds: rules in their bounds, sight, masks -/
def grd (u : jU) (h : Nat → Bool) (i : Nat) : Prop := wfR u ∧ sP u (fun f => h f = true) ∧ (∀ v, v < 4 → hb (u 13 i) (nI (20 + v)) = mkx u i v)
theorem grd.srch {u w : jU} {h : Nat → Bool} {i : Nat} (hg : grd u h i) (hr : rst u w) : srch w h i := by
  have pg : pgq u w := hr.1.pg (by decide)
  have hs := sP_h (sP_c (v := w) (fun c hc => hr.1 c (by revert c; decide)) hg.2.1)
  exact ⟨wfR_pg pg hg.1, hs.1, hs.2, hr.2.1, hr.2.2, fun v hv => by rw [hr.1 13 (by decide), mkx_pg pg]; exact hg.2.2 v hv⟩
theorem mark_spec {w : jU} {row q : Nat} (hq : q < 12) (rd : Int32) : mkd w (pMark w row q rd) (fun f => f = row * 12 + q) rd := by
  intro f hf
  have e4 : pMark w row q rd 4 f = if f = row * 12 + q then rd else w 4 f := by
    unfold pMark
    rw [up_comp _ _ _ _ (by decide)]
    by_cases e : f = row * 12 + q
    · rw [if_pos e, e, up_same]
    · rw [if_neg e, up_idx _ _ e]
  have e5 : ∀ k, pMark w row q rd 5 k = if k = row then w 5 k ||| 1 <<< (nI q &&& 31) else w 5 k := by
    intro k
    unfold pMark
    by_cases e : k = row
    · subst e; rw [if_pos rfl, up_same, up_comp _ _ _ _ (by decide)]
    · rw [if_neg e, up_idx _ _ e, up_comp _ _ _ _ (by decide)]
  have h5 : frs (pMark w row q rd) f = true ↔ frs w f = true ∨ f = row * 12 + q := by
    unfold frs
    rw [e5, hb_set hq (by omega)]
    have : (f / 12 = row ∧ f % 12 = q) ↔ f = row * 12 + q := by omega
    rw [this]
  constructor
  · intro z; exact ⟨by rw [e4, if_pos z], h5.mpr (Or.inr z)⟩
  · intro z
    refine ⟨by rw [e4, if_neg z], bool_iff ?_⟩
    rw [h5]
    exact ⟨fun y => y.resolve_right z, Or.inl⟩
section BRG
variable {u : jU} {h : Nat → Bool} {i : Nat} {rd : Int32}
theorem b2_spec (hi : i < 16) (hg : grd u h i) {w : jU} (hr : rst u w) {a : Nat} (ha : a < 12) {sc : Int32} {q : Nat} (hq : q < 12) : rst u (pB2 i rd a (pRowOf i a w) sc q w) ∧ mkd w (pB2 i rd a (pRowOf i a w) sc q w) (fun f => f = pRowOf i a w * 12 + q ∧ hb sc (nI q) = true ∧ dvx u h i f) rd := by
  have hs := hg.srch hr
  have pg : pgq u w := hr.1.pg (by decide)
  have hB := hs.1.2 (5 * i) (by omega)
  have hmt := meets_c hi hs hB.1 ha hq
  have hmo := pMeets_ok (u := w) i (w 16 (5 * i)) (nI a) (nI q) (inN_nI ha (by decide)) (inN_nI hq (by decide))
  have hfo := pFind_frame i 5 20 (pMeets w i (w 16 (5 * i)) (nI a) (nI q)).2
  have hff := fun k => find_c (h := h) hi 5 20 (pMeets w i (w 16 (5 * i)) (nI a) (nI q)).2 hmt.1 k (by omega) (by omega) (fun v _ z => absurd z (by omega)) (by omega)
  unfold pB2
  have hrow : pRowOf i a w = tn (w 16 (5 * i)) * 12 + a := rfl
  have hfx : pRowOf i a w * 12 + q = 144 * tn (w 16 (5 * i)) + 12 * a + q := by rw [hrow]; omega
  generalize pMeets w i (w 16 (5 * i)) (nI a) (nI q) = p at hmt hmo hfo hff ⊢
  obtain ⟨m1, m2, m3, m4⟩ := hmt
  have rp : rst u p.2 := hr.o6 hmo.1 m2 (hmo.2 hr.2.2)
  have pgp : pgq w p.2 := hmo.1.pg
  cases c1 : hb sc (nI q) with
  | false =>
    rw [if_pos (by decide)]
    exact ⟨hr, mkd_no rfl rfl (fun f _ z => by cases z.2.1)⟩
  | true =>
    rw [if_neg (by decide)]
    cases c2 : p.1 with
    | false =>
      rw [if_pos (by decide)]
      refine ⟨rp, mkd_no (hmo.1 4 (by decide)) (hmo.1 5 (by decide)) ?_⟩
      rintro f hf ⟨rfl, -, x, hx, hm, hf2⟩
      rw [hfx, ← fcx_pg pg] at hf2
      exact m4 c2 x hx hf2 ((mtx_pg pg _ _ _).mpr hm)
    | true =>
      rw [if_neg (by decide)]
      obtain ⟨k1, k2, k3⟩ := m3 c2
      obtain ⟨g1, g2⟩ := hff k1
      generalize pFind i 5 20 p.2 = z at g1 g2 hfo ⊢
      cases c3 : z.1 with
      | false =>
        rw [if_pos (by decide)]
        obtain ⟨y1, y2⟩ := g2 c3
        rw [y1]
        refine ⟨rp, mkd_no (hmo.1 4 (by decide)) (hmo.1 5 (by decide)) ?_⟩
        rintro f hf ⟨rfl, -, hd⟩
        obtain ⟨m, -, n1, n2, n3⟩ := (nmx_dv hg.1 hi).mpr hd
        rw [mkx_pg pgp, mkx_pg pg] at y2
        refine y2 m n1 ((k3 _ (dg_lt _ _)).mpr ?_) ?_
        · rw [fcx_pg pg, n3, hfx]
        · rw [mtx_pg pgp, mtx_pg pg]; exact n2
      | true =>
        rw [if_neg (by decide)]
        obtain ⟨m, n1, n2, n3, n4, n5, n6⟩ := g1 c3
        have rz : rst u z.2 := rp.o6 hfo.1 n5 (hfo.2 rp.2.2)
        refine ⟨⟨(rz.1.tr (kp_up _ _ _ (by decide))).tr (kp_up _ _ _ (by decide)), ?_, ?_⟩, ?_⟩
        · intro c hc
          have := rz.2.1 c hc
          unfold pMark
          rw [up_comp _ _ _ _ (by decide), up_comp _ _ _ _ (by decide)]
          exact this
        · exact wfV_of rz.2.2 ((up_rows _ _ _ (by decide)).trans (up_rows _ _ _ (by decide)))
        · refine mkd_l (b := z.2) ?_ ?_ (mkd_iff (fun f hf => ?_) (mark_spec (w := z.2) (row := pRowOf i a w) hq rd))
          · exact (hfo.1 4 (by decide)).trans (hmo.1 4 (by decide))
          · exact (hfo.1 5 (by decide)).trans (hmo.1 5 (by decide))
          · constructor
            · intro e
              refine ⟨e, rfl, dg (mkx p.2 i) m, dg_lt _ _, ?_, ?_⟩
              · rw [mtx_pg pgp, mtx_pg pg] at n2; exact n2
              · rw [e, hfx, ← fcx_pg pg]
                exact (k3 _ (dg_lt _ _)).mp n3
            · exact fun e => e.1
theorem row_spec (hi : i < 16) (hg : grd u h i) {w : jU} (hr : rst u w) {a : Nat} (ha : a < 12) (sc : Int32) : ∀ n, n ≤ 12 → rst u (itN (pB2 i rd a (pRowOf i a w) sc) n w) ∧ mkd w (itN (pB2 i rd a (pRowOf i a w) sc) n w) (fun f => ∃ q, q < n ∧ f = pRowOf i a w * 12 + q ∧ hb sc (nI q) = true ∧ dvx u h i f) rd := by
  intro n
  induction n with
  | zero => intro _; exact ⟨hr, mkd_no rfl rfl (fun f _ ⟨q, hq, _⟩ => absurd hq (by omega))⟩
  | succ n ih =>
    intro hn
    obtain ⟨r1, h1⟩ := ih (by omega)
    rw [itN_s]
    generalize itN (pB2 i rd a (pRowOf i a w) sc) n w = y at r1 h1 ⊢
    have hrow : pRowOf i a w = pRowOf i a y := by unfold pRowOf; rw [r1.1 16 (by decide), hr.1 16 (by decide)]
    rw [hrow] at h1 ⊢
    obtain ⟨r2, h2⟩ := b2_spec (rd := rd) hi hg r1 ha (sc := sc) (show n < 12 by omega)
    refine ⟨r2, mkd_iff (fun f _ => ?_) (mkd_tr h1 h2)⟩
    constructor
    · rintro (⟨q, hq, z⟩ | z)
      · exact ⟨q, by omega, z⟩
      · exact ⟨n, by omega, z⟩
    · rintro ⟨q, hq, z⟩
      by_cases e : q = n
      · subst e; exact Or.inr z
      · exact Or.inl ⟨q, by omega, z⟩
/-- what the choices of a term leave out, no way takes -/
theorem choice_in (hi : i < 16) {y : jU} (hs : srch y h i) {t : Int32} (ht : tm t) (hm : ∀ v, v < 4 → tn t = 20 + v → mkx y i v = true) {x : Nat → Nat} (hx : ∀ v, x v < 12) (he : extm y i x) (hmt : mtx y h x i) : hb (pChoices y i t) (nI (tvx x t)) = true := by
  have h12 := tvx_lt hx ht
  unfold pChoices
  rcases tv_ext hs he ht hm with c | c
  · rw [if_pos c]
    have h20 := open_var hs.2.2.2.1 ht c
    have h24 := tm_lt ht
    rw [tvx_var h20]
    have h1 := ch_in hi hs h20 h24 c hx he hmt
    rw [← (tm_k ht).1] at h1
    exact h1
  · rw [if_neg (by rw [c]; exact nI_m1 (by omega)), c, hb_one (by omega) (by omega), decide_eq_true rfl]
theorem head_div {x : Nat → Nat} (hx : ∀ v, x v < 12) {j : Nat} (hB : wfB u j) {r a b : Nat} (ha : a < 12) (hb' : b < 12) (e : fcx u x j = 144 * r + 12 * a + b) : tn (u 16 j) = r ∧ tvx x (u 17 j) = a ∧ tvx x (u 18 j) = b := by
  have h1 := tvx_lt hx hB.2.1
  have h2 := tvx_lt hx hB.2.2.1
  unfold fcx at e
  omega
theorem b1_spec (hi : i < 16) (hg : grd u h i) {w : jU} (hr : rst u w) {a : Nat} (ha : a < 12) (fs : Int32) (hfs : ∀ b, b < 12 → dvx u h i (144 * tn (u 16 (5 * i)) + 12 * a + b) → hb fs (nI a) = true) :
    rst u (pB1 i rd fs a w) ∧ mkd w (pB1 i rd fs a w) (fun f => f / 12 = tn (u 16 (5 * i)) * 12 + a ∧ h f = false ∧ frs w f = false ∧ dvx u h i f) rd := by
  have e16 : w 16 = u 16 := hr.1 16 (by decide)
  have e17 : w 17 = u 17 := hr.1 17 (by decide)
  have e18 : w 18 = u 18 := hr.1 18 (by decide)
  have pg : pgq u w := hr.1.pg (by decide)
  have hBu := hg.1.2 (5 * i) (by omega)
  have hrow : pRowOf i a w = tn (u 16 (5 * i)) * 12 + a := by unfold pRowOf; rw [e16]
  unfold pB1
  cases c1 : hb fs (nI a) with
  | false =>
    rw [if_pos (by decide)]
    refine ⟨hr, mkd_no rfl rfl ?_⟩
    rintro f hf ⟨g1, -, -, g2⟩
    have := hfs (f % 12) (by omega) (by rw [show 144 * tn (u 16 (5 * i)) + 12 * a + f % 12 = f by omega]; exact g2)
    rw [c1] at this; cases this
  | true =>
    rw [if_neg (by decide)]
    have hs := hg.srch hr
    have hs0 := forget_srch hs
    have o0 := only6_forget w
    have f17 : pForget w 17 = u 17 := (o0 17 (by decide)).trans e17
    have d1 : pB1w i a w = pBind (pForget w) (u 17 (5 * i)) (nI a) := by unfold pB1w; rw [f17]
    have hs1 : srch (pB1w i a w) h i := by rw [d1]; exact bind_srch hs0 hBu.2.1 ha
    have o1 : only6 w (pB1w i a w) := by rw [d1]; exact o0.tr (only6_bind _ _ _)
    have l1 : ∀ c, c < 20 → pB1w i a w 6 c = w 6 c := by
      intro c hc
      rw [d1]
      unfold pBind
      split
      · rename_i h1
        have := open_var hs0.2.2.2.1 hBu.2.1 h1
        rw [up_idx _ _ (by omega)]; exact (forget_6 w).2 c hc
      · exact (forget_6 w).2 c hc
    have r1 : rst u (pB1w i a w) := hr.o6 o1 l1 (hs1.2.2.2.2.1)
    have pg1 : pgq w (pB1w i a w) := o1.pg
    have f18 : pB1w i a w 18 = u 18 := (o1 18 (by decide)).trans e18
    have hrow1 : pRowOf i a (pB1w i a w) = pRowOf i a w := by unfold pRowOf; rw [o1 16 (by decide)]
    have hsc : ∀ q, q < 12 → hb (pB1s i a w) (nI q) = (hb (pChoices (pB1w i a w) i (u 18 (5 * i))) (nI q) && !(h (144 * tn (u 16 (5 * i)) + 12 * a + q) || frs w (144 * tn (u 16 (5 * i)) + 12 * a + q))) := by
      intro q hq
      unfold pB1s
      rw [hb_and _ _ (by omega), hb_not _ (by omega), hb_or _ _ (by omega), f18, hrow]
      have h7 := (hs.2.1 (tn (u 16 (5 * i))) hBu.1.2 a ha q hq).1
      rw [h7]
      unfold frs
      rw [show (144 * tn (u 16 (5 * i)) + 12 * a + q) / 12 = tn (u 16 (5 * i)) * 12 + a by omega, show (144 * tn (u 16 (5 * i)) + 12 * a + q) % 12 = q by omega]
    obtain ⟨r2, h2⟩ := row_spec (rd := rd) hi hg r1 ha (pB1s i a w) 12 (Nat.le_refl _)
    rw [hrow1] at r2 h2
    refine ⟨r2, mkd_l (o1 4 (by decide)) (o1 5 (by decide)) (mkd_iff (fun f hf => ?_) h2)⟩
    rw [hrow]
    constructor
    · rintro ⟨q, hq, e, g1, g2⟩
      rw [hsc q hq, Bool.and_eq_true] at g1
      have e2 : 144 * tn (u 16 (5 * i)) + 12 * a + q = f := by omega
      rw [e2] at g1
      have g3 := g1.2
      refine ⟨by omega, ?_, ?_, g2⟩
      · cases c : h f with
        | false => rfl
        | true => rw [c] at g3; simp at g3
      · cases c : frs w f with
        | false => rfl
        | true => rw [c] at g3; simp at g3
    · rintro ⟨e, g1, g2, g3⟩
      refine ⟨f % 12, by omega, by omega, ?_, g3⟩
      have e2 : 144 * tn (u 16 (5 * i)) + 12 * a + f % 12 = f := by omega
      rw [hsc _ (by omega), e2, g1, g2]
      obtain ⟨x, hx, hm, hf2⟩ := g3
      obtain ⟨-, t1, t2⟩ := head_div hx hBu ha (show f % 12 < 12 by omega) (hf2.trans e2.symm)
      have hm17 : ∀ v, v < 4 → tn (u 17 (5 * i)) = 20 + v → mkx (pForget w) i v = true := fun v _ e => by rw [mkx_pg o0.pg, mkx_pg pg]; exact mk_17 (q := 0) (by omega) e
      have hm18 : ∀ v, v < 4 → tn (u 18 (5 * i)) = 20 + v → mkx (pB1w i a w) i v = true := fun v _ e => by rw [mkx_pg pg1, mkx_pg pg]; exact mk_18 (q := 0) (by omega) e
      have hx1 : extm (pB1w i a w) i x := by
        rw [d1]
        cases c : pBound (pForget w) (u 17 (5 * i)) (nI a) with
        | true => exact (bind_yes hs0 hBu.2.1 hm17 ha c hx).mpr ⟨forget_ext w i x, t1⟩
        | false => exact absurd t1 (bind_no hs0 hBu.2.1 hm17 ha c hx (forget_ext w i x))
      have h9 := choice_in hi hs1 hBu.2.2.1 hm18 hx hx1 (by rw [mtx_pg pg1, mtx_pg pg]; exact hm)
      rw [t2] at h9
      rw [h9]; rfl
theorem bring_spec (hi : i < 16) (hg : grd u h i) {w : jU} (hr : rst u w) : rst u (pBring i rd w) ∧ mkd w (pBring i rd w) (fun f => h f = false ∧ frs w f = false ∧ dvx u h i f) rd := by
  have hs := hg.srch hr
  have hs0 := forget_srch hs
  have o0 := only6_forget w
  have pg : pgq u w := hr.1.pg (by decide)
  have hBu := hg.1.2 (5 * i) (by omega)
  have f17 : pForget w 17 = u 17 := (o0 17 (by decide)).trans (hr.1 17 (by decide))
  have r0 : rst u (pForget w) := hr.o6 o0 (forget_6 w).2 (wfV_forget hr.2.2)
  have hfs : ∀ a, a < 12 → ∀ b, b < 12 → dvx u h i (144 * tn (u 16 (5 * i)) + 12 * a + b) → hb (pChoices (pForget w) i (pForget w 17 (5 * i))) (nI a) = true := by
    rintro a ha b hb' ⟨x, hx, hm, hf2⟩
    obtain ⟨-, t1, -⟩ := head_div hx hBu ha hb' hf2
    rw [f17]
    have h9 := choice_in hi hs0 hBu.2.1 (fun v _ e => by rw [mkx_pg o0.pg, mkx_pg pg]; exact mk_17 (q := 0) (by omega) e) hx (forget_ext w i x) (by rw [mtx_pg o0.pg, mtx_pg pg]; exact hm)
    rw [t1] at h9
    exact h9
  unfold pBring
  generalize pChoices (pForget w) i (pForget w 17 (5 * i)) = fs at hfs ⊢
  have h4 : pForget w 4 = w 4 := o0 4 (by decide)
  have h5 : pForget w 5 = w 5 := o0 5 (by decide)
  have hfrs : ∀ f, frs (pForget w) f = frs w f := fun f => by unfold frs; rw [h5]
  generalize pForget w = w0 at r0 h4 h5 hfrs ⊢
  have key : ∀ n, n ≤ 12 → rst u (itN (pB1 i rd fs) n w0) ∧ mkd w0 (itN (pB1 i rd fs) n w0) (fun f => f / 144 = tn (u 16 (5 * i)) ∧ f % 144 / 12 < n ∧ h f = false ∧ frs w0 f = false ∧ dvx u h i f) rd := by
    intro n
    induction n with
    | zero => intro _; exact ⟨r0, mkd_no rfl rfl (fun f _ z => absurd z.2.1 (by omega))⟩
    | succ n ih =>
      intro hn
      obtain ⟨r1, h1⟩ := ih (by omega)
      rw [itN_s]
      generalize itN (pB1 i rd fs) n w0 = y at r1 h1 ⊢
      obtain ⟨r2, h2⟩ := b1_spec (rd := rd) hi hg r1 (show n < 12 by omega) fs (hfs n (by omega))
      refine ⟨r2, mkd_iff (fun f hf => ?_) (mkd_tr h1 h2)⟩
      have hfy : f / 12 = tn (u 16 (5 * i)) * 12 + n → frs y f = frs w0 f := fun e => ((h1 f hf).2 (fun z => absurd z.2.1 (by omega))).2
      constructor
      · rintro (⟨a1, a2, a3⟩ | ⟨a1, a2, a3, a4⟩)
        · exact ⟨a1, by omega, a3⟩
        · exact ⟨by omega, by omega, a2, by rw [← hfy a1]; exact a3, a4⟩
      · rintro ⟨a1, a2, a3, a4, a5⟩
        by_cases e : f % 144 / 12 = n
        · have e2 : f / 12 = tn (u 16 (5 * i)) * 12 + n := by omega
          exact Or.inr ⟨e2, a3, by rw [hfy e2]; exact a4, a5⟩
        · exact Or.inl ⟨a1, by omega, a3, a4, a5⟩
  obtain ⟨r2, h2⟩ := key 12 (Nat.le_refl _)
  refine ⟨r2, mkd_l h4 h5 (mkd_iff (fun f hf => ?_) h2)⟩
  constructor
  · rintro ⟨-, -, a3, a4, a5⟩; exact ⟨a3, by rw [← hfrs f]; exact a4, a5⟩
  · rintro ⟨a3, a4, a5⟩
    refine ⟨?_, by omega, a3, by rw [hfrs f]; exact a4, a5⟩
    obtain ⟨x, hx, -, hf2⟩ := a5
    have h1 := tvx_lt hx hBu.2.1
    have h2' := tvx_lt hx hBu.2.2.1
    unfold fcx at hf2
    omega
end BRG
