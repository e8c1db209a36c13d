-- the mathematics, twenty-first part: proofs
/-- the positive literals of the layer have lower ranks -/
def lwx (w : jU) (x : Nat → Nat) (i : Nat) (rk : Int32) : Prop := ∀ q, q < tn (w 12 i) → w 19 (5 * i + 1 + q) = 0 → w 3 (tn (w 16 (5 * i + 1 + q))) < w 3 (tn (w 16 (5 * i))) ∨ ¬ rk ≤ w 4 (fcx w x (5 * i + 1 + q))
theorem lw_n {w : jU} (hR : wfR w) {x : Nat → Nat} (hx : ∀ q, q < 4 → w 6 q = nI (x q)) (hl : ∀ v, x v < 12) {i : Nat} (hi : i < 16) (rk : Int32) : ∀ n, n ≤ tn (w 12 i) → (¬ mLw w i rk n = 0 ↔ ∀ q, q < n → w 19 (5 * i + 1 + q) = 0 → w 3 (tn (w 16 (5 * i + 1 + q))) < w 3 (tn (w 16 (5 * i))) ∨ ¬ rk ≤ w 4 (fcx w x (5 * i + 1 + q))) := by
  have hs := (hR.1 i hi).2
  intro n
  induction n with
  | zero => intro _; exact ⟨fun _ q hq => absurd hq (by omega), fun _ => by show ¬ (1 : Int32) = 0; decide⟩
  | succ n ih =>
    intro hn
    have hf := fact_eq hx hl (hR.2 (5 * i + 1 + n) (by omega))
    have ih' := ih (by omega)
    unfold mLw
    rw [show 5 * i + (n + 1) = 5 * i + 1 + n by omega, hf]
    by_cases c0 : mLw w i rk n = 0
    · rw [if_pos c0]
      exact ⟨fun z => absurd rfl z, fun z => absurd c0 (ih'.mpr (fun q hq => z q (by omega)))⟩
    · rw [if_neg c0]
      have hall := ih'.mp c0
      have ext : ∀ (Q : Prop), (Q ↔ (w 19 (5 * i + 1 + n) = 0 → w 3 (tn (w 16 (5 * i + 1 + n))) < w 3 (tn (w 16 (5 * i))) ∨ ¬ rk ≤ w 4 (fcx w x (5 * i + 1 + n)))) → (Q ↔ ∀ q, q < n + 1 → w 19 (5 * i + 1 + q) = 0 → w 3 (tn (w 16 (5 * i + 1 + q))) < w 3 (tn (w 16 (5 * i))) ∨ ¬ rk ≤ w 4 (fcx w x (5 * i + 1 + q))) := by
        intro Q hQ
        rw [hQ]
        constructor
        · intro z q hq
          by_cases e : q = n
          · subst e; exact z
          · exact hall q (by omega)
        · intro z; exact z n (by omega)
      apply ext
      by_cases c1 : w 19 (5 * i + 1 + n) = 0
      · rw [if_pos c1]
        by_cases c2 : w 3 (tn (w 16 (5 * i + 1 + n))) < w 3 (tn (w 16 (5 * i)))
        · rw [if_pos c2]; exact ⟨fun _ _ => Or.inl c2, fun _ => by decide⟩
        · rw [if_neg c2]
          by_cases c3 : rk ≤ w 4 (fcx w x (5 * i + 1 + n))
          · rw [if_pos c3]; exact ⟨fun z => absurd rfl z, fun z => ((z c1).elim (fun y => absurd y c2) (fun y => absurd c3 y))⟩
          · rw [if_neg c3]; exact ⟨fun _ _ => Or.inr c3, fun _ => by decide⟩
      · rw [if_neg c1]; exact ⟨fun _ z => absurd z c1, fun _ => by decide⟩
theorem lw_eq {w : jU} (hR : wfR w) {x : Nat → Nat} (hx : ∀ q, q < 4 → w 6 q = nI (x q)) (hl : ∀ v, x v < 12) {i : Nat} (hi : i < 16) (rk : Int32) : ¬ mLower w i rk = 0 ↔ lwx w x i rk := lw_n hR hx hl hi rk _ (Nat.le_refl _)
theorem lwx_k {w w' : jU} (h : kp [6] w w') (x : Nat → Nat) (i : Nat) (rk : Int32) : lwx w' x i rk ↔ lwx w x i rk := by
  have pg : pgq w w' := h.pg (by decide)
  unfold lwx
  rw [pg.1, pg.2.1, pg.2.2.2.2, h 3 (by decide), h 4 (by decide)]
  constructor
  · intro z q hq; rw [← fcx_pg pg]; exact z q hq
  · intro z q hq; rw [fcx_pg pg]; exact z q hq
/-- a number that tells a proof of f by rule i -/
def gdx (w : jU) (f : Nat) (rk : Int32) (i m : Nat) : Prop := lf0 (mkx w i) m = 0 ∧ fcx w (dg (mkx w i) m) (5 * i) = f ∧ mtx w (hol w) (dg (mkx w i) m) i ∧ lwx w (dg (mkx w i) m) i rk
def ansx (w : jU) (t : Int32) (i m : Nat) : Int32 := if t = 0 then nI i else if mkx w i (tn t - 1) then nI (dg (mkx w i) m (tn t - 1)) else -1
theorem ans_eq {w u1 : jU} (hR : wfR w) (pg : pgq w u1) {i n : Nat} (hi : i < 16) (h6 : ∀ q, q < 4 → u1 6 q = nI (dg (mkx w i) n q)) {t : Int32} (ht : inN t 5) : mAns t i u1 = ansx w t i n := by
  unfold mAns ansx
  by_cases c : t = 0
  · rw [if_pos c, if_pos c]
  · rw [if_neg c, if_neg c]
    obtain ⟨t1, t2⟩ := t_pred ht c
    rw [t1]
    have h1 := and1_1 (mVars u1 i >>> (nI (tn t - 1) &&& 31))
    rw [shr_bt _ (by omega), mVars_bt (wfR_pg pg hR) hi t2, mkx_pg pg] at h1
    by_cases d : mkx w i (tn t - 1) = true
    · rw [if_pos (h1.mpr d), if_pos d]; exact h6 _ t2
    · rw [if_neg (fun z => d (h1.mp z)), if_neg d]
theorem pn_spec {w : jU} (hR : wfR w) {i : Nat} (hi : i < 16) {r : Int32} {fx : Nat} (hfx : fx < 1152) (hr : w 16 (5 * i) = r) {t : Int32} (ht : inN t 5) : ∀ (fuel n : Nat) (u : jU), kp [6] w u → 20736 < n + fuel → n < 2 ^ 20 →
    kp [6] w (mPn r fx i t fuel n u).2 ∧ ((mPn r fx i t fuel n u).1 = none ∧ (∀ m, n ≤ m → ¬ gdx w fx (w 4 fx) i m) ∨ ∃ m, n ≤ m ∧ gdx w fx (w 4 fx) i m ∧ (∀ m', n ≤ m' → m' < m → ¬ gdx w fx (w 4 fx) i m') ∧ (mPn r fx i t fuel n u).1 = some (ansx w t i m)) := by
  intro fuel
  induction fuel with
  | zero =>
    intro n u hk hf hn
    refine ⟨hk, Or.inl ⟨rfl, fun m hm hg => ?_⟩⟩
    have := lf0_lt hg.1
    omega
  | succ fuel ih =>
    intro n u hk hf hn
    have pg0 : pgq w u := hk.pg (by decide)
    have hR0 : wfR u := wfR_pg pg0 hR
    have ho := mInst_o6 u i n
    have hk1 : kp [6] w (mInst u i n).2 := hk.tr (ho.kp (by decide))
    have pg1 : pgq w (mInst u i n).2 := hk1.pg (by decide)
    have h6 : ∀ q, q < 4 → (mInst u i n).2 6 q = nI (dg (mkx w i) n q) := fun q hq => by rw [inst_6 hR0 hi n hq, mkx_pg pg0]
    have he := inst_1 hR0 hi (show n < 2 ^ 31 by omega)
    rw [mkx_pg pg0] at he
    have hru : u 16 (5 * i) = r := by rw [hk 16 (by decide)]; exact hr
    rw [mPn, if_pos hru]
    by_cases h1 : (mInst u i n).1 = 0
    · rw [if_pos h1]
      refine ⟨hk1, Or.inl ⟨rfl, fun m hm hg => ?_⟩⟩
      have h2 := he.mp h1
      have h3 := lf0_mono (b := mkx w i) hm
      have h4 := hg.1
      omega
    · rw [if_neg h1]
      have hl0 : lf0 (mkx w i) n = 0 := Classical.byContradiction (fun z => h1 (he.mpr z))
      generalize (mInst u i n).2 = u1 at hk1 pg1 h6 ⊢
      have hR1 : wfR u1 := wfR_pg pg1 hR
      have h41 : u1 4 = w 4 := hk1 4 (by decide)
      have hfe : mFact u1 (5 * i) = fcx w (dg (mkx w i) n) (5 * i) := by
        rw [fact_eq h6 (dg_lt _ _) (hR1.2 _ (by omega)), fcx_pg pg1]
      have hme := met_eq hR1 h6 (dg_lt _ _) hi
      rw [hol_c h41, mtx_pg pg1] at hme
      have hlo := lw_eq hR1 h6 (dg_lt _ _) hi (u1 4 fx)
      rw [lwx_k hk1, h41] at hlo
      have hlt := lf0_lt hl0
      have hbb := mBeh_b u1 i n
      have hfl : fcx w (dg (mkx w i) n) (5 * i) < 1152 := fcx_lt (dg_lt _ _) (hR.2 _ (by omega))
      have hskip : ∀ m', n < m' → m' < mBeh u1 i n → ¬ gdx w fx (w 4 fx) i m' := by
        intro m' g1 g2 g3
        have h9 := skip_no hR1 hi (by rw [mkx_pg pg1]; exact h6) g1 g2
        rw [hol_c h41, mkx_pg pg1, mtx_pg pg1] at h9
        exact h9 g3.2.2.1
      have hgo : ¬ gdx w fx (w 4 fx) i n → kp [6] w (mPn r fx i t fuel (mBeh u1 i n) u1).2 ∧ ((mPn r fx i t fuel (mBeh u1 i n) u1).1 = none ∧ (∀ m, n ≤ m → ¬ gdx w fx (w 4 fx) i m) ∨ ∃ m, n ≤ m ∧ gdx w fx (w 4 fx) i m ∧ (∀ m', n ≤ m' → m' < m → ¬ gdx w fx (w 4 fx) i m') ∧ (mPn r fx i t fuel (mBeh u1 i n) u1).1 = some (ansx w t i m)) := by
        intro hno
        have hlow : ∀ m', n ≤ m' → m' < mBeh u1 i n → ¬ gdx w fx (w 4 fx) i m' := by
          intro m' g1 g2
          by_cases e : m' = n
          · rw [e]; exact hno
          · exact hskip m' (by omega) g2
        obtain ⟨b1, b2⟩ := ih (mBeh u1 i n) u1 hk1 (by omega) (by omega)
        refine ⟨b1, b2.imp (fun z => ⟨z.1, fun m hm => ?_⟩) (fun ⟨m, z1, z2, z3, z4⟩ => ⟨m, by omega, z2, fun m' g1 g2 => ?_, z4⟩)⟩
        · rcases Nat.lt_or_ge m (mBeh u1 i n) with g | g
          · exact hlow m hm g
          · exact z.2 m g
        · rcases Nat.lt_or_ge m' (mBeh u1 i n) with g | g
          · exact hlow m' g1 g
          · exact z3 m' g g2
      rw [hfe]
      by_cases c1 : fcx w (dg (mkx w i) n) (5 * i) = fx
      · rw [if_pos (by rw [c1])]
        by_cases c2 : mMet u1 i = 0
        · rw [if_pos c2]; exact hgo (fun z => absurd c2 (hme.mpr z.2.2.1))
        · rw [if_neg c2]
          by_cases c3 : mLower u1 i (u1 4 fx) = 0
          · rw [if_pos c3]; rw [h41] at c3; exact hgo (fun z => absurd c3 (hlo.mpr z.2.2.2))
          · rw [if_neg c3]
            rw [h41] at c3
            refine ⟨hk1, Or.inr ⟨n, Nat.le_refl _, ⟨hl0, c1, hme.mp c2, hlo.mp c3⟩, fun m' g1 g2 => absurd g1 (by omega), ?_⟩⟩
            show some (mAns t i u1) = _
            rw [ans_eq hR pg1 hi h6 ht]
      · rw [if_neg (fun z => c1 (nI_inj (by omega) (by omega) z))]
        exact hgo (fun z => c1 z.2.1)
theorem pk_spec {w : jU} (hR : wfR w) {r : Int32} (hr : inN r 8) {fx : Nat} (hfx : fx < 1152) (hfr : fx / 144 = tn r) {t : Int32} (ht : inN t 5) : ∀ (d i : Nat) (u : jU), i + d ≤ 16 → kp [6] w u →
    kp [6] w (mPk r fx t d i u).2 ∧ ∀ i0 m0, i ≤ i0 → i0 < i + d → gdx w fx (w 4 fx) i0 m0 → (∀ i', i ≤ i' → i' < i0 → ∀ m, ¬ gdx w fx (w 4 fx) i' m) → (∀ m, m < m0 → ¬ gdx w fx (w 4 fx) i0 m) → (mPk r fx t d i u).1 = ansx w t i0 m0 := by
  intro d
  induction d with
  | zero => intro i u _ hk; exact ⟨hk, fun i0 m0 h1 h2 => absurd h1 (by omega)⟩
  | succ d ih =>
    intro i u hid hk
    have hrun : kp [6] w (mPn r fx i t mFuel 0 u).2 ∧ ((mPn r fx i t mFuel 0 u).1 = none ∧ (∀ m, 0 ≤ m → ¬ gdx w fx (w 4 fx) i m) ∨ ∃ m, 0 ≤ m ∧ gdx w fx (w 4 fx) i m ∧ (∀ m', 0 ≤ m' → m' < m → ¬ gdx w fx (w 4 fx) i m') ∧ (mPn r fx i t mFuel 0 u).1 = some (ansx w t i m)) := by
      by_cases c : w 16 (5 * i) = r
      · exact pn_spec hR (show i < 16 by omega) hfx c ht mFuel 0 u hk (by unfold mFuel; omega) (by decide)
      · have e : ∀ fuel, mPn r fx i t (fuel + 1) 0 u = (none, u) := fun fuel => by
          rw [mPn, if_neg (by rw [hk 16 (by decide)]; exact c)]
        have ef : mFuel = 20736 + 1 := rfl
        rw [ef, e]
        refine ⟨hk, Or.inl ⟨rfl, fun m _ hg => c ?_⟩⟩
        have hB := hR.2 (5 * i) (by omega)
        have h1 := tvx_lt (dg_lt (mkx w i) m) hB.2.1
        have h2 := tvx_lt (dg_lt (mkx w i) m) hB.2.2.1
        have h3 := hg.2.1
        unfold fcx at h3
        have h4 : tn (w 16 (5 * i)) = tn r := by omega
        rw [hB.1.1, hr.1, h4]
    have edef : mPk r fx t (d + 1) i u = mPx (fun y => mPk r fx t d (i + 1) y.2) (mPn r fx i t mFuel 0 u) := rfl
    rw [edef]
    generalize mPn r fx i t mFuel 0 u = y at hrun ⊢
    obtain ⟨y1, y2⟩ := y
    obtain ⟨k1, hrun⟩ := hrun
    rcases hrun with ⟨a1, a2⟩ | ⟨m, -, a2, a3, a4⟩
    · have a1' : y1 = none := a1
      subst a1'
      show kp [6] w (mPk r fx t d (i + 1) y2).2 ∧ _
      obtain ⟨b1, b2⟩ := ih (i + 1) y2 (by omega) k1
      refine ⟨b1, fun i0 m0 h1 h2 h3 h4 h5 => ?_⟩
      have hne : i0 ≠ i := fun e => a2 m0 (Nat.zero_le _) (by rw [← e]; exact h3)
      exact b2 i0 m0 (by omega) (by omega) h3 (fun i' g1 g2 => h4 i' (by omega) g2) h5
    · have a4' : y1 = some (ansx w t i m) := a4
      subst a4'
      refine ⟨k1, fun i0 m0 h1 h2 h3 h4 h5 => ?_⟩
      show ansx w t i m = _
      have e : i0 = i := by
        rcases Nat.lt_or_ge i i0 with g | g
        · exact absurd a2 (h4 i (Nat.le_refl _) g m)
        · omega
      subst e
      have em : m = m0 := by
        rcases Nat.lt_trichotomy m m0 with g | g | g
        · exact absurd a2 (h5 m g)
        · exact g
        · exact absurd h3 (a3 m0 (Nat.zero_le _) g)
      rw [em]
/-- the same for the class -/
def gcx (u : jU) (h : Nat → Bool) (f i m : Nat) : Prop := lf0 (mkx u i) m = 0 ∧ fcx u (dg (mkx u i) m) (5 * i) = f ∧ mtx u h (dg (mkx u i) m) i
theorem lr_c {u : jU} {h : Nat → Bool} (hg : ∀ i, i < tn (u 0 1) → grd u h i) (hK : tn (u 0 1) ≤ 16) {r : Int32} (hr : inN r 8) {a b : Nat} (ha : a < 12) (hb' : b < 12) : ∀ (n i : Nat) (w : jU), i + n ≤ tn (u 0 1) → rst u w →
    rst u (pLR r (nI a) (nI b) n i w).2 ∧ only6 w (pLR r (nI a) (nI b) n i w).2 ∧ ∀ i0 m0, i ≤ i0 → i0 < i + n → gcx u h (144 * tn r + 12 * a + b) i0 m0 → (∀ i', i ≤ i' → i' < i0 → ∀ m, ¬ gcx u h (144 * tn r + 12 * a + b) i' m) → (∀ m, m < m0 → ¬ gcx u h (144 * tn r + 12 * a + b) i0 m) →
      (pLR r (nI a) (nI b) n i w).1 = nI i0 ∧ ∀ v, v < 4 → (pLR r (nI a) (nI b) n i w).2 6 (20 + v) = if mkx u i0 v then nI (dg (mkx u i0) m0 v) else -1 := by
  intro n
  induction n with
  | zero => intro i w _ hw; exact ⟨hw, only6.rf w, fun i0 m0 h1 h2 => absurd h1 (by omega)⟩
  | succ n ih =>
    intro i w hin hw
    have hi : i < tn (u 0 1) := by omega
    have hi16 : i < 16 := by omega
    have hs := (hg i hi).srch hw
    have pg : pgq u w := hw.1.pg (by decide)
    have hmt := meets_c hi16 hs hr ha hb'
    have hmo := pMeets_ok (u := w) i r (nI a) (nI b) (inN_nI ha (by decide)) (inN_nI hb' (by decide))
    unfold pLR
    have hfo := pFind_frame i 5 20 (pMeets w i r (nI a) (nI b)).2
    generalize pMeets w i r (nI a) (nI b) = p at hmt hmo hfo ⊢
    obtain ⟨m1, m2, m3, m4⟩ := hmt
    have rp : rst u p.2 := hw.o6 hmo.1 m2 (hmo.2 hw.2.2)
    have pgp : pgq u p.2 := rp.1.pg (by decide)
    have hgo : ∀ w', rst u w' → only6 w w' → (∀ m, ¬ gcx u h (144 * tn r + 12 * a + b) i m) → rst u (pLR r (nI a) (nI b) n (i + 1) w').2 ∧ only6 w (pLR r (nI a) (nI b) n (i + 1) w').2 ∧ ∀ i0 m0, i ≤ i0 → i0 < i + (n + 1) → gcx u h (144 * tn r + 12 * a + b) i0 m0 → (∀ i', i ≤ i' → i' < i0 → ∀ m, ¬ gcx u h (144 * tn r + 12 * a + b) i' m) → (∀ m, m < m0 → ¬ gcx u h (144 * tn r + 12 * a + b) i0 m) →
      (pLR r (nI a) (nI b) n (i + 1) w').1 = nI i0 ∧ ∀ v, v < 4 → (pLR r (nI a) (nI b) n (i + 1) w').2 6 (20 + v) = if mkx u i0 v then nI (dg (mkx u i0) m0 v) else -1 := by
      intro w' hw' ho hno
      obtain ⟨b1, b2, b3⟩ := ih (i + 1) w' (by omega) hw'
      refine ⟨b1, ho.tr b2, fun i0 m0 h1 h2 h3 h4 h5 => ?_⟩
      have hne : i0 ≠ i := fun e => hno m0 (by rw [← e]; exact h3)
      exact b3 i0 m0 (by omega) (by omega) h3 (fun i' g1 g2 => h4 i' (by omega) g2) h5
    cases c : p.1 with
    | false =>
      rw [if_pos (by decide)]
      refine hgo p.2 rp hmo.1 (fun m hgm => ?_)
      exact m4 c _ (dg_lt _ _) (by rw [fcx_pg pg]; exact hgm.2.1) ((mtx_pg pg _ _ _).mpr hgm.2.2)
    | true =>
      rw [if_neg (by decide)]
      obtain ⟨k1, k2, k3⟩ := m3 c
      obtain ⟨g1, g2⟩ := find_c (h := h) hi16 5 20 p.2 m1 k1 (by omega) (by omega) (fun v _ y => absurd y (by omega)) (by omega)
      have hext : ∀ m, extm p.2 i (dg (mkx u i) m) ↔ fcx u (dg (mkx u i) m) (5 * i) = 144 * tn r + 12 * a + b := fun m => by rw [k3 _ (dg_lt _ _), fcx_pg pg]
      generalize pFind i 5 20 p.2 = z at g1 g2 hfo ⊢
      cases c3 : z.1 with
      | false =>
        rw [if_pos (by decide)]
        obtain ⟨y1, y2⟩ := g2 c3
        rw [mkx_pg pgp] at y2
        rw [y1]
        refine hgo p.2 rp hmo.1 (fun m hgm => ?_)
        exact y2 m hgm.1 ((hext m).mpr hgm.2.1) ((mtx_pg pgp _ _ _).mpr hgm.2.2)
      | true =>
        rw [if_neg (by decide)]
        obtain ⟨m, n1, n2, n3, n4, n5, n6⟩ := g1 c3
        rw [mkx_pg pgp] at n1 n2 n3 n4 n6
        have rz : rst u z.2 := rp.o6 hfo.1 n5 (hfo.2 rp.2.2)
        have hgm : gcx u h (144 * tn r + 12 * a + b) i m := ⟨n1, (hext m).mp n3, (mtx_pg pgp _ _ _).mp n2⟩
        dsimp only
        refine ⟨rz, hmo.1.tr hfo.1, fun i0 m0 h1 h2 h3 h4 h5 => ?_⟩
        have e : i0 = i := by
          rcases Nat.lt_or_ge i i0 with g | g
          · exact absurd hgm (h4 i (Nat.le_refl _) g m)
          · omega
        subst e
        have em : m = m0 := by
          have h6 := n6 m0 h3.1 ((mtx_pg pgp _ _ _).mpr h3.2.2) ((hext m0).mpr h3.2.1)
          rcases Nat.lt_trichotomy m m0 with g | g | g
          · exact absurd hgm (h5 m g)
          · exact g
          · omega
        subst em
        refine ⟨rfl, fun v hv => ?_⟩
        rw [n4 v hv]
        by_cases e : mkx u i0 v = true
        · rw [if_pos e, if_pos e]
        · rw [if_neg e, if_neg e]
          exact k2 v hv (by rw [mkx_pg pg]; exact Bool.eq_false_iff.mpr e)
