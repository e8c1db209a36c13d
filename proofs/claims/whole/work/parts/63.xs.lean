-- the mathematics, third part: what a rule says
def tvx (x : Nat → Nat) (t : Int32) : Nat := if tn t < 20 then tn t else x (tn t - 20)
def fcx (w : jU) (x : Nat → Nat) (j : Nat) : Nat := 144 * tn (w 16 j) + 12 * tvx x (w 17 j) + tvx x (w 18 j)
/-- every literal of rule i is as it should be -/
def mtx (w : jU) (h : Nat → Bool) (x : Nat → Nat) (i : Nat) : Prop := ∀ q, q < tn (w 12 i) → h (fcx w x (5 * i + 1 + q)) = decide (w 19 (5 * i + 1 + q) = 0)
def ocx (w : jU) (j v : Nat) : Bool := decide (tn (w 17 j) = 20 + v) || decide (tn (w 18 j) = 20 + v)
def mkn (w : jU) (i v : Nat) : Nat → Bool
  | 0 => false
  | n + 1 => mkn w i v n || ocx w (5 * i + n) v
def mkx (w : jU) (i v : Nat) : Bool := mkn w i v (tn (w 12 i) + 1)
/-- rules in their bounds -/
def wfR (w : jU) : Prop := (∀ i, i < 16 → inN (w 12 i) 5) ∧ (∀ j, j < 80 → wfB w j)
theorem wfD.R {w : jU} (h : wfD w) : wfR w := ⟨h.2.2.1, h.2.2.2.1⟩
theorem mkn_1 {w : jU} {i v : Nat} : ∀ {n : Nat}, mkn w i v n = true ↔ ∃ q, q < n ∧ ocx w (5 * i + q) v = true := by
  intro n
  induction n with
  | zero => exact ⟨fun h => (by cases h), fun ⟨q, hq, _⟩ => absurd hq (by omega)⟩
  | succ n ih =>
    unfold mkn
    rw [Bool.or_eq_true, ih]
    constructor
    · rintro (⟨q, hq, h⟩ | h)
      · exact ⟨q, by omega, h⟩
      · exact ⟨n, by omega, h⟩
    · rintro ⟨q, hq, h⟩
      by_cases e : q = n
      · subst e; exact Or.inr h
      · exact Or.inl ⟨q, by omega, h⟩
theorem tm_lt {t : Int32} (h : tm t) : tn t < 24 := by
  rcases h with h | h
  · have := h.2; omega
  · exact h.1.2
theorem tvx_congr {x y : Nat → Nat} {t : Int32} (ht : tm t) (h : ∀ v, v < 4 → tn t = 20 + v → x v = y v) : tvx x t = tvx y t := by
  unfold tvx
  split
  · rfl
  · have := tm_lt ht
    exact h (tn t - 20) (by omega) (by omega)
theorem fcx_congr {w : jU} {x y : Nat → Nat} {j : Nat} (hB : wfB w j) (h : ∀ v, v < 4 → ocx w j v = true → x v = y v) : fcx w x j = fcx w y j := by
  have h1 : tvx x (w 17 j) = tvx y (w 17 j) := tvx_congr hB.2.1 (fun v hv e => h v hv (by simp [ocx, e]))
  have h2 : tvx x (w 18 j) = tvx y (w 18 j) := tvx_congr hB.2.2.1 (fun v hv e => h v hv (by simp [ocx, e]))
  unfold fcx
  rw [h1, h2]
theorem mkx_of {w : jU} {i q v : Nat} (hq : q ≤ tn (w 12 i)) (h : ocx w (5 * i + q) v = true) : mkx w i v = true := mkn_1.mpr ⟨q, by omega, h⟩
theorem mtx_congr {w : jU} (hR : wfR w) {h : Nat → Bool} {x y : Nat → Nat} {i : Nat} (hi : i < 16) (he : ∀ v, v < 4 → mkx w i v = true → x v = y v) : mtx w h x i ↔ mtx w h y i := by
  have hs := (hR.1 i hi).2
  have key : ∀ q, q < tn (w 12 i) → fcx w x (5 * i + 1 + q) = fcx w y (5 * i + 1 + q) := fun q hq => fcx_congr (hR.2 _ (by omega)) (fun v hv ho => he v hv (mkx_of (q := 1 + q) (by omega) (by rw [show 5 * i + (1 + q) = 5 * i + 1 + q by omega]; exact ho)))
  constructor
  · intro hm q hq; rw [← key q hq]; exact hm q hq
  · intro hm q hq; rw [key q hq]; exact hm q hq
theorem head_congr {w : jU} (hR : wfR w) {x y : Nat → Nat} {i : Nat} (hi : i < 16) (he : ∀ v, v < 4 → mkx w i v = true → x v = y v) : fcx w x (5 * i) = fcx w y (5 * i) :=
  fcx_congr (hR.2 _ (by omega)) (fun v hv ho => he v hv (mkx_of (q := 0) (by omega) ho))
theorem tvx_lt {x : Nat → Nat} (hx : ∀ v, x v < 12) {t : Int32} (ht : tm t) : tvx x t < 12 := by
  unfold tvx
  split
  · rcases ht with h | h
    · exact h.2
    · omega
  · exact hx _
theorem fcx_lt {w : jU} {x : Nat → Nat} (hx : ∀ v, x v < 12) {j : Nat} (hB : wfB w j) : fcx w x j < 1152 := by
  have h1 := tvx_lt hx hB.2.1
  have h2 := tvx_lt hx hB.2.2.1
  have h3 := hB.1.2
  unfold fcx
  omega
-- the reference: bits of the variables
theorem vt_bt : ∀ k, k < 24 → (k < 12 ∨ 20 ≤ k) → ∀ v, v < 4 → bt (if nI k < 20 then (0 : Int32) else 1 <<< ((nI k - 20) &&& 31)) v = decide (k = 20 + v) := by decide +kernel
theorem tm_k {t : Int32} (h : tm t) : t = nI (tn t) ∧ tn t < 24 ∧ (tn t < 12 ∨ 20 ≤ tn t) := by
  rcases h with h | h
  · exact ⟨h.1, by have := h.2; omega, Or.inl h.2⟩
  · exact ⟨h.1.1, h.1.2, Or.inr h.2⟩
theorem vt_b {t : Int32} (h : tm t) {v : Nat} (hv : v < 4) : bt (if t < 20 then (0 : Int32) else 1 <<< ((t - 20) &&& 31)) v = decide (tn t = 20 + v) := by
  obtain ⟨h1, h2, h3⟩ := tm_k h
  have := vt_bt (tn t) h2 h3 v hv
  rw [← h1] at this
  exact this
theorem vo_bt {w : jU} {j : Nat} (hB : wfB w j) {v : Nat} (hv : v < 4) : bt (m_vo w j) v = ocx w j v := by
  have h1 := vt_b hB.2.1 hv
  have h2 := vt_b hB.2.2.1 hv
  unfold m_vo ocx
  rw [← h1, ← h2]
  by_cases e : w 18 j < 20
  · rw [if_pos e, if_pos e, b_0, Bool.or_false]
  · rw [if_neg e, if_neg e, b_or]
theorem mVs_bt {w : jU} (hR : wfR w) {i : Nat} (hi : i < 16) {v : Nat} (hv : v < 4) : ∀ n, n ≤ 5 → bt (mVs w i n) v = mkn w i v n := by
  intro n
  induction n with
  | zero => intro _; exact b_0 v
  | succ n ih =>
    intro hn
    unfold mVs mkn
    rw [b_or, ih (by omega), vo_bt (hR.2 _ (by omega)) hv]
theorem mVars_bt {w : jU} (hR : wfR w) {i : Nat} (hi : i < 16) {v : Nat} (hv : v < 4) : bt (mVars w i) v = mkx w i v := mVs_bt hR hi hv _ (by have := (hR.1 i hi).2; omega)
theorem mHas_bt (b : Int32) {v : Nat} (hv : v < 4) : mHas b (nI v) = 0 ↔ bt b v = false := by
  unfold mHas
  have h := and1_1 (b >>> (nI v &&& 31))
  rw [shr_bt b (by omega)] at h
  cases e : bt b v with
  | true => rw [e] at h; rw [if_pos (h.mpr rfl)]; decide
  | false => rw [e] at h; rw [if_neg (fun z => by cases h.mp z)]; decide
theorem mLf_eq {b : Int32} {v : Nat} (hv : v < 4) {c : Bool} (h : bt b v = c) (L : Nat) : mLf b (nI v) L = if c then L / 12 else L := by
  unfold mLf
  cases c with
  | true => rw [if_neg (fun z => by have := (mHas_bt b hv).mp z; rw [h] at this; cases this), if_pos rfl]
  | false => rw [if_pos ((mHas_bt b hv).mpr h)]; rfl
theorem mVf_eq {b : Int32} {v : Nat} (hv : v < 4) {c : Bool} (h : bt b v = c) (L : Nat) : mVf b (nI v) L = if c then L % 12 else 0 := by
  unfold mVf
  cases c with
  | true => rw [if_neg (fun z => by have := (mHas_bt b hv).mp z; rw [h] at this; cases this), if_pos rfl]
  | false => rw [if_pos ((mHas_bt b hv).mpr h)]; rfl
section INS
variable {w : jU} {i : Nat}
theorem lf_3 (hR : wfR w) (hi : i < 16) (n : Nat) : mLf (mVars w i) 3 n = lf3 (mkx w i) n := mLf_eq (v := 3) (by decide) (mVars_bt hR hi (by decide)) n
theorem lf_2 (hR : wfR w) (hi : i < 16) (n : Nat) : mLf (mVars w i) 2 (mLf (mVars w i) 3 n) = lf2 (mkx w i) n := by
  rw [lf_3 hR hi]; exact mLf_eq (v := 2) (by decide) (mVars_bt hR hi (by decide)) _
theorem lf_1 (hR : wfR w) (hi : i < 16) (n : Nat) : mLf (mVars w i) 1 (mLf (mVars w i) 2 (mLf (mVars w i) 3 n)) = lf1 (mkx w i) n := by
  rw [lf_2 hR hi]; exact mLf_eq (v := 1) (by decide) (mVars_bt hR hi (by decide)) _
theorem lf_0 (hR : wfR w) (hi : i < 16) (n : Nat) : mL4 (mVars w i) n = lf0 (mkx w i) n := by
  unfold mL4
  rw [lf_1 hR hi]; exact mLf_eq (v := 0) (by decide) (mVars_bt hR hi (by decide)) _
theorem inst_6 (hR : wfR w) (hi : i < 16) (n : Nat) {q : Nat} (hq : q < 4) : (mInst w i n).2 6 q = nI (dg (mkx w i) n q) := by
  unfold mInst
  rw [lf_1 hR hi, lf_2 hR hi, lf_3 hR hi]
  match q, hq with
  | 0, _ => exact congrArg nI (mVf_eq (v := 0) (by decide) (mVars_bt hR hi (by decide)) _)
  | 1, _ => exact congrArg nI (mVf_eq (v := 1) (by decide) (mVars_bt hR hi (by decide)) _)
  | 2, _ => exact congrArg nI (mVf_eq (v := 2) (by decide) (mVars_bt hR hi (by decide)) _)
  | 3, _ => exact congrArg nI (mVf_eq (v := 3) (by decide) (mVars_bt hR hi (by decide)) _)
theorem inst_1 (hR : wfR w) (hi : i < 16) {n : Nat} (hn : n < 2 ^ 31) : (mInst w i n).1 = 0 ↔ ¬ lf0 (mkx w i) n = 0 := by
  show (if nI (mL4 (mVars w i) n) = 0 then (1 : Int32) else 0) = 0 ↔ _
  have hb : mL4 (mVars w i) n < 2 ^ 31 := mLf_lt (mLf_lt (mLf_lt (mLf_lt hn)))
  have e := lf_0 hR hi n
  by_cases h : lf0 (mkx w i) n = 0
  · rw [e, h, if_pos nI_0]
    simp
  · rw [if_neg (by rw [e]; exact nI_ne (by omega) (by omega))]
    simp [h]
end INS
theorem tv_eq {w : jU} {x : Nat → Nat} (hx : ∀ q, q < 4 → w 6 q = nI (x q)) (hl : ∀ v, x v < 12) {t : Int32} (ht : tm t) : tn (m_tv w t) = tvx x t := by
  obtain ⟨h1, h2, h3⟩ := tm_k ht
  unfold m_tv tvx
  have hlt : t < 20 ↔ tn t < 20 := inN_ltN (n := 20) ⟨h1, h2⟩ (by decide) (by decide)
  by_cases e : tn t < 20
  · rw [if_pos (hlt.mpr e), if_pos e]
  · rw [if_neg (fun z => e (hlt.mp z)), if_neg e, hx _ (by omega)]
    exact nI_clamp (by have := hl (tn t - 20); omega)
theorem fact_eq {w : jU} {x : Nat → Nat} (hx : ∀ q, q < 4 → w 6 q = nI (x q)) (hl : ∀ v, x v < 12) {j : Nat} (hB : wfB w j) : mFact w j = fcx w x j := by
  unfold mFact fcx
  rw [tv_eq hx hl hB.2.1, tv_eq hx hl hB.2.2.1]
/-- what holds by the ranks -/
def hol (w : jU) : Nat → Bool := fun f => decide (¬ w 4 f < 0)
theorem hol_is {w : jU} {f : Nat} {z : Int32} (hz : z = 0 ∨ z = 1) : m_holds w f = z ↔ ¬ hol w f = decide (z = 0) := by
  unfold m_holds hol
  by_cases h : w 4 f < 0
  · rcases hz with rfl | rfl <;> simp [h]
  · rcases hz with rfl | rfl <;> simp [h]
theorem met_n {w : jU} (hR : wfR w) {x : Nat → Nat} (hx : ∀ q, q < 4 → w 6 q = nI (x q)) (hl : ∀ v, x v < 12) {i : Nat} (hi : i < 16) : ∀ n, n ≤ tn (w 12 i) → (¬ mMt w i n = 0 ↔ ∀ q, q < n → hol w (fcx w x (5 * i + 1 + q)) = decide (w 19 (5 * i + 1 + q) = 0)) := by
  have hs := (hR.1 i hi).2
  intro n
  induction n with
  | zero => intro _; exact ⟨fun _ q hq => absurd hq (by omega), fun _ => by show ¬ (1 : Int32) = 0; decide⟩
  | succ n ih =>
    intro hn
    have hB := hR.2 (5 * i + 1 + n) (by omega)
    have hf := fact_eq hx hl hB
    have hh := hol_is (w := w) (f := fcx w x (5 * i + 1 + n)) hB.2.2.2
    have ih' := ih (by omega)
    unfold mMt
    rw [show 5 * i + (n + 1) = 5 * i + 1 + n by omega, hf]
    constructor
    · intro h q hq
      split at h
      · exact absurd rfl h
      · rename_i h1
        split at h
        · exact absurd rfl h
        · rename_i h2
          by_cases e : q = n
          · subst e; exact Classical.byContradiction (fun z => h2 (hh.mpr z))
          · exact ih'.mp h1 q (by omega)
    · intro h
      rw [if_neg (ih'.mpr (fun q hq => h q (by omega))), if_neg (fun z => hh.mp z (h n (by omega)))]
      decide
theorem met_eq {w : jU} (hR : wfR w) {x : Nat → Nat} (hx : ∀ q, q < 4 → w 6 q = nI (x q)) (hl : ∀ v, x v < 12) {i : Nat} (hi : i < 16) : ¬ mMet w i = 0 ↔ mtx w (hol w) x i := met_n hR hx hl hi _ (Nat.le_refl _)
-- the skipping of numbers
theorem mU1_eq {b : Int32} {v : Nat} (hv : v < 4) {c : Bool} (h : bt b v = c) (x : Nat) : mU1 b (nI v) x = if c then 12 * x else x := by
  unfold mU1
  have h2 := and1_1 (b >>> (nI v &&& 31))
  rw [shr_bt b (by omega), h] at h2
  cases c with
  | true => rw [if_pos (h2.mpr rfl), if_pos rfl]
  | false => rw [if_neg (fun z => by cases h2.mp z)]; rfl
theorem if_bt {b : Int32} {v : Nat} (hv : v < 4) {c : Bool} (h : bt b v = c) (x y : Nat) : (if (b >>> (nI v &&& 31)) &&& 1 = 0 then x else y) = if c then y else x := by
  have h2 := and1_0 (b >>> (nI v &&& 31))
  rw [shr_bt b (by omega), h] at h2
  cases c with
  | true => rw [if_neg (fun z => by cases h2.mp z), if_pos rfl]
  | false => rw [if_pos (h2.mpr rfl)]; rfl
theorem unit_eq {b o : Int32} {c d : Nat → Bool} (hc : ∀ v, v < 4 → bt b v = c v) (hd : ∀ v, v < 4 → bt o v = d v) : mUnit b o = un c d := by
  have e3 : mU1 b 3 1 = un3 c := (mU1_eq (v := 3) (by decide) (hc 3 (by decide)) 1).trans (by unfold un3; rfl)
  have e2 : mU1 b 2 (mU1 b 3 1) = un2 c := by rw [e3]; exact mU1_eq (v := 2) (by decide) (hc 2 (by decide)) _
  have e1 : mU1 b 1 (mU1 b 2 (mU1 b 3 1)) = un1 c := by rw [e2]; exact mU1_eq (v := 1) (by decide) (hc 1 (by decide)) _
  have e0 : mU1 b 0 (mU1 b 1 (mU1 b 2 (mU1 b 3 1))) = un0 c := by rw [e1]; exact mU1_eq (v := 0) (by decide) (hc 0 (by decide)) _
  unfold mUnit un
  rw [e0, e1, e2, e3]
  have f3 : ∀ x y : Nat, (if o >>> ((3 : Int32) &&& 31) &&& 1 = 0 then x else y) = if d 3 then y else x := fun x y => if_bt (v := 3) (by decide) (hd 3 (by decide)) x y
  have f2 : ∀ x y : Nat, (if o >>> ((2 : Int32) &&& 31) &&& 1 = 0 then x else y) = if d 2 then y else x := fun x y => if_bt (v := 2) (by decide) (hd 2 (by decide)) x y
  have f1 : ∀ x y : Nat, (if o >>> ((1 : Int32) &&& 31) &&& 1 = 0 then x else y) = if d 1 then y else x := fun x y => if_bt (v := 1) (by decide) (hd 1 (by decide)) x y
  have f0 : ∀ x y : Nat, (if o >>> ((0 : Int32) &&& 31) &&& 1 = 0 then x else y) = if d 0 then y else x := fun x y => if_bt (v := 0) (by decide) (hd 0 (by decide)) x y
  rw [f3, f2, f1, f0]
theorem skip_is {w : jU} (hR : wfR w) {x : Nat → Nat} (hx : ∀ q, q < 4 → w 6 q = nI (x q)) (hl : ∀ v, x v < 12) {i : Nat} (hi : i < 16) : ∀ n, n ≤ tn (w 12 i) → mSk w i n = 1 ∨ ∃ q, q < n ∧ ¬ hol w (fcx w x (5 * i + 1 + q)) = decide (w 19 (5 * i + 1 + q) = 0) ∧ mSk w i n = un (mkx w i) (ocx w (5 * i + 1 + q)) := by
  have hs := (hR.1 i hi).2
  intro n
  induction n with
  | zero => intro _; exact Or.inl rfl
  | succ n ih =>
    intro hn
    have hB := hR.2 (5 * i + 1 + n) (by omega)
    have hf := fact_eq hx hl hB
    have hh := hol_is (w := w) (f := fcx w x (5 * i + 1 + n)) hB.2.2.2
    have hu : mUnit (mVars w i) (m_vo w (5 * i + 1 + n)) = un (mkx w i) (ocx w (5 * i + 1 + n)) := unit_eq (fun v hv => mVars_bt hR hi hv) (fun v hv => vo_bt hB hv)
    have ih' := ih (by omega)
    have hstep : ∀ z, (z = mSk w i n ∨ (m_holds w (fcx w x (5 * i + 1 + n)) = w 19 (5 * i + 1 + n) ∧ z = un (mkx w i) (ocx w (5 * i + 1 + n)))) → z = 1 ∨ ∃ q, q < n + 1 ∧ ¬ hol w (fcx w x (5 * i + 1 + q)) = decide (w 19 (5 * i + 1 + q) = 0) ∧ z = un (mkx w i) (ocx w (5 * i + 1 + q)) := by
      rintro z (rfl | ⟨h1, rfl⟩)
      · rcases ih' with h | ⟨q, hq, h⟩
        · exact Or.inl h
        · exact Or.inr ⟨q, by omega, h⟩
      · exact Or.inr ⟨n, by omega, hh.mp h1, rfl⟩
    refine hstep _ ?_
    have hdef : mSk w i (n + 1) = if m_holds w (mFact w (5 * i + (n + 1))) = w 19 (5 * i + (n + 1)) then (if nI (mUnit (mVars w i) (m_vo w (5 * i + (n + 1)))) ≤ nI (mSk w i n) then mSk w i n else mUnit (mVars w i) (m_vo w (5 * i + (n + 1)))) else mSk w i n := rfl
    rw [hdef, show 5 * i + (n + 1) = 5 * i + 1 + n by omega, hf, hu]
    split
    · rename_i h1
      split
      · exact Or.inl rfl
      · exact Or.inr ⟨h1, rfl⟩
    · exact Or.inl rfl
/-- no number that is skipped meets its rule -/
theorem skip_no {w : jU} (hR : wfR w) {i : Nat} (hi : i < 16) {n : Nat} (hx : ∀ q, q < 4 → w 6 q = nI (dg (mkx w i) n q)) {m : Nat} (h1 : n < m) (h2 : m < mBeh w i n) : ¬ mtx w (hol w) (dg (mkx w i) m) i := by
  have hs := (hR.1 i hi).2
  unfold mBeh at h2
  rcases skip_is hR hx (dg_lt _ _) hi _ (Nat.le_refl _) with h | ⟨q, hq, hb, h⟩
  · rw [h] at h2
    exact absurd h2 (by omega)
  · rw [h] at h2
    have hd := div_block (un_pos _ _) h1 h2
    intro hm
    apply hb
    rw [← hm q hq]
    exact congrArg (hol w) (fcx_congr (hR.2 _ (by omega)) (fun v hv ho => (un_dg hd v hv ho).symm))
