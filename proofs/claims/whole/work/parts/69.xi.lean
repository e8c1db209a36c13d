-- the mathematics, ninth part: safe rules, the fault on both sides
theorem vt_bt32 : ∀ k, k < 24 → (k < 12 ∨ 20 ≤ k) → ∀ v, v < 32 → bt (if nI k < 20 then (0 : Int32) else 1 <<< ((nI k - 20) &&& 31)) v = decide (k = 20 + v) := by decide +kernel
theorem vt_b32 {t : Int32} (h : tm t) {v : Nat} (hv : v < 32) : bt (if t < 20 then (0 : Int32) else 1 <<< ((t - 20) &&& 31)) v = decide (tn t = 20 + v) := by
  obtain ⟨h1, h2, h3⟩ := tm_k h
  have := vt_bt32 (tn t) h2 h3 v hv
  rw [← h1] at this
  exact this
theorem vo_bt32 {w : jU} {j : Nat} (hB : wfB w j) {v : Nat} (hv : v < 32) : bt (m_vo w j) v = ocx w j v := by
  have h1 := vt_b32 hB.2.1 hv
  have h2 := vt_b32 hB.2.2.1 hv
  unfold m_vo ocx
  rw [← h1, ← h2]
  by_cases e : w 18 j < 20
  · rw [if_pos e, if_pos e, b_0, Bool.or_false]
  · rw [if_neg e, if_neg e, b_or]
theorem ocx_4 {w : jU} {j : Nat} (hB : wfB w j) {v : Nat} (hv : 4 ≤ v) : ocx w j v = false := by
  have h1 := tm_lt hB.2.1
  have h2 := tm_lt hB.2.2.1
  unfold ocx
  rw [decide_eq_false (by omega), decide_eq_false (by omega)]
  rfl
def psn (w : jU) (i v : Nat) : Nat → Bool
  | 0 => false
  | n + 1 => psn w i v n || (decide (w 19 (5 * i + 1 + n) = 0) && ocx w (5 * i + 1 + n) v)
def ngn (w : jU) (i v : Nat) : Nat → Bool
  | 0 => ocx w (5 * i) v
  | n + 1 => ngn w i v n || (!decide (w 19 (5 * i + 1 + n) = 0) && ocx w (5 * i + 1 + n) v)
def pvx (w : jU) (i v : Nat) : Bool := psn w i v (tn (w 12 i))
def ngx (w : jU) (i v : Nat) : Bool := ngn w i v (tn (w 12 i))
theorem mkn_np (w : jU) (i v : Nat) : ∀ n, mkn w i v (n + 1) = (ngn w i v n || psn w i v n) := by
  intro n
  induction n with
  | zero => unfold mkn mkn ngn psn; simp
  | succ n ih =>
    rw [mkn, ih, ngn, psn, show 5 * i + (n + 1) = 5 * i + 1 + n by omega]
    cases decide (w 19 (5 * i + 1 + n) = 0) <;> cases ngn w i v n <;> cases psn w i v n <;> simp
theorem mkx_np (w : jU) (i v : Nat) : mkx w i v = (ngx w i v || pvx w i v) := mkn_np w i v _
theorem mkx_4 {w : jU} (hR : wfR w) {i v : Nat} (hi : i < 16) (hv : 4 ≤ v) : mkx w i v = false := by
  cases c : mkx w i v with
  | false => rfl
  | true =>
    obtain ⟨q, hq, h⟩ := mkn_1.mp c
    have := (hR.1 i hi).2
    rw [ocx_4 (hR.2 _ (by omega)) hv] at h
    cases h
theorem sf_bt {w : jU} (hR : wfR w) {i : Nat} (hi : i < 16) {v : Nat} (hv : v < 32) : ∀ n, n ≤ tn (w 12 i) → bt (mSf w i n).1 v = psn w i v n ∧ bt (mSf w i n).2 v = ngn w i v n := by
  have hs := (hR.1 i hi).2
  intro n
  induction n with
  | zero => intro _; exact ⟨b_0 v, vo_bt32 (hR.2 _ (by omega)) hv⟩
  | succ n ih =>
    intro hn
    obtain ⟨a1, a2⟩ := ih (by omega)
    have hB := hR.2 (5 * i + 1 + n) (by omega)
    have hv1 := vo_bt32 hB hv
    have e : mSf w i (n + 1) = (if w 19 (5 * i + (n + 1)) = 0 then (mSf w i n).1 ||| m_vo w (5 * i + (n + 1)) else (mSf w i n).1, if w 19 (5 * i + (n + 1)) = 0 then (mSf w i n).2 else (mSf w i n).2 ||| m_vo w (5 * i + (n + 1))) := rfl
    rw [e, show 5 * i + (n + 1) = 5 * i + 1 + n by omega, psn, ngn]
    by_cases c : w 19 (5 * i + 1 + n) = 0
    · rw [if_pos c, if_pos c]
      simp [b_or, a1, a2, hv1, c]
    · rw [if_neg c, if_neg c]
      simp [b_or, a1, a2, hv1, c]
theorem safe_m {w : jU} (hR : wfR w) {i : Nat} (hi : i < 16) : ¬ mSafe w i = 0 ↔ ∀ v, v < 32 → ngx w i v = true → pvx w i v = true := by
  have hb := fun v (hv : v < 32) => sf_bt hR hi hv _ (Nat.le_refl (tn (w 12 i)))
  unfold mSafe
  have hx : (mSf w i (tn (w 12 i))).2 &&& ((mSf w i (tn (w 12 i))).1 ^^^ (-1)) = 0 ↔ ∀ v, v < 32 → ngx w i v = true → pvx w i v = true := by
    constructor
    · intro h v hv hn
      have h1 : bt ((mSf w i (tn (w 12 i))).2 &&& ((mSf w i (tn (w 12 i))).1 ^^^ (-1))) v = false := by rw [h]; exact b_0 v
      rw [b_and, b_xor, b_m1 v hv, (hb v hv).1, (hb v hv).2] at h1
      unfold ngx at hn
      unfold pvx
      rw [hn] at h1
      cases c : psn w i v (tn (w 12 i)) with
      | true => rfl
      | false => rw [c] at h1; simp at h1
    · intro h
      refine b_ext (fun v hv => ?_)
      rw [b_and, b_xor, b_m1 v hv, (hb v hv).1, (hb v hv).2, b_0]
      have h2 := h v hv
      unfold ngx pvx at h2
      cases c : ngn w i v (tn (w 12 i)) with
      | false => rfl
      | true => rw [h2 c]; rfl
  rw [← hx]
  split
  · rename_i h; exact ⟨fun _ => h, fun _ => by decide⟩
  · rename_i h; exact ⟨fun z => absurd rfl z, fun z => absurd z h⟩
/-- the class's masks of rule i -/
def msk (u : jU) (i : Nat) : Prop := (∀ v, v < 32 → bt (u 13 i) v = (decide (20 ≤ v) && mkx u i (v - 20))) ∧ (∀ v, v < 32 → bt (u 14 i) v = (decide (20 ≤ v) && pvx u i (v - 20)))
theorem safe_c {u : jU} (hR : wfR u) {i : Nat} (hi : i < 16) (hm : msk u i) : pSafe u i = true ↔ ¬ mSafe u i = 0 := by
  rw [safe_m hR hi]
  unfold pSafe
  rw [decide_eq_true_iff]
  constructor
  · intro h v hv hn
    have h1 : mkx u i v = true := by rw [mkx_np, hn]; rfl
    rcases Nat.lt_or_ge v 4 with h4 | h4
    · have h2 := hm.1 (20 + v) (by omega)
      rw [h, hm.2 (20 + v) (by omega), decide_eq_true (by omega), show 20 + v - 20 = v by omega, h1] at h2
      simpa using h2
    · rw [mkx_4 hR hi h4] at h1; cases h1
  · intro h
    refine b_ext (fun v hv => ?_)
    rw [hm.1 v hv, hm.2 v hv, mkx_np]
    have h2 := h (v - 20) (by omega)
    cases c : ngx u i (v - 20) with
    | false => simp
    | true => rw [h2 c]; simp
theorem uns_eq {u w : jU} {K : Nat} (h : ∀ i, i < K → (pSafe u i = true ↔ ¬ mSafe w i = 0)) : ∀ d i, d + i = K → pUns u d i = mUn w K d := by
  intro d
  induction d with
  | zero => intro i _; rfl
  | succ d ih =>
    intro i hi
    unfold pUns mUn
    rw [show K - 1 - d = i by omega, ih (i + 1) (by omega)]
    have h1 := h i (by omega)
    cases c : pSafe u i with
    | true => rw [c] at h1; rw [if_neg (by decide), if_neg (h1.mp rfl)]
    | false =>
      rw [c] at h1
      have h2 : mSafe w i = 0 := Classical.byContradiction (fun z => by cases h1.mpr z)
      rw [if_pos (by decide), if_pos h2]
theorem mUn_cases (w : jU) (K : Nat) : ∀ d, mUn w K d = -1 ∨ ∃ i, i ≤ K ∧ mUn w K d = nI i := by
  intro d
  induction d with
  | zero => exact Or.inl rfl
  | succ d ih =>
    unfold mUn
    split
    · exact Or.inr ⟨K - 1 - d, by omega, rfl⟩
    · exact ih
theorem m_vo_pg {w y : jU} (h : pgq w y) (j : Nat) : m_vo y j = m_vo w j := by unfold m_vo; rw [h.2.2.1, h.2.2.2.1]
theorem mSf_pg {w y : jU} (h : pgq w y) (i : Nat) : ∀ n, mSf y i n = mSf w i n := by
  intro n
  induction n with
  | zero => show ((0 : Int32), m_vo y (5 * i)) = (0, m_vo w (5 * i)); rw [m_vo_pg h]
  | succ n ih => unfold mSf; rw [ih, m_vo_pg h, h.2.2.2.2]
theorem mSafe_pg {w y : jU} (h : pgq w y) (i : Nat) : mSafe y i = mSafe w i := by unfold mSafe; rw [h.1, mSf_pg h]
theorem mUn_pg {w y : jU} (h : pgq w y) (K : Nat) : ∀ d, mUn y K d = mUn w K d := by
  intro d
  induction d with
  | zero => rfl
  | succ d ih => unfold mUn; rw [mSafe_pg h, ih]
theorem faX_pg {w y : jU} (h : pgq w y) (h1 : y 0 1 = w 0 1) : faX y = faX w := by
  unfold faX xF
  rw [h1, mUn_pg h, rH_pg h, rS_pg h, rB_pg h, rG_pg h]
theorem faX_ok {w : jU} (hK : tn (w 0 1) ≤ 16) (h : faX w = -1) : ∃ K, xF w (tn (w 0 1)) K := by
  unfold faX at h
  split at h
  · by_cases c : ∃ K, xF w (tn (w 0 1)) K
    · exact c
    · rw [cif_neg c] at h; exact absurd h (by decide)
  · rename_i h1
    rcases mUn_cases w (tn (w 0 1)) (tn (w 0 1)) with h2 | ⟨i, hi, h2⟩
    · rw [h2] at h1; exact absurd (by decide) h1
    · rw [h] at h1; exact absurd (by decide) h1
/-- behind judging, the fault and the layers are what they should be -/
def jgd (w u : jU) : Prop := u 0 2 = faX w ∧ (faX w = -1 → lyq u (laX w))
theorem judge_spec {u : jU} (hR : wfR u) (hK : tn (u 0 1) ≤ 16) (hm : ∀ i, i < tn (u 0 1) → msk u i) (hc : ¬ u 0 3 = 0 → jgd u u) : jgd u (pJudge u) ∧ ¬ pJudge u 0 3 = 0 := by
  unfold pJudge
  by_cases c : u 0 3 = 0
  · rw [if_pos c]
    have e1 : pUns u (tn (u 0 1)) 0 = mUn u (tn (u 0 1)) (tn (u 0 1)) := uns_eq (fun i hi => safe_c hR (by omega) (hm i hi)) _ 0 (by omega)
    have e2 : pJudge1 u 0 2 = mUn u (tn (u 0 1)) (tn (u 0 1)) := by unfold pJudge1; rw [up_same]; exact e1
    have kz1 : kp [0] u (pJudge1 u) := kp_up _ _ _ (by decide)
    have pg : pgq u (pJudge1 u) := kz1.pg (by decide)
    have h01 : pJudge1 u 0 1 = u 0 1 := up_idx _ _ (by decide)
    have hl := layers_spec (wfR_pg pg hR) (by rw [h01]; exact hK)
    rw [h01] at hl
    have hx : (∃ K, xF (pJudge1 u) (tn (u 0 1)) K) ↔ ∃ K, xF u (tn (u 0 1)) K := ⟨fun ⟨K, h⟩ => ⟨K, (xF_pg pg _ K).mp h⟩, fun ⟨K, h⟩ => ⟨K, (xF_pg pg _ K).mpr h⟩⟩
    rw [hx, laX_pg pg h01] at hl
    have h3 : (pLayers (pJudge1 u)).2 0 2 = pJudge1 u 0 2 := by
      have k : kp [3] (pJudge1 u) (pLayers (pJudge1 u)).2 := (kp_fill (cs := [3]) _ _ (by decide)).tr (pFL_kp 8 _)
      rw [k 0 (by decide)]
    rw [e2]
    rcases mUn_cases u (tn (u 0 1)) (tn (u 0 1)) with h2 | ⟨i, hi, h2⟩
    · rw [h2] at e2 ⊢
      rw [if_pos rfl]
      have hf : faX u = cif (∃ K, xF u (tn (u 0 1)) K) (-1) 100 := by unfold faX; rw [h2, if_pos (by decide)]
      by_cases d : ∃ K, xF u (tn (u 0 1)) K
      · obtain ⟨a, b⟩ := hl.1 d
        rw [a, if_neg (by decide)]
        refine ⟨⟨?_, fun _ => ?_⟩, ?_⟩
        · rw [up_idx _ _ (by decide), h3, e2, hf, cif_pos d]
        · intro r hr; rw [up_comp (c := 0) (c' := 3) _ _ _ _ (by decide)]; exact b r hr
        · rw [up_same]; decide
      · have a := hl.2 d
        rw [a, if_pos (by decide)]
        refine ⟨⟨?_, fun h => ?_⟩, ?_⟩
        · rw [up_idx _ _ (by decide), up_same, hf, cif_neg d]
        · rw [hf, cif_neg d] at h; exact absurd h (by decide)
        · rw [up_same]; decide
    · have hne : ¬ nI i < 0 := nI_nn (by omega)
      have hne2 : ¬ nI i = -1 := fun z => hne (by rw [z]; decide)
      have hf : faX u = nI i := by unfold faX; rw [h2, if_neg hne]
      rw [h2] at e2 ⊢
      rw [if_neg hne2]
      refine ⟨⟨?_, fun h => ?_⟩, ?_⟩
      · rw [up_idx _ _ (by decide), e2, hf]
      · rw [hf] at h; exact absurd h hne2
      · rw [up_same]; decide
  · rw [if_neg c]
    exact ⟨hc c, c⟩
/-- the ranks, without their machine -/
noncomputable def rkX (w : jU) (gv : Nat → Bool) : Nat → Int32 := abx w (fun r => nI (laX w r)) gv 9
theorem rkX_pg {w y : jU} (h : pgq w y) (h1 : y 0 1 = w 0 1) (hR : wfR w) (hK : tn (w 0 1) ≤ 16) {gv gv' : Nat → Bool} (hg : ∀ f, f < 1152 → gv' f = gv f) : eqr (rkX y gv') (rkX w gv) := by
  unfold rkX
  exact abx_e h h1 hR hK (fun r _ => by rw [laX_pg h h1]) hg 9
/-- what the reference knows when it knows -/
def kwn (w v : jU) : Prop := jgd w v ∧ (faX w = -1 → eqr (v 4) (rkX w (gvr w)))
theorem faX_neg {w : jU} (hK : tn (w 0 1) ≤ 16) : faX w < 0 ↔ faX w = -1 := by
  constructor
  · intro h
    unfold faX at h ⊢
    split at h
    · rename_i h1
      rw [if_pos h1]
      by_cases c : ∃ K, xF w (tn (w 0 1)) K
      · rw [cif_pos c]
      · rw [cif_neg c] at h; exact absurd h (by decide)
    · rename_i h1; exact absurd h h1
  · intro h; rw [h]; decide
theorem find_all {v : jU} (hR : wfR v) (hK : tn (v 0 1) ≤ 16) (hg : gok v) : mEnds v ∧ (v 0 3 = 0 → kwn v (mFind v) ∧ ¬ mFind v 0 3 = 0) := by
  have hk0 : kp [0] v (up v 0 3 1) := kp_up _ _ _ (by decide)
  have pg0 : pgq v (up v 0 3 1) := hk0.pg (by decide)
  have h01 : up v 0 3 1 0 1 = v 0 1 := up_idx _ _ (by decide)
  have hRz := wfR_pg pg0 hR
  have hKz : tn (up v 0 3 1 0 1) ≤ 16 := by rw [h01]; exact hK
  obtain ⟨f1, f2⟩ := ff_spec hRz hKz
  have fe := (wl_all hRz hKz).1
  have kf := mFF_kp (up v 0 3 1)
  have e1 : mFd1 v = up (mFF (up v 0 3 1)).2 0 2 (mFF (up v 0 3 1)).1 := rfl
  rw [faX_pg pg0 h01] at f1
  have hx : (∃ K, xF (up v 0 3 1) (tn (up v 0 3 1 0 1)) K) ↔ ∃ K, xF v (tn (v 0 1)) K := by
    rw [h01]
    exact ⟨fun ⟨K, h⟩ => ⟨K, (xF_pg pg0 _ K).mp h⟩, fun ⟨K, h⟩ => ⟨K, (xF_pg pg0 _ K).mpr h⟩⟩
  rw [hx, laX_pg pg0 h01] at f2
  have k1 : kp [0, 3] v (mFd1 v) := by rw [e1]; exact ((hk0.wid (by decide)).tr (kf.wid (by decide))).tr (kp_up _ _ _ (by decide))
  have h02 : mFd1 v 0 2 = faX v := by rw [e1, up_same]; exact f1
  have h03 : mFd1 v 0 3 = 1 := by rw [e1, up_idx _ _ (by decide), kf 0 (by decide), up_same]
  have h011 : mFd1 v 0 1 = v 0 1 := by rw [e1, up_idx _ _ (by decide), kf 0 (by decide)]; exact h01
  have h00 : mFd1 v 0 0 = v 0 0 := by rw [e1, up_idx _ _ (by decide), kf 0 (by decide)]; exact up_idx _ _ (by decide)
  have hly : faX v = -1 → lyq (mFd1 v) (laX v) := by
    intro h r hr
    rw [e1, up_comp (c := 0) (c' := 3) _ _ _ _ (by decide)]
    exact f2 (faX_ok hK h) r hr
  have edef : mFind v = if v 0 3 = 0 then (if mFd1 v 0 2 < 0 then itN mLay 9 (itN mI1 1152 (mFd1 v)) else mFd1 v) else v := rfl
  have pg1 : pgq v (mFd1 v) := k1.pg (by decide)
  have hFS := find_spec (wfR_pg pg1 hR) (by rw [h011]; exact hK) (gok_c h00 (k1 2 (by decide)) hg)
  have hends : mEnds v := by
    unfold mEnds
    exact fun _ => ⟨fe, fun _ ly _ => (hFS ly).2.2⟩
  generalize mFd1 v = z at k1 h02 h03 h011 h00 hly edef pg1 hFS
  refine ⟨hends, ?_⟩
  · intro h0
    rw [edef, if_pos h0, h02]
    by_cases c : faX v < 0
    · have hc := (faX_neg hK).mp c
      rw [if_pos c]
      obtain ⟨b1, b2, -⟩ := hFS 9
      generalize itN mLay 9 (itN mI1 1152 z) = y at b1 b2 ⊢
      refine ⟨⟨⟨by rw [b1 0 (by decide)]; exact h02, fun h r hr => by rw [b1 3 (by decide)]; exact hly h r hr⟩, fun h => b2.tr ?_⟩, by rw [b1 0 (by decide), h03]; decide⟩
      unfold rkX
      refine abx_e pg1 h011 hR hK (fun r hr => hly h r hr) (fun f _ => ?_) 9
      unfold gvr
      rw [k1 2 (by decide)]
    · rw [if_neg c]
      refine ⟨⟨⟨h02, hly⟩, fun h => absurd ((faX_neg hK).mpr h) c⟩, by rw [h03]; decide⟩
