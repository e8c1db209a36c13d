-- the reference's loops, second part: bounds
theorem n1152 : (1152 : Int32) = nI 1152 := by decide +kernel
theorem ge1152 {q : Nat} (h : q < 2 ^ 31) : (1152 : Int32) ≤ nI q ↔ 1152 ≤ q := by
  rw [n1152]
  exact nI_leI (by decide) h
theorem nI_nn {q : Nat} (h : q < 2 ^ 31) : ¬ nI q < 0 := by
  intro h1
  have := (nI_ltI (b := 0) h (by decide)).mp h1
  omega
theorem pI_pred {x : Int32} {B : Nat} (h : inN x B) : x - 1 = pI (tn x) := by
  have h1 := h.1
  generalize tn x = n at h1
  subst h1
  cases n with
  | zero => decide
  | succ n => exact nI_pred n
def mC0 (u : jU) : jU := up (up (up u 0 4 0) 0 0 0) 0 1 0
def mC1 (f : Nat) (w : jU) : jU := up w 2 f 0
def mClear (u : jU) : jU := up (itN mC1 1152 (mC0 u)) 0 3 0
theorem mWl_stop {n : Nat} {x : Int32 × Int32 × jU} (h : mEnd x) : mWl n x = x := by
  cases n with
  | zero => rfl
  | succ n =>
    unfold mWl
    rcases h with h | h
    · rw [if_pos h]
    · split
      · rfl
      · first | rfl | rw [if_pos h]
theorem wfD_3 {u v : jU} (h : wfD u) (hk : kp [3] u v) : wfD v := h.kp hk (by decide) (wfU_of h.2.2.2.2.1 (hk 6 (by decide)))
theorem wfD_up0 {u : jU} (h : wfD u) {i : Nat} (hi : 2 ≤ i) (x : Int32) : wfD (up u 0 i x) := by
  refine ⟨?_, ?_, h.2.2.1, h.2.2.2.1, h.2.2.2.2.1, h.2.2.2.2.2⟩
  · rw [up_idx u x (by omega)]; exact h.1
  · rw [up_idx u x (by omega)]; exact h.2.1
theorem mFd1_wf {u : jU} (h : wfD u) : wfD (mFd1 u) := wfD_up0 (wfD_3 (wfD_up0 h (by decide) 1) (mFF_kp _)) (by decide) _
theorem mFind_E {u : jU} (h : wfD u) : mFd1 u 0 2 < 0 → ∀ n, mE (mFd1 u) (itN mLay n (itN mI1 1152 (mFd1 u))) := fun _ n =>
  itN_inv (P := mE (mFd1 u)) ((mE.rf (mFd1_wf h).2.2.2.2.1).i1s 1152) n (fun ly v _ hv => hv.lay ly)
theorem mFind_wf {u : jU} (h : wfD u) : wfD (mFind u) := by
  unfold mFind
  split
  · split
    · exact (mFind_E h ‹_› 9).wf (mFd1_wf h)
    · exact mFd1_wf h
  · exact h
theorem ref_is {u : jU} {x b d : Int32} (h : (m_refuse u (if x = 0 then 1 else 0) b d).1 = 0) : ¬ x = 0 := neg_if (ref_0 h).1
def mIs (u : jU) (r a b t : Int32) : Int32 := if m_isFact u r a b = 0 then 0 else (if m_in t 0 4 = 0 then 0 else 1)
def mFine (u : jU) (r a b t : Int32) : Int32 := if mIs u r a b t = 0 then 0 else (if 0 ≤ u 0 2 then 0 else 1)
theorem mIs_1 {u : jU} {r a b t : Int32} (h : ¬ mIs u r a b t = 0) : ¬ m_isFact u r a b = 0 ∧ ¬ m_in t 0 4 = 0 := by
  unfold mIs at h
  split at h
  · exact absurd rfl h
  · split at h
    · exact absurd rfl h
    · exact ⟨‹_›, ‹_›⟩
theorem mFine_1 {u : jU} {r a b t : Int32} (h : ¬ mFine u r a b t = 0) : ¬ mIs u r a b t = 0 ∧ ¬ 0 ≤ u 0 2 := by
  unfold mFine at h
  split at h
  · exact absurd rfl h
  · split at h
    · exact absurd rfl h
    · exact ⟨‹_›, ‹_›⟩
theorem mFine_ok {u : jU} {r a b t d : Int32} (h : (m_refuse u (if mIs u r a b t = 0 then 1 else 0) (if mIs u r a b t = 0 then 0 else (if u 0 2 < 0 then 0 else 1)) d).1 = 0) : ¬ mFine u r a b t = 0 := by
  obtain ⟨h1, h2, -⟩ := ref_0 h
  have h3 := neg_if h1
  rw [if_neg h3] at h2
  split at h2
  · rename_i h4
    unfold mFine
    rw [if_neg h3, if_neg (Int32.not_le.mpr h4)]
    decide
  · exact absurd h2 (by decide)
theorem in_4 {t : Int32} (h : ¬ m_in t 0 4 = 0) : inN t 5 := in_lt (n := 5) (x := 5) (by decide) (by decide) h
theorem t_pred {t : Int32} (h : inN t 5) (h0 : ¬ t = 0) : t - 1 = nI (tn t - 1) ∧ tn t - 1 < 4 := by
  have hp : 0 < tn t := by
    apply Nat.pos_of_ne_zero
    intro e
    apply h0
    rw [h.1, e]
    rfl
  refine ⟨?_, by have := h.2; omega⟩
  have := predN hp
  rw [← h.1] at this
  exact this
def mWy (u : jU) (r a b : Int32) : Int32 × jU := itG (mWk r (mFx u r a b)) (tn (u 0 1)) (0, up u 0 4 0)
theorem in_144 {r : Int32} (h : inN r 8) (n : Nat) : 144 * r + nI n = nI (144 * tn r + n) := by
  have e1 : (144 : Int32) * nI (tn r) = nI (144 * tn r) := pk_mul 144 (tn r)
  rw [← h.1] at e1
  rw [e1, nI_add]
theorem in_144z {r : Int32} (h : inN r 8) : 144 * r = nI (144 * tn r) := by
  have e1 : (144 : Int32) * nI (tn r) = nI (144 * tn r) := pk_mul 144 (tn r)
  rw [← h.1] at e1
  exact e1
theorem mUn_s (u : jU) {K q : Nat} (h : q < K) : mUn u K (K - q) = if mSafe u q = 0 then nI q else mUn u K (K - (q + 1)) := by
  have e : K - q = (K - (q + 1)) + 1 := by omega
  rw [e, mUn, show K - 1 - (K - (q + 1)) = q by omega]
theorem mRn_01 (i : Nat) : ∀ (f n : Nat) (z : Int32) (u : jU), z = 0 ∨ z = 1 → (mRn i f n z u).1 = 0 ∨ (mRn i f n z u).1 = 1 := by
  intro f
  induction f with
  | zero => intro n z u h; exact h
  | succ f ih =>
    intro n z u h
    unfold mRn
    split
    · exact h
    · refine ih _ _ _ ?_
      unfold mRb
      split
      · split
        · exact h
        · exact Or.inr rfl
      · exact h
theorem mRk_01 (ly : Int32) (n : Nat) (u : jU) : (itG (mRk ly) n (0, u)).1 = 0 ∨ (itG (mRk ly) n (0, u)).1 = 1 := by
  refine itG_inv (P := fun x : Int32 × jU => x.1 = 0 ∨ x.1 = 1) (Or.inl rfl) n (fun q x _ hx => ?_)
  unfold mRk
  split
  · exact mRn_01 _ _ _ _ _ hx
  · exact hx
