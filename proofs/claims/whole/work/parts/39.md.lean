-- the reference's loops, in words of its ints
def itG {α : Type} (f : Nat → α → α) : Nat → α → α
  | 0, x => x
  | n + 1, x => f n (itG f n x)
theorem itG_0 {α : Type} (f : Nat → α → α) (x : α) : itG f 0 x = x := rfl
theorem itG_s {α : Type} (f : Nat → α → α) (n : Nat) (x : α) : itG f (n + 1) x = f n (itG f n x) := rfl
theorem itG_inv {α : Type} {f : Nat → α → α} {P : α → Prop} {x : α} (h0 : P x) : ∀ n, (∀ q w, q < n → P w → P (f q w)) → P (itG f n x) := by
  intro n
  induction n with
  | zero => intro _; exact h0
  | succ n ih => intro hs; exact hs n _ (by omega) (ih (fun q w hq => hs q w (by omega)))
def mVs (u : jU) (i : Nat) : Nat → Int32
  | 0 => 0
  | n + 1 => mVs u i n ||| m_vo u (5 * i + n)
def mVars (u : jU) (i : Nat) : Int32 := mVs u i (tn (u 12 i) + 1)
def mSf (u : jU) (i : Nat) : Nat → Int32 × Int32
  | 0 => (0, m_vo u (5 * i))
  | n + 1 => (if u 19 (5 * i + (n + 1)) = 0 then (mSf u i n).1 ||| m_vo u (5 * i + (n + 1)) else (mSf u i n).1, if u 19 (5 * i + (n + 1)) = 0 then (mSf u i n).2 else (mSf u i n).2 ||| m_vo u (5 * i + (n + 1)))
def mSafe (u : jU) (i : Nat) : Int32 := if (mSf u i (tn (u 12 i))).2 &&& ((mSf u i (tn (u 12 i))).1 ^^^ (-1)) = 0 then 1 else 0
def mLy (u : jU) (j : Nat) : Int32 := u 3 (tn (u 16 j)) + (if u 19 j = 0 then 0 else 1)
def mLe (u : jU) (i : Nat) : Nat → Int32
  | 0 => 0
  | n + 1 => if mLy u (5 * i + (n + 1)) ≤ mLe u i n then mLe u i n else mLy u (5 * i + (n + 1))
def mLow (u : jU) (i : Nat) : Int32 := if mLe u i (tn (u 12 i)) ≤ u 3 (tn (u 16 (5 * i))) then 0 else 1
def mRaise (u : jU) (i : Nat) : Int32 × jU := (mLow u i, up u 3 (tn (u 16 (5 * i))) (if mLow u i = 0 then u 3 (tn (u 16 (5 * i))) else mLe u i (tn (u 12 i))))
theorem mRaise_kp (u : jU) (i : Nat) : kp [3] u (mRaise u i).2 := kp_up _ _ _ (by decide)
def pI : Nat → Int32
  | 0 => -1
  | q + 1 => nI q
theorem pI_dec (q : Nat) : nI q + (-1) = pI q := by
  cases q with
  | zero => decide
  | succ q =>
    show nI (q + 1) + (-1) = nI q
    rw [← nI_pred q]
    exact (Int32.sub_eq_add_neg _ _).symm
def mUn (u : jU) (K : Nat) : Nat → Int32
  | 0 => -1
  | d + 1 => if mSafe u (K - 1 - d) = 0 then nI (K - 1 - d) else mUn u K d
def mZ (u : jU) : jU := up (up (up (up (up (up (up (up u 3 0 0) 3 1 0) 3 2 0) 3 3 0) 3 4 0) 3 5 0) 3 6 0) 3 7 0
theorem mZ_kp (u : jU) : kp [3] u (mZ u) := (kp_up u _ _ (by decide)).tr ((kp_up _ _ _ (by decide)).tr ((kp_up _ _ _ (by decide)).tr ((kp_up _ _ _ (by decide)).tr ((kp_up _ _ _ (by decide)).tr ((kp_up _ _ _ (by decide)).tr ((kp_up _ _ _ (by decide)).tr (kp_up _ _ _ (by decide))))))))
/-- a rule in a pass: some raised, still layered, the state -/
def mPs (k : Nat) (x : Int32 × Int32 × jU) : Int32 × Int32 × jU :=
  (if x.1 = 0 then (if (mRaise x.2.2 k).1 = 0 then 0 else 1) else 1, if x.2.1 = 0 then 0 else (if 8 < (mRaise x.2.2 k).2 3 (tn ((mRaise x.2.2 k).2 16 (5 * k))) then 0 else 1), (mRaise x.2.2 k).2)
theorem mPs_kp (k : Nat) (x : Int32 × Int32 × jU) : kp [3] x.2.2 (mPs k x).2.2 := mRaise_kp _ _
def mPass (x : Int32 × Int32 × jU) : Int32 × Int32 × jU := itG mPs (tn (x.2.2 0 1)) (0, x.2.1, x.2.2)
theorem itPs_kp (u : jU) (x : Int32 × Int32 × jU) (h : kp [3] u x.2.2) (n : Nat) : kp [3] u (itG mPs n x).2.2 := itG_inv (P := fun x => kp [3] u x.2.2) h n (fun q w _ hw => hw.tr (mPs_kp q w))
def mWl : Nat → Int32 × Int32 × jU → Int32 × Int32 × jU
  | 0, x => x
  | n + 1, x => if x.1 = 0 then x else if x.2.1 = 0 then x else mWl n (mPass x)
theorem mWl_kp (u : jU) : ∀ (n : Nat) (x : Int32 × Int32 × jU), kp [3] u x.2.2 → kp [3] u (mWl n x).2.2 := by
  intro n
  induction n with
  | zero => intro x h; exact h
  | succ n ih =>
    intro x h
    unfold mWl
    split
    · exact h
    · split
      · exact h
      · exact ih _ (itPs_kp u (0, x.2.1, x.2.2) h _)
def mEnd (x : Int32 × Int32 × jU) : Prop := x.1 = 0 ∨ x.2.1 = 0
def mWlf : Nat := 1000
def mFF (u : jU) : Int32 × jU :=
  (if mUn u (tn (u 0 1)) (tn (u 0 1)) < 0 then (if (mWl mWlf (1, 1, mZ u)).2.1 = 0 then 100 else (-1)) else mUn u (tn (u 0 1)) (tn (u 0 1)), (mWl mWlf (1, 1, mZ u)).2.2)
theorem mFF_kp (u : jU) : kp [3] u (mFF u).2 := mWl_kp u _ _ (mZ_kp u)
-- instances
def mHas (b v : Int32) : Int32 := if (b >>> (v &&& 31)) &&& 1 = 1 then 1 else 0
def mVf (b v : Int32) (L : Nat) : Nat := if mHas b v = 0 then 0 else L % 12
def mLf (b v : Int32) (L : Nat) : Nat := if mHas b v = 0 then L else L / 12
theorem mLf_le (b v : Int32) (L : Nat) : mLf b v L ≤ L := by
  unfold mLf; split
  · exact Nat.le_refl _
  · exact Nat.div_le_self _ _
theorem mLf_lt {b v : Int32} {L B : Nat} (h : L < B) : mLf b v L < B := Nat.lt_of_le_of_lt (mLf_le b v L) h
theorem mVf_lt (b v : Int32) (L : Nat) : mVf b v L < 12 := by
  unfold mVf; split
  · decide
  · exact Nat.mod_lt _ (by decide)
def mL4 (b : Int32) (n : Nat) : Nat := mLf b 0 (mLf b 1 (mLf b 2 (mLf b 3 n)))
def mInst (u : jU) (i n : Nat) : Int32 × jU :=
  (if nI (mL4 (mVars u i) n) = 0 then 1 else 0, up (up (up (up u 6 3 (nI (mVf (mVars u i) 3 n))) 6 2 (nI (mVf (mVars u i) 2 (mLf (mVars u i) 3 n)))) 6 1 (nI (mVf (mVars u i) 1 (mLf (mVars u i) 2 (mLf (mVars u i) 3 n))))) 6 0 (nI (mVf (mVars u i) 0 (mLf (mVars u i) 1 (mLf (mVars u i) 2 (mLf (mVars u i) 3 n))))))
theorem mInst_o6 (u : jU) (i n : Nat) : only6 u (mInst u i n).2 := (only6_up u _ _).tr ((only6_up _ _ _).tr ((only6_up _ _ _).tr (only6_up _ _ _)))
theorem mInst_U (u : jU) (i n : Nat) : wfU (mInst u i n).2 := by
  intro q hq
  unfold mInst
  match q, hq with
  | 0, _ => exact inN_nI (mVf_lt _ _ _) (by decide)
  | 1, _ => exact inN_nI (mVf_lt _ _ _) (by decide)
  | 2, _ => exact inN_nI (mVf_lt _ _ _) (by decide)
  | 3, _ => exact inN_nI (mVf_lt _ _ _) (by decide)
  | q + 4, h => exact absurd h (by omega)
theorem wfD.kp {cs : List Nat} {u v : jU} (h : wfD u) (hk : kp cs u v) (hc : ∀ c ∈ [0, 2, 12, 16, 17, 18, 19], c ∉ cs) (hU : wfU v) : wfD v := by
  refine ⟨?_, ?_, ?_, ?_, hU, ?_⟩
  · rw [hk 0 (hc _ (by decide))]; exact h.1
  · rw [hk 0 (hc _ (by decide))]; exact h.2.1
  · rw [hk 12 (hc _ (by decide))]; exact h.2.2.1
  · intro j hj
    have := h.2.2.2.1 j hj
    unfold wfB at this ⊢
    rw [hk 16 (hc _ (by decide)), hk 17 (hc _ (by decide)), hk 18 (hc _ (by decide)), hk 19 (hc _ (by decide))]
    exact this
  · rw [hk 2 (hc _ (by decide))]; exact h.2.2.2.2.2
theorem wfU_of {u v : jU} (h : wfU u) (e : v 6 = u 6) : wfU v := by
  intro q hq
  have := h q hq
  rw [← e] at this
  exact this
theorem mInst_wf {u : jU} (h : wfD u) (i n : Nat) : wfD (mInst u i n).2 := h.kp ((mInst_o6 u i n).kp (cs := [6]) (by decide)) (by decide) (mInst_U u i n)
theorem mL4_pos (b : Int32) {n : Nat} (h : 20736 ≤ n) : 0 < mL4 b n := by
  have hh : ∀ v L, L / 12 ≤ mLf b v L := by
    intro v L; unfold mLf; split
    · exact Nat.div_le_self _ _
    · exact Nat.le_refl _
  unfold mL4
  have h3 := hh 3 n
  have h2 := hh 2 (mLf b 3 n)
  have h1 := hh 1 (mLf b 2 (mLf b 3 n))
  have h0 := hh 0 (mLf b 1 (mLf b 2 (mLf b 3 n)))
  omega
theorem mInst_end {u : jU} {i n : Nat} (hn : n < 2 ^ 31) (h : ¬ (mInst u i n).1 = 0) : n < 20736 := by
  rcases Nat.lt_or_ge n 20736 with h1 | h1
  · exact h1
  · exfalso
    apply h
    have h2 := mL4_pos (mVars u i) h1
    have h3 : mL4 (mVars u i) n < 2 ^ 31 := mLf_lt (mLf_lt (mLf_lt (mLf_lt hn)))
    unfold mInst
    show (if nI (mL4 (mVars u i) n) = 0 then (1 : Int32) else 0) = 0
    rw [if_neg]
    intro e
    have h4 := nI_clamp h3
    rw [e] at h4
    have h5 : Int32.toNatClampNeg 0 = 0 := by decide
    omega
def mMt (u : jU) (i : Nat) : Nat → Int32
  | 0 => 1
  | n + 1 => if mMt u i n = 0 then 0 else (if m_holds u (mFact u (5 * i + (n + 1))) = u 19 (5 * i + (n + 1)) then 0 else 1)
def mMet (u : jU) (i : Nat) : Int32 := mMt u i (tn (u 12 i))
def mU1 (b v : Int32) (x : Nat) : Nat := if (b >>> (v &&& 31)) &&& 1 = 1 then 12 * x else x
def mUnit (b o : Int32) : Nat :=
  if (o >>> (3 &&& 31)) &&& 1 = 0 then (if (o >>> (2 &&& 31)) &&& 1 = 0 then (if (o >>> (1 &&& 31)) &&& 1 = 0 then (if (o >>> (0 &&& 31)) &&& 1 = 0 then mU1 b 0 (mU1 b 1 (mU1 b 2 (mU1 b 3 1))) else mU1 b 1 (mU1 b 2 (mU1 b 3 1))) else mU1 b 2 (mU1 b 3 1)) else mU1 b 3 1) else 1
theorem mU1_b {b v : Int32} {x B : Nat} (h1 : 1 ≤ x) (h2 : x ≤ B) : 1 ≤ mU1 b v x ∧ mU1 b v x ≤ 12 * B := by
  unfold mU1; split <;> omega
theorem mUnit_b (b o : Int32) : 1 ≤ mUnit b o ∧ mUnit b o ≤ 20736 := by
  have a3 := mU1_b (b := b) (v := 3) (x := 1) (B := 1) (by decide) (by decide)
  have a2 := mU1_b (b := b) (v := 2) a3.1 a3.2
  have a1 := mU1_b (b := b) (v := 1) a2.1 a2.2
  have a0 := mU1_b (b := b) (v := 0) a1.1 a1.2
  unfold mUnit
  repeat' (first | omega | split)
def mSk (u : jU) (i : Nat) : Nat → Nat
  | 0 => 1
  | n + 1 => if m_holds u (mFact u (5 * i + (n + 1))) = u 19 (5 * i + (n + 1)) then (if nI (mUnit (mVars u i) (m_vo u (5 * i + (n + 1)))) ≤ nI (mSk u i n) then mSk u i n else mUnit (mVars u i) (m_vo u (5 * i + (n + 1)))) else mSk u i n
theorem mSk_b (u : jU) (i : Nat) : ∀ n, 1 ≤ mSk u i n ∧ mSk u i n ≤ 20736 := by
  intro n
  induction n with
  | zero => exact ⟨Nat.le_refl _, by show 1 ≤ 20736; decide⟩
  | succ n ih =>
    have h := mUnit_b (mVars u i) (m_vo u (5 * i + (n + 1)))
    unfold mSk
    split
    · split
      · exact ih
      · exact h
    · exact ih
def mBeh (u : jU) (i n : Nat) : Nat := n - n % mSk u i (tn (u 12 i)) + mSk u i (tn (u 12 i))
theorem mBeh_b (u : jU) (i n : Nat) : n < mBeh u i n ∧ mBeh u i n ≤ n + 20736 := by
  have h := mSk_b u i (tn (u 12 i))
  have h2 := Nat.mod_lt n (show 0 < mSk u i (tn (u 12 i)) by omega)
  have h3 := Nat.mod_le n (mSk u i (tn (u 12 i)))
  unfold mBeh
  omega
/-- what an instance brings: some new, the state -/
def mRb (i : Nat) (z : Int32) (w : jU) : Int32 × jU := if m_holds w (mFact w (5 * i)) = 0 then (if mMet w i = 0 then (z, w) else (1, up w 5 (mFact w (5 * i)) 1)) else (z, w)
def mRn (i : Nat) : Nat → Nat → Int32 → jU → Int32 × jU
  | 0, _, z, u => (z, u)
  | f + 1, n, z, u => if (mInst u i n).1 = 0 then (z, (mInst u i n).2) else mRn i f (mBeh (mRb i z (mInst u i n).2).2 i n) (mRb i z (mInst u i n).2).1 (mRb i z (mInst u i n).2).2
def mFuel : Nat := 20737
def mRk (ly : Int32) (k : Nat) (x : Int32 × jU) : Int32 × jU := if x.2 3 (tn (x.2 16 (5 * k))) = ly then mRn k mFuel 0 x.1 x.2 else x
def mNw (rd : Int32) (f : Nat) (w : jU) : jU := up (up w 4 f (if w 5 f = 0 then w 4 f else rd)) 5 f 0
def mRound (ly rd : Int32) (u : jU) : Int32 × jU := ((itG (mRk ly) (tn (u 0 1)) (0, u)).1, itN (mNw rd) 1152 (itG (mRk ly) (tn (u 0 1)) (0, u)).2)
/-- the frame of rounds: ranks, news, values -/
def mE (u w : jU) : Prop := kp [4, 5, 6] u w ∧ wfU w
theorem mE.wf {u w : jU} (h : mE u w) (hD : wfD u) : wfD w := hD.kp h.1 (by decide) h.2
theorem mE.inst {u w : jU} (h : mE u w) (i n : Nat) : mE u (mInst w i n).2 := ⟨h.1.tr ((mInst_o6 w i n).kp (by decide)), mInst_U w i n⟩
theorem mE.rb {u w : jU} (h : mE u w) (i : Nat) (z : Int32) : mE u (mRb i z w).2 := by
  unfold mRb
  split
  · split
    · exact h
    · exact ⟨h.1.tr (kp_up _ _ _ (by decide)), wfU_of (v := up w 5 (mFact w (5 * i)) 1) h.2 (up_rows w _ _ (by decide))⟩
  · exact h
theorem mE.rn {u : jU} (i : Nat) : ∀ (f n : Nat) (z : Int32) (w : jU), mE u w → mE u (mRn i f n z w).2 := by
  intro f
  induction f with
  | zero => intro n z w h; exact h
  | succ f ih =>
    intro n z w h
    unfold mRn
    split
    · exact h.inst i n
    · exact ih _ _ _ ((h.inst i n).rb i z)
theorem mE.rk {u : jU} (ly : Int32) (k : Nat) (x : Int32 × jU) (h : mE u x.2) : mE u (mRk ly k x).2 := by
  unfold mRk
  split
  · exact mE.rn k _ _ _ _ h
  · exact h
theorem mE.nw {u w : jU} (rd : Int32) (f : Nat) (h : mE u w) : mE u (mNw rd f w) := ⟨(h.1.tr (kp_up _ _ _ (by decide))).tr (kp_up _ _ _ (by decide)), wfU_of h.2 ((up_rows _ _ _ (by decide)).trans (up_rows _ _ _ (by decide)))⟩
theorem mE.nws {u w : jU} (rd : Int32) (n : Nat) (h : mE u w) : mE u (itN (mNw rd) n w) := itN_inv (P := mE u) h n (fun f v _ hv => hv.nw rd f)
theorem mRound_2 (ly rd : Int32) (w : jU) : (mRound ly rd w).2 = itN (mNw rd) 1152 (itG (mRk ly) (tn (w 0 1)) (0, w)).2 := by
  unfold mRound
  exact Eq.refl _
theorem mE.rks {u w : jU} (ly : Int32) (n : Nat) (z : Int32) (h : mE u w) : mE u (itG (mRk ly) n (z, w)).2 := itG_inv (P := fun x : Int32 × jU => mE u x.2) h n (fun q x _ hx => mE.rk ly q x hx)
theorem mE.round {u w : jU} (ly rd : Int32) (h : mE u w) : mE u (mRound ly rd w).2 := by
  rw [mRound_2]
  exact mE.nws rd _ (mE.rks ly _ 0 h)
def mWh (ly : Int32) : Nat → Nat → jU → Int32 × jU
  | 0, _, u => (1, u)
  | n + 1, rd, u => if (mRound ly (nI rd) u).1 = 0 then (0, (mRound ly (nI rd) u).2) else mWh ly n (rd + 1) (mRound ly (nI rd) u).2
theorem mE.wh {u : jU} (ly : Int32) : ∀ (n rd : Nat) (w : jU), mE u w → mE u (mWh ly n rd w).2 := by
  intro n
  induction n with
  | zero => intro rd w h; exact h
  | succ n ih =>
    intro rd w h
    unfold mWh
    split
    · exact h.round _ _
    · exact ih _ _ (h.round _ _)
def mI1 (f : Nat) (w : jU) : jU := up (up w 4 f (-1)) 5 f 0
def mGv (ly : Int32) (f : Nat) (w : jU) : jU := up w 4 f (if w 2 f = 0 then w 4 f else (if w 0 0 ≤ nI (f / 144) then w 4 f else (if w 3 (f / 144) = ly then 0 else w 4 f)))
def mWhf : Nat := 1154
def mLay (ly : Nat) (w : jU) : jU := (mWh (nI ly) mWhf 1 (itN (mGv (nI ly)) 1152 w)).2
def mFd1 (u : jU) : jU := up (mFF (up u 0 3 1)).2 0 2 (mFF (up u 0 3 1)).1
def mFind (u : jU) : jU := if u 0 3 = 0 then (if mFd1 u 0 2 < 0 then itN mLay 9 (itN mI1 1152 (mFd1 u)) else mFd1 u) else u
theorem mE.i1 {u w : jU} (f : Nat) (h : mE u w) : mE u (mI1 f w) := ⟨(h.1.tr (kp_up _ _ _ (by decide))).tr (kp_up _ _ _ (by decide)), wfU_of h.2 ((up_rows _ _ _ (by decide)).trans (up_rows _ _ _ (by decide)))⟩
theorem mE.gv {u w : jU} (ly : Int32) (f : Nat) (h : mE u w) : mE u (mGv ly f w) := ⟨h.1.tr (kp_up _ _ _ (by decide)), wfU_of h.2 (up_rows _ _ _ (by decide))⟩
theorem mE.gvs {u w : jU} (ly : Int32) (n : Nat) (h : mE u w) : mE u (itN (mGv ly) n w) := itN_inv (P := mE u) h n (fun f v _ hv => hv.gv ly f)
theorem mE.i1s {u w : jU} (n : Nat) (h : mE u w) : mE u (itN mI1 n w) := itN_inv (P := mE u) h n (fun f v _ hv => hv.i1 f)
theorem mE.lay {u w : jU} (ly : Nat) (h : mE u w) : mE u (mLay ly w) := mE.wh _ _ _ _ (h.gvs _ _)
theorem mE.rf {u : jU} (h : wfU u) : mE u u := ⟨kp.rf _ u, h⟩
/-- every loop of 'find' ends -/
def mEnds (u : jU) : Prop := u 0 3 = 0 → mEnd (mWl mWlf (1, 1, mZ (up u 0 3 1))) ∧ (mFd1 u 0 2 < 0 → ∀ ly, ly < 9 → (mWh (nI ly) mWhf 1 (itN (mGv (nI ly)) 1152 (itN mLay ly (itN mI1 1152 (mFd1 u))))).1 = 0)
def mCn (w : jU) (b : Nat) : Nat → Int32
  | 0 => 0
  | n + 1 => if m_holds w (b + n) = 0 then mCn w b n else mCn w b n + 1
def mWn (r : Int32) (fx i : Nat) : Nat → Nat → Int32 → jU → Int32 × jU
  | 0, _, z, u => (z, u)
  | f + 1, n, z, u => if u 16 (5 * i) = r then (if (mInst u i n).1 = 0 then (z, (mInst u i n).2) else mWn r fx i f (mBeh (mInst u i n).2 i n) (if nI (mFact (mInst u i n).2 (5 * i)) = nI fx then (if mMet (mInst u i n).2 i = 0 then z else z + 1) else z) (mInst u i n).2) else (z, u)
theorem mE.wn {u : jU} (r : Int32) (fx i : Nat) : ∀ (f n : Nat) (z : Int32) (w : jU), mE u w → mE u (mWn r fx i f n z w).2 := by
  intro f
  induction f with
  | zero => intro n z w h; exact h
  | succ f ih =>
    intro n z w h
    unfold mWn
    split
    · split
      · exact h.inst i n
      · exact ih _ _ _ (h.inst i n)
    · exact h
def mWk (r : Int32) (fx k : Nat) (x : Int32 × jU) : Int32 × jU := mWn r fx k mFuel 0 x.1 x.2
def mLw (u : jU) (i : Nat) (rk : Int32) : Nat → Int32
  | 0 => 1
  | n + 1 => if mLw u i rk n = 0 then 0 else (if u 19 (5 * i + (n + 1)) = 0 then (if u 3 (tn (u 16 (5 * i + (n + 1)))) < u 3 (tn (u 16 (5 * i))) then 1 else (if rk ≤ u 4 (mFact u (5 * i + (n + 1))) then 0 else 1)) else 1)
def mLower (u : jU) (i : Nat) (rk : Int32) : Int32 := mLw u i rk (tn (u 12 i))
def mAns (t : Int32) (i : Nat) (w : jU) : Int32 := if t = 0 then nI i else (if (mVars w i >>> ((t - 1) &&& 31)) &&& 1 = 1 then w 6 (tn t - 1) else (-1))
/-- the search of a proof in one rule -/
def mPn (r : Int32) (fx i : Nat) (t : Int32) : Nat → Nat → jU → Option Int32 × jU
  | 0, _, u => (none, u)
  | f + 1, n, u => if u 16 (5 * i) = r then (if (mInst u i n).1 = 0 then (none, (mInst u i n).2) else
      (if nI (mFact (mInst u i n).2 (5 * i)) = nI fx then (if mMet (mInst u i n).2 i = 0 then mPn r fx i t f (mBeh (mInst u i n).2 i n) (mInst u i n).2 else (if mLower (mInst u i n).2 i ((mInst u i n).2 4 fx) = 0 then mPn r fx i t f (mBeh (mInst u i n).2 i n) (mInst u i n).2 else (some (mAns t i (mInst u i n).2), (mInst u i n).2)))
       else mPn r fx i t f (mBeh (mInst u i n).2 i n) (mInst u i n).2)) else (none, u)
theorem mE.pn {u : jU} (r : Int32) (fx i : Nat) (t : Int32) : ∀ (f n : Nat) (w : jU), mE u w → mE u (mPn r fx i t f n w).2 := by
  intro f
  induction f with
  | zero => intro n w h; exact h
  | succ f ih =>
    intro n w h
    have h1 := h.inst i n
    unfold mPn
    split
    · split
      · exact h1
      · split
        · split
          · exact ih _ _ h1
          · split
            · exact ih _ _ h1
            · exact h1
        · exact ih _ _ h1
    · exact h
def mPx (d : Int32 × jU → Int32 × jU) (x : Option Int32 × jU) : Int32 × jU := match x with
  | (some a, w) => (a, w)
  | (none, w) => d (-1, w)
def mPk (r : Int32) (fx : Nat) (t : Int32) : Nat → Nat → jU → Int32 × jU
  | 0, _, u => (-1, u)
  | d + 1, i, u => mPx (fun y => mPk r fx t d (i + 1) y.2) (mPn r fx i t mFuel 0 u)
theorem mLow_01 (u : jU) (i : Nat) : mLow u i = 0 ∨ mLow u i = 1 := by
  unfold mLow; split
  · exact Or.inl rfl
  · exact Or.inr rfl
theorem mMt_01 (u : jU) (i : Nat) : ∀ n, mMt u i n = 0 ∨ mMt u i n = 1 := by
  intro n
  cases n with
  | zero => exact Or.inr rfl
  | succ n =>
    unfold mMt; split
    · exact Or.inl rfl
    · split
      · exact Or.inl rfl
      · exact Or.inr rfl
theorem mLw_01 (u : jU) (i : Nat) (rk : Int32) : ∀ n, mLw u i rk n = 0 ∨ mLw u i rk n = 1 := by
  intro n
  cases n with
  | zero => exact Or.inr rfl
  | succ n =>
    unfold mLw
    repeat' (first | exact Or.inl rfl | exact Or.inr rfl | split)
theorem nI_ne {n : Nat} (h : 0 < n) (h2 : n < 2 ^ 31) : ¬ nI n = 0 := by
  intro e
  have h3 := nI_clamp h2
  rw [e] at h3
  have h4 : Int32.toNatClampNeg 0 = 0 := by decide
  omega
