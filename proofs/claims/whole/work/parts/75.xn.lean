-- the mathematics, fourteenth part: counting
noncomputable def cnf (p : Prop) : Nat := @ite _ p (Classical.propDecidable p) 1 0
theorem cnf_pos {p : Prop} (h : p) : cnf p = 1 := by unfold cnf; exact if_pos h
theorem cnf_neg {p : Prop} (h : ¬ p) : cnf p = 0 := by unfold cnf; exact if_neg h
theorem cnf_iff {p q : Prop} (h : p ↔ q) : cnf p = cnf q := by
  by_cases c : p
  · rw [cnf_pos c, cnf_pos (h.mp c)]
  · rw [cnf_neg c, cnf_neg (fun z => c (h.mpr z))]
theorem sm_uniq {P : Nat → Prop} {m0 : Nat} (h : ∀ m, P m ↔ m = m0) : ∀ N, sm (fun m => cnf (P m)) N = if m0 < N then 1 else 0 := by
  intro N
  induction N with
  | zero => rfl
  | succ N ih =>
    show sm (fun m => cnf (P m)) N + cnf (P N) = _
    rw [ih]
    by_cases e : N = m0
    · rw [cnf_pos ((h N).mpr e), if_neg (by omega), if_pos (by omega)]
    · rw [cnf_neg (fun z => e ((h N).mp z))]
      by_cases c : m0 < N
      · rw [if_pos c, if_pos (by omega)]
      · rw [if_neg c, if_neg (by omega)]
theorem sm_front (f : Nat → Nat) : ∀ n, sm f (n + 1) = f 0 + sm (fun k => f (k + 1)) n := by
  intro n
  induction n with
  | zero => show 0 + f 0 = f 0 + 0; omega
  | succ n ih => show sm f (n + 1) + f (n + 1) = f 0 + (sm (fun k => f (k + 1)) n + f (n + 1)); rw [ih]; omega
def nMx : Nat := 20736
/-- in how many ways the terms' values of rule i can be gone on with -/
noncomputable def cnx (u : jU) (h : Nat → Bool) (i : Nat) : Nat := sm (fun m => cnf (lf0 (mkx u i) m = 0 ∧ extm u i (dg (mkx u i) m) ∧ mtx u h (dg (mkx u i) m) i)) nMx
theorem cnx_step {u : jU} {h : Nat → Bool} {i o : Nat} (ho : 20 ≤ o) (ho4 : o < 24) (hop : u 6 o = -1) (hm : mkx u i (o - 20) = true) : cnx u h i = sm (fun c => cnx (up u 6 o (nI c)) h i) 12 := by
  unfold cnx
  rw [← sm_comm]
  refine sm_congr (fun m _ => ?_)
  have hd := dg_lt (mkx u i) m (o - 20)
  by_cases c : lf0 (mkx u i) m = 0 ∧ extm u i (dg (mkx u i) m) ∧ mtx u h (dg (mkx u i) m) i
  · rw [cnf_pos c]
    have key : ∀ k, (k < 12 ∧ (lf0 (mkx u i) m = 0 ∧ extm (up u 6 o (nI k)) i (dg (mkx u i) m) ∧ mtx (up u 6 o (nI k)) h (dg (mkx u i) m) i)) ↔ k = dg (mkx u i) m (o - 20) := by
      intro k
      constructor
      · rintro ⟨hk, -, h2, -⟩
        exact ((extm_up ho ho4 hk hop hm (dg_lt _ _)).mp h2).2.symm
      · intro e
        subst e
        exact ⟨hd, c.1, (extm_up ho ho4 hd hop hm (dg_lt _ _)).mpr ⟨c.2.1, rfl⟩, (mtx_pg (only6_up u o _).pg _ _ _).mpr c.2.2⟩
    have h1 := sm_uniq key 12
    rw [if_pos hd] at h1
    rw [← h1]
    refine sm_congr (fun k hk => cnf_iff ?_)
    rw [mkx_pg (only6_up u o (nI k)).pg]
    exact ⟨fun z => z.2, fun z => ⟨hk, z⟩⟩
  · rw [cnf_neg c, ← sm_zero 12]
    refine sm_congr (fun k hk => (cnf_neg ?_).symm)
    rw [mkx_pg (only6_up u o (nI k)).pg]
    rintro ⟨h1, h2, h3⟩
    exact c ⟨h1, ((extm_up ho ho4 hk hop hm (dg_lt _ _)).mp h2).1, (mtx_pg (only6_up u o _).pg _ _ _).mp h3⟩
theorem cnx_one {u : jU} {h : Nat → Bool} {i : Nat} (hi : i < 16) (hs : srch u h i) (hk : pKnown u i = true) (hall : ∀ v, v < 4 → mkx u i v = true → ¬ u 6 (20 + v) = -1) : cnx u h i = 1 := by
  obtain ⟨m, m1, m2, m3, m4⟩ := all_bound hi hs hk hall
  have key : ∀ k, (lf0 (mkx u i) k = 0 ∧ extm u i (dg (mkx u i) k) ∧ mtx u h (dg (mkx u i) k) i) ↔ k = m := by
    intro k
    constructor
    · rintro ⟨h1, h3, -⟩
      refine dg_inj h1 m1 (fun v hv hmv => ?_)
      have g2 := (h3 v hv hmv).resolve_left (hall v hv hmv)
      rw [m4 v hv hmv] at g2
      have := dg_lt (mkx u i) m v
      have := dg_lt (mkx u i) k v
      exact (nI_inj (by omega) (by omega) g2).symm
    · intro e; subst e; exact ⟨m1, m2, m3⟩
  have h1 := sm_uniq key nMx
  unfold cnx
  rw [h1, if_pos]
  have := lf0_lt m1
  unfold nMx
  omega
theorem cnx_zero {u : jU} {h : Nat → Bool} {i : Nat} (hn : ∀ m, lf0 (mkx u i) m = 0 → extm u i (dg (mkx u i) m) → ¬ mtx u h (dg (mkx u i) m) i) : cnx u h i = 0 := by
  unfold cnx
  have e : ∀ N, sm (fun m => cnf (lf0 (mkx u i) m = 0 ∧ extm u i (dg (mkx u i) m) ∧ mtx u h (dg (mkx u i) m) i)) N = 0 := fun N => by
    refine (sm_congr (g := fun _ => 0) (fun m _ => cnf_neg ?_)).trans (sm_zero N)
    rintro ⟨a, b, c⟩
    exact hn m a b c
  exact e nMx
theorem nx_and' (a b : Nat) : nI a &&& nI b = nI (a &&& b) := by
  apply Int32.toBitVec_inj.1
  show BitVec.ofNat 32 a &&& BitVec.ofNat 32 b = BitVec.ofNat 32 (a &&& b)
  apply BitVec.eq_of_getLsbD_eq
  intro i hi
  simp [hi]
theorem nx_4095 (x : Int32) : ∃ k, k < 4096 ∧ x &&& 4095 = nI k := by
  have e : x = nI x.toBitVec.toNat := by
    apply Int32.toBitVec_inj.1
    show x.toBitVec = BitVec.ofNat 32 x.toBitVec.toNat
    simp
  refine ⟨x.toBitVec.toNat % 4096, Nat.mod_lt _ (by omega), ?_⟩
  have h1 := nx_and' x.toBitVec.toNat 4095
  rw [← e, show (4095 : Nat) = 2 ^ 12 - 1 from rfl, Nat.and_two_pow_sub_one_eq_mod] at h1
  exact h1
theorem b_4095' : ∀ v, v < 32 → bt 4095 v = decide (v < 12) := by decide +kernel
theorem ch_mask (u : jU) (i : Nat) (t : Int32) : ∀ n, pCh u i t n &&& 4095 = pCh u i t n := by
  have hb : ∀ n v, v < 32 → 12 ≤ v → bt (pCh u i t n) v = false := by
    intro n
    induction n with
    | zero => intro v hv h; show bt 4095 v = false; rw [b_4095' v hv, decide_eq_false (by omega)]
    | succ n ih =>
      intro v hv h
      unfold pCh
      split
      · rw [b_and, ih v hv h]; rfl
      · exact ih v hv h
  intro n
  refine b_ext (fun v hv => ?_)
  rw [b_and, b_4095' v hv]
  rcases Nat.lt_or_ge v 12 with h | h
  · rw [decide_eq_true h, Bool.and_true]
  · rw [hb n v hv h]; rfl
theorem sum_spec {f : jU → Int32 × jU} {o : Nat} {ch : Int32} {u : jU} {g : Nat → Nat} (hf : ∀ c, c < 12 → hb ch (nI c) = true → f (up u 6 o (nI c)) = (nI (g c), up u 6 o (nI c))) : ∀ (n q : Nat) (z : Nat) (y : jU), q + n = 12 → (∃ t, y = up u 6 o t) →
    pSum f o ch n q (nI z) y = (nI (z + sm (fun k => if hb ch (nI (q + k)) then g (q + k) else 0) n), up u 6 o (-1)) := by
  intro n
  induction n with
  | zero =>
    rintro q z y hq ⟨t, rfl⟩
    show (nI z, up (up u 6 o t) 6 o (-1)) = (nI (z + 0), up u 6 o (-1))
    rw [up_up, Nat.add_zero]
  | succ n ih =>
    rintro q z y hq ⟨t, rfl⟩
    have e2 : (fun k => if hb ch (nI (q + (k + 1))) then g (q + (k + 1)) else 0) = (fun k => if hb ch (nI (q + 1 + k)) then g (q + 1 + k) else 0) := by
      funext k; rw [show q + (k + 1) = q + 1 + k by omega]
    rw [sm_front, e2, Nat.add_zero]
    unfold pSum
    rw [up_up]
    cases c1 : hb ch (nI q) with
    | false =>
      rw [if_pos (by decide), ih (q + 1) z (up u 6 o t) (by omega) ⟨t, rfl⟩]
      simp
    | true =>
      rw [if_neg (by decide), hf q (by omega) c1]
      dsimp only
      rw [nI_add, ih (q + 1) (z + g q) (up u 6 o (nI q)) (by omega) ⟨nI q, rfl⟩, if_pos rfl, Nat.add_assoc]
      rfl
theorem count_c {h : Nat → Bool} {i : Nat} (hi : i < 16) : ∀ (d n : Nat) (u : jU), srch u h i → pKnown u i = true → 20 ≤ n → n ≤ 24 → (∀ v, v < 4 → 20 + v < n → mkx u i v = true → ¬ u 6 (20 + v) = -1) → 25 ≤ n + d → pCount i d n u = (nI (cnx u h i), u) := by
  intro d
  induction d with
  | zero => intro n u _ _ _ h4 _ h5; exact absurd h5 (by omega)
  | succ d ih =>
    intro n u hs hk hn hn4 hbd hd
    have hle := pNext_le (u := u) (i := i) hn4
    unfold pCount
    by_cases c : pNext u i n < 24
    · rw [if_pos ((lt24 hle.2).mpr c)]
      obtain ⟨s1, s2, s3, s4, s5, s6, s7⟩ := srch_step hi hs hk hn hn4 hbd rfl c
      rw [s6]
      generalize pNext u i n = o at c s1 s2 s3 s4 s5 s6 s7 ⊢
      have hle2 := pNext_le (u := u) (i := i) (show o + 1 ≤ 24 by omega)
      have hstep := cnx_step (h := h) s1 c s3 s4
      have hout : ∀ k, k < 12 → hb (pCh u i (nI o) (tn (u 12 i))) (nI k) = false → cnx (up u 6 o (nI k)) h i = 0 := by
        intro k hk2 hf
        refine cnx_zero (fun m h1 h2 h3 => ?_)
        rw [mkx_pg (only6_up u o (nI k)).pg] at h1 h2 h3
        rw [mtx_pg (only6_up u o (nI k)).pg] at h3
        obtain ⟨g1, g2⟩ := (extm_up s1 c hk2 s3 s4 (dg_lt _ _)).mp h2
        have := ch_in hi hs s1 c s3 (dg_lt _ _) g1 h3
        rw [g2, hf] at this; cases this
      generalize hch : pCh u i (nI o) (tn (u 12 i)) = ch at s7 hout ⊢
      have hsum : ∀ g : Nat → Nat, (∀ k, k < 12 → hb ch (nI k) = true → g k = cnx (up u 6 o (nI k)) h i) → sm (fun k => if hb ch (nI k) then g k else 0) 12 = cnx u h i := by
        intro g hg
        rw [hstep]
        refine sm_congr (fun k hk2 => ?_)
        cases c3 : hb ch (nI k) with
        | true => rw [if_pos rfl]; exact hg k hk2 c3
        | false => rw [if_neg (by decide)]; exact (hout k hk2 c3).symm
      by_cases c2 : pNext u i (o + 1) < 24
      · rw [if_pos ((lt24 hle2.2).mpr c2)]
        have h1 := sum_spec (f := fun v => pCount i d (o + 1) v) (o := o) (ch := ch) (u := u) (g := fun k => cnx (up u 6 o (nI k)) h i) (fun k hk2 h2 => ih (o + 1) (up u 6 o (nI k)) (s7 k hk2 h2).1 (s7 k hk2 h2).2.1 (by omega) (by omega) (s7 k hk2 h2).2.2 (by omega)) 12 0 0 u (by omega) ⟨-1, by rw [← s3, up_self]⟩
        have h2 := hsum (fun k => cnx (up u 6 o (nI k)) h i) (fun k _ _ => rfl)
        simp only [Nat.zero_add] at h1
        rw [h2] at h1
        have h3 : up u 6 o (-1) = u := by rw [← s3, up_self]
        rw [h3] at h1
        exact h1
      · rw [if_neg (fun z => c2 ((lt24 hle2.2).mp z))]
        have h1 := hsum (fun _ => 1) (fun k hk2 h2 => by
          refine (cnx_one hi (s7 k hk2 h2).1 (s7 k hk2 h2).2.1 (fun v hv hm hop => ?_)).symm
          rcases Nat.lt_or_ge (20 + v) (o + 1) with h3 | h3
          · exact (s7 k hk2 h2).2.2 v hv h3 hm hop
          · rw [up_idx _ _ (by omega)] at hop
            rw [mkx_pg (only6_up u o _).pg] at hm
            exact (next_c (u := u) (i := i) (show o + 1 ≤ 24 by omega)).1 (20 + v) h3 (by omega) ⟨by rw [hs.2.2.2.2.2 v hv]; exact hm, hop⟩)
        obtain ⟨k, hk2, hk3⟩ := nx_4095 ch
        have h4 : ch &&& 4095 = ch := by rw [← hch]; exact ch_mask u i (nI o) _
        rw [h4] at hk3
        have h5 := pbc_k hk2
        rw [← hk3, h1] at h5
        rw [h5]
    · rw [if_neg (fun z => c ((lt24 hle.2).mp z))]
      have hall : ∀ v, v < 4 → mkx u i v = true → ¬ u 6 (20 + v) = -1 := by
        intro v hv hm hop
        rcases Nat.lt_or_ge (20 + v) n with h1 | h1
        · exact hbd v hv h1 hm hop
        · exact (next_c (u := u) (i := i) hn4).1 (20 + v) h1 (by omega) ⟨by rw [hs.2.2.2.2.2 v hv]; exact hm, hop⟩
      rw [cnx_one hi hs hk hall]
      rfl
