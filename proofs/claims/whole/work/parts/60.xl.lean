-- the mathematics, first part: layers, in numbers
def sm (f : Nat → Nat) : Nat → Nat
  | 0 => 0
  | n + 1 => sm f n + f n
theorem sm_le {f g : Nat → Nat} : ∀ {n : Nat}, (∀ r, r < n → f r ≤ g r) → sm f n ≤ sm g n := by
  intro n
  induction n with
  | zero => intro _; exact Nat.le_refl _
  | succ n ih => intro h; exact Nat.add_le_add (ih (fun r hr => h r (by omega))) (h n (by omega))
theorem sm_lt {f g : Nat → Nat} : ∀ {n : Nat}, (∀ r, r < n → f r ≤ g r) → ∀ q, q < n → f q < g q → sm f n < sm g n := by
  intro n
  induction n with
  | zero => intro _ q hq; exact absurd hq (by omega)
  | succ n ih =>
    intro h q hq hl
    by_cases e : q = n
    · subst e
      have h1 : sm f q ≤ sm g q := sm_le (fun r hr => h r (by omega))
      show sm f q + f q < sm g q + g q
      omega
    · have h1 := ih (fun r hr => h r (by omega)) q (by omega) hl
      have h2 := h n (by omega)
      show sm f n + f n < sm g n + g n
      omega
theorem sm_const (c : Nat) : ∀ n, sm (fun _ => c) n = c * n := by
  intro n
  induction n with
  | zero => rfl
  | succ n ih => show sm (fun _ => c) n + c = c * (n + 1); rw [ih, Nat.mul_succ]
theorem sm_congr {f g : Nat → Nat} : ∀ {n : Nat}, (∀ r, r < n → f r = g r) → sm f n = sm g n := by
  intro n
  induction n with
  | zero => intro _; rfl
  | succ n ih => intro h; show sm f n + f n = sm g n + g n; rw [ih (fun r hr => h r (by omega)), h n (by omega)]
theorem sm_add (f g : Nat → Nat) : ∀ n, sm (fun r => f r + g r) n = sm f n + sm g n := by
  intro n
  induction n with
  | zero => rfl
  | succ n ih => show sm (fun r => f r + g r) n + (f n + g n) = sm f n + f n + (sm g n + g n); rw [ih]; omega
theorem sm_zero : ∀ n, sm (fun _ => 0) n = 0 := by
  intro n
  rw [sm_const]; omega
theorem sm_comm (f : Nat → Nat → Nat) (a : Nat) : ∀ b, sm (fun x => sm (fun y => f x y) b) a = sm (fun y => sm (fun x => f x y) a) b := by
  intro b
  induction b with
  | zero => exact sm_zero a
  | succ b ih =>
    show sm (fun x => sm (fun y => f x y) b + f x b) a = sm (fun y => sm (fun x => f x y) a) b + sm (fun x => f x b) a
    rw [sm_add, ih]
/-- a rule's need: the greatest layer that one of its literals wants -/
def laN (B G : Nat → Nat → Nat) (L : Nat → Nat) (i : Nat) : Nat → Nat
  | 0 => 0
  | q + 1 => if laN B G L i q < L (B i q) + G i q then L (B i q) + G i q else laN B G L i q
def nset (L : Nat → Nat) (r x : Nat) : Nat → Nat := fun j => if j = r then x else L j
def lS (H S : Nat → Nat) (B G : Nat → Nat → Nat) (L : Nat → Nat) (i : Nat) : Nat → Nat := if laN B G L i (S i) ≤ L (H i) then L else nset L (H i) (laN B G L i (S i))
def lP (H S : Nat → Nat) (B G : Nat → Nat → Nat) (L : Nat → Nat) : Nat → Nat → Nat
  | 0 => L
  | n + 1 => lS H S B G (lP H S B G L n) n
/-- a pass changes something -/
def lC (H S : Nat → Nat) (B G : Nat → Nat → Nat) (L : Nat → Nat) : Nat → Bool
  | 0 => false
  | n + 1 => if laN B G (lP H S B G L n) n (S n) ≤ lP H S B G L n (H n) then lC H S B G L n else true
/-- every rule has what it needs -/
def lF (H S : Nat → Nat) (B G : Nat → Nat → Nat) (n : Nat) (L : Nat → Nat) : Prop := ∀ i, i < n → ∀ q, q < S i → L (B i q) + G i q ≤ L (H i)
section LAY
variable {H S : Nat → Nat} {B G : Nat → Nat → Nat}
theorem laN_le {L : Nat → Nat} {i c : Nat} : ∀ {k : Nat}, laN B G L i k ≤ c ↔ ∀ q, q < k → L (B i q) + G i q ≤ c := by
  intro k
  induction k with
  | zero => exact ⟨fun _ q hq => absurd hq (by omega), fun _ => Nat.zero_le _⟩
  | succ k ih =>
    constructor
    · intro h q hq
      unfold laN at h
      by_cases e : q = k
      · subst e; split at h <;> omega
      · refine ih.mp ?_ q (by omega)
        split at h <;> omega
    · intro h
      have h1 := ih.mpr (fun q hq => h q (by omega))
      have h2 := h k (by omega)
      unfold laN
      split <;> omega
theorem laN_mono {L M : Nat → Nat} (h : ∀ r, L r ≤ M r) {i k : Nat} : laN B G L i k ≤ laN B G M i k := by
  refine laN_le.mpr (fun q hq => ?_)
  have := laN_le.mp (Nat.le_refl (laN B G M i k)) q hq
  have := h (B i q)
  omega
theorem lS_up (L : Nat → Nat) (i r : Nat) : L r ≤ lS H S B G L i r := by
  unfold lS
  split
  · exact Nat.le_refl _
  · unfold nset; split
    · rename_i h e; subst e; omega
    · exact Nat.le_refl _
theorem lP_up (L : Nat → Nat) (r : Nat) : ∀ n, L r ≤ lP H S B G L n r := by
  intro n
  induction n with
  | zero => exact Nat.le_refl _
  | succ n ih => exact Nat.le_trans ih (lS_up _ _ _)
theorem lP_up2 (L : Nat → Nat) (r : Nat) {n m : Nat} (h : n ≤ m) : lP H S B G L n r ≤ lP H S B G L m r := by
  induction m with
  | zero => have : n = 0 := by omega
            subst this; exact Nat.le_refl _
  | succ m ih =>
    by_cases e : n = m + 1
    · subst e; exact Nat.le_refl _
    · exact Nat.le_trans (ih (by omega)) (lS_up _ _ _)
theorem lF_iff {n : Nat} {L : Nat → Nat} : lF H S B G n L ↔ ∀ i, i < n → laN B G L i (S i) ≤ L (H i) := ⟨fun h i hi => laN_le.mpr (h i hi), fun h i hi => laN_le.mp (h i hi)⟩
theorem lP_below {L M : Nat → Nat} {N : Nat} (hM : lF H S B G N M) (h : ∀ r, L r ≤ M r) : ∀ n, n ≤ N → ∀ r, lP H S B G L n r ≤ M r := by
  intro n
  induction n with
  | zero => intro _; exact h
  | succ n ih =>
    intro hn r
    have ih' := ih (by omega)
    show lS H S B G (lP H S B G L n) n r ≤ M r
    unfold lS
    split
    · exact ih' r
    · unfold nset; split
      · rename_i e; subst e
        exact Nat.le_trans (laN_mono ih') (lF_iff.mp hM n (by omega))
      · exact ih' r
theorem lC_no {L : Nat → Nat} : ∀ {n : Nat}, lC H S B G L n = false → lP H S B G L n = L ∧ lF H S B G n L := by
  intro n
  induction n with
  | zero => intro _; exact ⟨rfl, fun i hi => absurd hi (by omega)⟩
  | succ n ih =>
    intro h
    unfold lC at h
    split at h
    · rename_i h1
      obtain ⟨a, b⟩ := ih h
      have e : lP H S B G L (n + 1) = L := by
        show lS H S B G (lP H S B G L n) n = L
        unfold lS
        rw [if_pos h1, a]
      refine ⟨e, lF_iff.mpr (fun i hi => ?_)⟩
      by_cases e2 : i = n
      · subst e2; rw [a] at h1; exact h1
      · exact lF_iff.mp b i (by omega)
    · cases h
theorem lC_fix {L : Nat → Nat} {N : Nat} (h : lF H S B G N L) : ∀ n, n ≤ N → lC H S B G L n = false ∧ lP H S B G L n = L := by
  intro n
  induction n with
  | zero => intro _; exact ⟨rfl, rfl⟩
  | succ n ih =>
    intro hn
    obtain ⟨a, b⟩ := ih (by omega)
    have h1 := lF_iff.mp h n (by omega)
    constructor
    · unfold lC; rw [b, if_pos h1, a]
    · show lS H S B G (lP H S B G L n) n = L
      unfold lS
      rw [b, if_pos h1]
theorem lC_yes {L : Nat → Nat} (hH : ∀ i, H i < 8) : ∀ {n : Nat}, lC H S B G L n = true → sm L 8 < sm (lP H S B G L n) 8 := by
  intro n
  induction n with
  | zero => intro h; cases h
  | succ n ih =>
    intro h
    unfold lC at h
    have hm : sm (lP H S B G L n) 8 ≤ sm (lP H S B G L (n + 1)) 8 := sm_le (fun r _ => lS_up _ _ _)
    split at h
    · exact Nat.lt_of_lt_of_le (ih h) hm
    · rename_i h1
      have h0 : sm L 8 ≤ sm (lP H S B G L n) 8 := sm_le (fun r _ => lP_up _ _ _)
      refine Nat.lt_of_le_of_lt h0 (sm_lt (fun r _ => lS_up _ _ _) (H n) (hH n) ?_)
      show lP H S B G L n (H n) < lS H S B G (lP H S B G L n) n (H n)
      unfold lS
      rw [if_neg h1]
      unfold nset
      rw [if_pos rfl]
      omega
theorem lP_got {L : Nat → Nat} {n i q : Nat} (hi : i < n) (hq : q < S i) : L (B i q) + G i q ≤ lP H S B G L n (H i) := by
  refine Nat.le_trans ?_ (lP_up2 L (H i) (show i + 1 ≤ n by omega))
  have h1 := lP_up (H := H) (S := S) (B := B) (G := G) L (B i q) i
  have h2 : laN B G (lP H S B G L i) i (S i) ≤ lP H S B G L (i + 1) (H i) := by
    show _ ≤ lS H S B G (lP H S B G L i) i (H i)
    unfold lS
    split
    · assumption
    · unfold nset; rw [if_pos rfl]; exact Nat.le_refl _
  have h3 := laN_le.mp h2 q hq
  omega
/-- the least layers -/
def lL (H S : Nat → Nat) (B G : Nat → Nat → Nat) (n : Nat) (M : Nat → Nat) : Prop := lF H S B G n M ∧ ∀ K, lF H S B G n K → ∀ r, M r ≤ K r
theorem low_ex (P : Nat → Prop) : ∀ n, P n → ∃ m, P m ∧ ∀ k, P k → m ≤ k := by
  intro n
  induction n using Nat.strongRecOn with
  | ind n ih =>
    intro h
    by_cases h1 : ∃ m, m < n ∧ P m
    · obtain ⟨m, hm, hp⟩ := h1
      exact ih m hm hp
    · exact ⟨n, h, fun k hk => Nat.not_lt.mp (fun z => h1 ⟨k, z, hk⟩)⟩
theorem lL_ex {n : Nat} (h : ∃ K, lF H S B G n K) : ∃ M, lL H S B G n M := by
  obtain ⟨K0, h0⟩ := h
  have hx : ∀ r, ∃ m, (∃ K, lF H S B G n K ∧ K r = m) ∧ ∀ k, (∃ K, lF H S B G n K ∧ K r = k) → m ≤ k := fun r => low_ex (fun m => ∃ K, lF H S B G n K ∧ K r = m) (K0 r) ⟨K0, h0, rfl⟩
  refine ⟨fun r => Classical.choose (hx r), ?_, ?_⟩
  · intro i hi q hq
    obtain ⟨⟨K, hK, hKe⟩, -⟩ := Classical.choose_spec (hx (H i))
    have h1 := hK i hi q hq
    have h2 := (Classical.choose_spec (hx (B i q))).2 (K (B i q)) ⟨K, hK, rfl⟩
    show Classical.choose (hx (B i q)) + G i q ≤ Classical.choose (hx (H i))
    omega
  · intro K hK r
    exact (Classical.choose_spec (hx r)).2 (K r) ⟨K, hK, rfl⟩
/-- a pass brings one more relation to its last layer -/
theorem lP_grow {n : Nat} {L M : Nat → Nat} (hB : ∀ i q, i < n → q < S i → B i q < 8) (hH : ∀ i, H i < 8) (hM : lL H S B G n M) (hL : ∀ r, L r ≤ M r) (hne : ∃ r, r < 8 ∧ L r < M r) : ∃ r, r < 8 ∧ L r < M r ∧ lP H S B G L n r = M r := by
  refine Classical.byContradiction (fun hc => ?_)
  have hc' : ∀ r, r < 8 → L r < M r → lP H S B G L n r < M r := fun r hr hl => Nat.lt_of_le_of_ne (lP_below hM.1 hL n (Nat.le_refl _) r) (fun e => hc ⟨r, hr, hl, e⟩)
  have hK : lF H S B G n (fun r => if r < 8 ∧ L r < M r then M r - 1 else M r) := by
    intro i hi q hq
    have h1 := hM.1 i hi q hq
    have hb := hB i q hi hq
    have hh := hH i
    show (if B i q < 8 ∧ L (B i q) < M (B i q) then M (B i q) - 1 else M (B i q)) + G i q ≤ (if H i < 8 ∧ L (H i) < M (H i) then M (H i) - 1 else M (H i))
    have h4 := lP_got (H := H) (S := S) (B := B) (G := G) (L := L) hi hq
    have h6 := hL (B i q)
    have h5 := hc' (H i) hh
    split
    · split
      · omega
      · omega
    · split
      · rename_i h2 h3
        have := h5 h3.2
        have h8 : ¬ L (B i q) < M (B i q) := fun z => h2 ⟨hb, z⟩
        omega
      · omega
  obtain ⟨r, hr, hl⟩ := hne
  have h1 := hM.2 _ hK r
  have h2 : (if r < 8 ∧ L r < M r then M r - 1 else M r) = M r - 1 := if_pos ⟨hr, hl⟩
  have h3 : M r ≤ M r - 1 := h2 ▸ h1
  omega
/-- how many relations have their last layer -/
def lE (L M : Nat → Nat) : Nat := sm (fun r => if L r = M r then 1 else 0) 8
theorem lE_8 {L M : Nat → Nat} (hL : ∀ r, L r ≤ M r) (h : 8 ≤ lE L M) : ∀ r, r < 8 → L r = M r := by
  intro r hr
  refine Classical.byContradiction (fun hn => ?_)
  have h1 : lE L M < sm (fun _ => 1) 8 := sm_lt (fun r _ => by show (if L r = M r then 1 else 0) ≤ 1; split <;> omega) r hr (by show (if L r = M r then 1 else 0) < 1; rw [if_neg hn]; exact Nat.one_pos)
  rw [sm_const] at h1
  omega
theorem lE_pass {n : Nat} {L M : Nat → Nat} (hB : ∀ i q, i < n → q < S i → B i q < 8) (hH : ∀ i, H i < 8) (hM : lL H S B G n M) (hL : ∀ r, L r ≤ M r) : 8 ≤ lE L M ∨ lE L M < lE (lP H S B G L n) M := by
  by_cases hne : ∃ r, r < 8 ∧ L r < M r
  · right
    obtain ⟨r, hr, hl, he⟩ := lP_grow hB hH hM hL hne
    refine sm_lt (fun q _ => ?_) r hr ?_
    · show (if L q = M q then 1 else 0) ≤ (if lP H S B G L n q = M q then 1 else 0)
      have h1 := lP_up (H := H) (S := S) (B := B) (G := G) L q n
      have h2 := lP_below hM.1 hL n (Nat.le_refl _) q
      split
      · rw [if_pos (by omega)]; exact Nat.le_refl _
      · exact Nat.zero_le _
    · show (if L r = M r then 1 else 0) < (if lP H S B G L n r = M r then 1 else 0)
      rw [if_neg (by omega), if_pos he]; exact Nat.one_pos
  · left
    have h1 : lE L M = sm (fun _ => 1) 8 := sm_congr (fun r hr => by
      show (if L r = M r then 1 else 0) = 1
      have h1 : ¬ L r < M r := fun z => hne ⟨r, hr, z⟩
      have h2 := hL r
      rw [if_pos (by omega)])
    rw [h1, sm_const]
    exact Nat.le_refl _
theorem lE_0 {n : Nat} {M : Nat → Nat} (hB : ∀ i q, i < n → q < S i → B i q < 8) (hM : lL H S B G n M) : 1 ≤ lE (fun _ => 0) M := by
  have h0 : ∃ r, r < 8 ∧ M r = 0 := by
    refine Classical.byContradiction (fun hc => ?_)
    have hc' : ∀ r, r < 8 → 1 ≤ M r := fun r hr => Nat.pos_of_ne_zero (fun e => hc ⟨r, hr, e⟩)
    have hK : lF H S B G n (fun r => M r - 1) := by
      intro i hi q hq
      have h1 := hM.1 i hi q hq
      have h2 := hc' _ (hB i q hi hq)
      show M (B i q) - 1 + G i q ≤ M (H i) - 1
      omega
    have h1 := hM.2 _ hK 0
    have h2 := hc' 0 (by omega)
    have h3 : M 0 ≤ M 0 - 1 := h1
    omega
  obtain ⟨r, hr, he⟩ := h0
  have h1 : sm (fun _ => 0) 8 < lE (fun _ => 0) M := sm_lt (fun q _ => Nat.zero_le _) r hr (by show 0 < (if 0 = M r then 1 else 0); rw [if_pos he.symm]; exact Nat.one_pos)
  omega
/-- eight relations need no layer above the seventh -/
theorem lL_7 {n : Nat} {M : Nat → Nat} (hG : ∀ i q, G i q ≤ 1) (hB : ∀ i q, i < n → q < S i → B i q < 8) (hH : ∀ i, H i < 8) (hM : lL H S B G n M) : ∀ r, r < 8 → M r ≤ 7 := by
  have hgap : ∀ c r, r < 8 → c < M r → ∃ t, t < 8 ∧ M t = c := by
    intro c r hr hcr
    refine Classical.byContradiction (fun hc => ?_)
    have hc' : ∀ t, t < 8 → M t ≠ c := fun t ht e => hc ⟨t, ht, e⟩
    have hK : lF H S B G n (fun r => if c < M r then M r - 1 else M r) := by
      intro i hi q hq
      have h1 := hM.1 i hi q hq
      have h2 := hc' _ (hB i q hi hq)
      have h3 := hc' _ (hH i)
      have h4 := hG i q
      show (if c < M (B i q) then M (B i q) - 1 else M (B i q)) + G i q ≤ (if c < M (H i) then M (H i) - 1 else M (H i))
      split <;> split <;> omega
    have h1 := hM.2 _ hK r
    have h2 : (if c < M r then M r - 1 else M r) = M r - 1 := if_pos hcr
    have h3 : M r ≤ M r - 1 := h2 ▸ h1
    omega
  have hcnt : ∀ c r, r < 8 → c ≤ M r → c ≤ sm (fun t => if M t < c then 1 else 0) 8 := by
    intro c
    induction c with
    | zero => intro r _ _; exact Nat.zero_le _
    | succ c ih =>
      intro r hr hc
      have h1 := ih r hr (by omega)
      obtain ⟨t, ht, he⟩ := hgap c r hr (by omega)
      have h2 : sm (fun t => if M t < c then 1 else 0) 8 < sm (fun t => if M t < c + 1 then 1 else 0) 8 := by
        refine sm_lt (fun q _ => ?_) t ht ?_
        · show (if M q < c then 1 else 0) ≤ (if M q < c + 1 then 1 else 0)
          split
          · rw [if_pos (by omega)]; exact Nat.le_refl _
          · exact Nat.zero_le _
        · show (if M t < c then 1 else 0) < (if M t < c + 1 then 1 else 0)
          rw [if_neg (by omega), if_pos (by omega)]; exact Nat.one_pos
      omega
  intro r hr
  refine Classical.byContradiction (fun hn => ?_)
  have h1 := hcnt 8 r hr (by omega)
  have h2 : sm (fun t => if M t < 8 then 1 else 0) 8 < sm (fun _ => 1) 8 := sm_lt (fun q _ => by show (if M q < 8 then 1 else 0) ≤ 1; split <;> omega) r hr (by show (if M r < 8 then 1 else 0) < 1; rw [if_neg (by omega)]; exact Nat.one_pos)
  rw [sm_const] at h2
  omega
end LAY
