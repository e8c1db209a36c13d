-- the mathematics, second part: the values of the variables as a number
def lf3 (b : Nat → Bool) (n : Nat) : Nat := if b 3 then n / 12 else n
def lf2 (b : Nat → Bool) (n : Nat) : Nat := if b 2 then lf3 b n / 12 else lf3 b n
def lf1 (b : Nat → Bool) (n : Nat) : Nat := if b 1 then lf2 b n / 12 else lf2 b n
def lf0 (b : Nat → Bool) (n : Nat) : Nat := if b 0 then lf1 b n / 12 else lf1 b n
def dg (b : Nat → Bool) (n : Nat) : Nat → Nat
  | 0 => if b 0 then lf1 b n % 12 else 0
  | 1 => if b 1 then lf2 b n % 12 else 0
  | 2 => if b 2 then lf3 b n % 12 else 0
  | 3 => if b 3 then n % 12 else 0
  | _ => 0
theorem dg_lt (b : Nat → Bool) (n v : Nat) : dg b n v < 12 := by
  unfold dg
  split <;> (try split) <;> omega
theorem dg_no {b : Nat → Bool} {v : Nat} (h : b v = false) (n : Nat) : dg b n v = 0 := by
  unfold dg
  split <;> simp [h]
theorem dg_surj (b : Nat → Bool) {x : Nat → Nat} (hx : ∀ v, x v < 12) : ∃ n, lf0 b n = 0 ∧ ∀ v, v < 4 → b v = true → dg b n v = x v := by
  have h0 := hx 0; have h1 := hx 1; have h2 := hx 2; have h3 := hx 3
  refine ⟨(((if b 0 then x 0 else 0) * (if b 1 then 12 else 1) + (if b 1 then x 1 else 0)) * (if b 2 then 12 else 1) + (if b 2 then x 2 else 0)) * (if b 3 then 12 else 1) + (if b 3 then x 3 else 0), ?_, ?_⟩
  · cases e0 : b 0 <;> cases e1 : b 1 <;> cases e2 : b 2 <;> cases e3 : b 3 <;> simp [lf0, lf1, lf2, lf3, e0, e1, e2, e3] <;> omega
  · intro v hv hb
    match v, hv with
    | 0, _ => cases e1 : b 1 <;> cases e2 : b 2 <;> cases e3 : b 3 <;> simp [dg, lf1, lf2, lf3, hb, e1, e2, e3] <;> omega
    | 1, _ => cases e0 : b 0 <;> cases e2 : b 2 <;> cases e3 : b 3 <;> simp [dg, lf2, lf3, hb, e0, e2, e3] <;> omega
    | 2, _ => cases e0 : b 0 <;> cases e1 : b 1 <;> cases e3 : b 3 <;> simp [dg, lf3, hb, e0, e1, e3] <;> omega
    | 3, _ => cases e0 : b 0 <;> cases e1 : b 1 <;> cases e2 : b 2 <;> simp [dg, hb, e0, e1, e2] <;> omega
theorem dg_ord {b : Nat → Bool} {n m : Nat} (hn : lf0 b n = 0) (hm : lf0 b m = 0) {o : Nat} (ho : o < 4) (hb : b o = true) (he : ∀ v, v < o → b v = true → dg b n v = dg b m v) (hl : dg b n o < dg b m o) : n < m := by
  match o, ho with
  | 0, _ => revert hn hm hl; cases e1 : b 1 <;> cases e2 : b 2 <;> cases e3 : b 3 <;> simp [dg, lf0, lf1, lf2, lf3, hb, e1, e2, e3] <;> omega
  | 1, _ =>
    have f0 := he 0 (by decide)
    revert hn hm hl f0; cases e0 : b 0 <;> cases e2 : b 2 <;> cases e3 : b 3 <;> simp [dg, lf0, lf1, lf2, lf3, hb, e0, e2, e3] <;> omega
  | 2, _ =>
    have f0 := he 0 (by decide)
    have f1 := he 1 (by decide)
    revert hn hm hl f0 f1; cases e0 : b 0 <;> cases e1 : b 1 <;> cases e3 : b 3 <;> simp [dg, lf0, lf1, lf2, lf3, hb, e0, e1, e3] <;> omega
  | 3, _ =>
    have f0 := he 0 (by decide)
    have f1 := he 1 (by decide)
    have f2 := he 2 (by decide)
    revert hn hm hl f0 f1 f2; cases e0 : b 0 <;> cases e1 : b 1 <;> cases e2 : b 2 <;> simp [dg, lf0, lf1, lf2, lf3, hb, e0, e1, e2] <;> omega
theorem dg_inj {b : Nat → Bool} {n m : Nat} (hn : lf0 b n = 0) (hm : lf0 b m = 0) (he : ∀ v, v < 4 → b v = true → dg b n v = dg b m v) : n = m := by
  have f0 := he 0 (by decide)
  have f1 := he 1 (by decide)
  have f2 := he 2 (by decide)
  have f3 := he 3 (by decide)
  revert hn hm f0 f1 f2 f3; cases e0 : b 0 <;> cases e1 : b 1 <;> cases e2 : b 2 <;> cases e3 : b 3 <;> simp [dg, lf0, lf1, lf2, lf3, e0, e1, e2, e3] <;> omega
theorem lf0_lt {b : Nat → Bool} {n : Nat} (h : lf0 b n = 0) : n < 20736 := by
  revert h; cases e0 : b 0 <;> cases e1 : b 1 <;> cases e2 : b 2 <;> cases e3 : b 3 <;> simp [lf0, lf1, lf2, lf3, e0, e1, e2, e3] <;> omega
theorem lf0_mono {b : Nat → Bool} {n m : Nat} (h : n ≤ m) : lf0 b n ≤ lf0 b m := by
  cases e0 : b 0 <;> cases e1 : b 1 <;> cases e2 : b 2 <;> cases e3 : b 3 <;> simp [lf0, lf1, lf2, lf3, e0, e1, e2, e3] <;> omega
def un3 (b : Nat → Bool) : Nat := if b 3 then 12 else 1
def un2 (b : Nat → Bool) : Nat := if b 2 then 12 * un3 b else un3 b
def un1 (b : Nat → Bool) : Nat := if b 1 then 12 * un2 b else un2 b
def un0 (b : Nat → Bool) : Nat := if b 0 then 12 * un1 b else un1 b
/-- the step that leaves the variables o as they are -/
def un (b o : Nat → Bool) : Nat := if o 3 then 1 else if o 2 then un3 b else if o 1 then un2 b else if o 0 then un1 b else un0 b
theorem un_dg {b o : Nat → Bool} {n m : Nat} (h : n / un b o = m / un b o) : ∀ v, v < 4 → o v = true → dg b n v = dg b m v := by
  intro v hv hb
  cases o3 : o 3 with
  | true =>
    have : n = m := by simpa [un, o3] using h
    rw [this]
  | false =>
    cases o2 : o 2 with
    | true =>
      match v, hv with
      | 0, _ => revert h; cases e0 : b 0 <;> cases e1 : b 1 <;> cases e2 : b 2 <;> cases e3 : b 3 <;> simp [un, un3, dg, lf1, lf2, lf3, o3, o2, e1, e2, e3, e0] <;> omega
      | 1, _ => revert h; cases e1 : b 1 <;> cases e2 : b 2 <;> cases e3 : b 3 <;> simp [un, un3, dg, lf2, lf3, o3, o2, e2, e3, e1] <;> omega
      | 2, _ => revert h; cases e2 : b 2 <;> cases e3 : b 3 <;> simp [un, un3, dg, lf3, o3, o2, e3, e2] <;> omega
      | 3, _ => rw [o3] at hb; cases hb
    | false =>
      cases o1 : o 1 with
      | true =>
        match v, hv with
        | 0, _ => revert h; cases e0 : b 0 <;> cases e1 : b 1 <;> cases e2 : b 2 <;> cases e3 : b 3 <;> simp [un, un2, un3, dg, lf1, lf2, lf3, o3, o2, o1, e1, e2, e3, e0] <;> omega
        | 1, _ => revert h; cases e1 : b 1 <;> cases e2 : b 2 <;> cases e3 : b 3 <;> simp [un, un2, un3, dg, lf2, lf3, o3, o2, o1, e2, e3, e1] <;> omega
        | 2, _ => rw [o2] at hb; cases hb
        | 3, _ => rw [o3] at hb; cases hb
      | false =>
        match v, hv with
        | 0, _ => revert h; cases e0 : b 0 <;> cases e1 : b 1 <;> cases e2 : b 2 <;> cases e3 : b 3 <;> simp [un, un1, un2, un3, dg, lf1, lf2, lf3, o3, o2, o1, hb, e1, e2, e3, e0] <;> omega
        | 1, _ => rw [o1] at hb; cases hb
        | 2, _ => rw [o2] at hb; cases hb
        | 3, _ => rw [o3] at hb; cases hb
theorem un_pos (b o : Nat → Bool) : 0 < un b o := by
  have h3 : 0 < un3 b := by unfold un3; split <;> omega
  have h2 : 0 < un2 b := by unfold un2; split <;> omega
  have h1 : 0 < un1 b := by unfold un1; split <;> omega
  have h0 : 0 < un0 b := by unfold un0; split <;> omega
  unfold un
  split
  · exact Nat.one_pos
  · split
    · exact h3
    · split
      · exact h2
      · split
        · exact h1
        · exact h0
theorem div_block {U n m : Nat} (hU : 0 < U) (h1 : n < m) (h2 : m < n - n % U + U) : m / U = n / U := by
  have h3 := Nat.div_add_mod n U
  have h4 := Nat.mod_lt n hU
  refine Nat.div_eq_of_lt_le ?_ ?_
  · rw [Nat.mul_comm]; omega
  · rw [Nat.succ_mul, Nat.mul_comm (n / U) U]; omega
