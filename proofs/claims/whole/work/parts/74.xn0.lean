-- the count of bits, twelve of them
def bcn (k : Nat) : Bool := decide (pBC (nI k) = nI (sm (fun c => if hb (nI k) (nI c) then 1 else 0) 12))
theorem pbc_ab : ∀ a, a < 64 → ∀ b, b < 64 → bcn (64 * a + b) = true := by decide +kernel
theorem pbc_k {k : Nat} (h : k < 4096) : pBC (nI k) = nI (sm (fun c => if hb (nI k) (nI c) then 1 else 0) 12) := by
  have h1 := pbc_ab (k / 64) (by omega) (k % 64) (by omega)
  rw [show 64 * (k / 64) + k % 64 = k by omega] at h1
  exact of_decide_eq_true h1
