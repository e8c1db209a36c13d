-- class and reference side by side: the beginning
def u0s : jU := fun c i => if c = 0 ∧ i = 2 then -1 else if c = 6 then c6 i else 0
def v0s : jU := fun _ _ => 0
theorem c6_12 : ∀ c, c < 12 → c6 c = nI c := by decide +kernel
theorem c6_24 : ∀ t, t < 24 → inN (c6 t) 12 := by
  have h : ∀ t, t < 24 → (c6 t = nI (tn (c6 t)) ∧ tn (c6 t) < 12) := by decide +kernel
  exact h
theorem u0_c {c i : Nat} (h0 : ¬ c = 0) (h6 : ¬ c = 6) : u0s c i = 0 := by unfold u0s; rw [if_neg (fun z => h0 z.1), if_neg h6]
theorem u0_0 {i : Nat} (h : ¬ i = 2) : u0s 0 i = 0 := by unfold u0s; rw [if_neg (fun z => h z.2), if_neg (by decide)]
theorem u0_6 (i : Nat) : u0s 6 i = c6 i := by unfold u0s; rw [if_neg (fun z => absurd z.1 (by decide)), if_pos rfl]
theorem Rl_0 : Rl u0s v0s := by
  have t0 : tn (0 : Int32) = 0 := by decide
  have hc : ∀ c, ¬ c = 0 → ¬ c = 6 → u0s c = v0s c := fun c h0 h6 => by funext i; exact u0_c h0 h6
  have hR : wfR u0s := by
    refine ⟨fun i _ => by rw [u0_c (by decide) (by decide)]; exact inN_0 (by decide), fun j _ => ?_⟩
    unfold wfB
    rw [u0_c (by decide) (by decide), u0_c (by decide) (by decide), u0_c (by decide) (by decide), u0_c (by decide) (by decide)]
    exact ⟨inN_0 (by decide), Or.inl (inN_0 (by decide)), Or.inl (inN_0 (by decide)), Or.inl rfl⟩
  have pg : pgq v0s u0s := ⟨hc 12 (by decide) (by decide), hc 16 (by decide) (by decide), hc 17 (by decide) (by decide), hc 18 (by decide) (by decide), hc 19 (by decide) (by decide)⟩
  have hv : wfV u0s := fun t ht => Or.inr (by rw [u0_6]; exact c6_24 t ht)
  have hg : ∀ f, gvc u0s f = false := fun f => by unfold gvc; rw [u0_c (by decide) (by decide), hb0]
  refine ⟨⟨u0_0 (by decide), u0_0 (by decide), hc 1 (by decide) (by decide), pg, fun f _ => by rw [hg f]; rfl⟩, ⟨⟨wfM_R hR hv, by rw [u0_0 (by decide)]; exact inN_0 (by decide), by rw [u0_0 (by decide)]; exact inN_0 (by decide)⟩, hR, fun c hl => by rw [u0_6]; exact c6_12 c hl, fun f _ => by unfold frs; rw [u0_c (by decide) (by decide), hb0], ?_, fun f _ z => by rw [hg f] at z; cases z⟩, rC_0 (u0_0 (by decide)) (u0_0 (by decide)), ?_⟩
  · rw [u0_0 (by decide), t0]
    intro i hi
    exact absurd hi (by omega)
  · have hRv := wfR_pg pg.sy hR
    exact ⟨⟨inN_0 (by decide), inN_0 (by decide), hRv.1, hRv.2, fun q _ => inN_0 (by decide), fun f _ => Or.inl rfl⟩, ⟨inN_0 (by decide), fun f _ z => absurd rfl z⟩, fun z => absurd rfl z⟩
