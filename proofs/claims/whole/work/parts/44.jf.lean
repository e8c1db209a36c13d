-- the frame rule for contracts; worlds told in another order
theorem ap_l {α : Type} {a b : List α} {k : Nat} {q : α} (h : a[k]? = some q) : (a ++ b)[k]? = some q := by
  rw [List.getElem?_append_left (List.getElem?_eq_some_iff.mp h).1]; exact h
theorem ap_r {α : Type} {a b : List α} {k : Nat} {q : α} (h : b[k]? = some q) : (a ++ b)[a.length + k]? = some q := by
  rw [List.getElem?_append_right (by omega), Nat.add_sub_cancel_left]; exact h
theorem ap_or {α : Type} {a b : List α} {k : Nat} {q : α} (h : (a ++ b)[k]? = some q) : (k < a.length ∧ a[k]? = some q) ∨ (a.length ≤ k ∧ b[k - a.length]? = some q) := by
  by_cases hk : k < a.length
  · rw [List.getElem?_append_left hk] at h; exact Or.inl ⟨hk, h⟩
  · rw [List.getElem?_append_right (by omega)] at h; exact Or.inr ⟨by omega, h⟩
theorem va_P_swap {D : va_G} {cl : List vw_C} {a b : va_W} {H : Heap} (h : va_P D cl (a ++ b) H) : va_P D cl (b ++ a) H := by
  intro k q hk
  rcases ap_or hk with ⟨-, h1⟩ | ⟨-, h1⟩
  · exact h _ q (ap_r h1)
  · exact h _ q (ap_l h1)
theorem va_D_swap {A : Nat → Prop} {a b : va_W} (h : va_D A (a ++ b)) : va_D A (b ++ a) := by
  refine ⟨fun i j p q hi hj e => ?_, fun k q hk => ?_⟩
  · rcases ap_or hi with ⟨l1, h1⟩ | ⟨l1, h1⟩
    · rcases ap_or hj with ⟨l2, h2⟩ | ⟨l2, h2⟩
      · have := h.1 _ _ p q (ap_r h1) (ap_r h2) e; omega
      · have := h.1 _ _ p q (ap_r h1) (ap_l h2) e
        have := (List.getElem?_eq_some_iff.mp h2).1
        omega
    · rcases ap_or hj with ⟨l2, h2⟩ | ⟨l2, h2⟩
      · have := h.1 _ _ p q (ap_l h1) (ap_r h2) e
        have := (List.getElem?_eq_some_iff.mp h1).1
        omega
      · have := h.1 _ _ p q (ap_l h1) (ap_l h2) e; omega
  · rcases ap_or hk with ⟨-, h1⟩ | ⟨-, h1⟩
    · exact h.2 _ q (ap_r h1)
    · exact h.2 _ q (ap_l h1)
theorem va_A_l {ws f : va_W} {sz q : Nat} (h : va_A ws sz q) : va_A (ws ++ f) sz q := by
  rcases h with ⟨k, e, h⟩ | h
  · exact Or.inl ⟨k, e, ap_l h⟩
  · exact Or.inr h
/-- a contract on some cells, told on more -/
theorem jMet.frame {l : Launch} {y : MethodName} {cw0 : Cond} {rm : Room} {D : va_G} {cl : List vw_C} {tys : List (ClassId × FieldType)} {Ts : List Cond} {av : List Value} {ws : va_W} {mc ms : Nat} {post : Option String → Option Value → va_W → Prop} (f : va_W)
    (h : jMet l y cw0 rm D cl tys Ts av ws mc ms post) : jMet l y cw0 rm D cl tys Ts av (ws ++ f) mc ms (fun o v w => ∃ w0, post o v w0 ∧ w = w0 ++ f) := by
  intro sz
  refine MetFree.mono (h sz) ?_ (fun _ _ _ _ _ _ => trivial) ?_
  · intro a s hp
    obtain ⟨h1, h2, h3, h4, h5, h6, h7⟩ := hp
    refine ⟨h1, h2, h3, h4.go (Vm.Alike.refl _) (fun _ _ _ => rfl) (fun q hq => va_A_l hq), fun k q hk => h5 k q (ap_l hk), h6, fun i j p q hi hj e => h7.1 i j p q (ap_l hi) (ap_l hj) e, fun _ _ _ => trivial⟩
  · intro a s o t hp hq
    obtain ⟨h1, h2, h3, h4, h5, h6, h7⟩ := hp
    obtain ⟨⟨⟨w, q1, q2, q3⟩, q4⟩, L, q5, q6⟩ := hq
    have hf : ∀ (k : Nat) (q : Nat × va_E), f[k]? = some q → q.1 < s.heap.size ∧ ¬ va_A ws sz q.1 := by
      intro k q hk
      have hlt : q.1 < s.heap.size := (h5 _ q (ap_r hk)).lt
      refine ⟨hlt, fun z => ?_⟩
      rcases z with ⟨k2, e2, hk2⟩ | z
      · have := h7.1 _ _ _ _ (ap_l hk2) (ap_r hk) rfl
        have := (List.getElem?_eq_some_iff.mp hk2).1
        omega
      · rw [h2] at hlt; omega
    refine ⟨⟨⟨w ++ f, ?_, q2.app (fun k q hk => (h5 _ q (ap_r hk)).kept (q4.2 _ (hf k q hk).1 (hf k q hk).2)), va_D.app (q3.weaken (fun _ _ _ hz => va_A_l hz)) ⟨fun i j p q hi hj e => ?_, fun k q hk => Or.inl ⟨_, q.2, ap_r hk⟩⟩ (fun i j p q hi hj e => ?_)⟩, q4.1, fun q hq1 hq2 => q4.2 q hq1 (fun z => hq2 (va_A_l z))⟩, L, q5, fun q hq => va_A_l (q6 q hq)⟩
    · cases o with
      | returned v => exact ⟨w, q1, rfl⟩
      | threw x =>
        obtain ⟨cn, hp1, hx⟩ := q1
        exact ⟨cn, ⟨w, hp1, rfl⟩, hx⟩
    · have := h7.1 _ _ p q (ap_r hi) (ap_r hj) e
      omega
    · exact (hf j q hj).2 (e ▸ q3.2 i p hi)
section JSW
variable {p : Program} {l : Launch} {e : Env} {R : Room} {s : State} {m : MethodId} {args : Array Value} {below : List Frame} {meth : Method} {c : Code} {Q : State → Prop} {cells slots : Nat}
variable {nL : Nat} {D : va_G} {cl : List vw_C} {A : Nat → Prop} {pc : Nat} {lv : List (Nat × Value)} {st : List Value} {a b : va_W}
theorem j_swap (k : jJ p l e R s m args below meth c nL D cl A Q cells slots (b ++ a) lv st pc) : jJ p l e R s m args below meth c nL D cl A Q cells slots (a ++ b) lv st pc :=
  fun H locs ls hP hD hS hl => k H locs ls (va_P_swap hP) (va_D_swap hD) hS hl
end JSW
