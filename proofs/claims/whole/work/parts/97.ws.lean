-- the law's start: words, tables, statics
theorem str_same {own tx : String} {k : Nat} {A A' : Array Value} {u U : State} (hv : U.vm = u.vm) (h : (Cond.stringRef own k tx).before A u = true) : (Cond.stringRef own k tx).before A' U = true := by
  first
    | exact va_tabs rfl hv.symm h
    | (have h1 := h; simp only [Cond.before, Cond.holds, Cond.value, State.names, State.poolOf?, State.resolvedAt?, hv] at h1 ⊢; exact h1)
theorem jkk_warm {w : Cond} (hk : jkk w = true) {A a' : Array Value} {s U : State} (hW : s.WarmedH U.vm) (h : w.before A s = true) : w.before a' U = true := by
  cases w <;> first
    | exact (va_Nw.warmF hW (va_Nw.of rfl h)).use rfl
    | exact (va_Nw.warmM hW (va_Nw.of rfl h)).use rfl
    | exact (va_Nw.warmC hW (va_Nw.of rfl h)).use rfl
    | exact (va_Nw.warmD hW (va_Nw.of rfl h)).use rfl
    | exact str_same (u := s.setVm U.vm) rfl (Cond.stringRef_warmed hW h)
    | exact word_at hW (good_of_word hk) h
    | exact word_at hW (good_of_word rfl) h
theorem not_of {C T : String} {A : Array Value} {U : State} (h : va_Nc C T U) : (Cond.not (.castable C T)).before A U = true := by
  obtain ⟨c, t, h1, h2, h3⟩ := h
  simp [Cond.before, Cond.holds, Cond.value, h1, h2, h3]
theorem not_warm {C T : String} {A a' : Array Value} {s U : State} (hW : s.WarmedH U.vm) (h : (Cond.not (.castable C T)).before A s = true) : (Cond.not (.castable C T)).before a' U = true := not_of (va_Nc.moved hW.alike (va_Nc.of h))
theorem jNs_warm {w : Cond} (hw : w ∈ jNs) {A a' : Array Value} {s U : State} (hW : s.WarmedH U.vm) (h : w.before A s = true) : w.before a' U = true := by
  unfold jNs at hw
  simp only [List.mem_cons, List.not_mem_nil, or_false] at hw
  rcases hw with rfl | rfl | rfl | rfl | rfl | rfl | rfl | rfl
  · exact not_warm hW h
  · exact not_warm hW h
  · exact not_warm hW h
  · exact not_warm hW h
  · exact not_warm hW h
  · exact not_warm hW h
  · exact va_AO.use (va_AO.moved hW.alike (va_AO.of h))
  · exact va_AO.use (va_AO.moved hW.alike (va_AO.of h))
theorem jW_ok {A : Array Value} {s : State} (hts : ∀ w ∈ jTn, w.before A s = true) : jW jTn s := by
  intro w hw a' U' hW
  have h := hts w hw
  rcases List.mem_append.mp hw with h1 | h1
  · exact jkk_warm (List.mem_filter.mp h1).2 hW h
  · exact jNs_warm h1 hW h
theorem arr_prim {A : Array Value} {s : State} {ty : FieldType} (hty : ∀ C, ty ≠ .object C) (h : (Cond.arrayClass ty).before A s = true) : ∃ cA : ClassId, ArrOfT s cA ty ∧ va_RA s cA ty := by
  obtain ⟨c, kA, comp, h1, h2, h3⟩ := Cond.arrayClass_spec h
  refine ⟨c, fun n z => ⟨fun k h => (by cases h), kA, h2, comp, h3⟩, ?_⟩
  unfold va_RA
  cases ty <;> first | exact h1 | exact absurd rfl (hty _)
theorem arr_obj {A : Array Value} {s : State} {C : String} (h : (Cond.arrayOver (.object C)).before A s = true) : ∃ cA : ClassId, ArrOfT s cA (.object C) ∧ va_RA s cA (.object C) := by
  obtain ⟨comp, c, kA, h1, h2, h3, h4, h5⟩ := Cond.arrayOver_spec h
  exact ⟨c, fun n z => ⟨fun k h => (by cases h), kA, h3, comp, h4⟩, kA, comp, h3, h4, h1, h5⟩
theorem inst_in {C : String} {n : Nat} (h : Cond.instantiable C n ∈ tables_1) : Cond.instantiable C n ∈ jTn := jTn_l (jin (List.mem_append_right _ h) rfl)
theorem va_K_ok {A : Array Value} {s : State} (hts : ∀ w ∈ jTn, w.before A s = true) : ∃ (dC : Nat → ClassId) (dI : Nat → Nat → Nat) (k : Nat → Nat), va_K (dC, dI) jcl (ltys k) s := by
  obtain ⟨c0, i0, k0⟩ := u_known hts hiN_A (hts _ (inst_in lw_p15.2.1))
  obtain ⟨c1, i1, k1⟩ := u_known hts hiN_M (hts _ (inst_in lw_p30.2.1))
  obtain ⟨c2, i2, k2⟩ := u_known hts hiN_R (hts _ (inst_in lw_p3.2.1))
  obtain ⟨c3, i3, k3⟩ := u_known hts hiN_S (hts _ (inst_in lw_p25.2.1))
  obtain ⟨c4, i4, k4⟩ := u_known hts hiN_H (hts _ (inst_in lw_p0.2.1))
  obtain ⟨c5, i5, k5⟩ := u_known hts hiN_D (hts _ (inst_in lw_p42.2.1))
  obtain ⟨a0, b0⟩ := arr_prim (fun C h => by cases h) (hts _ wa_int)
  obtain ⟨a1, b1⟩ := arr_obj (hts (.arrayOver (.object "StrataHouse$Atom")) (jTn_r (List.mem_of_getElem? (i := 6) rfl)))
  obtain ⟨a2, b2⟩ := arr_obj (hts (.arrayOver (.object "StrataHouse$Rule")) (jTn_r (List.mem_of_getElem? (i := 7) rfl)))
  obtain ⟨a3, b3⟩ := arr_prim (fun C h => by cases h) (hts _ wa_boolean)
  obtain ⟨a4, b4⟩ := arr_prim (fun C h => by cases h) (hts _ wa_long)
  refine ⟨fun j => match j with | 0 => c0 | 1 => c1 | 2 => c2 | 3 => c3 | 4 => c4 | _ => c5, fun j => match j with | 0 => i0 | 1 => i1 | 2 => i2 | 3 => i3 | 4 => i4 | _ => i5, fun j => match j with | 0 => a0 | 1 => a1 | 2 => a2 | 3 => a3 | _ => a4, fun c q hq => ?_, fun j q hq => ?_⟩
  · match c, hq with
    | 0, hq => cases hq; exact k0
    | 1, hq => cases hq; exact k1
    | 2, hq => cases hq; exact k2
    | 3, hq => cases hq; exact k3
    | 4, hq => cases hq; exact k4
    | 5, hq => cases hq; exact k5
    | _ + 6, hq => cases hq
  · match j, hq with
    | 0, hq => cases hq; exact b0
    | 1, hq => cases hq; exact b1
    | 2, hq => cases hq; exact b2
    | 3, hq => cases hq; exact b3
    | 4, hq => cases hq; exact b4
    | _ + 5, hq => cases hq
theorem jZ1_ok {args : Array Value} {s : State} {C n d : String} {A : Nat → Prop} (hl : (Cond.laysStatic C n d).before args s = true) (hini : (Cond.initialized C).before args s = true) (h : (Cond.isRef (.static C n d)).before args s = true) (hA : ∀ a : Nat, a < s.heap.size → ¬ A a) : jZ1 C n d A s s.heap := by
  refine ⟨va_Zqof hl hini h hA, ?_⟩
  obtain ⟨c, k, i, f, a, cell, h1, h2, h3, h4, h5, h6, h7, h8, h9⟩ := Cond.laysStatic_spec hl
  exact ⟨c, k, i, f, a, cell, h1, h2, h3, h4, h5, h6, h7, h8, h9, hA a (Array.getElem?_eq_some_iff.mp h5).1⟩
