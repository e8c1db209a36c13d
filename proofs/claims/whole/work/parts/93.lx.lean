-- the law's walk: rules
theorem jMet.frameR {l : Launch} {y : MethodName} {cw0 : Cond} {rm : Room} {D : va_G} {cl : List vw_C} {tys : List (ClassId × FieldType)} {Ts : List Cond} {av : List Value} {ws w1 : va_W} {mc ms : Nat} {r : Option Value} (f : va_W)
    (h : jMet l y cw0 rm D cl tys Ts av ws mc ms (jRet r w1)) : jMet l y cw0 rm D cl tys Ts av (ws ++ f) mc ms (jRet r (w1 ++ f)) := by
  intro sz
  refine MetFree.mono (h.frame f sz) (fun _ _ hp => hp) (fun _ _ _ _ _ _ => trivial) ?_
  intro a s o t hp hq
  obtain ⟨⟨⟨w, q1, q2⟩, q3⟩, q4⟩ := hq
  refine ⟨⟨⟨w, ?_, q2⟩, q3⟩, q4⟩
  cases o with
  | returned v =>
    obtain ⟨w0, ⟨h1, h2, h3⟩, h4⟩ := q1
    exact ⟨h1, h2, by rw [h4, h3]⟩
  | threw x =>
    obtain ⟨cn, ⟨w0, ⟨h1, h2, h3⟩, h4⟩, hx⟩ := q1
    cases h1
section LX
variable {p : Program} {l : Launch} {e : Env} {R : Room} {s : State} {m : MethodId} {args : Array Value} {below : List Frame} {meth : Method} {c : Code} {Q : State → Prop} {cells slots : Nat}
variable {cc : ByteArray} {nL : Nat} {own : String} {Ts : List Cond} {D : va_G} {cl : List vw_C} {tys : List (ClassId × FieldType)} {A : Nat → Prop}
variable {pc : Nat} {lv : List (Nat × Value)} {st : List Value} {ws w1 a b d : va_W}
variable {y : MethodName} {bytes : ByteArray} {maxL index mc ms : Nat} {ret0 : Option FieldType} {rm : Room} {As rest st0 : List Value} {r : Option Value} {hh : List (Nat × Nat × Nat × Nat)}
theorem hx_lYH : ∀ (U : State) (mk : MethodId) (a : Array Value), (Cond.codeWith y bytes maxL ret0 hh).before a U = true → U.methodNamed? y = some mk → ∃ (methY : Method) (cY : Code), U.vm.method? mk = some methY ∧ methY.code = some cY ∧ cY.maxLocals = maxL := by
  intro U mk a h hn
  obtain ⟨m9, methY, cY, hn9, h1, h2, -, h3, -⟩ := Cond.codeWith_spec h
  cases hn.symm.trans hn9
  exact ⟨methY, cY, h1, h2, h3⟩
/-- a call of a static method with handlers that only returns -/
theorem j_callSH (hC : jC p s m args meth c cc nL own Ts D cl tys A)
    (hM : jMet l y (.codeWith y bytes maxL ret0 hh) rm D cl tys Ts As ws mc ms (jRet r w1)) (hrc : rm.cells = mc) (hrs : rm.slots = ms) (hw : ∀ w ∈ jwS own index y (.codeWith y bytes maxL ret0 hh), w ∈ Ts)
    (hy : y.cls ≠ "java/lang/invoke/MethodHandle" ∧ y.cls ≠ "java/lang/invoke/VarHandle" ∧ (parseMethodDescriptor y.desc).map (fun d => d.parameters.length) = some As.length)
    (hst : st0 = As.reverse ++ rest) (hd : decode cc pc = .ok (.invokestatic index, 3)) (hW : (rest.map fun v => v.category).sum ≤ 8)
    (hfl : rm.frames + 1 ≤ R.frames ∧ 8 + (maxL + 11) + rm.locals ≤ R.locals) (hcs : cells + mc ≤ R.cells ∧ slots + ms ≤ R.slots) {st1 : List Value} (hr : r.toList ++ rest = st1)
    (k : jJ p l e R s m args below meth c nL D cl A Q (cells + mc) (slots + ms) w1 lv st1 (pc + 3)) : jJ p l e R s m args below meth c nL D cl A Q cells slots ws lv st0 pc := by
  subst hr
  have hts := hC.2.2.2.2.1
  have h0 := hw _ (List.mem_cons_self)
  have h1 := hw _ (List.mem_of_getElem? (i := 1) rfl)
  have h2 := hw _ (List.mem_of_getElem? (i := 2) rfl)
  have h3 := hw _ (List.mem_of_getElem? (i := 3) rfl)
  refine j_call hC hM hrc hrs h0 h1 hx_lYH (fun H locs ls hP hsz T0 hT X => ?_) hd hW hfl.1 hfl.2 hcs.1 hcs.2 (fun v w h => ?_) (fun cn w h => by cases h.1)
  · obtain ⟨mk, methM, cM, hnamed, hmethM, -, -, -, -, -, -, hsigM⟩ := Cond.codeWith_spec (hts _ h0)
    exact hx_invS X hC.1 hC.2.2.2.1 (hts _ h2) (hts _ h3) (hts _ h1) hnamed hmethM hsigM ⟨hy.1, hy.2.1⟩ (g := F0 m pc ls st0) rfl (argsL := As) (rest := rest) (hx_len hy.2.2 rfl) hst (by rw [hC.2.1]; exact hd)
  · obtain ⟨-, rfl, rfl⟩ := h
    exact k
theorem j_sw3 (k : jJ p l e R s m args below meth c nL D cl A Q cells slots ((a ++ d) ++ b) lv st pc) : jJ p l e R s m args below meth c nL D cl A Q cells slots ((a ++ b) ++ d) lv st pc :=
  fun H locs ls hP hD hS hl => k H locs ls hP.swap hD.swap hS hl
theorem j_by (π : Nat → Nat) (hg : ∀ (i : Nat) (q : Nat × va_E), b[i]? = some q → a[π i]? = some q) (hi : ∀ i j : Nat, i < b.length → j < b.length → π i = π j → i = j) (k : jJ p l e R s m args below meth c nL D cl A Q cells slots b lv st pc) : jJ p l e R s m args below meth c nL D cl A Q cells slots a lv st pc :=
  fun H locs ls hP hD hS hl => k H locs ls (hP.by π hg) (hD.by π hg hi) hS hl
/-- the script is read -/
theorem j_sld (hC : jC p s m args meth c cc nL own Ts D cl tys A) {bb L : Nat} {xs : Nat → Int32} (hX : va_X bb L xs s s.heap) (hbl : bb < s.heap.size) (hbA : ¬ A bb) {q : Nat} {i : Int32} (hi : i = nI q) (hq : q < L) (hL : L < 2 ^ 31) (hd : decode cc pc = .ok (.iaload, 1))
    (kk : jJ p l e R s m args below meth c nL D cl A Q cells slots ws lv (.int (xs q) :: st) (pc + 1)) : jJ p l e R s m args below meth c nL D cl A Q cells slots ws lv (.int i :: .ref bb :: st) pc := by
  intro H locs ls hP hD hS hl
  refine va_sld hC.1 hC.2.1 hX hbl hbA hS (by rw [hi]; exact vp_in_nI hq hL) hd ?_
  rw [hi, nI_clamp (by omega)]
  exact kk H locs ls hP hD hS hl
theorem j_slen (hC : jC p s m args meth c cc nL own Ts D cl tys A) {bb L : Nat} {xs : Nat → Int32} (hX : va_X bb L xs s s.heap) (hbl : bb < s.heap.size) (hbA : ¬ A bb) (hd : decode cc pc = .ok (.arraylength, 1))
    (kk : jJ p l e R s m args below meth c nL D cl A Q cells slots ws lv (.int (nI L) :: st) (pc + 1)) : jJ p l e R s m args below meth c nL D cl A Q cells slots ws lv (.ref bb :: st) pc :=
  fun H locs ls hP hD hS hl => va_slen hC.1 hC.2.1 hX hbl hbA hS hd (kk H locs ls hP hD hS hl)
end LX
theorem lg_self (x : Int64) : lg_cmp x x = 0 := (lg_cmp_eq x x).mpr rfl
theorem kc_none {a b : String} {c : Option String} (h : kc a b c = 0) : c = none := by
  unfold kc at h
  by_cases c1 : c = none
  · exact c1
  · rw [if_neg c1] at h
    split at h
    · exact absurd h (by decide)
    · split at h
      · exact absurd h (by decide)
      · exact absurd h (by decide)
theorem lo_v {c : Option String} (h : c = none) (x : Int64) (f : Nat → Int64) : lo c x f (Int32.toNatClampNeg 0) = x := by
  rw [lo_0 h]
  exact if_pos rfl
-- the house as it is made, in the order of its world
theorem blk_len (g k : Nat → Nat) (i : Nat) : (blk g k i).length = 7 := rfl
theorem blks_len (g k : Nat → Nat) : ∀ n, (blks g k n).length = 7 * n := by
  intro n
  induction n with
  | zero => rfl
  | succ n ih => show (blks g k n ++ blk g k n).length = _; rw [List.length_append, ih, blk_len]; omega
theorem blks_at (g k : Nat → Nat) {i j : Nat} (hj : j < 7) : ∀ n, i < n → (blks g k n)[7 * i + j]? = (blk g k i)[j]? := by
  intro n
  induction n with
  | zero => intro h; exact absurd h (by omega)
  | succ n ih =>
    intro hi
    show (blks g k n ++ blk g k n)[7 * i + j]? = _
    by_cases e : i = n
    · subst e
      rw [List.getElem?_append_right (by rw [blks_len]; omega), blks_len, show 7 * i + j - 7 * i = j by omega]
    · rw [List.getElem?_append_left (by rw [blks_len]; omega)]
      exact ih (by omega)
theorem bas_len (g k : Nat → Nat) (n : Nat) : (bas g k n).length = 15 := rfl
theorem hb_at (g k : Nat → Nat) {i j : Nat} (hi : i < 16) (hj : j < 7) {q : Nat × va_E} (h : (blk g k i)[j]? = some q) : (bas g k 16 ++ blks g k 16)[15 + (7 * i + j)]? = some q := by
  rw [List.getElem?_append_right (by rw [bas_len]; omega), bas_len, show 15 + (7 * i + j) - 15 = 7 * i + j by omega, blks_at g k hj 16 hi]
  exact h
def hpi (q : Nat) : Nat := if q < 9 then q else if q = 9 then 14 else if q < 15 then q - 1 else if q < 31 then 15 + (7 * (q - 15) + 0) else if q < 47 then 15 + (7 * (q - 31) + 2) else if (q - 47) % 5 = 0 then 15 + (7 * ((q - 47) / 5) + 1) else 15 + (7 * ((q - 47) / 5) + (2 + (q - 47) % 5))
theorem hpi_inj : ∀ i j : Nat, i < 127 → j < 127 → hpi i = hpi j → i = j := by
  intro i j hi hj h
  unfold hpi at h
  split at h <;> split at h <;> (try split at h) <;> (try split at h) <;> (try split at h) <;> (try split at h) <;> (try split at h) <;> (try split at h) <;> (try split at h) <;> (try split at h) <;> (try split at h) <;> (try split at h) <;> omega
theorem u0f {c : Nat} (h0 : ¬ c = 0) (h6 : ¬ c = 6) : u0s c = fun _ => 0 := by funext i; exact u0_c h0 h6
theorem u0_6f : u0s 6 = c6 := by funext i; exact u0_6 i
theorem u0_02 : u0s 0 2 = -1 := by unfold u0s; rw [if_pos ⟨rfl, rfl⟩]
theorem house_at (g k : Nat → Nat) {q : Nat} (hq : q < 127) : (bas g k 16 ++ blks g k 16)[hpi q]? = some (g q, cwe g k u0s q) := by
  have b15 : ∀ j, j < 15 → (bas g k 16 ++ blks g k 16)[j]? = (bas g k 16)[j]? := fun j hj => List.getElem?_append_left (by rw [bas_len]; exact hj)
  rcases Nat.lt_or_ge q 15 with h | h
  · have hh : hpi q < 15 := by unfold hpi; split <;> (try split) <;> (try split) <;> omega
    rw [b15 _ hh]
    match q, h with
    | 0, _ => unfold cwe hpi bas; rw [u0_0 (by decide), u0_0 (by decide), u0_02, u0_0 (by decide), u0_0 (by decide)]; rfl
    | 1, _ => unfold cwe hpi bas; rw [u0f (by decide) (by decide)]; rfl
    | 2, _ => unfold cwe hpi bas; rw [u0f (by decide) (by decide)]; rfl
    | 3, _ => rfl
    | 4, _ => unfold cwe hpi bas; rw [u0f (by decide) (by decide)]; rfl
    | 5, _ => unfold cwe hpi bas; rw [u0f (by decide) (by decide)]; rfl
    | 6, _ => unfold cwe hpi bas; rw [u0f (by decide) (by decide)]; rfl
    | 7, _ => rfl
    | 8, _ => rfl
    | 9, _ => unfold cwe hpi bas; rw [u0_6f]; rfl
    | 10, _ => unfold cwe hpi bas; rw [u0f (by decide) (by decide)]; rfl
    | 11, _ => unfold cwe hpi bas; rw [u0f (by decide) (by decide)]; rfl
    | 12, _ => unfold cwe hpi bas; rw [u0f (by decide) (by decide)]; rfl
    | 13, _ => unfold cwe hpi bas; rw [u0f (by decide) (by decide)]; rfl
    | 14, _ => unfold cwe hpi bas; rw [u0f (by decide) (by decide)]; rfl
  · rcases Nat.lt_or_ge q 31 with h1 | h1
    · obtain ⟨i, rfl⟩ : ∃ i, q = 15 + i := ⟨q - 15, by omega⟩
      have e : hpi (15 + i) = 15 + (7 * i + 0) := by unfold hpi; rw [if_neg (by omega), if_neg (by omega), if_neg (by omega), if_pos (by omega), show 15 + i - 15 = i by omega]
      rw [e]
      refine hb_at g k (by omega) (by decide) ?_
      unfold cwe
      rw [if_neg (by omega), if_neg (by omega), if_pos (by omega), show 15 + i - 15 = i by omega, u0_c (by decide) (by decide), u0_c (by decide) (by decide), u0_c (by decide) (by decide), u0_c (by decide) (by decide)]
      rfl
    · rcases Nat.lt_or_ge q 47 with h2 | h2
      · obtain ⟨i, rfl⟩ : ∃ i, q = 31 + i := ⟨q - 31, by omega⟩
        have e : hpi (31 + i) = 15 + (7 * i + 2) := by unfold hpi; rw [if_neg (by omega), if_neg (by omega), if_neg (by omega), if_neg (by omega), if_pos (by omega), show 31 + i - 31 = i by omega]
        rw [e]
        refine hb_at g k (by omega) (by decide) ?_
        unfold cwe
        rw [if_neg (by omega), if_pos (by omega), show 31 + i - 31 = i by omega]
        rfl
      · have hcw : cwe g k u0s q = at0 := by
          unfold cwe at0
          rw [if_pos h2, u0_c (by decide) (by decide), u0_c (by decide) (by decide), u0_c (by decide) (by decide), u0_c (by decide) (by decide)]
        rw [hcw]
        have e0 : hpi q = if (q - 47) % 5 = 0 then 15 + (7 * ((q - 47) / 5) + 1) else 15 + (7 * ((q - 47) / 5) + (2 + (q - 47) % 5)) := by unfold hpi; rw [if_neg (by omega), if_neg (by omega), if_neg (by omega), if_neg (by omega), if_neg (by omega)]
        rw [e0]
        have hi : (q - 47) / 5 < 16 := by omega
        have hqe : q = 47 + (5 * ((q - 47) / 5) + (q - 47) % 5) := by omega
        generalize (q - 47) / 5 = i at hi hqe ⊢
        have hr : (q - 47) % 5 < 5 := by omega
        generalize (q - 47) % 5 = t at hr hqe ⊢
        subst hqe
        match t, hr with
        | 0, _ => rw [if_pos rfl]; exact hb_at g k hi (by decide) rfl
        | 1, _ => rw [if_neg (by decide)]; exact hb_at g k hi (by decide) rfl
        | 2, _ => rw [if_neg (by decide)]; exact hb_at g k hi (by decide) rfl
        | 3, _ => rw [if_neg (by decide)]; exact hb_at g k hi (by decide) rfl
        | 4, _ => rw [if_neg (by decide)]; exact hb_at g k hi (by decide) rfl
theorem house_g (g k : Nat → Nat) : ∀ (i : Nat) (q : Nat × va_E), (cw g k u0s)[i]? = some q → (bas g k 16 ++ blks g k 16)[hpi i]? = some q := by
  intro i q h
  have hi : i < 127 := by
    have := (List.getElem?_eq_some_iff.mp h).1
    rw [cw_len] at this
    exact this
  rw [cw_at g k u0s hi] at h
  rw [house_at g k hi]
  exact h
