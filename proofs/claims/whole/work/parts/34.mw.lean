/-- the cells of the reference: 0 the object, 1 .. 11 its arrays -/
def mwe (g k : Nat → Nat) (u : jU) (q : Nat) : va_E := match q with
  | 0 => .inr (5, [.int (u 0 4), .int (u 0 0), .ref (g 1), .ref (g 2), .ref (g 3), .int (u 0 1), .ref (g 4), .ref (g 5), .ref (g 6), .ref (g 7), .ref (g 8), .ref (g 9), .int (u 0 3), .int (u 0 2), .ref (g 10), .ref (g 11)])
  | 1 => .inl (k 0, 8, .inl (u 1))
  | 2 => .inl (k 3, 1152, .inl (u 2))
  | 3 => .inl (k 0, 1152, .inl (u 4))
  | 4 => .inl (k 0, 16, .inl (u 12))
  | 5 => .inl (k 0, 80, .inl (u 16))
  | 6 => .inl (k 0, 80, .inl (u 17))
  | 7 => .inl (k 0, 80, .inl (u 18))
  | 8 => .inl (k 3, 80, .inl (u 19))
  | 9 => .inl (k 0, 8, .inl (u 3))
  | 10 => .inl (k 0, 4, .inl (u 6))
  | 11 => .inl (k 3, 1152, .inl (u 5))
  | _ => .inl (k 0, 0, .inl (u 0))
def mw (g k : Nat → Nat) (u : jU) : va_W := (List.range 12).map (fun q => (g q, mwe g k u q))
theorem mw_at (g k : Nat → Nat) (u : jU) {q : Nat} (h : q < 12) : (mw g k u)[q]? = some (g q, mwe g k u q) := by
  simp [mw, List.getElem?_map, List.getElem?_range h]
theorem mw_set {g k : Nat → Nat} {u u' : jU} {q : Nat} {e : va_E} (h1 : mwe g k u' q = e) (h2 : ∀ j, j < 12 → j ≠ q → mwe g k u' j = mwe g k u j) : (mw g k u).set q (g q, e) = mw g k u' := by
  subst h1
  refine List.ext_getElem? fun j => ?_
  rw [List.getElem?_set]
  by_cases hj : j < 12
  · by_cases hq : q = j
    · subst hq
      have hl : q < (mw g k u).length := by simp [mw]; exact hj
      rw [if_pos rfl, if_pos hl, mw_at g k u' hj]
    · rw [if_neg hq, mw_at g k u hj, mw_at g k u' hj, h2 j hj (fun e => hq e.symm)]
  · have e1 : (mw g k u)[j]? = none := List.getElem?_eq_none (by simp [mw]; omega)
    have e2 : (mw g k u')[j]? = none := List.getElem?_eq_none (by simp [mw]; omega)
    rw [e1, e2]
    by_cases hq : q = j
    · subst hq
      rw [if_pos rfl, if_neg (by simp [mw]; omega)]
    · rw [if_neg hq]
theorem mw_obj (g k : Nat → Nat) (u : jU) : (mw g k u)[0]? = some (g (0), .inr (5, [.int (u 0 4), .int (u 0 0), .ref (g 1), .ref (g 2), .ref (g 3), .int (u 0 1), .ref (g 4), .ref (g 5), .ref (g 6), .ref (g 7), .ref (g 8), .ref (g 9), .int (u 0 3), .int (u 0 2), .ref (g 10), .ref (g 11)])) := by rw [mw_at g k u (by omega)]; rfl
theorem mw_places (g k : Nat → Nat) (u : jU) : (mw g k u)[1]? = some (g (1), .inl (k 0, 8, .inl (u 1))) := by rw [mw_at g k u (by omega)]; rfl
theorem mw_given (g k : Nat → Nat) (u : jU) : (mw g k u)[2]? = some (g (2), .inl (k 3, 1152, .inl (u 2))) := by rw [mw_at g k u (by omega)]; rfl
theorem mw_ranks (g k : Nat → Nat) (u : jU) : (mw g k u)[3]? = some (g (3), .inl (k 0, 1152, .inl (u 4))) := by rw [mw_at g k u (by omega)]; rfl
theorem mw_counts (g k : Nat → Nat) (u : jU) : (mw g k u)[4]? = some (g (4), .inl (k 0, 16, .inl (u 12))) := by rw [mw_at g k u (by omega)]; rfl
theorem mw_of (g k : Nat → Nat) (u : jU) : (mw g k u)[5]? = some (g (5), .inl (k 0, 80, .inl (u 16))) := by rw [mw_at g k u (by omega)]; rfl
theorem mw_first (g k : Nat → Nat) (u : jU) : (mw g k u)[6]? = some (g (6), .inl (k 0, 80, .inl (u 17))) := by rw [mw_at g k u (by omega)]; rfl
theorem mw_second (g k : Nat → Nat) (u : jU) : (mw g k u)[7]? = some (g (7), .inl (k 0, 80, .inl (u 18))) := by rw [mw_at g k u (by omega)]; rfl
theorem mw_negated (g k : Nat → Nat) (u : jU) : (mw g k u)[8]? = some (g (8), .inl (k 3, 80, .inl (u 19))) := by rw [mw_at g k u (by omega)]; rfl
theorem mw_layers (g k : Nat → Nat) (u : jU) : (mw g k u)[9]? = some (g (9), .inl (k 0, 8, .inl (u 3))) := by rw [mw_at g k u (by omega)]; rfl
theorem mw_values (g k : Nat → Nat) (u : jU) : (mw g k u)[10]? = some (g (10), .inl (k 0, 4, .inl (u 6))) := by rw [mw_at g k u (by omega)]; rfl
theorem mw_news (g k : Nat → Nat) (u : jU) : (mw g k u)[11]? = some (g (11), .inl (k 3, 1152, .inl (u 5))) := by rw [mw_at g k u (by omega)]; rfl
theorem mw_set_thrown (g k : Nat → Nat) (u : jU) (v : Int32) : (mw g k u).set 0 (g 0, .inr (5, List.set [.int (u 0 4), .int (u 0 0), .ref (g 1), .ref (g 2), .ref (g 3), .int (u 0 1), .ref (g 4), .ref (g 5), .ref (g 6), .ref (g 7), .ref (g 8), .ref (g 9), .int (u 0 3), .int (u 0 2), .ref (g 10), .ref (g 11)] 0 (.int v))) = mw g k (up u 0 4 v) := by
  refine mw_set rfl (fun j hj hne => ?_)
  match j, hj, hne with
  | 0, _, hne => exact absurd rfl hne
  | 1, _, _ => rfl
  | 2, _, _ => rfl
  | 3, _, _ => rfl
  | 4, _, _ => rfl
  | 5, _, _ => rfl
  | 6, _, _ => rfl
  | 7, _, _ => rfl
  | 8, _, _ => rfl
  | 9, _, _ => rfl
  | 10, _, _ => rfl
  | 11, _, _ => rfl
  | j + 12, hj, _ => exact absurd hj (by omega)
theorem mw_set_relations (g k : Nat → Nat) (u : jU) (v : Int32) : (mw g k u).set 0 (g 0, .inr (5, List.set [.int (u 0 4), .int (u 0 0), .ref (g 1), .ref (g 2), .ref (g 3), .int (u 0 1), .ref (g 4), .ref (g 5), .ref (g 6), .ref (g 7), .ref (g 8), .ref (g 9), .int (u 0 3), .int (u 0 2), .ref (g 10), .ref (g 11)] 1 (.int v))) = mw g k (up u 0 0 v) := by
  refine mw_set rfl (fun j hj hne => ?_)
  match j, hj, hne with
  | 0, _, hne => exact absurd rfl hne
  | 1, _, _ => rfl
  | 2, _, _ => rfl
  | 3, _, _ => rfl
  | 4, _, _ => rfl
  | 5, _, _ => rfl
  | 6, _, _ => rfl
  | 7, _, _ => rfl
  | 8, _, _ => rfl
  | 9, _, _ => rfl
  | 10, _, _ => rfl
  | 11, _, _ => rfl
  | j + 12, hj, _ => exact absurd hj (by omega)
theorem mw_set_rules (g k : Nat → Nat) (u : jU) (v : Int32) : (mw g k u).set 0 (g 0, .inr (5, List.set [.int (u 0 4), .int (u 0 0), .ref (g 1), .ref (g 2), .ref (g 3), .int (u 0 1), .ref (g 4), .ref (g 5), .ref (g 6), .ref (g 7), .ref (g 8), .ref (g 9), .int (u 0 3), .int (u 0 2), .ref (g 10), .ref (g 11)] 5 (.int v))) = mw g k (up u 0 1 v) := by
  refine mw_set rfl (fun j hj hne => ?_)
  match j, hj, hne with
  | 0, _, hne => exact absurd rfl hne
  | 1, _, _ => rfl
  | 2, _, _ => rfl
  | 3, _, _ => rfl
  | 4, _, _ => rfl
  | 5, _, _ => rfl
  | 6, _, _ => rfl
  | 7, _, _ => rfl
  | 8, _, _ => rfl
  | 9, _, _ => rfl
  | 10, _, _ => rfl
  | 11, _, _ => rfl
  | j + 12, hj, _ => exact absurd hj (by omega)
theorem mw_set_known (g k : Nat → Nat) (u : jU) (v : Int32) : (mw g k u).set 0 (g 0, .inr (5, List.set [.int (u 0 4), .int (u 0 0), .ref (g 1), .ref (g 2), .ref (g 3), .int (u 0 1), .ref (g 4), .ref (g 5), .ref (g 6), .ref (g 7), .ref (g 8), .ref (g 9), .int (u 0 3), .int (u 0 2), .ref (g 10), .ref (g 11)] 12 (.int v))) = mw g k (up u 0 3 v) := by
  refine mw_set rfl (fun j hj hne => ?_)
  match j, hj, hne with
  | 0, _, hne => exact absurd rfl hne
  | 1, _, _ => rfl
  | 2, _, _ => rfl
  | 3, _, _ => rfl
  | 4, _, _ => rfl
  | 5, _, _ => rfl
  | 6, _, _ => rfl
  | 7, _, _ => rfl
  | 8, _, _ => rfl
  | 9, _, _ => rfl
  | 10, _, _ => rfl
  | 11, _, _ => rfl
  | j + 12, hj, _ => exact absurd hj (by omega)
theorem mw_set_fault (g k : Nat → Nat) (u : jU) (v : Int32) : (mw g k u).set 0 (g 0, .inr (5, List.set [.int (u 0 4), .int (u 0 0), .ref (g 1), .ref (g 2), .ref (g 3), .int (u 0 1), .ref (g 4), .ref (g 5), .ref (g 6), .ref (g 7), .ref (g 8), .ref (g 9), .int (u 0 3), .int (u 0 2), .ref (g 10), .ref (g 11)] 13 (.int v))) = mw g k (up u 0 2 v) := by
  refine mw_set rfl (fun j hj hne => ?_)
  match j, hj, hne with
  | 0, _, hne => exact absurd rfl hne
  | 1, _, _ => rfl
  | 2, _, _ => rfl
  | 3, _, _ => rfl
  | 4, _, _ => rfl
  | 5, _, _ => rfl
  | 6, _, _ => rfl
  | 7, _, _ => rfl
  | 8, _, _ => rfl
  | 9, _, _ => rfl
  | 10, _, _ => rfl
  | 11, _, _ => rfl
  | j + 12, hj, _ => exact absurd hj (by omega)
theorem mw_set_places (g k : Nat → Nat) (u : jU) (n : Nat) (v : Int32) : (mw g k u).set 1 (g 1, .inl (k 0, 8, .inl (upd (u 1) n v))) = mw g k (up u 1 n v) := by
  refine mw_set (congrArg (fun f : Nat → Int32 => (Sum.inl (k 0, 8, Sum.inl f) : va_E)) (up_row u 1 n v)) (fun j hj hne => ?_)
  match j, hj, hne with
  | 0, _, _ => rfl
  | 1, _, hne => exact absurd rfl hne
  | 2, _, _ => rfl
  | 3, _, _ => rfl
  | 4, _, _ => rfl
  | 5, _, _ => rfl
  | 6, _, _ => rfl
  | 7, _, _ => rfl
  | 8, _, _ => rfl
  | 9, _, _ => rfl
  | 10, _, _ => rfl
  | 11, _, _ => rfl
  | j + 12, hj, _ => exact absurd hj (by omega)
theorem mw_set_given (g k : Nat → Nat) (u : jU) (n : Nat) (v : Int32) : (mw g k u).set 2 (g 2, .inl (k 3, 1152, .inl (upd (u 2) n v))) = mw g k (up u 2 n v) := by
  refine mw_set (congrArg (fun f : Nat → Int32 => (Sum.inl (k 3, 1152, Sum.inl f) : va_E)) (up_row u 2 n v)) (fun j hj hne => ?_)
  match j, hj, hne with
  | 0, _, _ => rfl
  | 1, _, _ => rfl
  | 2, _, hne => exact absurd rfl hne
  | 3, _, _ => rfl
  | 4, _, _ => rfl
  | 5, _, _ => rfl
  | 6, _, _ => rfl
  | 7, _, _ => rfl
  | 8, _, _ => rfl
  | 9, _, _ => rfl
  | 10, _, _ => rfl
  | 11, _, _ => rfl
  | j + 12, hj, _ => exact absurd hj (by omega)
theorem mw_set_ranks (g k : Nat → Nat) (u : jU) (n : Nat) (v : Int32) : (mw g k u).set 3 (g 3, .inl (k 0, 1152, .inl (upd (u 4) n v))) = mw g k (up u 4 n v) := by
  refine mw_set (congrArg (fun f : Nat → Int32 => (Sum.inl (k 0, 1152, Sum.inl f) : va_E)) (up_row u 4 n v)) (fun j hj hne => ?_)
  match j, hj, hne with
  | 0, _, _ => rfl
  | 1, _, _ => rfl
  | 2, _, _ => rfl
  | 3, _, hne => exact absurd rfl hne
  | 4, _, _ => rfl
  | 5, _, _ => rfl
  | 6, _, _ => rfl
  | 7, _, _ => rfl
  | 8, _, _ => rfl
  | 9, _, _ => rfl
  | 10, _, _ => rfl
  | 11, _, _ => rfl
  | j + 12, hj, _ => exact absurd hj (by omega)
theorem mw_set_counts (g k : Nat → Nat) (u : jU) (n : Nat) (v : Int32) : (mw g k u).set 4 (g 4, .inl (k 0, 16, .inl (upd (u 12) n v))) = mw g k (up u 12 n v) := by
  refine mw_set (congrArg (fun f : Nat → Int32 => (Sum.inl (k 0, 16, Sum.inl f) : va_E)) (up_row u 12 n v)) (fun j hj hne => ?_)
  match j, hj, hne with
  | 0, _, _ => rfl
  | 1, _, _ => rfl
  | 2, _, _ => rfl
  | 3, _, _ => rfl
  | 4, _, hne => exact absurd rfl hne
  | 5, _, _ => rfl
  | 6, _, _ => rfl
  | 7, _, _ => rfl
  | 8, _, _ => rfl
  | 9, _, _ => rfl
  | 10, _, _ => rfl
  | 11, _, _ => rfl
  | j + 12, hj, _ => exact absurd hj (by omega)
theorem mw_set_of (g k : Nat → Nat) (u : jU) (n : Nat) (v : Int32) : (mw g k u).set 5 (g 5, .inl (k 0, 80, .inl (upd (u 16) n v))) = mw g k (up u 16 n v) := by
  refine mw_set (congrArg (fun f : Nat → Int32 => (Sum.inl (k 0, 80, Sum.inl f) : va_E)) (up_row u 16 n v)) (fun j hj hne => ?_)
  match j, hj, hne with
  | 0, _, _ => rfl
  | 1, _, _ => rfl
  | 2, _, _ => rfl
  | 3, _, _ => rfl
  | 4, _, _ => rfl
  | 5, _, hne => exact absurd rfl hne
  | 6, _, _ => rfl
  | 7, _, _ => rfl
  | 8, _, _ => rfl
  | 9, _, _ => rfl
  | 10, _, _ => rfl
  | 11, _, _ => rfl
  | j + 12, hj, _ => exact absurd hj (by omega)
theorem mw_set_first (g k : Nat → Nat) (u : jU) (n : Nat) (v : Int32) : (mw g k u).set 6 (g 6, .inl (k 0, 80, .inl (upd (u 17) n v))) = mw g k (up u 17 n v) := by
  refine mw_set (congrArg (fun f : Nat → Int32 => (Sum.inl (k 0, 80, Sum.inl f) : va_E)) (up_row u 17 n v)) (fun j hj hne => ?_)
  match j, hj, hne with
  | 0, _, _ => rfl
  | 1, _, _ => rfl
  | 2, _, _ => rfl
  | 3, _, _ => rfl
  | 4, _, _ => rfl
  | 5, _, _ => rfl
  | 6, _, hne => exact absurd rfl hne
  | 7, _, _ => rfl
  | 8, _, _ => rfl
  | 9, _, _ => rfl
  | 10, _, _ => rfl
  | 11, _, _ => rfl
  | j + 12, hj, _ => exact absurd hj (by omega)
theorem mw_set_second (g k : Nat → Nat) (u : jU) (n : Nat) (v : Int32) : (mw g k u).set 7 (g 7, .inl (k 0, 80, .inl (upd (u 18) n v))) = mw g k (up u 18 n v) := by
  refine mw_set (congrArg (fun f : Nat → Int32 => (Sum.inl (k 0, 80, Sum.inl f) : va_E)) (up_row u 18 n v)) (fun j hj hne => ?_)
  match j, hj, hne with
  | 0, _, _ => rfl
  | 1, _, _ => rfl
  | 2, _, _ => rfl
  | 3, _, _ => rfl
  | 4, _, _ => rfl
  | 5, _, _ => rfl
  | 6, _, _ => rfl
  | 7, _, hne => exact absurd rfl hne
  | 8, _, _ => rfl
  | 9, _, _ => rfl
  | 10, _, _ => rfl
  | 11, _, _ => rfl
  | j + 12, hj, _ => exact absurd hj (by omega)
theorem mw_set_negated (g k : Nat → Nat) (u : jU) (n : Nat) (v : Int32) : (mw g k u).set 8 (g 8, .inl (k 3, 80, .inl (upd (u 19) n v))) = mw g k (up u 19 n v) := by
  refine mw_set (congrArg (fun f : Nat → Int32 => (Sum.inl (k 3, 80, Sum.inl f) : va_E)) (up_row u 19 n v)) (fun j hj hne => ?_)
  match j, hj, hne with
  | 0, _, _ => rfl
  | 1, _, _ => rfl
  | 2, _, _ => rfl
  | 3, _, _ => rfl
  | 4, _, _ => rfl
  | 5, _, _ => rfl
  | 6, _, _ => rfl
  | 7, _, _ => rfl
  | 8, _, hne => exact absurd rfl hne
  | 9, _, _ => rfl
  | 10, _, _ => rfl
  | 11, _, _ => rfl
  | j + 12, hj, _ => exact absurd hj (by omega)
theorem mw_set_layers (g k : Nat → Nat) (u : jU) (n : Nat) (v : Int32) : (mw g k u).set 9 (g 9, .inl (k 0, 8, .inl (upd (u 3) n v))) = mw g k (up u 3 n v) := by
  refine mw_set (congrArg (fun f : Nat → Int32 => (Sum.inl (k 0, 8, Sum.inl f) : va_E)) (up_row u 3 n v)) (fun j hj hne => ?_)
  match j, hj, hne with
  | 0, _, _ => rfl
  | 1, _, _ => rfl
  | 2, _, _ => rfl
  | 3, _, _ => rfl
  | 4, _, _ => rfl
  | 5, _, _ => rfl
  | 6, _, _ => rfl
  | 7, _, _ => rfl
  | 8, _, _ => rfl
  | 9, _, hne => exact absurd rfl hne
  | 10, _, _ => rfl
  | 11, _, _ => rfl
  | j + 12, hj, _ => exact absurd hj (by omega)
theorem mw_set_values (g k : Nat → Nat) (u : jU) (n : Nat) (v : Int32) : (mw g k u).set 10 (g 10, .inl (k 0, 4, .inl (upd (u 6) n v))) = mw g k (up u 6 n v) := by
  refine mw_set (congrArg (fun f : Nat → Int32 => (Sum.inl (k 0, 4, Sum.inl f) : va_E)) (up_row u 6 n v)) (fun j hj hne => ?_)
  match j, hj, hne with
  | 0, _, _ => rfl
  | 1, _, _ => rfl
  | 2, _, _ => rfl
  | 3, _, _ => rfl
  | 4, _, _ => rfl
  | 5, _, _ => rfl
  | 6, _, _ => rfl
  | 7, _, _ => rfl
  | 8, _, _ => rfl
  | 9, _, _ => rfl
  | 10, _, hne => exact absurd rfl hne
  | 11, _, _ => rfl
  | j + 12, hj, _ => exact absurd hj (by omega)
theorem mw_set_news (g k : Nat → Nat) (u : jU) (n : Nat) (v : Int32) : (mw g k u).set 11 (g 11, .inl (k 3, 1152, .inl (upd (u 5) n v))) = mw g k (up u 5 n v) := by
  refine mw_set (congrArg (fun f : Nat → Int32 => (Sum.inl (k 3, 1152, Sum.inl f) : va_E)) (up_row u 5 n v)) (fun j hj hne => ?_)
  match j, hj, hne with
  | 0, _, _ => rfl
  | 1, _, _ => rfl
  | 2, _, _ => rfl
  | 3, _, _ => rfl
  | 4, _, _ => rfl
  | 5, _, _ => rfl
  | 6, _, _ => rfl
  | 7, _, _ => rfl
  | 8, _, _ => rfl
  | 9, _, _ => rfl
  | 10, _, _ => rfl
  | 11, _, hne => exact absurd rfl hne
  | j + 12, hj, _ => exact absurd hj (by omega)
/-- the array classes: .., boolean[], long[] -/
def mtys (k : Nat → Nat) (tl : List (ClassId × FieldType)) : List (ClassId × FieldType) := ctys k ((k 3, .boolean) :: tl)
section JZA
variable {p : Program} {l : Launch} {e : Env} {R : Room} {s : State} {m : MethodId} {args : Array Value} {below : List Frame} {meth : Method} {c : Code} {Q : State → Prop} {cells slots : Nat}
variable {cc : ByteArray} {nL : Nat} {own : String} {Ts : List Cond} {D : va_G} {cl : List vw_C} {tys : List (ClassId × FieldType)} {A : Nat → Prop}
variable {pc : Nat} {lv : List (Nat × Value)} {st : List Value} {ws : va_W}
theorem j_zastN (hC : jC p s m args meth c cc nL own Ts D cl tys A) {a : Nat} (q0 t0 : Nat) {cA : ClassId} {N : Nat} {f : Nat → Int32} (ha : ws[q0]? = some (a, .inl (cA, N, .inl f))) (ht : tys[t0]? = some (cA, .boolean)) {n : Nat} {i x : Int32} (hx : vp_nar .boolean x = x) (hi : i = nI n) (hn : n < N) (hN : N < 2 ^ 31) {ws' : va_W} (hw : ws.set q0 (a, .inl (cA, N, .inl (upd f n x))) = ws') (hd : decode cc pc = .ok (.bastore, 1))
    (kk : jJ p l e R s m args below meth c nL D cl A Q cells slots ws' lv st (pc + 1)) : jJ p l e R s m args below meth c nL D cl A Q cells slots ws lv (.int x :: .int i :: .ref a :: st) pc := by
  intro H locs ls hP hD hS hl
  have hc : i.toNatClampNeg = n := by rw [hi, nI_clamp (Nat.lt_trans hn hN)]
  refine va_zast hC.1 hC.2.1 hC.2.2.2.2.2.1 hP hD hS q0 t0 ha ht (by rw [hi]; exact vp_in_nI hn hN) hd (fun H1 locs1 hP1 hD1 hS1 => ?_)
  rw [hx, hc, hw] at hP1
  rw [hx, hc, hw] at hD1
  exact kk H1 locs1 ls hP1 hD1 hS1 hl
/-- the number on top, told otherwise -/
theorem j_top {v w : Int32} (h : v = w) (k : jJ p l e R s m args below meth c nL D cl A Q cells slots ws lv (.int v :: st) pc) : jJ p l e R s m args below meth c nL D cl A Q cells slots ws lv (.int w :: st) pc := h ▸ k
end JZA
theorem nar_0 : vp_nar .boolean 0 = 0 := by decide
theorem nar_1 : vp_nar .boolean 1 = 1 := by decide
theorem nar_01 {x : Int32} (h : x = 0 ∨ x = 1) : vp_nar .boolean x = x := by
  rcases h with rfl | rfl
  · exact nar_0
  · exact nar_1
