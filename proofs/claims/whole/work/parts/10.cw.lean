/-- what a system's ints are: component, index, value -/
abbrev jU : Type := Nat → Nat → Int32
def up (u : jU) (c i : Nat) (v : Int32) : jU := fun c' i' => if c' = c ∧ i' = i then v else u c' i'
theorem up_same (u : jU) (c i : Nat) (v : Int32) : up u c i v c i = v := by simp [up]
theorem up_comp (u : jU) {c c' : Nat} (i i' : Nat) (v : Int32) (h : c' ≠ c) : up u c i v c' i' = u c' i' := by simp [up, h]
theorem up_idx (u : jU) {c i i' : Nat} (v : Int32) (h : i' ≠ i) : up u c i v c i' = u c i' := by simp [up, h]
theorem up_row (u : jU) (c i : Nat) (v : Int32) : up u c i v c = upd (u c) i v := by
  funext j; simp [up, upd]
theorem up_rows (u : jU) {c c' : Nat} (i : Nat) (v : Int32) (h : c' ≠ c) : up u c i v c' = u c' := by
  funext j; simp [up, h]
theorem up_up (u : jU) (c i : Nat) (v w : Int32) : up (up u c i v) c i w = up u c i w := by
  funext a b; simp only [up]; split <;> simp_all
theorem up_self (u : jU) (c i : Nat) : up u c i (u c i) = u := by
  funext a b; simp only [up]; split <;> simp_all

/-- the cell at a place: 0 the house, 1 .. 6 its arrays, 7 Match, 8 Sight, 9 .. 14 their arrays, 15 + i the rules, 31 + i their rows of literals, 47 + j the atoms (5 i: the head of rule i, 5 i + 1 + q: its literal q) -/
def cwe (g k : Nat → Nat) (u : jU) (q : Nat) : va_E :=
  if 47 ≤ q then .inr (0, [.int (u 16 (q - 47)), .int (u 17 (q - 47)), .int (u 18 (q - 47)), .int (u 19 (q - 47))])
  else if 31 ≤ q then .inl (k 1, (4, .inr (.inr (.inr (.inr (fun z => if z < 4 then some (g (47 + (5 * (q - 31) + 1 + z))) else none))))))
  else if 15 ≤ q then .inr (2, [.ref (g (47 + 5 * (q - 15))), .ref (g (31 + (q - 15))), .int (u 12 (q - 15)), .int (u 13 (q - 15)), .int (u 14 (q - 15)), .int (u 15 (q - 15))])
  else match q with
  | 0 => .inr (4, [.ref (g 1), .ref (g 2), .ref (g 3), .int (u 0 0), .int (u 0 1), .ref (g 4), .ref (g 5), .ref (g 6), .ref (g 7), .int (u 0 2), .int (u 0 3), .int (u 0 4)])
  | 3 => .inl (k 2, (16, .inr (.inr (.inr (.inr (fun i => if i < 16 then some (g (15 + i)) else none))))))
  | 7 => .inr (1, [.ref (g 8), .ref (g 9)])
  | 8 => .inr (3, [.ref (g 10), .ref (g 11), .ref (g 12), .ref (g 13), .ref (g 14)])
  | 1 => .inl (k 0, 8, .inl (u 1))
  | 2 => .inl (k 0, 96, .inl (u 2))
  | 4 => .inl (k 0, 8, .inl (u 3))
  | 5 => .inl (k 0, 1152, .inl (u 4))
  | 6 => .inl (k 0, 96, .inl (u 5))
  | 9 => .inl (k 0, 24, .inl (u 6))
  | 10 => .inl (k 0, 96, .inl (u 7))
  | 11 => .inl (k 0, 96, .inl (u 8))
  | 12 => .inl (k 0, 8, .inl (u 9))
  | 13 => .inl (k 0, 8, .inl (u 10))
  | 14 => .inl (k 0, 8, .inl (u 11))
  | _ => .inl (k 0, 0, .inl (u 0))
def cw (g k : Nat → Nat) (u : jU) : va_W := (List.range 127).map (fun q => (g q, cwe g k u q))
theorem cw_at (g k : Nat → Nat) (u : jU) {q : Nat} (h : q < 127) : (cw g k u)[q]? = some (g q, cwe g k u q) := by
  simp [cw, List.getElem?_map, List.getElem?_range h]
theorem cw_set {g k : Nat → Nat} {u u' : jU} {q : Nat} {e : va_E} (h1 : cwe g k u' q = e) (h2 : ∀ j, j < 127 → j ≠ q → cwe g k u' j = cwe g k u j) : (cw g k u).set q (g q, e) = cw g k u' := by
  subst h1
  refine List.ext_getElem? fun j => ?_
  rw [List.getElem?_set]
  by_cases hj : j < 127
  · by_cases hq : q = j
    · subst hq
      have hl : q < (cw g k u).length := by simp [cw]; exact hj
      rw [if_pos rfl, if_pos hl, cw_at g k u' hj]
    · rw [if_neg hq, cw_at g k u hj, cw_at g k u' hj, h2 j hj (fun e => hq e.symm)]
  · have e1 : (cw g k u)[j]? = none := List.getElem?_eq_none (by simp [cw]; omega)
    have e2 : (cw g k u')[j]? = none := List.getElem?_eq_none (by simp [cw]; omega)
    rw [e1, e2]
    by_cases hq : q = j
    · subst hq
      rw [if_pos rfl, if_neg (by simp [cw]; omega)]
    · rw [if_neg hq]
theorem cw_house (g k : Nat → Nat) (u : jU) : (cw g k u)[0]? = some (g (0), .inr (4, [.ref (g 1), .ref (g 2), .ref (g 3), .int (u 0 0), .int (u 0 1), .ref (g 4), .ref (g 5), .ref (g 6), .ref (g 7), .int (u 0 2), .int (u 0 3), .int (u 0 4)])) := by rw [cw_at g k u (by omega)]; rfl
theorem cw_rules (g k : Nat → Nat) (u : jU) : (cw g k u)[3]? = some (g (3), .inl (k 2, (16, .inr (.inr (.inr (.inr (fun i => if i < 16 then some (g (15 + i)) else none))))))) := by rw [cw_at g k u (by omega)]; rfl
theorem cw_match (g k : Nat → Nat) (u : jU) : (cw g k u)[7]? = some (g (7), .inr (1, [.ref (g 8), .ref (g 9)])) := by rw [cw_at g k u (by omega)]; rfl
theorem cw_sight (g k : Nat → Nat) (u : jU) : (cw g k u)[8]? = some (g (8), .inr (3, [.ref (g 10), .ref (g 11), .ref (g 12), .ref (g 13), .ref (g 14)])) := by rw [cw_at g k u (by omega)]; rfl
theorem cw_places (g k : Nat → Nat) (u : jU) : (cw g k u)[1]? = some (g (1), .inl (k 0, 8, .inl (u 1))) := by rw [cw_at g k u (by omega)]; rfl
theorem cw_given (g k : Nat → Nat) (u : jU) : (cw g k u)[2]? = some (g (2), .inl (k 0, 96, .inl (u 2))) := by rw [cw_at g k u (by omega)]; rfl
theorem cw_layers (g k : Nat → Nat) (u : jU) : (cw g k u)[4]? = some (g (4), .inl (k 0, 8, .inl (u 3))) := by rw [cw_at g k u (by omega)]; rfl
theorem cw_ranks (g k : Nat → Nat) (u : jU) : (cw g k u)[5]? = some (g (5), .inl (k 0, 1152, .inl (u 4))) := by rw [cw_at g k u (by omega)]; rfl
theorem cw_fresh (g k : Nat → Nat) (u : jU) : (cw g k u)[6]? = some (g (6), .inl (k 0, 96, .inl (u 5))) := by rw [cw_at g k u (by omega)]; rfl
theorem cw_values (g k : Nat → Nat) (u : jU) : (cw g k u)[9]? = some (g (9), .inl (k 0, 24, .inl (u 6))) := by rw [cw_at g k u (by omega)]; rfl
theorem cw_secondsByFirst (g k : Nat → Nat) (u : jU) : (cw g k u)[10]? = some (g (10), .inl (k 0, 96, .inl (u 7))) := by rw [cw_at g k u (by omega)]; rfl
theorem cw_firstsBySecond (g k : Nat → Nat) (u : jU) : (cw g k u)[11]? = some (g (11), .inl (k 0, 96, .inl (u 8))) := by rw [cw_at g k u (by omega)]; rfl
theorem cw_firsts (g k : Nat → Nat) (u : jU) : (cw g k u)[12]? = some (g (12), .inl (k 0, 8, .inl (u 9))) := by rw [cw_at g k u (by omega)]; rfl
theorem cw_seconds (g k : Nat → Nat) (u : jU) : (cw g k u)[13]? = some (g (13), .inl (k 0, 8, .inl (u 10))) := by rw [cw_at g k u (by omega)]; rfl
theorem cw_doubles (g k : Nat → Nat) (u : jU) : (cw g k u)[14]? = some (g (14), .inl (k 0, 8, .inl (u 11))) := by rw [cw_at g k u (by omega)]; rfl
theorem cw_rule (g k : Nat → Nat) (u : jU) {i : Nat} (hi : i < 16) : (cw g k u)[15 + i]? = some (g (15 + i), .inr (2, [.ref (g (47 + 5 * i)), .ref (g (31 + i)), .int (u 12 i), .int (u 13 i), .int (u 14 i), .int (u 15 i)])) := by
  rw [cw_at g k u (by omega)]
  simp only [cwe, if_neg (show ¬ 47 ≤ 15 + i by omega), if_neg (show ¬ 31 ≤ 15 + i by omega), if_pos (show 15 ≤ 15 + i by omega), Nat.add_sub_cancel_left]
theorem cw_lits (g k : Nat → Nat) (u : jU) {i : Nat} (hi : i < 16) : (cw g k u)[31 + i]? = some (g (31 + i), .inl (k 1, (4, .inr (.inr (.inr (.inr (fun z => if z < 4 then some (g (47 + (5 * i + 1 + z))) else none))))))) := by
  rw [cw_at g k u (by omega)]
  simp only [cwe, if_neg (show ¬ 47 ≤ 31 + i by omega), if_pos (show 31 ≤ 31 + i by omega), Nat.add_sub_cancel_left]
theorem cw_atom (g k : Nat → Nat) (u : jU) {j : Nat} (hj : j < 80) : (cw g k u)[47 + j]? = some (g (47 + j), .inr (0, [.int (u 16 j), .int (u 17 j), .int (u 18 j), .int (u 19 j)])) := by
  rw [cw_at g k u (by omega)]
  simp only [cwe, if_pos (show 47 ≤ 47 + j by omega), Nat.add_sub_cancel_left]
theorem cwe_low {g k : Nat → Nat} {u u' : jU} (q0 : Nat) (h : ∀ j, j < 15 → j ≠ q0 → cwe g k u' j = cwe g k u j) (h12 : u' 12 = u 12) (h13 : u' 13 = u 13) (h14 : u' 14 = u 14) (h15 : u' 15 = u 15) (h16 : u' 16 = u 16) (h17 : u' 17 = u 17) (h18 : u' 18 = u 18) (h19 : u' 19 = u 19) : ∀ j, j < 127 → j ≠ q0 → cwe g k u' j = cwe g k u j := by
  intro j hj hne
  by_cases h15' : j < 15
  · exact h j h15' hne
  · unfold cwe
    split
    · rw [h16, h17, h18, h19]
    · split
      · rfl
      · rw [if_pos (by omega), if_pos (by omega), h12, h13, h14, h15]
theorem cw_set_relationCount (g k : Nat → Nat) (u : jU) (v : Int32) : (cw g k u).set 0 (g 0, .inr (4, List.set [.ref (g 1), .ref (g 2), .ref (g 3), .int (u 0 0), .int (u 0 1), .ref (g 4), .ref (g 5), .ref (g 6), .ref (g 7), .int (u 0 2), .int (u 0 3), .int (u 0 4)] 3 (.int v))) = cw g k (up u 0 0 v) := by
  refine cw_set rfl (cwe_low 0 (fun j hj hne => ?_) rfl rfl rfl rfl rfl rfl rfl rfl)
  match j, hj, hne with
  | 0, _, hne => exact absurd rfl hne
  | 1, _, _ => rfl
  | 2, _, _ => rfl
  | 3, _, _ => rfl
  | 4, _, _ => rfl
  | 5, _, _ => rfl
  | 6, _, _ => rfl
  | 7, _, _ => rfl
  | 8, _, _ => rfl
  | 9, _, _ => rfl
  | 10, _, _ => rfl
  | 11, _, _ => rfl
  | 12, _, _ => rfl
  | 13, _, _ => rfl
  | 14, _, _ => rfl
  | j + 15, hj, _ => exact absurd hj (by omega)
theorem cw_set_ruleCount (g k : Nat → Nat) (u : jU) (v : Int32) : (cw g k u).set 0 (g 0, .inr (4, List.set [.ref (g 1), .ref (g 2), .ref (g 3), .int (u 0 0), .int (u 0 1), .ref (g 4), .ref (g 5), .ref (g 6), .ref (g 7), .int (u 0 2), .int (u 0 3), .int (u 0 4)] 4 (.int v))) = cw g k (up u 0 1 v) := by
  refine cw_set rfl (cwe_low 0 (fun j hj hne => ?_) rfl rfl rfl rfl rfl rfl rfl rfl)
  match j, hj, hne with
  | 0, _, hne => exact absurd rfl hne
  | 1, _, _ => rfl
  | 2, _, _ => rfl
  | 3, _, _ => rfl
  | 4, _, _ => rfl
  | 5, _, _ => rfl
  | 6, _, _ => rfl
  | 7, _, _ => rfl
  | 8, _, _ => rfl
  | 9, _, _ => rfl
  | 10, _, _ => rfl
  | 11, _, _ => rfl
  | 12, _, _ => rfl
  | 13, _, _ => rfl
  | 14, _, _ => rfl
  | j + 15, hj, _ => exact absurd hj (by omega)
theorem cw_set_faultFound (g k : Nat → Nat) (u : jU) (v : Int32) : (cw g k u).set 0 (g 0, .inr (4, List.set [.ref (g 1), .ref (g 2), .ref (g 3), .int (u 0 0), .int (u 0 1), .ref (g 4), .ref (g 5), .ref (g 6), .ref (g 7), .int (u 0 2), .int (u 0 3), .int (u 0 4)] 9 (.int v))) = cw g k (up u 0 2 v) := by
  refine cw_set rfl (cwe_low 0 (fun j hj hne => ?_) rfl rfl rfl rfl rfl rfl rfl rfl)
  match j, hj, hne with
  | 0, _, hne => exact absurd rfl hne
  | 1, _, _ => rfl
  | 2, _, _ => rfl
  | 3, _, _ => rfl
  | 4, _, _ => rfl
  | 5, _, _ => rfl
  | 6, _, _ => rfl
  | 7, _, _ => rfl
  | 8, _, _ => rfl
  | 9, _, _ => rfl
  | 10, _, _ => rfl
  | 11, _, _ => rfl
  | 12, _, _ => rfl
  | 13, _, _ => rfl
  | 14, _, _ => rfl
  | j + 15, hj, _ => exact absurd hj (by omega)
theorem cw_set_judged (g k : Nat → Nat) (u : jU) (v : Int32) : (cw g k u).set 0 (g 0, .inr (4, List.set [.ref (g 1), .ref (g 2), .ref (g 3), .int (u 0 0), .int (u 0 1), .ref (g 4), .ref (g 5), .ref (g 6), .ref (g 7), .int (u 0 2), .int (u 0 3), .int (u 0 4)] 10 (.int v))) = cw g k (up u 0 3 v) := by
  refine cw_set rfl (cwe_low 0 (fun j hj hne => ?_) rfl rfl rfl rfl rfl rfl rfl rfl)
  match j, hj, hne with
  | 0, _, hne => exact absurd rfl hne
  | 1, _, _ => rfl
  | 2, _, _ => rfl
  | 3, _, _ => rfl
  | 4, _, _ => rfl
  | 5, _, _ => rfl
  | 6, _, _ => rfl
  | 7, _, _ => rfl
  | 8, _, _ => rfl
  | 9, _, _ => rfl
  | 10, _, _ => rfl
  | 11, _, _ => rfl
  | 12, _, _ => rfl
  | 13, _, _ => rfl
  | 14, _, _ => rfl
  | j + 15, hj, _ => exact absurd hj (by omega)
theorem cw_set_settled (g k : Nat → Nat) (u : jU) (v : Int32) : (cw g k u).set 0 (g 0, .inr (4, List.set [.ref (g 1), .ref (g 2), .ref (g 3), .int (u 0 0), .int (u 0 1), .ref (g 4), .ref (g 5), .ref (g 6), .ref (g 7), .int (u 0 2), .int (u 0 3), .int (u 0 4)] 11 (.int v))) = cw g k (up u 0 4 v) := by
  refine cw_set rfl (cwe_low 0 (fun j hj hne => ?_) rfl rfl rfl rfl rfl rfl rfl rfl)
  match j, hj, hne with
  | 0, _, hne => exact absurd rfl hne
  | 1, _, _ => rfl
  | 2, _, _ => rfl
  | 3, _, _ => rfl
  | 4, _, _ => rfl
  | 5, _, _ => rfl
  | 6, _, _ => rfl
  | 7, _, _ => rfl
  | 8, _, _ => rfl
  | 9, _, _ => rfl
  | 10, _, _ => rfl
  | 11, _, _ => rfl
  | 12, _, _ => rfl
  | 13, _, _ => rfl
  | 14, _, _ => rfl
  | j + 15, hj, _ => exact absurd hj (by omega)
theorem cw_set_places (g k : Nat → Nat) (u : jU) (n : Nat) (v : Int32) : (cw g k u).set 1 (g 1, .inl (k 0, 8, .inl (upd (u 1) n v))) = cw g k (up u 1 n v) := by
  refine cw_set (congrArg (fun f : Nat → Int32 => (Sum.inl (k 0, 8, Sum.inl f) : va_E)) (up_row u 1 n v)) (cwe_low 1 (fun j hj hne => ?_) rfl rfl rfl rfl rfl rfl rfl rfl)
  match j, hj, hne with
  | 0, _, _ => rfl
  | 1, _, hne => exact absurd rfl hne
  | 2, _, _ => rfl
  | 3, _, _ => rfl
  | 4, _, _ => rfl
  | 5, _, _ => rfl
  | 6, _, _ => rfl
  | 7, _, _ => rfl
  | 8, _, _ => rfl
  | 9, _, _ => rfl
  | 10, _, _ => rfl
  | 11, _, _ => rfl
  | 12, _, _ => rfl
  | 13, _, _ => rfl
  | 14, _, _ => rfl
  | j + 15, hj, _ => exact absurd hj (by omega)
theorem cw_set_given (g k : Nat → Nat) (u : jU) (n : Nat) (v : Int32) : (cw g k u).set 2 (g 2, .inl (k 0, 96, .inl (upd (u 2) n v))) = cw g k (up u 2 n v) := by
  refine cw_set (congrArg (fun f : Nat → Int32 => (Sum.inl (k 0, 96, Sum.inl f) : va_E)) (up_row u 2 n v)) (cwe_low 2 (fun j hj hne => ?_) rfl rfl rfl rfl rfl rfl rfl rfl)
  match j, hj, hne with
  | 0, _, _ => rfl
  | 1, _, _ => rfl
  | 2, _, hne => exact absurd rfl hne
  | 3, _, _ => rfl
  | 4, _, _ => rfl
  | 5, _, _ => rfl
  | 6, _, _ => rfl
  | 7, _, _ => rfl
  | 8, _, _ => rfl
  | 9, _, _ => rfl
  | 10, _, _ => rfl
  | 11, _, _ => rfl
  | 12, _, _ => rfl
  | 13, _, _ => rfl
  | 14, _, _ => rfl
  | j + 15, hj, _ => exact absurd hj (by omega)
theorem cw_set_layers (g k : Nat → Nat) (u : jU) (n : Nat) (v : Int32) : (cw g k u).set 4 (g 4, .inl (k 0, 8, .inl (upd (u 3) n v))) = cw g k (up u 3 n v) := by
  refine cw_set (congrArg (fun f : Nat → Int32 => (Sum.inl (k 0, 8, Sum.inl f) : va_E)) (up_row u 3 n v)) (cwe_low 4 (fun j hj hne => ?_) rfl rfl rfl rfl rfl rfl rfl rfl)
  match j, hj, hne with
  | 0, _, _ => rfl
  | 1, _, _ => rfl
  | 2, _, _ => rfl
  | 3, _, _ => rfl
  | 4, _, hne => exact absurd rfl hne
  | 5, _, _ => rfl
  | 6, _, _ => rfl
  | 7, _, _ => rfl
  | 8, _, _ => rfl
  | 9, _, _ => rfl
  | 10, _, _ => rfl
  | 11, _, _ => rfl
  | 12, _, _ => rfl
  | 13, _, _ => rfl
  | 14, _, _ => rfl
  | j + 15, hj, _ => exact absurd hj (by omega)
theorem cw_set_ranks (g k : Nat → Nat) (u : jU) (n : Nat) (v : Int32) : (cw g k u).set 5 (g 5, .inl (k 0, 1152, .inl (upd (u 4) n v))) = cw g k (up u 4 n v) := by
  refine cw_set (congrArg (fun f : Nat → Int32 => (Sum.inl (k 0, 1152, Sum.inl f) : va_E)) (up_row u 4 n v)) (cwe_low 5 (fun j hj hne => ?_) rfl rfl rfl rfl rfl rfl rfl rfl)
  match j, hj, hne with
  | 0, _, _ => rfl
  | 1, _, _ => rfl
  | 2, _, _ => rfl
  | 3, _, _ => rfl
  | 4, _, _ => rfl
  | 5, _, hne => exact absurd rfl hne
  | 6, _, _ => rfl
  | 7, _, _ => rfl
  | 8, _, _ => rfl
  | 9, _, _ => rfl
  | 10, _, _ => rfl
  | 11, _, _ => rfl
  | 12, _, _ => rfl
  | 13, _, _ => rfl
  | 14, _, _ => rfl
  | j + 15, hj, _ => exact absurd hj (by omega)
theorem cw_set_fresh (g k : Nat → Nat) (u : jU) (n : Nat) (v : Int32) : (cw g k u).set 6 (g 6, .inl (k 0, 96, .inl (upd (u 5) n v))) = cw g k (up u 5 n v) := by
  refine cw_set (congrArg (fun f : Nat → Int32 => (Sum.inl (k 0, 96, Sum.inl f) : va_E)) (up_row u 5 n v)) (cwe_low 6 (fun j hj hne => ?_) rfl rfl rfl rfl rfl rfl rfl rfl)
  match j, hj, hne with
  | 0, _, _ => rfl
  | 1, _, _ => rfl
  | 2, _, _ => rfl
  | 3, _, _ => rfl
  | 4, _, _ => rfl
  | 5, _, _ => rfl
  | 6, _, hne => exact absurd rfl hne
  | 7, _, _ => rfl
  | 8, _, _ => rfl
  | 9, _, _ => rfl
  | 10, _, _ => rfl
  | 11, _, _ => rfl
  | 12, _, _ => rfl
  | 13, _, _ => rfl
  | 14, _, _ => rfl
  | j + 15, hj, _ => exact absurd hj (by omega)
theorem cw_set_values (g k : Nat → Nat) (u : jU) (n : Nat) (v : Int32) : (cw g k u).set 9 (g 9, .inl (k 0, 24, .inl (upd (u 6) n v))) = cw g k (up u 6 n v) := by
  refine cw_set (congrArg (fun f : Nat → Int32 => (Sum.inl (k 0, 24, Sum.inl f) : va_E)) (up_row u 6 n v)) (cwe_low 9 (fun j hj hne => ?_) rfl rfl rfl rfl rfl rfl rfl rfl)
  match j, hj, hne with
  | 0, _, _ => rfl
  | 1, _, _ => rfl
  | 2, _, _ => rfl
  | 3, _, _ => rfl
  | 4, _, _ => rfl
  | 5, _, _ => rfl
  | 6, _, _ => rfl
  | 7, _, _ => rfl
  | 8, _, _ => rfl
  | 9, _, hne => exact absurd rfl hne
  | 10, _, _ => rfl
  | 11, _, _ => rfl
  | 12, _, _ => rfl
  | 13, _, _ => rfl
  | 14, _, _ => rfl
  | j + 15, hj, _ => exact absurd hj (by omega)
theorem cw_set_secondsByFirst (g k : Nat → Nat) (u : jU) (n : Nat) (v : Int32) : (cw g k u).set 10 (g 10, .inl (k 0, 96, .inl (upd (u 7) n v))) = cw g k (up u 7 n v) := by
  refine cw_set (congrArg (fun f : Nat → Int32 => (Sum.inl (k 0, 96, Sum.inl f) : va_E)) (up_row u 7 n v)) (cwe_low 10 (fun j hj hne => ?_) rfl rfl rfl rfl rfl rfl rfl rfl)
  match j, hj, hne with
  | 0, _, _ => rfl
  | 1, _, _ => rfl
  | 2, _, _ => rfl
  | 3, _, _ => rfl
  | 4, _, _ => rfl
  | 5, _, _ => rfl
  | 6, _, _ => rfl
  | 7, _, _ => rfl
  | 8, _, _ => rfl
  | 9, _, _ => rfl
  | 10, _, hne => exact absurd rfl hne
  | 11, _, _ => rfl
  | 12, _, _ => rfl
  | 13, _, _ => rfl
  | 14, _, _ => rfl
  | j + 15, hj, _ => exact absurd hj (by omega)
theorem cw_set_firstsBySecond (g k : Nat → Nat) (u : jU) (n : Nat) (v : Int32) : (cw g k u).set 11 (g 11, .inl (k 0, 96, .inl (upd (u 8) n v))) = cw g k (up u 8 n v) := by
  refine cw_set (congrArg (fun f : Nat → Int32 => (Sum.inl (k 0, 96, Sum.inl f) : va_E)) (up_row u 8 n v)) (cwe_low 11 (fun j hj hne => ?_) rfl rfl rfl rfl rfl rfl rfl rfl)
  match j, hj, hne with
  | 0, _, _ => rfl
  | 1, _, _ => rfl
  | 2, _, _ => rfl
  | 3, _, _ => rfl
  | 4, _, _ => rfl
  | 5, _, _ => rfl
  | 6, _, _ => rfl
  | 7, _, _ => rfl
  | 8, _, _ => rfl
  | 9, _, _ => rfl
  | 10, _, _ => rfl
  | 11, _, hne => exact absurd rfl hne
  | 12, _, _ => rfl
  | 13, _, _ => rfl
  | 14, _, _ => rfl
  | j + 15, hj, _ => exact absurd hj (by omega)
theorem cw_set_firsts (g k : Nat → Nat) (u : jU) (n : Nat) (v : Int32) : (cw g k u).set 12 (g 12, .inl (k 0, 8, .inl (upd (u 9) n v))) = cw g k (up u 9 n v) := by
  refine cw_set (congrArg (fun f : Nat → Int32 => (Sum.inl (k 0, 8, Sum.inl f) : va_E)) (up_row u 9 n v)) (cwe_low 12 (fun j hj hne => ?_) rfl rfl rfl rfl rfl rfl rfl rfl)
  match j, hj, hne with
  | 0, _, _ => rfl
  | 1, _, _ => rfl
  | 2, _, _ => rfl
  | 3, _, _ => rfl
  | 4, _, _ => rfl
  | 5, _, _ => rfl
  | 6, _, _ => rfl
  | 7, _, _ => rfl
  | 8, _, _ => rfl
  | 9, _, _ => rfl
  | 10, _, _ => rfl
  | 11, _, _ => rfl
  | 12, _, hne => exact absurd rfl hne
  | 13, _, _ => rfl
  | 14, _, _ => rfl
  | j + 15, hj, _ => exact absurd hj (by omega)
theorem cw_set_seconds (g k : Nat → Nat) (u : jU) (n : Nat) (v : Int32) : (cw g k u).set 13 (g 13, .inl (k 0, 8, .inl (upd (u 10) n v))) = cw g k (up u 10 n v) := by
  refine cw_set (congrArg (fun f : Nat → Int32 => (Sum.inl (k 0, 8, Sum.inl f) : va_E)) (up_row u 10 n v)) (cwe_low 13 (fun j hj hne => ?_) rfl rfl rfl rfl rfl rfl rfl rfl)
  match j, hj, hne with
  | 0, _, _ => rfl
  | 1, _, _ => rfl
  | 2, _, _ => rfl
  | 3, _, _ => rfl
  | 4, _, _ => rfl
  | 5, _, _ => rfl
  | 6, _, _ => rfl
  | 7, _, _ => rfl
  | 8, _, _ => rfl
  | 9, _, _ => rfl
  | 10, _, _ => rfl
  | 11, _, _ => rfl
  | 12, _, _ => rfl
  | 13, _, hne => exact absurd rfl hne
  | 14, _, _ => rfl
  | j + 15, hj, _ => exact absurd hj (by omega)
theorem cw_set_doubles (g k : Nat → Nat) (u : jU) (n : Nat) (v : Int32) : (cw g k u).set 14 (g 14, .inl (k 0, 8, .inl (upd (u 11) n v))) = cw g k (up u 11 n v) := by
  refine cw_set (congrArg (fun f : Nat → Int32 => (Sum.inl (k 0, 8, Sum.inl f) : va_E)) (up_row u 11 n v)) (cwe_low 14 (fun j hj hne => ?_) rfl rfl rfl rfl rfl rfl rfl rfl)
  match j, hj, hne with
  | 0, _, _ => rfl
  | 1, _, _ => rfl
  | 2, _, _ => rfl
  | 3, _, _ => rfl
  | 4, _, _ => rfl
  | 5, _, _ => rfl
  | 6, _, _ => rfl
  | 7, _, _ => rfl
  | 8, _, _ => rfl
  | 9, _, _ => rfl
  | 10, _, _ => rfl
  | 11, _, _ => rfl
  | 12, _, _ => rfl
  | 13, _, _ => rfl
  | 14, _, hne => exact absurd rfl hne
  | j + 15, hj, _ => exact absurd hj (by omega)
theorem cw_set_size (g k : Nat → Nat) (u : jU) {i : Nat} (hi : i < 16) (v : Int32) : (cw g k u).set (15 + i) (g (15 + i), .inr (2, List.set [.ref (g (47 + 5 * i)), .ref (g (31 + i)), .int (u 12 i), .int (u 13 i), .int (u 14 i), .int (u 15 i)] 2 (.int v))) = cw g k (up u 12 i v) := by
  refine cw_set ?_ (fun j hj hne => ?_)
  · simp only [cwe, if_neg (show ¬ 47 ≤ 15 + i by omega), if_neg (show ¬ 31 ≤ 15 + i by omega), if_pos (show 15 ≤ 15 + i by omega), Nat.add_sub_cancel_left]
    simp [up]
  · unfold cwe
    split
    · rfl
    · split
      · rfl
      · split
        · have : j - 15 ≠ i := by omega
          simp [up, this]
        · split <;> rfl
theorem cw_set_variables (g k : Nat → Nat) (u : jU) {i : Nat} (hi : i < 16) (v : Int32) : (cw g k u).set (15 + i) (g (15 + i), .inr (2, List.set [.ref (g (47 + 5 * i)), .ref (g (31 + i)), .int (u 12 i), .int (u 13 i), .int (u 14 i), .int (u 15 i)] 3 (.int v))) = cw g k (up u 13 i v) := by
  refine cw_set ?_ (fun j hj hne => ?_)
  · simp only [cwe, if_neg (show ¬ 47 ≤ 15 + i by omega), if_neg (show ¬ 31 ≤ 15 + i by omega), if_pos (show 15 ≤ 15 + i by omega), Nat.add_sub_cancel_left]
    simp [up]
  · unfold cwe
    split
    · rfl
    · split
      · rfl
      · split
        · have : j - 15 ≠ i := by omega
          simp [up, this]
        · split <;> rfl
theorem cw_set_positiveVariables (g k : Nat → Nat) (u : jU) {i : Nat} (hi : i < 16) (v : Int32) : (cw g k u).set (15 + i) (g (15 + i), .inr (2, List.set [.ref (g (47 + 5 * i)), .ref (g (31 + i)), .int (u 12 i), .int (u 13 i), .int (u 14 i), .int (u 15 i)] 4 (.int v))) = cw g k (up u 14 i v) := by
  refine cw_set ?_ (fun j hj hne => ?_)
  · simp only [cwe, if_neg (show ¬ 47 ≤ 15 + i by omega), if_neg (show ¬ 31 ≤ 15 + i by omega), if_pos (show 15 ≤ 15 + i by omega), Nat.add_sub_cancel_left]
    simp [up]
  · unfold cwe
    split
    · rfl
    · split
      · rfl
      · split
        · have : j - 15 ≠ i := by omega
          simp [up, this]
        · split <;> rfl
theorem cw_set_positiveRelations (g k : Nat → Nat) (u : jU) {i : Nat} (hi : i < 16) (v : Int32) : (cw g k u).set (15 + i) (g (15 + i), .inr (2, List.set [.ref (g (47 + 5 * i)), .ref (g (31 + i)), .int (u 12 i), .int (u 13 i), .int (u 14 i), .int (u 15 i)] 5 (.int v))) = cw g k (up u 15 i v) := by
  refine cw_set ?_ (fun j hj hne => ?_)
  · simp only [cwe, if_neg (show ¬ 47 ≤ 15 + i by omega), if_neg (show ¬ 31 ≤ 15 + i by omega), if_pos (show 15 ≤ 15 + i by omega), Nat.add_sub_cancel_left]
    simp [up]
  · unfold cwe
    split
    · rfl
    · split
      · rfl
      · split
        · have : j - 15 ≠ i := by omega
          simp [up, this]
        · split <;> rfl
theorem cw_set_relation (g k : Nat → Nat) (u : jU) {j : Nat} (hj : j < 80) (v : Int32) : (cw g k u).set (47 + j) (g (47 + j), .inr (0, List.set [.int (u 16 j), .int (u 17 j), .int (u 18 j), .int (u 19 j)] 0 (.int v))) = cw g k (up u 16 j v) := by
  refine cw_set ?_ (fun q hq hne => ?_)
  · simp only [cwe, if_pos (show 47 ≤ 47 + j by omega), Nat.add_sub_cancel_left]
    simp [up]
  · unfold cwe
    split
    · have : q - 47 ≠ j := by omega
      simp [up, this]
    · split
      · rfl
      · split
        · rfl
        · split <;> rfl
theorem cw_set_first (g k : Nat → Nat) (u : jU) {j : Nat} (hj : j < 80) (v : Int32) : (cw g k u).set (47 + j) (g (47 + j), .inr (0, List.set [.int (u 16 j), .int (u 17 j), .int (u 18 j), .int (u 19 j)] 1 (.int v))) = cw g k (up u 17 j v) := by
  refine cw_set ?_ (fun q hq hne => ?_)
  · simp only [cwe, if_pos (show 47 ≤ 47 + j by omega), Nat.add_sub_cancel_left]
    simp [up]
  · unfold cwe
    split
    · have : q - 47 ≠ j := by omega
      simp [up, this]
    · split
      · rfl
      · split
        · rfl
        · split <;> rfl
theorem cw_set_second (g k : Nat → Nat) (u : jU) {j : Nat} (hj : j < 80) (v : Int32) : (cw g k u).set (47 + j) (g (47 + j), .inr (0, List.set [.int (u 16 j), .int (u 17 j), .int (u 18 j), .int (u 19 j)] 2 (.int v))) = cw g k (up u 18 j v) := by
  refine cw_set ?_ (fun q hq hne => ?_)
  · simp only [cwe, if_pos (show 47 ≤ 47 + j by omega), Nat.add_sub_cancel_left]
    simp [up]
  · unfold cwe
    split
    · have : q - 47 ≠ j := by omega
      simp [up, this]
    · split
      · rfl
      · split
        · rfl
        · split <;> rfl
theorem cw_set_negated (g k : Nat → Nat) (u : jU) {j : Nat} (hj : j < 80) (v : Int32) : (cw g k u).set (47 + j) (g (47 + j), .inr (0, List.set [.int (u 16 j), .int (u 17 j), .int (u 18 j), .int (u 19 j)] 3 (.int v))) = cw g k (up u 19 j v) := by
  refine cw_set ?_ (fun q hq hne => ?_)
  · simp only [cwe, if_pos (show 47 ≤ 47 + j by omega), Nat.add_sub_cancel_left]
    simp [up]
  · unfold cwe
    split
    · have : q - 47 ≠ j := by omega
      simp [up, this]
    · split
      · rfl
      · split
        · rfl
        · split <;> rfl
/-- the array classes: int[], Atom[], Rule[], and more behind them -/
def ctys (k : Nat → Nat) (tl : List (ClassId × FieldType)) : List (ClassId × FieldType) := (k 0, .int) :: (k 1, .object "StrataHouse$Atom") :: (k 2, .object "StrataHouse$Rule") :: tl
