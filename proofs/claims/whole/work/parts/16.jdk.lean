theorem wc_A_25 : Cond.constant "StrataHouse$Atom" 25 15728640 ∈ jTs := jin (jt2 (List.mem_of_getElem? (i := 137) rfl)) rfl
theorem wc_H_128 : Cond.constant "StrataHouse" 128 2147483647 ∈ jTs := jin (jt2 (List.mem_of_getElem? (i := 224) rfl)) rfl
theorem wc_Integer_265 : Cond.constant "java/lang/Integer" 265 1431655765 ∈ jTs := jin (jt3 (List.mem_of_getElem? (i := 71) rfl)) rfl
theorem wc_Integer_266 : Cond.constant "java/lang/Integer" 266 858993459 ∈ jTs := jin (jt3 (List.mem_of_getElem? (i := 72) rfl)) rfl
theorem wc_Integer_267 : Cond.constant "java/lang/Integer" 267 252645135 ∈ jTs := jin (jt3 (List.mem_of_getElem? (i := 73) rfl)) rfl
theorem d_fill_0 : decode c_Arrays_fill 0 = .ok (.iconst 0, 1) := by decide +kernel
theorem d_fill_1 : decode c_Arrays_fill 1 = .ok (.istore_n 2, 1) := by decide +kernel
theorem d_fill_2 : decode c_Arrays_fill 2 = .ok (.aload_n 0, 1) := by decide +kernel
theorem d_fill_3 : decode c_Arrays_fill 3 = .ok (.arraylength, 1) := by decide +kernel
theorem d_fill_4 : decode c_Arrays_fill 4 = .ok (.istore_n 3, 1) := by decide +kernel
theorem d_fill_5 : decode c_Arrays_fill 5 = .ok (.iload_n 2, 1) := by decide +kernel
theorem d_fill_6 : decode c_Arrays_fill 6 = .ok (.iload_n 3, 1) := by decide +kernel
theorem d_fill_7 : decode c_Arrays_fill 7 = .ok (.if_icmp .ge 13, 3) := by decide +kernel
theorem d_fill_10 : decode c_Arrays_fill 10 = .ok (.aload_n 0, 1) := by decide +kernel
theorem d_fill_11 : decode c_Arrays_fill 11 = .ok (.iload_n 2, 1) := by decide +kernel
theorem d_fill_12 : decode c_Arrays_fill 12 = .ok (.iload_n 1, 1) := by decide +kernel
theorem d_fill_13 : decode c_Arrays_fill 13 = .ok (.iastore, 1) := by decide +kernel
theorem d_fill_14 : decode c_Arrays_fill 14 = .ok (.iinc 2 1, 3) := by decide +kernel
theorem d_fill_17 : decode c_Arrays_fill 17 = .ok (.goto (-12), 3) := by decide +kernel
theorem d_fill_20 : decode c_Arrays_fill 20 = .ok (.return_, 1) := by decide +kernel
section FILL
variable {D : va_G} {cl : List vw_C} {tys : List (ClassId × FieldType)} {Ts : List Cond} {ws : va_W} {q0 t0 a N : Nat} {cA : ClassId} {f : Nat → Int32} {x : Int32}
def fillW (ws : va_W) (q0 a : Nat) (cA : ClassId) (N : Nat) (f : Nat → Int32) (x : Int32) (i : Nat) : va_W := ws.set q0 (a, .inl (cA, N, .inl (fun j => if j < i then x else f j)))
theorem fillW_0 (ha : ws[q0]? = some (a, .inl (cA, N, .inl f))) : fillW ws q0 a cA N f x 0 = ws := by
  unfold fillW
  have e : (fun j => if j < 0 then x else f j) = f := by funext j; simp
  rw [e]
  refine List.ext_getElem? fun j => ?_
  have hl := (List.getElem?_eq_some_iff.mp ha).1
  rw [List.getElem?_set]
  by_cases h : q0 = j
  · subst h; rw [if_pos rfl, if_pos hl, ha]
  · rw [if_neg h]
theorem fillW_at (ha : ws[q0]? = some (a, .inl (cA, N, .inl f))) (i : Nat) : (fillW ws q0 a cA N f x i)[q0]? = some (a, .inl (cA, N, .inl (fun j => if j < i then x else f j))) := by
  unfold fillW
  rw [List.getElem?_set_self (List.getElem?_eq_some_iff.mp ha).1]
theorem fillW_next (i : Nat) : (fillW ws q0 a cA N f x i).set q0 (a, .inl (cA, N, .inl (upd (fun j => if j < i then x else f j) i x))) = fillW ws q0 a cA N f x (i + 1) := by
  unfold fillW
  rw [List.set_set]
  have e : upd (fun j => if j < i then x else f j) i x = (fun j => if j < i + 1 then x else f j) := by
    funext j
    by_cases h : j = i
    · subst h; simp [upd]
    · have h2 : (j < i + 1) = (j < i) := propext ⟨fun h3 => by omega, fun h3 => by omega⟩
      simp [upd, h, h2]
  rw [e]
set_option maxHeartbeats 4000000 in
set_option maxRecDepth 100000 in
theorem k_fill (l : Launch) (ha : ws[q0]? = some (a, .inl (cA, N, .inl f))) (ht : tys[t0]? = some (cA, .int)) (hN : N < 2 ^ 31) : jMet l y_Arrays_fill (.code y_Arrays_fill c_Arrays_fill 4 none) ({ frames := 0, cells := 0, slots := 0, locals := 0 }) D cl tys Ts [.ref a, .int x] ws 0 0 (jRet none (fillW ws q0 a cA N f x N)) := by
  refine jMet.of (by decide) (Nat.le_of_ble_eq_true rfl) ?_
  intro p e s m below meth c A hC hex hr hnm htr
  show jJ p l e ({ frames := 0, cells := 0, slots := 0, locals := 0 }) s m [.ref a, .int x].toArray below meth c 4 D cl A (hxQ below (jQ D cl (jRet none (fillW ws q0 a cA N f x N)) A) [.ref a, .int x].toArray s 0 0 A) 0 0 ws [(0, .ref a), (1, .int x)] [] 0
  have loop : ∀ (n i : Nat), i ≤ N → N < i + n → jJ p l e ({ frames := 0, cells := 0, slots := 0, locals := 0 }) s m [.ref a, .int x].toArray below meth c 4 D cl A (hxQ below (jQ D cl (jRet none (fillW ws q0 a cA N f x N)) A) [.ref a, .int x].toArray s 0 0 A) 0 0 (fillW ws q0 a cA N f x i) [(0, .ref a), (1, .int x), (2, .int (nI i)), (3, .int (nI N))] [] 5 := by
    intro n
    induction n with
    | zero => intro i h1 h2; exact absurd h2 (by omega)
    | succ n ih =>
      intro i hi hn
      refine j_iload_n hC d_fill_5 rfl 2 rfl ?_
      refine j_iload_n hC d_fill_6 rfl 3 rfl ?_
      refine j_icmp_ge (tgt := 20) hC d_fill_7 (by decide) (fun h7 => ?_) (fun h7 => ?_)
      · have hge : N ≤ i := (nI_leI hN (by omega)).mp h7
        have hie : i = N := by omega
        subst hie
        exact j_vret hC hr ⟨rfl, rfl, rfl⟩ d_fill_20
      · have hlt : i < N := Nat.not_le.mp (fun z => h7 ((nI_leI hN (by omega)).mpr z))
        refine j_aload_n hC d_fill_10 rfl 0 rfl ?_
        refine j_iload_n hC d_fill_11 rfl 2 rfl ?_
        refine j_iload_n hC d_fill_12 rfl 1 rfl ?_
        refine j_iastN (ws' := fillW ws q0 a cA N f x (i + 1)) hC q0 t0 (fillW_at ha i) ht (n := i) rfl hlt hN (fillW_next i) d_fill_13 ?_
        refine j_iinc (lv' := [(0, .ref a), (1, .int x), (2, .int (nI (i + 1))), (3, .int (nI N))]) hC d_fill_14 2 rfl (nI_1 _) (by decide) rfl rfl ?_
        refine j_goto (tgt := 5) hC d_fill_17 (by decide) ?_
        exact ih (i + 1) (by omega) (by omega)
  refine j_iconst (v := 0) hC d_fill_0 (by decide) ?_
  refine j_istore_n (lv' := [(0, .ref a), (1, .int x), (2, .int 0)]) hC d_fill_1 rfl (by decide) rfl rfl ?_
  refine j_aload_n hC d_fill_2 rfl 0 rfl ?_
  refine j_alen (v := nI N) hC q0 t0 ha ht rfl d_fill_3 ?_
  refine j_istore_n (lv' := [(0, .ref a), (1, .int x), (2, .int 0), (3, .int (nI N))]) hC d_fill_4 rfl (by decide) rfl rfl ?_
  have k9 := loop (N + 1) 0 (Nat.zero_le _) (by omega)
  rw [fillW_0 ha] at k9
  exact k9
end FILL
/-- an array's first N places become 0 -/
def pFill (u : jU) (c N : Nat) : jU := fun c' i => if c' = c ∧ i < N then 0 else u c' i
theorem cw_fill_given (g k : Nat → Nat) (u : jU) : fillW (cw g k u) 2 (g 2) (k 0) 96 (u 2) 0 96 = cw g k (pFill u 2 96) := by
  refine cw_set (congrArg (fun f : Nat → Int32 => (Sum.inl (k 0, 96, Sum.inl f) : va_E)) (by funext j; simp [pFill])) (cwe_low 2 (fun j hj hne => ?_) rfl rfl rfl rfl rfl rfl rfl rfl)
  match j, hj, hne with
  | 0, _, _ => rfl
  | 1, _, _ => rfl
  | 2, _, hne => exact absurd rfl hne
  | 3, _, _ => rfl
  | 4, _, _ => rfl
  | 5, _, _ => rfl
  | 6, _, _ => rfl
  | 7, _, _ => rfl
  | 8, _, _ => rfl
  | 9, _, _ => rfl
  | 10, _, _ => rfl
  | 11, _, _ => rfl
  | 12, _, _ => rfl
  | 13, _, _ => rfl
  | 14, _, _ => rfl
  | j + 15, hj, _ => exact absurd hj (by omega)
theorem k_fill_given (l : Launch) (dC : Nat → ClassId) (dI : Nat → Nat → Nat) (g k : Nat → Nat) (tl : List (ClassId × FieldType)) (u : jU) : jMet l y_Arrays_fill (.code y_Arrays_fill c_Arrays_fill 4 none) ({ frames := 0, cells := 0, slots := 0, locals := 0 }) (dC, dI) jcl (ctys k tl) jTs [.ref (g 2), .int 0] (cw g k u) 0 0 (jRet none (cw g k (pFill u 2 96))) := by
  have h := k_fill (D := (dC, dI)) (cl := jcl) (tys := ctys k tl) (Ts := jTs) (ws := cw g k u) (q0 := 2) (t0 := 0) (x := 0) l (cw_given g k u) rfl (by decide)
  rw [cw_fill_given] at h
  exact h
theorem cw_fill_layers (g k : Nat → Nat) (u : jU) : fillW (cw g k u) 4 (g 4) (k 0) 8 (u 3) 0 8 = cw g k (pFill u 3 8) := by
  refine cw_set (congrArg (fun f : Nat → Int32 => (Sum.inl (k 0, 8, Sum.inl f) : va_E)) (by funext j; simp [pFill])) (cwe_low 4 (fun j hj hne => ?_) rfl rfl rfl rfl rfl rfl rfl rfl)
  match j, hj, hne with
  | 0, _, _ => rfl
  | 1, _, _ => rfl
  | 2, _, _ => rfl
  | 3, _, _ => rfl
  | 4, _, hne => exact absurd rfl hne
  | 5, _, _ => rfl
  | 6, _, _ => rfl
  | 7, _, _ => rfl
  | 8, _, _ => rfl
  | 9, _, _ => rfl
  | 10, _, _ => rfl
  | 11, _, _ => rfl
  | 12, _, _ => rfl
  | 13, _, _ => rfl
  | 14, _, _ => rfl
  | j + 15, hj, _ => exact absurd hj (by omega)
theorem k_fill_layers (l : Launch) (dC : Nat → ClassId) (dI : Nat → Nat → Nat) (g k : Nat → Nat) (tl : List (ClassId × FieldType)) (u : jU) : jMet l y_Arrays_fill (.code y_Arrays_fill c_Arrays_fill 4 none) ({ frames := 0, cells := 0, slots := 0, locals := 0 }) (dC, dI) jcl (ctys k tl) jTs [.ref (g 4), .int 0] (cw g k u) 0 0 (jRet none (cw g k (pFill u 3 8))) := by
  have h := k_fill (D := (dC, dI)) (cl := jcl) (tys := ctys k tl) (Ts := jTs) (ws := cw g k u) (q0 := 4) (t0 := 0) (x := 0) l (cw_layers g k u) rfl (by decide)
  rw [cw_fill_layers] at h
  exact h
theorem cw_fill_secondsByFirst (g k : Nat → Nat) (u : jU) : fillW (cw g k u) 10 (g 10) (k 0) 96 (u 7) 0 96 = cw g k (pFill u 7 96) := by
  refine cw_set (congrArg (fun f : Nat → Int32 => (Sum.inl (k 0, 96, Sum.inl f) : va_E)) (by funext j; simp [pFill])) (cwe_low 10 (fun j hj hne => ?_) rfl rfl rfl rfl rfl rfl rfl rfl)
  match j, hj, hne with
  | 0, _, _ => rfl
  | 1, _, _ => rfl
  | 2, _, _ => rfl
  | 3, _, _ => rfl
  | 4, _, _ => rfl
  | 5, _, _ => rfl
  | 6, _, _ => rfl
  | 7, _, _ => rfl
  | 8, _, _ => rfl
  | 9, _, _ => rfl
  | 10, _, hne => exact absurd rfl hne
  | 11, _, _ => rfl
  | 12, _, _ => rfl
  | 13, _, _ => rfl
  | 14, _, _ => rfl
  | j + 15, hj, _ => exact absurd hj (by omega)
theorem k_fill_secondsByFirst (l : Launch) (dC : Nat → ClassId) (dI : Nat → Nat → Nat) (g k : Nat → Nat) (tl : List (ClassId × FieldType)) (u : jU) : jMet l y_Arrays_fill (.code y_Arrays_fill c_Arrays_fill 4 none) ({ frames := 0, cells := 0, slots := 0, locals := 0 }) (dC, dI) jcl (ctys k tl) jTs [.ref (g 10), .int 0] (cw g k u) 0 0 (jRet none (cw g k (pFill u 7 96))) := by
  have h := k_fill (D := (dC, dI)) (cl := jcl) (tys := ctys k tl) (Ts := jTs) (ws := cw g k u) (q0 := 10) (t0 := 0) (x := 0) l (cw_secondsByFirst g k u) rfl (by decide)
  rw [cw_fill_secondsByFirst] at h
  exact h
theorem cw_fill_firstsBySecond (g k : Nat → Nat) (u : jU) : fillW (cw g k u) 11 (g 11) (k 0) 96 (u 8) 0 96 = cw g k (pFill u 8 96) := by
  refine cw_set (congrArg (fun f : Nat → Int32 => (Sum.inl (k 0, 96, Sum.inl f) : va_E)) (by funext j; simp [pFill])) (cwe_low 11 (fun j hj hne => ?_) rfl rfl rfl rfl rfl rfl rfl rfl)
  match j, hj, hne with
  | 0, _, _ => rfl
  | 1, _, _ => rfl
  | 2, _, _ => rfl
  | 3, _, _ => rfl
  | 4, _, _ => rfl
  | 5, _, _ => rfl
  | 6, _, _ => rfl
  | 7, _, _ => rfl
  | 8, _, _ => rfl
  | 9, _, _ => rfl
  | 10, _, _ => rfl
  | 11, _, hne => exact absurd rfl hne
  | 12, _, _ => rfl
  | 13, _, _ => rfl
  | 14, _, _ => rfl
  | j + 15, hj, _ => exact absurd hj (by omega)
theorem k_fill_firstsBySecond (l : Launch) (dC : Nat → ClassId) (dI : Nat → Nat → Nat) (g k : Nat → Nat) (tl : List (ClassId × FieldType)) (u : jU) : jMet l y_Arrays_fill (.code y_Arrays_fill c_Arrays_fill 4 none) ({ frames := 0, cells := 0, slots := 0, locals := 0 }) (dC, dI) jcl (ctys k tl) jTs [.ref (g 11), .int 0] (cw g k u) 0 0 (jRet none (cw g k (pFill u 8 96))) := by
  have h := k_fill (D := (dC, dI)) (cl := jcl) (tys := ctys k tl) (Ts := jTs) (ws := cw g k u) (q0 := 11) (t0 := 0) (x := 0) l (cw_firstsBySecond g k u) rfl (by decide)
  rw [cw_fill_firstsBySecond] at h
  exact h
theorem cw_fill_firsts (g k : Nat → Nat) (u : jU) : fillW (cw g k u) 12 (g 12) (k 0) 8 (u 9) 0 8 = cw g k (pFill u 9 8) := by
  refine cw_set (congrArg (fun f : Nat → Int32 => (Sum.inl (k 0, 8, Sum.inl f) : va_E)) (by funext j; simp [pFill])) (cwe_low 12 (fun j hj hne => ?_) rfl rfl rfl rfl rfl rfl rfl rfl)
  match j, hj, hne with
  | 0, _, _ => rfl
  | 1, _, _ => rfl
  | 2, _, _ => rfl
  | 3, _, _ => rfl
  | 4, _, _ => rfl
  | 5, _, _ => rfl
  | 6, _, _ => rfl
  | 7, _, _ => rfl
  | 8, _, _ => rfl
  | 9, _, _ => rfl
  | 10, _, _ => rfl
  | 11, _, _ => rfl
  | 12, _, hne => exact absurd rfl hne
  | 13, _, _ => rfl
  | 14, _, _ => rfl
  | j + 15, hj, _ => exact absurd hj (by omega)
theorem k_fill_firsts (l : Launch) (dC : Nat → ClassId) (dI : Nat → Nat → Nat) (g k : Nat → Nat) (tl : List (ClassId × FieldType)) (u : jU) : jMet l y_Arrays_fill (.code y_Arrays_fill c_Arrays_fill 4 none) ({ frames := 0, cells := 0, slots := 0, locals := 0 }) (dC, dI) jcl (ctys k tl) jTs [.ref (g 12), .int 0] (cw g k u) 0 0 (jRet none (cw g k (pFill u 9 8))) := by
  have h := k_fill (D := (dC, dI)) (cl := jcl) (tys := ctys k tl) (Ts := jTs) (ws := cw g k u) (q0 := 12) (t0 := 0) (x := 0) l (cw_firsts g k u) rfl (by decide)
  rw [cw_fill_firsts] at h
  exact h
theorem cw_fill_seconds (g k : Nat → Nat) (u : jU) : fillW (cw g k u) 13 (g 13) (k 0) 8 (u 10) 0 8 = cw g k (pFill u 10 8) := by
  refine cw_set (congrArg (fun f : Nat → Int32 => (Sum.inl (k 0, 8, Sum.inl f) : va_E)) (by funext j; simp [pFill])) (cwe_low 13 (fun j hj hne => ?_) rfl rfl rfl rfl rfl rfl rfl rfl)
  match j, hj, hne with
  | 0, _, _ => rfl
  | 1, _, _ => rfl
  | 2, _, _ => rfl
  | 3, _, _ => rfl
  | 4, _, _ => rfl
  | 5, _, _ => rfl
  | 6, _, _ => rfl
  | 7, _, _ => rfl
  | 8, _, _ => rfl
  | 9, _, _ => rfl
  | 10, _, _ => rfl
  | 11, _, _ => rfl
  | 12, _, _ => rfl
  | 13, _, hne => exact absurd rfl hne
  | 14, _, _ => rfl
  | j + 15, hj, _ => exact absurd hj (by omega)
theorem k_fill_seconds (l : Launch) (dC : Nat → ClassId) (dI : Nat → Nat → Nat) (g k : Nat → Nat) (tl : List (ClassId × FieldType)) (u : jU) : jMet l y_Arrays_fill (.code y_Arrays_fill c_Arrays_fill 4 none) ({ frames := 0, cells := 0, slots := 0, locals := 0 }) (dC, dI) jcl (ctys k tl) jTs [.ref (g 13), .int 0] (cw g k u) 0 0 (jRet none (cw g k (pFill u 10 8))) := by
  have h := k_fill (D := (dC, dI)) (cl := jcl) (tys := ctys k tl) (Ts := jTs) (ws := cw g k u) (q0 := 13) (t0 := 0) (x := 0) l (cw_seconds g k u) rfl (by decide)
  rw [cw_fill_seconds] at h
  exact h
theorem cw_fill_doubles (g k : Nat → Nat) (u : jU) : fillW (cw g k u) 14 (g 14) (k 0) 8 (u 11) 0 8 = cw g k (pFill u 11 8) := by
  refine cw_set (congrArg (fun f : Nat → Int32 => (Sum.inl (k 0, 8, Sum.inl f) : va_E)) (by funext j; simp [pFill])) (cwe_low 14 (fun j hj hne => ?_) rfl rfl rfl rfl rfl rfl rfl rfl)
  match j, hj, hne with
  | 0, _, _ => rfl
  | 1, _, _ => rfl
  | 2, _, _ => rfl
  | 3, _, _ => rfl
  | 4, _, _ => rfl
  | 5, _, _ => rfl
  | 6, _, _ => rfl
  | 7, _, _ => rfl
  | 8, _, _ => rfl
  | 9, _, _ => rfl
  | 10, _, _ => rfl
  | 11, _, _ => rfl
  | 12, _, _ => rfl
  | 13, _, _ => rfl
  | 14, _, hne => exact absurd rfl hne
  | j + 15, hj, _ => exact absurd hj (by omega)
theorem k_fill_doubles (l : Launch) (dC : Nat → ClassId) (dI : Nat → Nat → Nat) (g k : Nat → Nat) (tl : List (ClassId × FieldType)) (u : jU) : jMet l y_Arrays_fill (.code y_Arrays_fill c_Arrays_fill 4 none) ({ frames := 0, cells := 0, slots := 0, locals := 0 }) (dC, dI) jcl (ctys k tl) jTs [.ref (g 14), .int 0] (cw g k u) 0 0 (jRet none (cw g k (pFill u 11 8))) := by
  have h := k_fill (D := (dC, dI)) (cl := jcl) (tys := ctys k tl) (Ts := jTs) (ws := cw g k u) (q0 := 14) (t0 := 0) (x := 0) l (cw_doubles g k u) rfl (by decide)
  rw [cw_fill_doubles] at h
  exact h
theorem wm_R : ∀ w ∈ [Cond.methodLink "StrataHouse$Rule" 53 Lib.Math.max.name, .static Lib.Math.max.name, .initialized "java/lang/Math", .code Lib.Math.max.name Lib.Math.max.code 2 (some .int)], w ∈ jTs := List.forall_mem_cons.mpr ⟨jin (jt1 (List.mem_of_getElem? (i := 207) rfl)) rfl, List.forall_mem_cons.mpr ⟨jin (jt1 (List.mem_of_getElem? (i := 208) rfl)) rfl, List.forall_mem_cons.mpr ⟨jin (jt1 (List.mem_of_getElem? (i := 14) rfl)) rfl, List.forall_mem_cons.mpr ⟨jin (jt1 (List.mem_of_getElem? (i := 209) rfl)) rfl, fun _ h => absurd h List.not_mem_nil⟩⟩⟩⟩
theorem wm_H : ∀ w ∈ [Cond.methodLink "StrataHouse" 214 Lib.Math.max.name, .static Lib.Math.max.name, .initialized "java/lang/Math", .code Lib.Math.max.name Lib.Math.max.code 2 (some .int)], w ∈ jTs := List.forall_mem_cons.mpr ⟨jin (jt2 (List.mem_of_getElem? (i := 214) rfl)) rfl, List.forall_mem_cons.mpr ⟨jin (jt1 (List.mem_of_getElem? (i := 208) rfl)) rfl, List.forall_mem_cons.mpr ⟨jin (jt1 (List.mem_of_getElem? (i := 14) rfl)) rfl, List.forall_mem_cons.mpr ⟨jin (jt1 (List.mem_of_getElem? (i := 209) rfl)) rfl, fun _ h => absurd h List.not_mem_nil⟩⟩⟩⟩
theorem d_bitCount_0 : decode c_Integer_bitCount 0 = .ok (.iload_n 0, 1) := by decide +kernel
theorem d_bitCount_1 : decode c_Integer_bitCount 1 = .ok (.iload_n 0, 1) := by decide +kernel
theorem d_bitCount_2 : decode c_Integer_bitCount 2 = .ok (.iconst 1, 1) := by decide +kernel
theorem d_bitCount_3 : decode c_Integer_bitCount 3 = .ok (.iushr, 1) := by decide +kernel
theorem d_bitCount_4 : decode c_Integer_bitCount 4 = .ok (.ldc_w 265, 3) := by decide +kernel
theorem d_bitCount_7 : decode c_Integer_bitCount 7 = .ok (.iand, 1) := by decide +kernel
theorem d_bitCount_8 : decode c_Integer_bitCount 8 = .ok (.isub, 1) := by decide +kernel
theorem d_bitCount_9 : decode c_Integer_bitCount 9 = .ok (.istore_n 0, 1) := by decide +kernel
theorem d_bitCount_10 : decode c_Integer_bitCount 10 = .ok (.iload_n 0, 1) := by decide +kernel
theorem d_bitCount_11 : decode c_Integer_bitCount 11 = .ok (.ldc_w 266, 3) := by decide +kernel
theorem d_bitCount_14 : decode c_Integer_bitCount 14 = .ok (.iand, 1) := by decide +kernel
theorem d_bitCount_15 : decode c_Integer_bitCount 15 = .ok (.iload_n 0, 1) := by decide +kernel
theorem d_bitCount_16 : decode c_Integer_bitCount 16 = .ok (.iconst 2, 1) := by decide +kernel
theorem d_bitCount_17 : decode c_Integer_bitCount 17 = .ok (.iushr, 1) := by decide +kernel
theorem d_bitCount_18 : decode c_Integer_bitCount 18 = .ok (.ldc_w 266, 3) := by decide +kernel
theorem d_bitCount_21 : decode c_Integer_bitCount 21 = .ok (.iand, 1) := by decide +kernel
theorem d_bitCount_22 : decode c_Integer_bitCount 22 = .ok (.iadd, 1) := by decide +kernel
theorem d_bitCount_23 : decode c_Integer_bitCount 23 = .ok (.istore_n 0, 1) := by decide +kernel
theorem d_bitCount_24 : decode c_Integer_bitCount 24 = .ok (.iload_n 0, 1) := by decide +kernel
theorem d_bitCount_25 : decode c_Integer_bitCount 25 = .ok (.iload_n 0, 1) := by decide +kernel
theorem d_bitCount_26 : decode c_Integer_bitCount 26 = .ok (.iconst 4, 1) := by decide +kernel
theorem d_bitCount_27 : decode c_Integer_bitCount 27 = .ok (.iushr, 1) := by decide +kernel
theorem d_bitCount_28 : decode c_Integer_bitCount 28 = .ok (.iadd, 1) := by decide +kernel
theorem d_bitCount_29 : decode c_Integer_bitCount 29 = .ok (.ldc_w 267, 3) := by decide +kernel
theorem d_bitCount_32 : decode c_Integer_bitCount 32 = .ok (.iand, 1) := by decide +kernel
theorem d_bitCount_33 : decode c_Integer_bitCount 33 = .ok (.istore_n 0, 1) := by decide +kernel
theorem d_bitCount_34 : decode c_Integer_bitCount 34 = .ok (.iload_n 0, 1) := by decide +kernel
theorem d_bitCount_35 : decode c_Integer_bitCount 35 = .ok (.iload_n 0, 1) := by decide +kernel
theorem d_bitCount_36 : decode c_Integer_bitCount 36 = .ok (.bipush 8, 2) := by decide +kernel
theorem d_bitCount_38 : decode c_Integer_bitCount 38 = .ok (.iushr, 1) := by decide +kernel
theorem d_bitCount_39 : decode c_Integer_bitCount 39 = .ok (.iadd, 1) := by decide +kernel
theorem d_bitCount_40 : decode c_Integer_bitCount 40 = .ok (.istore_n 0, 1) := by decide +kernel
theorem d_bitCount_41 : decode c_Integer_bitCount 41 = .ok (.iload_n 0, 1) := by decide +kernel
theorem d_bitCount_42 : decode c_Integer_bitCount 42 = .ok (.iload_n 0, 1) := by decide +kernel
theorem d_bitCount_43 : decode c_Integer_bitCount 43 = .ok (.bipush 16, 2) := by decide +kernel
theorem d_bitCount_45 : decode c_Integer_bitCount 45 = .ok (.iushr, 1) := by decide +kernel
theorem d_bitCount_46 : decode c_Integer_bitCount 46 = .ok (.iadd, 1) := by decide +kernel
theorem d_bitCount_47 : decode c_Integer_bitCount 47 = .ok (.istore_n 0, 1) := by decide +kernel
theorem d_bitCount_48 : decode c_Integer_bitCount 48 = .ok (.iload_n 0, 1) := by decide +kernel
theorem d_bitCount_49 : decode c_Integer_bitCount 49 = .ok (.bipush 63, 2) := by decide +kernel
theorem d_bitCount_51 : decode c_Integer_bitCount 51 = .ok (.iand, 1) := by decide +kernel
theorem d_bitCount_52 : decode c_Integer_bitCount 52 = .ok (.ireturn, 1) := by decide +kernel
def ushr (x y : Int32) : Int32 := (x.toUInt32 >>> (y.toUInt32 &&& Int32.toUInt32 31)).toInt32
def pBC1 (x : Int32) : Int32 := x - (ushr x 1 &&& 1431655765)
def pBC2 (x : Int32) : Int32 := (x &&& 858993459) + (ushr x 2 &&& 858993459)
def pBC3 (x : Int32) : Int32 := (x + ushr x 4) &&& 252645135
def pBC4 (x : Int32) : Int32 := x + ushr x 8
def pBC5 (x : Int32) : Int32 := x + ushr x 16
def pBC (x : Int32) : Int32 := pBC5 (pBC4 (pBC3 (pBC2 (pBC1 x)))) &&& 63
set_option maxHeartbeats 4000000 in
set_option maxRecDepth 100000 in
theorem k_bitCount (l : Launch) (dC : Nat → ClassId) (dI : Nat → Nat → Nat) (g k : Nat → Nat) (tl : List (ClassId × FieldType)) (u : jU) (x : Int32) : jMet l y_Integer_bitCount (.code y_Integer_bitCount c_Integer_bitCount 1 (some .int)) ({ frames := 0, cells := 0, slots := 0, locals := 0 }) (dC, dI) jcl (ctys k tl) jTs [.int x] (cw g k u) 0 0 (jRet (some (.int (pBC x))) (cw g k u)) := by
  refine jMet.of (by decide) (Nat.le_of_ble_eq_true rfl) ?_
  intro p e s m below meth c A hC hex hr hnm htr
  show jJ p l e ({ frames := 0, cells := 0, slots := 0, locals := 0 }) s m [.int x].toArray below meth c 1 (dC, dI) jcl A (hxQ below (jQ (dC, dI) jcl (jRet (some (.int (pBC x))) (cw g k u)) A) [.int x].toArray s 0 0 A) 0 0 (cw g k u) [(0, .int x)] [] 0
  refine j_iload_n hC d_bitCount_0 rfl 0 rfl ?_
  refine j_iload_n hC d_bitCount_1 rfl 0 rfl ?_
  refine j_iconst (v := 1) hC d_bitCount_2 (by decide) ?_
  refine j_iushr (v := ushr (x) 1) hC d_bitCount_3 rfl ?_
  refine j_ldcw (v := 1431655765) hC (hC.2.2.2.2.1 _ wc_Integer_265) d_bitCount_4 ?_
  refine j_iand hC d_bitCount_7 ?_
  refine j_isub hC d_bitCount_8 ?_
  refine j_istore_n (lv' := [(0, .int (pBC1 (x)))]) hC d_bitCount_9 rfl (by decide) rfl rfl ?_
  refine j_iload_n hC d_bitCount_10 rfl 0 rfl ?_
  refine j_ldcw (v := 858993459) hC (hC.2.2.2.2.1 _ wc_Integer_266) d_bitCount_11 ?_
  refine j_iand hC d_bitCount_14 ?_
  refine j_iload_n hC d_bitCount_15 rfl 0 rfl ?_
  refine j_iconst (v := 2) hC d_bitCount_16 (by decide) ?_
  refine j_iushr (v := ushr (pBC1 (x)) 2) hC d_bitCount_17 rfl ?_
  refine j_ldcw (v := 858993459) hC (hC.2.2.2.2.1 _ wc_Integer_266) d_bitCount_18 ?_
  refine j_iand hC d_bitCount_21 ?_
  refine j_iadd hC d_bitCount_22 ?_
  refine j_istore_n (lv' := [(0, .int (pBC2 (pBC1 (x))))]) hC d_bitCount_23 rfl (by decide) rfl rfl ?_
  refine j_iload_n hC d_bitCount_24 rfl 0 rfl ?_
  refine j_iload_n hC d_bitCount_25 rfl 0 rfl ?_
  refine j_iconst (v := 4) hC d_bitCount_26 (by decide) ?_
  refine j_iushr (v := ushr (pBC2 (pBC1 (x))) 4) hC d_bitCount_27 rfl ?_
  refine j_iadd hC d_bitCount_28 ?_
  refine j_ldcw (v := 252645135) hC (hC.2.2.2.2.1 _ wc_Integer_267) d_bitCount_29 ?_
  refine j_iand hC d_bitCount_32 ?_
  refine j_istore_n (lv' := [(0, .int (pBC3 (pBC2 (pBC1 (x)))))]) hC d_bitCount_33 rfl (by decide) rfl rfl ?_
  refine j_iload_n hC d_bitCount_34 rfl 0 rfl ?_
  refine j_iload_n hC d_bitCount_35 rfl 0 rfl ?_
  refine j_bipush (v := 8) hC d_bitCount_36 (by decide) ?_
  refine j_iushr (v := ushr (pBC3 (pBC2 (pBC1 (x)))) 8) hC d_bitCount_38 rfl ?_
  refine j_iadd hC d_bitCount_39 ?_
  refine j_istore_n (lv' := [(0, .int (pBC4 (pBC3 (pBC2 (pBC1 (x))))))]) hC d_bitCount_40 rfl (by decide) rfl rfl ?_
  refine j_iload_n hC d_bitCount_41 rfl 0 rfl ?_
  refine j_iload_n hC d_bitCount_42 rfl 0 rfl ?_
  refine j_bipush (v := 16) hC d_bitCount_43 (by decide) ?_
  refine j_iushr (v := ushr (pBC4 (pBC3 (pBC2 (pBC1 (x))))) 16) hC d_bitCount_45 rfl ?_
  refine j_iadd hC d_bitCount_46 ?_
  refine j_istore_n (lv' := [(0, .int (pBC5 (pBC4 (pBC3 (pBC2 (pBC1 (x)))))))]) hC d_bitCount_47 rfl (by decide) rfl rfl ?_
  refine j_iload_n hC d_bitCount_48 rfl 0 rfl ?_
  refine j_bipush (v := 63) hC d_bitCount_49 (by decide) ?_
  refine j_iand hC d_bitCount_51 ?_
  exact j_iret hC hr ⟨rfl, rfl, rfl⟩ d_bitCount_52
