/-- words that stay true however warm the tables get -/
def jW (Ts : List Cond) (U : State) : Prop := ∀ w ∈ Ts, ∀ (a' : Array Value) (U' : State), U.WarmedH U'.vm → w.before a' U' = true
/-- the two statics of Throwable that an exception's making reads, outside the cells A -/
def jL (C n d : String) (A : Nat → Prop) (U : State) (H : Heap) : Prop := ∃ (c : ClassId) (k : Class) (i : Nat) (f : Field) (a : Nat) (cell : Cell), U.vm.findClass C = some c ∧ U.fieldFound? C n d = some (c, k, i, f) ∧ f.isStatic = true ∧ k.statics = some a ∧ H[a]? = some cell ∧ cell.vm.isStatics = true ∧ cell.cls = c ∧ f.slot < cell.slots.size ∧ k.staticTypes[f.slot]? = some f.type ∧ ¬ A a
theorem jL.go {C n d : String} {A B : Nat → Prop} {u U : State} {H H1 : Heap} (h : jL C n d A u H) (hvm : u.vm.Alike U.vm) (hq : ∀ a : Nat, a < H.size → ¬ A a → H1[a]? = H[a]?) (hAB : ∀ q, B q → A q) : jL C n d B U H1 := by
  obtain ⟨c, k, i, f, a, cell, h1, h2, h3, h4, h5, h6, h7, h8, h9, h10⟩ := h
  obtain ⟨k', hi', he⟩ := State.fieldFound?_setVm hvm h2
  exact ⟨c, k', i, f, a, cell, by rw [hvm.findClass]; exact h1, hi', h3, by rw [he]; exact h4, by rw [hq a (Array.getElem?_eq_some_iff.mp h5).1 h10]; exact h5, h6, h7, h8, by rw [he]; exact h9, fun z => h10 (hAB _ z)⟩
theorem jL.word {C n d : String} {A : Nat → Prop} {s : State} {args : Array Value} (h : jL C n d A s s.heap) : (Cond.laysStatic C n d).before args s = true := by
  obtain ⟨c, k, i, f, a, cell, h1, h2, h3, h4, h5, h6, h7, h8, h9, -⟩ := h
  show (Cond.laysStatic C n d).holds args s none s [] = true
  exact Cond.laysStatic_of h1 h2 h3 h4 h5 h6 h7 h8 h9
def jZ1 (C n d : String) (A : Nat → Prop) (U : State) (H : Heap) : Prop := va_Zq C n d A U H ∧ jL C n d A U H
theorem jZ1.go {C n d : String} {A B : Nat → Prop} {u U : State} {H H1 : Heap} (h : jZ1 C n d A u H) (hvm : u.vm.Alike U.vm) (hq : ∀ a : Nat, a < H.size → ¬ A a → H1[a]? = H[a]?) (hAB : ∀ q, B q → A q) : jZ1 C n d B U H1 :=
  ⟨((h.1.moved hvm).kept hq).narrow hAB, h.2.go hvm hq hAB⟩
def jZ (A : Nat → Prop) (U : State) (H : Heap) : Prop := jZ1 Bundle.tN "UNASSIGNED_STACK" Bundle.steD A U H ∧ jZ1 Bundle.tN "SUPPRESSED_SENTINEL" Bundle.listD A U H
section JL
variable {p : Program} {l : Launch} {e : Env} {R : Room} {s : State} {m : MethodId} {args : Array Value} {below : List Frame} {meth : Method} {c : Code} {Q : State → Prop} {cells slots : Nat}
variable {cc : ByteArray} {nL : Nat} {own : String} {Ts : List Cond} {D : va_G} {cl : List vw_C} {tys : List (ClassId × FieldType)} {A : Nat → Prop}
variable {pc : Nat} {lv : List (Nat × Value)} {st : List Value} {ws : va_W}
/-- what stays as it is along the walk of a method -/
def jC (p : Program) (s : State) (m : MethodId) (args : Array Value) (meth : Method) (c : Code) (cc : ByteArray) (nL : Nat) (own : String) (Ts : List Cond) (D : va_G) (cl : List vw_C) (tys : List (ClassId × FieldType)) (A : Nat → Prop) : Prop :=
  p.tables.exec = Jvm.exec ∧ c.code = cc ∧ c.maxLocals = nL ∧ s.vm.findClass own = some m.cls ∧ (∀ w ∈ Ts, w.before args s = true) ∧ va_K D cl tys s ∧ (∀ q, s.heap.size ≤ q → A q) ∧ jW Ts s ∧ jZ A s s.heap ∧ meth.locks = false
/-- the walk, in words of cells, locals, stack and place -/
def jJ (p : Program) (l : Launch) (e : Env) (R : Room) (s : State) (m : MethodId) (args : Array Value) (below : List Frame) (meth : Method) (c : Code) (nL : Nat) (D : va_G) (cl : List vw_C) (A : Nat → Prop) (Q : State → Prop) (cells slots : Nat) (ws : va_W) (lv : List (Nat × Value)) (st : List Value) (pc : Nat) : Prop :=
  ∀ (H : Heap) (locs : List Loc) (ls : Array Slot), va_P D cl ws H → va_D A ws → va_S A s.heap H locs → lv_has ls nL lv → W p l e R s m args below meth c H locs cells slots Q (F0 m pc ls st)
/-- a local takes a value: its row in the list is changed where it stands, or comes at the end -/
def jput : List (Nat × Value) → Nat → Value → List (Nat × Value)
  | [], i, v => [(i, v)]
  | q :: t, i, v => if q.1 = i then (i, v) :: t else q :: jput t i v
theorem jput_in {i : Nat} {v : Value} : ∀ {lv : List (Nat × Value)} {q : Nat × Value}, q ∈ jput lv i v → q = (i, v) ∨ (q ∈ lv ∧ (q.1 ≠ i ∨ ∃ w, (i, w) ∈ lv)) := by
  intro lv
  induction lv with
  | nil => intro q h; exact Or.inl (List.mem_singleton.mp h)
  | cons x t ih =>
    intro q h
    unfold jput at h
    by_cases hx : x.1 = i
    · rw [if_pos hx] at h
      rcases List.mem_cons.mp h with h | h
      · exact Or.inl h
      · exact Or.inr ⟨List.mem_cons_of_mem _ h, Or.inr ⟨x.2, by rw [← hx]; exact List.mem_cons_self⟩⟩
    · rw [if_neg hx] at h
      rcases List.mem_cons.mp h with h | h
      · subst h; exact Or.inr ⟨List.mem_cons_self, Or.inl hx⟩
      · rcases ih h with h | ⟨h1, h2⟩
        · exact Or.inl h
        · refine Or.inr ⟨List.mem_cons_of_mem _ h1, ?_⟩
          rcases h2 with h2 | ⟨w, h2⟩
          · exact Or.inl h2
          · exact Or.inr ⟨w, List.mem_cons_of_mem _ h2⟩
/-- every key once, every value of one word -/
def jok : List (Nat × Value) → Bool
  | [] => true
  | q :: t => q.2.category == 1 && t.all (fun z => !(z.1 == q.1)) && jok t
theorem jput_sub {i : Nat} {v : Value} : ∀ {lv : List (Nat × Value)}, jok lv = true → ∀ q ∈ jput lv i v, q ∈ ((i, v) :: lv.filter (fun q => !(q.1 == i) && !(q.1 + 1 == i && q.2.category == 2))) := by
  intro lv
  induction lv with
  | nil => intro _ q h; simpa [jput] using h
  | cons x t ih =>
    intro hok q h
    unfold jok at hok
    simp only [Bool.and_eq_true] at hok
    obtain ⟨⟨h1, h2⟩, h3⟩ := hok
    have hx1 : x.2.category = 1 := by simpa using h1
    unfold jput at h
    by_cases hx : x.1 = i
    · rw [if_pos hx] at h
      rcases List.mem_cons.mp h with h | h
      · subst h; exact List.mem_cons_self
      · have hq : q.1 ≠ i := by
          have := List.all_eq_true.mp h2 q h
          rw [← hx]; simpa using this
        have := ih h3 q
        refine List.mem_cons_of_mem _ (List.mem_filter.mpr ⟨List.mem_cons_of_mem _ h, ?_⟩)
        have hcat : q.2.category = 1 := by
          have hall : ∀ {l : List (Nat × Value)}, jok l = true → ∀ z ∈ l, z.2.category = 1 := by
            intro l
            induction l with
            | nil => intro _ z hz; cases hz
            | cons y r ihr =>
              intro hy z hz
              unfold jok at hy
              simp only [Bool.and_eq_true] at hy
              rcases List.mem_cons.mp hz with hz | hz
              · subst hz; simpa using hy.1.1
              · exact ihr hy.2 z hz
          exact hall h3 q h
        simp [hq, hcat]
    · rw [if_neg hx] at h
      rcases List.mem_cons.mp h with h | h
      · subst h
        refine List.mem_cons_of_mem _ (List.mem_filter.mpr ⟨List.mem_cons_self, ?_⟩)
        simp [hx, hx1]
      · rcases List.mem_cons.mp (ih h3 q h) with h | h
        · exact List.mem_cons.mpr (Or.inl h)
        · obtain ⟨h4, h5⟩ := List.mem_filter.mp h
          exact List.mem_cons_of_mem _ (List.mem_filter.mpr ⟨List.mem_cons_of_mem _ h4, h5⟩)
theorem jhas_put {ls : Array Slot} {i : Nat} {v : Value} (hok : jok lv = true) (h : lv_has ls nL ((i, v) :: lv.filter (fun q => !(q.1 == i) && !(q.1 + 1 == i && q.2.category == 2)))) {lv' : List (Nat × Value)} (e : jput lv i v = lv') : lv_has ls nL lv' := by
  subst e
  exact ⟨h.1, h.2.1, fun q hq => h.2.2 q (jput_sub hok q hq)⟩
/-- fewer locals, in any order -/
theorem j_locals {lv' : List (Nat × Value)} (ks : List Nat) (hl : lv_pick lv ks = lv') (k : jJ p l e R s m args below meth c nL D cl A Q cells slots ws (lv') (st) (pc)) : jJ p l e R s m args below meth c nL D cl A Q cells slots ws (lv) (st) (pc) :=
  fun H locs ls hP hD hS h => k H locs ls hP hD hS (lv_sub h ks hl)
theorem j_widen {cells' slots' : Nat} (h1 : cells ≤ cells') (h2 : slots ≤ slots') (k : jJ p l e R s m args below meth c nL D cl A Q cells' slots' ws lv st pc) : jJ p l e R s m args below meth c nL D cl A Q cells slots ws (lv) (st) (pc) :=
  fun H locs ls hP hD hS hl => W.widen h1 h2 (k H locs ls hP hD hS hl)
theorem j_ws {ws' : va_W} (h : ws = ws') (k : jJ p l e R s m args below meth c nL D cl A Q cells slots ws' (lv) (st) (pc)) : jJ p l e R s m args below meth c nL D cl A Q cells slots ws (lv) (st) (pc) := by subst h; exact k
theorem j_st {st' : List Value} (h : st = st') (k : jJ p l e R s m args below meth c nL D cl A Q cells slots ws (lv) (st') (pc)) : jJ p l e R s m args below meth c nL D cl A Q cells slots ws (lv) (st) (pc) := by subst h; exact k

theorem j_iconst (hC : jC p s m args meth c cc nL own Ts D cl tys A) {n : Int} {v : Int32} (hd : decode cc pc = .ok (.iconst n, 1)) (hv : Int32.ofInt n = v) (k : jJ p l e R s m args below meth c nL D cl A Q cells slots ws (lv) (.int v :: st) (pc + 1)) : jJ p l e R s m args below meth c nL D cl A Q cells slots ws (lv) (st) (pc) :=
  fun H locs ls hP hD hS hl => lv_iconst hC.1 hC.2.1 hd hv (k H locs ls hP hD hS hl)
theorem j_bipush (hC : jC p s m args meth c cc nL own Ts D cl tys A) {n : Int} {v : Int32} (hd : decode cc pc = .ok (.bipush n, 2)) (hv : (Int8.ofInt n).toInt32 = v) (k : jJ p l e R s m args below meth c nL D cl A Q cells slots ws (lv) (.int v :: st) (pc + 2)) : jJ p l e R s m args below meth c nL D cl A Q cells slots ws (lv) (st) (pc) :=
  fun H locs ls hP hD hS hl => lv_bipush hC.1 hC.2.1 hd hv (k H locs ls hP hD hS hl)
theorem j_sipush (hC : jC p s m args meth c cc nL own Ts D cl tys A) {n : Int} {v : Int32} (hd : decode cc pc = .ok (.sipush n, 3)) (hv : (Int16.ofInt n).toInt32 = v) (k : jJ p l e R s m args below meth c nL D cl A Q cells slots ws (lv) (.int v :: st) (pc + 3)) : jJ p l e R s m args below meth c nL D cl A Q cells slots ws (lv) (st) (pc) :=
  fun H locs ls hP hD hS hl => lv_sipush hC.1 hC.2.1 hd hv (k H locs ls hP hD hS hl)
theorem j_iload_n (hC : jC p s m args meth c cc nL own Ts D cl tys A) {k : Fin 4} {i : Nat} {x : Int32} (hd : decode cc pc = .ok (.iload_n k, 1)) (hi : (k : Nat) = i) (q : Nat) (hq : lv[q]? = some (i, .int x)) (k : jJ p l e R s m args below meth c nL D cl A Q cells slots ws (lv) (.int x :: st) (pc + 1)) : jJ p l e R s m args below meth c nL D cl A Q cells slots ws (lv) (st) (pc) :=
  fun H locs ls hP hD hS hl => lv_iload_n hC.1 hC.2.1 hd hi (lv_at hl q hq) (k H locs ls hP hD hS hl)
theorem j_iload (hC : jC p s m args meth c cc nL own Ts D cl tys A) {i : Nat} {x : Int32} (hd : decode cc pc = .ok (.iload i, 2)) (q : Nat) (hq : lv[q]? = some (i, .int x)) (k : jJ p l e R s m args below meth c nL D cl A Q cells slots ws (lv) (.int x :: st) (pc + 2)) : jJ p l e R s m args below meth c nL D cl A Q cells slots ws (lv) (st) (pc) :=
  fun H locs ls hP hD hS hl => lv_iload hC.1 hC.2.1 hd (lv_at hl q hq) (k H locs ls hP hD hS hl)
theorem j_istore_n (hC : jC p s m args meth c cc nL own Ts D cl tys A) {k : Fin 4} {i : Nat} {x : Int32} {lv' : List (Nat × Value)} (hd : decode cc pc = .ok (.istore_n k, 1)) (hi : (k : Nat) = i) (hn : i < nL) (hok : jok lv = true) (hp : jput lv i (.int x) = lv') (k : jJ p l e R s m args below meth c nL D cl A Q cells slots ws (lv') (st) (pc + 1)) : jJ p l e R s m args below meth c nL D cl A Q cells slots ws (lv) (.int x :: st) (pc) :=
  fun H locs ls hP hD hS hl => lv_istore_n hC.1 hC.2.1 hd hi hl hn rfl (fun ls' hl' => k H locs ls' hP hD hS (jhas_put hok hl' hp))
theorem j_istore (hC : jC p s m args meth c cc nL own Ts D cl tys A) {i : Nat} {x : Int32} {lv' : List (Nat × Value)} (hd : decode cc pc = .ok (.istore i, 2))  (hn : i < nL) (hok : jok lv = true) (hp : jput lv i (.int x) = lv') (k : jJ p l e R s m args below meth c nL D cl A Q cells slots ws (lv') (st) (pc + 2)) : jJ p l e R s m args below meth c nL D cl A Q cells slots ws (lv) (.int x :: st) (pc) :=
  fun H locs ls hP hD hS hl => lv_istore hC.1 hC.2.1 hd  hl hn rfl (fun ls' hl' => k H locs ls' hP hD hS (jhas_put hok hl' hp))
theorem j_aload_n (hC : jC p s m args meth c cc nL own Ts D cl tys A) {k : Fin 4} {i : Nat} {x : Nat} (hd : decode cc pc = .ok (.aload_n k, 1)) (hi : (k : Nat) = i) (q : Nat) (hq : lv[q]? = some (i, .ref x)) (k : jJ p l e R s m args below meth c nL D cl A Q cells slots ws (lv) (.ref x :: st) (pc + 1)) : jJ p l e R s m args below meth c nL D cl A Q cells slots ws (lv) (st) (pc) :=
  fun H locs ls hP hD hS hl => lv_aload_n hC.1 hC.2.1 hd hi (lv_at hl q hq) (k H locs ls hP hD hS hl)
theorem j_aload (hC : jC p s m args meth c cc nL own Ts D cl tys A) {i : Nat} {x : Nat} (hd : decode cc pc = .ok (.aload i, 2)) (q : Nat) (hq : lv[q]? = some (i, .ref x)) (k : jJ p l e R s m args below meth c nL D cl A Q cells slots ws (lv) (.ref x :: st) (pc + 2)) : jJ p l e R s m args below meth c nL D cl A Q cells slots ws (lv) (st) (pc) :=
  fun H locs ls hP hD hS hl => lv_aload hC.1 hC.2.1 hd (lv_at hl q hq) (k H locs ls hP hD hS hl)
theorem j_astore_n (hC : jC p s m args meth c cc nL own Ts D cl tys A) {k : Fin 4} {i : Nat} {x : Nat} {lv' : List (Nat × Value)} (hd : decode cc pc = .ok (.astore_n k, 1)) (hi : (k : Nat) = i) (hn : i < nL) (hok : jok lv = true) (hp : jput lv i (.ref x) = lv') (k : jJ p l e R s m args below meth c nL D cl A Q cells slots ws (lv') (st) (pc + 1)) : jJ p l e R s m args below meth c nL D cl A Q cells slots ws (lv) (.ref x :: st) (pc) :=
  fun H locs ls hP hD hS hl => lv_astore_n hC.1 hC.2.1 hd hi hl hn rfl (fun ls' hl' => k H locs ls' hP hD hS (jhas_put hok hl' hp))
theorem j_astore (hC : jC p s m args meth c cc nL own Ts D cl tys A) {i : Nat} {x : Nat} {lv' : List (Nat × Value)} (hd : decode cc pc = .ok (.astore i, 2))  (hn : i < nL) (hok : jok lv = true) (hp : jput lv i (.ref x) = lv') (k : jJ p l e R s m args below meth c nL D cl A Q cells slots ws (lv') (st) (pc + 2)) : jJ p l e R s m args below meth c nL D cl A Q cells slots ws (lv) (.ref x :: st) (pc) :=
  fun H locs ls hP hD hS hl => lv_astore hC.1 hC.2.1 hd  hl hn rfl (fun ls' hl' => k H locs ls' hP hD hS (jhas_put hok hl' hp))
theorem j_iinc (hC : jC p s m args meth c cc nL own Ts D cl tys A) {i : Nat} {n : Int} {x v : Int32} {lv' : List (Nat × Value)} (hd : decode cc pc = .ok (.iinc i n, 3)) (q : Nat) (hq : lv[q]? = some (i, .int x)) (hv : x + Int32.ofInt n = v) (hn : i < nL) (hok : jok lv = true) (hp : jput lv i (.int v) = lv') (k : jJ p l e R s m args below meth c nL D cl A Q cells slots ws (lv') (st) (pc + 3)) : jJ p l e R s m args below meth c nL D cl A Q cells slots ws (lv) (st) (pc) :=
  fun H locs ls hP hD hS hl => lv_iinc hC.1 hC.2.1 hd hl hq hv hn rfl (fun ls' hl' => k H locs ls' hP hD hS (jhas_put hok hl' hp))
theorem j_iadd (hC : jC p s m args meth c cc nL own Ts D cl tys A) {x y : Int32} (hd : decode cc pc = .ok (.iadd, 1)) (k : jJ p l e R s m args below meth c nL D cl A Q cells slots ws (lv) (.int (x + y) :: st) (pc + 1)) : jJ p l e R s m args below meth c nL D cl A Q cells slots ws (lv) (.int y :: .int x :: st) (pc) :=
  fun H locs ls hP hD hS hl => lv_iadd hC.1 hC.2.1 hd (k H locs ls hP hD hS hl)
theorem j_isub (hC : jC p s m args meth c cc nL own Ts D cl tys A) {x y : Int32} (hd : decode cc pc = .ok (.isub, 1)) (k : jJ p l e R s m args below meth c nL D cl A Q cells slots ws (lv) (.int (x - y) :: st) (pc + 1)) : jJ p l e R s m args below meth c nL D cl A Q cells slots ws (lv) (.int y :: .int x :: st) (pc) :=
  fun H locs ls hP hD hS hl => lv_isub hC.1 hC.2.1 hd (k H locs ls hP hD hS hl)
theorem j_imul (hC : jC p s m args meth c cc nL own Ts D cl tys A) {x y : Int32} (hd : decode cc pc = .ok (.imul, 1)) (k : jJ p l e R s m args below meth c nL D cl A Q cells slots ws (lv) (.int (x * y) :: st) (pc + 1)) : jJ p l e R s m args below meth c nL D cl A Q cells slots ws (lv) (.int y :: .int x :: st) (pc) :=
  fun H locs ls hP hD hS hl => lv_imul hC.1 hC.2.1 hd (k H locs ls hP hD hS hl)
theorem j_iand (hC : jC p s m args meth c cc nL own Ts D cl tys A) {x y : Int32} (hd : decode cc pc = .ok (.iand, 1)) (k : jJ p l e R s m args below meth c nL D cl A Q cells slots ws (lv) (.int (x &&& y) :: st) (pc + 1)) : jJ p l e R s m args below meth c nL D cl A Q cells slots ws (lv) (.int y :: .int x :: st) (pc) :=
  fun H locs ls hP hD hS hl => lv_iand hC.1 hC.2.1 hd (k H locs ls hP hD hS hl)
theorem j_ior (hC : jC p s m args meth c cc nL own Ts D cl tys A) {x y : Int32} (hd : decode cc pc = .ok (.ior, 1)) (k : jJ p l e R s m args below meth c nL D cl A Q cells slots ws (lv) (.int (x ||| y) :: st) (pc + 1)) : jJ p l e R s m args below meth c nL D cl A Q cells slots ws (lv) (.int y :: .int x :: st) (pc) :=
  fun H locs ls hP hD hS hl => lv_ior hC.1 hC.2.1 hd (k H locs ls hP hD hS hl)
theorem j_ixor (hC : jC p s m args meth c cc nL own Ts D cl tys A) {x y : Int32} (hd : decode cc pc = .ok (.ixor, 1)) (k : jJ p l e R s m args below meth c nL D cl A Q cells slots ws (lv) (.int (x ^^^ y) :: st) (pc + 1)) : jJ p l e R s m args below meth c nL D cl A Q cells slots ws (lv) (.int y :: .int x :: st) (pc) :=
  fun H locs ls hP hD hS hl => lv_ixor hC.1 hC.2.1 hd (k H locs ls hP hD hS hl)
theorem j_ishl (hC : jC p s m args meth c cc nL own Ts D cl tys A) {x y : Int32} (hd : decode cc pc = .ok (.ishl, 1)) (k : jJ p l e R s m args below meth c nL D cl A Q cells slots ws (lv) (.int (x <<< (y &&& 31)) :: st) (pc + 1)) : jJ p l e R s m args below meth c nL D cl A Q cells slots ws (lv) (.int y :: .int x :: st) (pc) :=
  fun H locs ls hP hD hS hl => lv_ishl hC.1 hC.2.1 hd (k H locs ls hP hD hS hl)
theorem j_ishr (hC : jC p s m args meth c cc nL own Ts D cl tys A) {x y : Int32} (hd : decode cc pc = .ok (.ishr, 1)) (k : jJ p l e R s m args below meth c nL D cl A Q cells slots ws (lv) (.int (x >>> (y &&& 31)) :: st) (pc + 1)) : jJ p l e R s m args below meth c nL D cl A Q cells slots ws (lv) (.int y :: .int x :: st) (pc) :=
  fun H locs ls hP hD hS hl => lv_ishr hC.1 hC.2.1 hd (k H locs ls hP hD hS hl)
theorem j_idiv (hC : jC p s m args meth c cc nL own Ts D cl tys A) {x y : Int32} (hd : decode cc pc = .ok (.idiv, 1)) (hne : ¬ y = 0) (k : jJ p l e R s m args below meth c nL D cl A Q cells slots ws (lv) (.int (x / y) :: st) (pc + 1)) : jJ p l e R s m args below meth c nL D cl A Q cells slots ws (lv) (.int y :: .int x :: st) (pc) :=
  fun H locs ls hP hD hS hl => lv_idiv hC.1 hC.2.1 hd hne (k H locs ls hP hD hS hl)
theorem j_irem (hC : jC p s m args meth c cc nL own Ts D cl tys A) {x y : Int32} (hd : decode cc pc = .ok (.irem, 1)) (hne : ¬ y = 0) (k : jJ p l e R s m args below meth c nL D cl A Q cells slots ws (lv) (.int (x - x / y * y) :: st) (pc + 1)) : jJ p l e R s m args below meth c nL D cl A Q cells slots ws (lv) (.int y :: .int x :: st) (pc) :=
  fun H locs ls hP hD hS hl => lv_irem hC.1 hC.2.1 hd hne (k H locs ls hP hD hS hl)
theorem j_ineg (hC : jC p s m args meth c cc nL own Ts D cl tys A) {x : Int32} (hd : decode cc pc = .ok (.ineg, 1)) (k : jJ p l e R s m args below meth c nL D cl A Q cells slots ws (lv) (.int (-x) :: st) (pc + 1)) : jJ p l e R s m args below meth c nL D cl A Q cells slots ws (lv) (.int x :: st) (pc) :=
  fun H locs ls hP hD hS hl => lv_ineg hC.1 hC.2.1 hd (k H locs ls hP hD hS hl)
theorem j_iushr (hC : jC p s m args meth c cc nL own Ts D cl tys A) {x y v : Int32} (hd : decode cc pc = .ok (.iushr, 1)) (hv : (x.toUInt32 >>> (y.toUInt32 &&& Int32.toUInt32 31)).toInt32 = v) (k : jJ p l e R s m args below meth c nL D cl A Q cells slots ws (lv) (.int v :: st) (pc + 1)) : jJ p l e R s m args below meth c nL D cl A Q cells slots ws (lv) (.int y :: .int x :: st) (pc) :=
  fun H locs ls hP hD hS hl => lv_iushr hC.1 hC.2.1 hd hv (k H locs ls hP hD hS hl)
theorem j_i2l (hC : jC p s m args meth c cc nL own Ts D cl tys A) {x : Int32} {v : Int64} (hd : decode cc pc = .ok (.i2l, 1)) (hv : x.toInt64 = v) (k : jJ p l e R s m args below meth c nL D cl A Q cells slots ws (lv) (.long v :: st) (pc + 1)) : jJ p l e R s m args below meth c nL D cl A Q cells slots ws (lv) (.int x :: st) (pc) :=
  fun H locs ls hP hD hS hl => lv_i2l hC.1 hC.2.1 hd hv (k H locs ls hP hD hS hl)
theorem j_dup (hC : jC p s m args meth c cc nL own Ts D cl tys A) {va : Value} (hd : decode cc pc = .ok (.dup, 1)) (h1 : va.category = 1) (k : jJ p l e R s m args below meth c nL D cl A Q cells slots ws (lv) (va :: va :: st) (pc + 1)) : jJ p l e R s m args below meth c nL D cl A Q cells slots ws (lv) (va :: st) (pc) :=
  fun H locs ls hP hD hS hl => lv_dup hC.1 hC.2.1 hd h1 (k H locs ls hP hD hS hl)
theorem j_pop (hC : jC p s m args meth c cc nL own Ts D cl tys A) {va : Value} (hd : decode cc pc = .ok (.pop, 1)) (h1 : va.category = 1) (k : jJ p l e R s m args below meth c nL D cl A Q cells slots ws (lv) (st) (pc + 1)) : jJ p l e R s m args below meth c nL D cl A Q cells slots ws (lv) (va :: st) (pc) :=
  fun H locs ls hP hD hS hl => lv_pop hC.1 hC.2.1 hd h1 (k H locs ls hP hD hS hl)
theorem j_dup_x1 (hC : jC p s m args meth c cc nL own Ts D cl tys A) {va vb : Value} (hd : decode cc pc = .ok (.dup_x1, 1)) (h1 : va.category = 1) (h2 : vb.category = 1) (k : jJ p l e R s m args below meth c nL D cl A Q cells slots ws (lv) (va :: vb :: va :: st) (pc + 1)) : jJ p l e R s m args below meth c nL D cl A Q cells slots ws (lv) (va :: vb :: st) (pc) :=
  fun H locs ls hP hD hS hl => lv_dup_x1 hC.1 hC.2.1 hd h1 h2 (k H locs ls hP hD hS hl)
theorem j_dup2_11 (hC : jC p s m args meth c cc nL own Ts D cl tys A) {va vb : Value} (hd : decode cc pc = .ok (.dup2, 1)) (h1 : va.category = 1) (h2 : vb.category = 1) (k : jJ p l e R s m args below meth c nL D cl A Q cells slots ws (lv) (va :: vb :: va :: vb :: st) (pc + 1)) : jJ p l e R s m args below meth c nL D cl A Q cells slots ws (lv) (va :: vb :: st) (pc) :=
  fun H locs ls hP hD hS hl => lv_dup2_11 hC.1 hC.2.1 hd h1 h2 (k H locs ls hP hD hS hl)
theorem j_goto (hC : jC p s m args meth c cc nL own Ts D cl tys A) {off : Int} {tgt : Nat} (hd : decode cc pc = .ok (.goto off, 3)) (ht : (pc : Int) + off = (tgt : Int)) (k : jJ p l e R s m args below meth c nL D cl A Q cells slots ws (lv) (st) (tgt)) : jJ p l e R s m args below meth c nL D cl A Q cells slots ws (lv) (st) (pc) :=
  fun H locs ls hP hD hS hl => lv_goto hC.1 hC.2.1 hd ht (k H locs ls hP hD hS hl)
theorem j_if_eq (hC : jC p s m args meth c cc nL own Ts D cl tys A) {x : Int32} {off : Int} {tgt : Nat} (hd : decode cc pc = .ok (.ifCond .eq off, 3)) (ht : (pc : Int) + off = (tgt : Int)) (kt : x = 0 → jJ p l e R s m args below meth c nL D cl A Q cells slots ws (lv) (st) (tgt)) (kf : ¬ x = 0 → jJ p l e R s m args below meth c nL D cl A Q cells slots ws (lv) (st) (pc + 3)) : jJ p l e R s m args below meth c nL D cl A Q cells slots ws (lv) (.int x :: st) (pc) :=
  fun H locs ls hP hD hS hl => lv_if_eq hC.1 hC.2.1 hd ht (fun h => kt h H locs ls hP hD hS hl) (fun h => kf h H locs ls hP hD hS hl)
theorem j_icmp_eq (hC : jC p s m args meth c cc nL own Ts D cl tys A) {x y : Int32} {off : Int} {tgt : Nat} (hd : decode cc pc = .ok (.if_icmp .eq off, 3)) (ht : (pc : Int) + off = (tgt : Int)) (kt : x = y → jJ p l e R s m args below meth c nL D cl A Q cells slots ws (lv) (st) (tgt)) (kf : ¬ x = y → jJ p l e R s m args below meth c nL D cl A Q cells slots ws (lv) (st) (pc + 3)) : jJ p l e R s m args below meth c nL D cl A Q cells slots ws (lv) (.int y :: .int x :: st) (pc) :=
  fun H locs ls hP hD hS hl => lv_icmp_eq hC.1 hC.2.1 hd ht (fun h => kt h H locs ls hP hD hS hl) (fun h => kf h H locs ls hP hD hS hl)
theorem j_if_ne (hC : jC p s m args meth c cc nL own Ts D cl tys A) {x : Int32} {off : Int} {tgt : Nat} (hd : decode cc pc = .ok (.ifCond .ne off, 3)) (ht : (pc : Int) + off = (tgt : Int)) (kt : ¬ x = 0 → jJ p l e R s m args below meth c nL D cl A Q cells slots ws (lv) (st) (tgt)) (kf : x = 0 → jJ p l e R s m args below meth c nL D cl A Q cells slots ws (lv) (st) (pc + 3)) : jJ p l e R s m args below meth c nL D cl A Q cells slots ws (lv) (.int x :: st) (pc) :=
  fun H locs ls hP hD hS hl => lv_if_ne hC.1 hC.2.1 hd ht (fun h => kt h H locs ls hP hD hS hl) (fun h => kf h H locs ls hP hD hS hl)
theorem j_icmp_ne (hC : jC p s m args meth c cc nL own Ts D cl tys A) {x y : Int32} {off : Int} {tgt : Nat} (hd : decode cc pc = .ok (.if_icmp .ne off, 3)) (ht : (pc : Int) + off = (tgt : Int)) (kt : ¬ x = y → jJ p l e R s m args below meth c nL D cl A Q cells slots ws (lv) (st) (tgt)) (kf : x = y → jJ p l e R s m args below meth c nL D cl A Q cells slots ws (lv) (st) (pc + 3)) : jJ p l e R s m args below meth c nL D cl A Q cells slots ws (lv) (.int y :: .int x :: st) (pc) :=
  fun H locs ls hP hD hS hl => lv_icmp_ne hC.1 hC.2.1 hd ht (fun h => kt h H locs ls hP hD hS hl) (fun h => kf h H locs ls hP hD hS hl)
theorem j_if_lt (hC : jC p s m args meth c cc nL own Ts D cl tys A) {x : Int32} {off : Int} {tgt : Nat} (hd : decode cc pc = .ok (.ifCond .lt off, 3)) (ht : (pc : Int) + off = (tgt : Int)) (kt : x < 0 → jJ p l e R s m args below meth c nL D cl A Q cells slots ws (lv) (st) (tgt)) (kf : ¬ x < 0 → jJ p l e R s m args below meth c nL D cl A Q cells slots ws (lv) (st) (pc + 3)) : jJ p l e R s m args below meth c nL D cl A Q cells slots ws (lv) (.int x :: st) (pc) :=
  fun H locs ls hP hD hS hl => lv_if_lt hC.1 hC.2.1 hd ht (fun h => kt h H locs ls hP hD hS hl) (fun h => kf h H locs ls hP hD hS hl)
theorem j_icmp_lt (hC : jC p s m args meth c cc nL own Ts D cl tys A) {x y : Int32} {off : Int} {tgt : Nat} (hd : decode cc pc = .ok (.if_icmp .lt off, 3)) (ht : (pc : Int) + off = (tgt : Int)) (kt : x < y → jJ p l e R s m args below meth c nL D cl A Q cells slots ws (lv) (st) (tgt)) (kf : ¬ x < y → jJ p l e R s m args below meth c nL D cl A Q cells slots ws (lv) (st) (pc + 3)) : jJ p l e R s m args below meth c nL D cl A Q cells slots ws (lv) (.int y :: .int x :: st) (pc) :=
  fun H locs ls hP hD hS hl => lv_icmp_lt hC.1 hC.2.1 hd ht (fun h => kt h H locs ls hP hD hS hl) (fun h => kf h H locs ls hP hD hS hl)
theorem j_if_ge (hC : jC p s m args meth c cc nL own Ts D cl tys A) {x : Int32} {off : Int} {tgt : Nat} (hd : decode cc pc = .ok (.ifCond .ge off, 3)) (ht : (pc : Int) + off = (tgt : Int)) (kt : 0 ≤ x → jJ p l e R s m args below meth c nL D cl A Q cells slots ws (lv) (st) (tgt)) (kf : ¬ 0 ≤ x → jJ p l e R s m args below meth c nL D cl A Q cells slots ws (lv) (st) (pc + 3)) : jJ p l e R s m args below meth c nL D cl A Q cells slots ws (lv) (.int x :: st) (pc) :=
  fun H locs ls hP hD hS hl => lv_if_ge hC.1 hC.2.1 hd ht (fun h => kt h H locs ls hP hD hS hl) (fun h => kf h H locs ls hP hD hS hl)
theorem j_icmp_ge (hC : jC p s m args meth c cc nL own Ts D cl tys A) {x y : Int32} {off : Int} {tgt : Nat} (hd : decode cc pc = .ok (.if_icmp .ge off, 3)) (ht : (pc : Int) + off = (tgt : Int)) (kt : y ≤ x → jJ p l e R s m args below meth c nL D cl A Q cells slots ws (lv) (st) (tgt)) (kf : ¬ y ≤ x → jJ p l e R s m args below meth c nL D cl A Q cells slots ws (lv) (st) (pc + 3)) : jJ p l e R s m args below meth c nL D cl A Q cells slots ws (lv) (.int y :: .int x :: st) (pc) :=
  fun H locs ls hP hD hS hl => lv_icmp_ge hC.1 hC.2.1 hd ht (fun h => kt h H locs ls hP hD hS hl) (fun h => kf h H locs ls hP hD hS hl)
theorem j_if_gt (hC : jC p s m args meth c cc nL own Ts D cl tys A) {x : Int32} {off : Int} {tgt : Nat} (hd : decode cc pc = .ok (.ifCond .gt off, 3)) (ht : (pc : Int) + off = (tgt : Int)) (kt : 0 < x → jJ p l e R s m args below meth c nL D cl A Q cells slots ws (lv) (st) (tgt)) (kf : ¬ 0 < x → jJ p l e R s m args below meth c nL D cl A Q cells slots ws (lv) (st) (pc + 3)) : jJ p l e R s m args below meth c nL D cl A Q cells slots ws (lv) (.int x :: st) (pc) :=
  fun H locs ls hP hD hS hl => lv_if_gt hC.1 hC.2.1 hd ht (fun h => kt h H locs ls hP hD hS hl) (fun h => kf h H locs ls hP hD hS hl)
theorem j_icmp_gt (hC : jC p s m args meth c cc nL own Ts D cl tys A) {x y : Int32} {off : Int} {tgt : Nat} (hd : decode cc pc = .ok (.if_icmp .gt off, 3)) (ht : (pc : Int) + off = (tgt : Int)) (kt : y < x → jJ p l e R s m args below meth c nL D cl A Q cells slots ws (lv) (st) (tgt)) (kf : ¬ y < x → jJ p l e R s m args below meth c nL D cl A Q cells slots ws (lv) (st) (pc + 3)) : jJ p l e R s m args below meth c nL D cl A Q cells slots ws (lv) (.int y :: .int x :: st) (pc) :=
  fun H locs ls hP hD hS hl => lv_icmp_gt hC.1 hC.2.1 hd ht (fun h => kt h H locs ls hP hD hS hl) (fun h => kf h H locs ls hP hD hS hl)
theorem j_if_le (hC : jC p s m args meth c cc nL own Ts D cl tys A) {x : Int32} {off : Int} {tgt : Nat} (hd : decode cc pc = .ok (.ifCond .le off, 3)) (ht : (pc : Int) + off = (tgt : Int)) (kt : x ≤ 0 → jJ p l e R s m args below meth c nL D cl A Q cells slots ws (lv) (st) (tgt)) (kf : ¬ x ≤ 0 → jJ p l e R s m args below meth c nL D cl A Q cells slots ws (lv) (st) (pc + 3)) : jJ p l e R s m args below meth c nL D cl A Q cells slots ws (lv) (.int x :: st) (pc) :=
  fun H locs ls hP hD hS hl => lv_if_le hC.1 hC.2.1 hd ht (fun h => kt h H locs ls hP hD hS hl) (fun h => kf h H locs ls hP hD hS hl)
theorem j_icmp_le (hC : jC p s m args meth c cc nL own Ts D cl tys A) {x y : Int32} {off : Int} {tgt : Nat} (hd : decode cc pc = .ok (.if_icmp .le off, 3)) (ht : (pc : Int) + off = (tgt : Int)) (kt : x ≤ y → jJ p l e R s m args below meth c nL D cl A Q cells slots ws (lv) (st) (tgt)) (kf : ¬ x ≤ y → jJ p l e R s m args below meth c nL D cl A Q cells slots ws (lv) (st) (pc + 3)) : jJ p l e R s m args below meth c nL D cl A Q cells slots ws (lv) (.int y :: .int x :: st) (pc) :=
  fun H locs ls hP hD hS hl => lv_icmp_le hC.1 hC.2.1 hd ht (fun h => kt h H locs ls hP hD hS hl) (fun h => kf h H locs ls hP hD hS hl)
theorem j_get (hC : jC p s m args meth c cc nL own Ts D cl tys A) {ref C : String} {T : u_T} {N ci index : Nat} (hin : ∀ w ∈ u_ws C T N, w ∈ Ts) {a : Nat} (q0 : Nat) {fs : List Value} (he : ws[q0]? = some (a, .inr (ci, fs))) (hc : cl[ci]? = some (C, T, N)) (k : Nat) (hk : k < N) (hlink : (Cond.fieldLink own index ref (T k).2.1 (T k).2.2.1).before args s = true) (hsame : ∀ x, s.fieldFound? (T k).1 (T k).2.1 (T k).2.2.1 = some x → s.fieldFound? ref (T k).2.1 (T k).2.2.1 = some x) {v : Value} (hv : fs[k]? = some v) (hd : decode cc pc = .ok (.getfield index, 3)) (kk : jJ p l e R s m args below meth c nL D cl A Q cells slots ws (lv) (v :: st) (pc + 3)) : jJ p l e R s m args below meth c nL D cl A Q cells slots ws (lv) (.ref a :: st) (pc) :=
  fun H locs ls hP hD hS hl => va_get hC.1 hC.2.1 hC.2.2.2.2.1 hin hC.2.2.2.1 hC.2.2.2.2.2.1 hP q0 he hc k hk hlink hsame hv hd (kk H locs ls hP hD hS hl)
theorem j_getN (hC : jC p s m args meth c cc nL own Ts D cl tys A) {host : String} {ref C : String} {T : u_T} {N ci index : Nat} (hin : ∀ w ∈ u_ws C T N, w ∈ Ts) {a : Nat} (q0 : Nat) {fs : List Value} (he : ws[q0]? = some (a, .inr (ci, fs))) (hc : cl[ci]? = some (C, T, N)) (k : Nat) (hk : k < N) (hlink : (Cond.fieldLinkNest own index ref (T k).2.1 (T k).2.2.1 host).before args s = true) (hsame : ∀ x, s.fieldFound? (T k).1 (T k).2.1 (T k).2.2.1 = some x → s.fieldFound? ref (T k).2.1 (T k).2.2.1 = some x) {v : Value} (hv : fs[k]? = some v) (hd : decode cc pc = .ok (.getfield index, 3)) (kk : jJ p l e R s m args below meth c nL D cl A Q cells slots ws (lv) (v :: st) (pc + 3)) : jJ p l e R s m args below meth c nL D cl A Q cells slots ws (lv) (.ref a :: st) (pc) :=
  fun H locs ls hP hD hS hl => va_getN hC.1 hC.2.1 hC.2.2.2.2.1 hin hC.2.2.2.1 hC.2.2.2.2.2.1 hP q0 he hc k hk hlink hsame hv hd (kk H locs ls hP hD hS hl)
theorem j_put (hC : jC p s m args meth c cc nL own Ts D cl tys A) {ref C : String} {T : u_T} {N ci index : Nat} (hin : ∀ w ∈ u_ws C T N, w ∈ Ts) (ty0 : Nat → FieldType) (hty : ∀ k, k < N → parseFieldDescriptor (T k).2.2.1 = some (ty0 k)) (hnm : ∀ a, a < N → ∀ b, b < N → a ≠ b → (T a).2.1 ≠ (T b).2.1) {a : Nat} (q0 : Nat) {fs : List Value} (he : ws[q0]? = some (a, .inr (ci, fs))) (hc : cl[ci]? = some (C, T, N)) (k : Nat) (hk : k < N) (hlink : (Cond.fieldLink own index ref (T k).2.1 (T k).2.2.1).before args s = true) (hsame : ∀ x, s.fieldFound? (T k).1 (T k).2.1 (T k).2.2.1 = some x → s.fieldFound? ref (T k).2.1 (T k).2.2.1 = some x) (hfin : (T k).2.2.2 = false) {ty : FieldType} {v : Value} (hdt : parseFieldDescriptor (T k).2.2.1 = some ty) (hn : narrow ty v = v) (hfit : fits ty v = true) (hl0 : k < fs.length) {ws' : va_W} (hw : ws.set q0 (a, .inr (ci, fs.set k v)) = ws') (hd : decode cc pc = .ok (.putfield index, 3)) (kk : jJ p l e R s m args below meth c nL D cl A Q cells slots ws' (lv) (st) (pc + 3)) : jJ p l e R s m args below meth c nL D cl A Q cells slots ws (lv) (v :: .ref a :: st) (pc) :=
  fun H locs ls hP hD hS hl => va_put hC.1 hC.2.1 hC.2.2.2.2.1 hin ty0 hty hnm hC.2.2.2.1 hC.2.2.2.2.2.1 hP hD hS q0 he hc k hk hlink hsame hfin hdt hn hfit hl0 hd (fun H1 locs1 hP1 hD1 hS1 => kk H1 locs1 ls (hw ▸ hP1) (hw ▸ hD1) hS1 hl)
theorem j_putN (hC : jC p s m args meth c cc nL own Ts D cl tys A) {host : String} {ref C : String} {T : u_T} {N ci index : Nat} (hin : ∀ w ∈ u_ws C T N, w ∈ Ts) (ty0 : Nat → FieldType) (hty : ∀ k, k < N → parseFieldDescriptor (T k).2.2.1 = some (ty0 k)) (hnm : ∀ a, a < N → ∀ b, b < N → a ≠ b → (T a).2.1 ≠ (T b).2.1) {a : Nat} (q0 : Nat) {fs : List Value} (he : ws[q0]? = some (a, .inr (ci, fs))) (hc : cl[ci]? = some (C, T, N)) (k : Nat) (hk : k < N) (hlink : (Cond.fieldLinkNest own index ref (T k).2.1 (T k).2.2.1 host).before args s = true) (hsame : ∀ x, s.fieldFound? (T k).1 (T k).2.1 (T k).2.2.1 = some x → s.fieldFound? ref (T k).2.1 (T k).2.2.1 = some x) (hfin : (T k).2.2.2 = false) {ty : FieldType} {v : Value} (hdt : parseFieldDescriptor (T k).2.2.1 = some ty) (hn : narrow ty v = v) (hfit : fits ty v = true) (hl0 : k < fs.length) {ws' : va_W} (hw : ws.set q0 (a, .inr (ci, fs.set k v)) = ws') (hd : decode cc pc = .ok (.putfield index, 3)) (kk : jJ p l e R s m args below meth c nL D cl A Q cells slots ws' (lv) (st) (pc + 3)) : jJ p l e R s m args below meth c nL D cl A Q cells slots ws (lv) (v :: .ref a :: st) (pc) :=
  fun H locs ls hP hD hS hl => va_putN hC.1 hC.2.1 hC.2.2.2.2.1 hin ty0 hty hnm hC.2.2.2.1 hC.2.2.2.2.2.1 hP hD hS q0 he hc k hk hlink hsame hfin hdt hn hfit hl0 hd (fun H1 locs1 hP1 hD1 hS1 => kk H1 locs1 ls (hw ▸ hP1) (hw ▸ hD1) hS1 hl)
theorem j_putF (hC : jC p s m args meth c cc nL own Ts D cl tys A) {ref C : String} {T : u_T} {N ci index : Nat} (hin : ∀ w ∈ u_ws C T N, w ∈ Ts) (ty0 : Nat → FieldType) (hty : ∀ k, k < N → parseFieldDescriptor (T k).2.2.1 = some (ty0 k)) (hnm : ∀ a, a < N → ∀ b, b < N → a ≠ b → (T a).2.1 ≠ (T b).2.1) {a : Nat} (q0 : Nat) {fs : List Value} (he : ws[q0]? = some (a, .inr (ci, fs))) (hc : cl[ci]? = some (C, T, N)) (k : Nat) (hk : k < N) (hlink : (Cond.fieldLink own index ref (T k).2.1 (T k).2.2.1).before args s = true) (hsame : ∀ x, s.fieldFound? (T k).1 (T k).2.1 (T k).2.2.1 = some x → s.fieldFound? ref (T k).2.1 (T k).2.2.1 = some x) (hfin : (T k).2.2.2 = true) (hin2 : meth.name = "<init>") (hdecl : (T k).1 = own) {ty : FieldType} {v : Value} (hdt : parseFieldDescriptor (T k).2.2.1 = some ty) (hn : narrow ty v = v) (hfit : fits ty v = true) (hl0 : k < fs.length) {ws' : va_W} (hw : ws.set q0 (a, .inr (ci, fs.set k v)) = ws') (hd : decode cc pc = .ok (.putfield index, 3)) (kk : jJ p l e R s m args below meth c nL D cl A Q cells slots ws' (lv) (st) (pc + 3)) : jJ p l e R s m args below meth c nL D cl A Q cells slots ws (lv) (v :: .ref a :: st) (pc) :=
  fun H locs ls hP hD hS hl => va_putF hC.1 hC.2.1 hC.2.2.2.2.1 hin ty0 hty hnm hC.2.2.2.1 hC.2.2.2.2.2.1 hP hD hS q0 he hc k hk hlink hsame hfin hin2 hdecl hdt hn hfit hl0 hd (fun H1 locs1 hP1 hD1 hS1 => kk H1 locs1 ls (hw ▸ hP1) (hw ▸ hD1) hS1 hl)
theorem j_iald (hC : jC p s m args meth c cc nL own Ts D cl tys A) {a : Nat} (q0 t0 : Nat) {cA : ClassId} {n : Nat} {f : Nat → Int32} (ha : ws[q0]? = some (a, .inl (cA, n, .inl f))) (ht : tys[t0]? = some (cA, .int)) {i : Int32} {v : Int32} (hin : vp_in i n) (hv : f i.toNatClampNeg = v) (hd : decode cc pc = .ok (.iaload, 1)) (kk : jJ p l e R s m args below meth c nL D cl A Q cells slots ws (lv) (.int v :: st) (pc + 1)) : jJ p l e R s m args below meth c nL D cl A Q cells slots ws (lv) (.int i :: .ref a :: st) (pc) :=
  fun H locs ls hP hD hS hl => va_iald hC.1 hC.2.1 hC.2.2.2.2.2.1 hP q0 t0 ha ht hin hd (by rw [hv]; exact kk H locs ls hP hD hS hl)
theorem j_zald (hC : jC p s m args meth c cc nL own Ts D cl tys A) {a : Nat} (q0 t0 : Nat) {cA : ClassId} {n : Nat} {f : Nat → Int32} (ha : ws[q0]? = some (a, .inl (cA, n, .inl f))) (ht : tys[t0]? = some (cA, .boolean)) {i : Int32} {v : Int32} (hin : vp_in i n) (hv : f i.toNatClampNeg = v) (hd : decode cc pc = .ok (.baload, 1)) (kk : jJ p l e R s m args below meth c nL D cl A Q cells slots ws (lv) (.int v :: st) (pc + 1)) : jJ p l e R s m args below meth c nL D cl A Q cells slots ws (lv) (.int i :: .ref a :: st) (pc) :=
  fun H locs ls hP hD hS hl => va_zald hC.1 hC.2.1 hC.2.2.2.2.2.1 hP q0 t0 ha ht hin hd (by rw [hv]; exact kk H locs ls hP hD hS hl)
theorem j_bald (hC : jC p s m args meth c cc nL own Ts D cl tys A) {a : Nat} (q0 t0 : Nat) {cA : ClassId} {n : Nat} {f : Nat → Int32} (ha : ws[q0]? = some (a, .inl (cA, n, .inl f))) (ht : tys[t0]? = some (cA, .byte)) {i : Int32} {v : Int32} (hin : vp_in i n) (hv : f i.toNatClampNeg = v) (hd : decode cc pc = .ok (.baload, 1)) (kk : jJ p l e R s m args below meth c nL D cl A Q cells slots ws (lv) (.int v :: st) (pc + 1)) : jJ p l e R s m args below meth c nL D cl A Q cells slots ws (lv) (.int i :: .ref a :: st) (pc) :=
  fun H locs ls hP hD hS hl => va_bald hC.1 hC.2.1 hC.2.2.2.2.2.1 hP q0 t0 ha ht hin hd (by rw [hv]; exact kk H locs ls hP hD hS hl)
theorem j_iast (hC : jC p s m args meth c cc nL own Ts D cl tys A) {a : Nat} (q0 t0 : Nat) {cA : ClassId} {n : Nat} {f : Nat → Int32} (ha : ws[q0]? = some (a, .inl (cA, n, .inl f))) (ht : tys[t0]? = some (cA, .int)) {i x : Int32} (hin : vp_in i n) {ws' : va_W} (hw : ws.set q0 (a, .inl (cA, n, .inl (upd f i.toNatClampNeg x))) = ws') (hd : decode cc pc = .ok (.iastore, 1)) (kk : jJ p l e R s m args below meth c nL D cl A Q cells slots ws' (lv) (st) (pc + 1)) : jJ p l e R s m args below meth c nL D cl A Q cells slots ws (lv) (.int x :: .int i :: .ref a :: st) (pc) :=
  fun H locs ls hP hD hS hl => va_iast hC.1 hC.2.1 hC.2.2.2.2.2.1 hP hD hS q0 t0 ha ht hin hd (fun H1 locs1 hP1 hD1 hS1 => kk H1 locs1 ls (hw ▸ hP1) (hw ▸ hD1) hS1 hl)
theorem j_aald (hC : jC p s m args meth c cc nL own Ts D cl tys A) {a : Nat} (q0 t0 : Nat) {cA : ClassId} {C : String} {n : Nat} {f : Nat → Option Nat} (ha : ws[q0]? = some (a, .inl (cA, n, .inr (.inr (.inr (.inr f)))))) (ht : tys[t0]? = some (cA, .object C)) {i : Int32} (hin : vp_in i n) {v : Nat} (hv : f i.toNatClampNeg = some v) (hd : decode cc pc = .ok (.aaload, 1)) (kk : jJ p l e R s m args below meth c nL D cl A Q cells slots ws (lv) (.ref v :: st) (pc + 1)) : jJ p l e R s m args below meth c nL D cl A Q cells slots ws (lv) (.int i :: .ref a :: st) (pc) :=
  fun H locs ls hP hD hS hl => va_aldq hC.1 hC.2.1 hC.2.2.2.2.2.1 hP q0 t0 ha ht hin hd (by rw [hv]; exact kk H locs ls hP hD hS hl)
theorem j_alen (hC : jC p s m args meth c cc nL own Ts D cl tys A) {a : Nat} (q0 t0 : Nat) {cA : ClassId} {x : vp_A} (ha : ws[q0]? = some (a, .inl (cA, x))) {ty : FieldType} (ht : tys[t0]? = some (cA, ty)) {v : Int32} (hv : Int32.ofNat x.1 = v) (hd : decode cc pc = .ok (.arraylength, 1)) (kk : jJ p l e R s m args below meth c nL D cl A Q cells slots ws (lv) (.int v :: st) (pc + 1)) : jJ p l e R s m args below meth c nL D cl A Q cells slots ws (lv) (.ref a :: st) (pc) :=
  fun H locs ls hP hD hS hl => va_alen hC.1 hC.2.1 hC.2.2.2.2.2.1 hP q0 t0 ha ht hv hd (kk H locs ls hP hD hS hl)
theorem j_ialdN (hC : jC p s m args meth c cc nL own Ts D cl tys A) {a : Nat} (q0 t0 : Nat) {cA : ClassId} {N : Nat} {f : Nat → Int32} (ha : ws[q0]? = some (a, .inl (cA, N, .inl f))) (ht : tys[t0]? = some (cA, .int)) {n : Nat} {i : Int32} (hi : i = nI n) (hn : n < N) (hN : N < 2 ^ 31) (hd : decode cc pc = .ok (.iaload, 1)) (kk : jJ p l e R s m args below meth c nL D cl A Q cells slots ws (lv) (.int (f n) :: st) (pc + 1)) : jJ p l e R s m args below meth c nL D cl A Q cells slots ws (lv) (.int i :: .ref a :: st) (pc) :=
  j_iald hC q0 t0 ha ht (by rw [hi]; exact vp_in_nI hn hN) (by rw [hi, nI_clamp (Nat.lt_trans hn hN)]) hd kk
theorem j_zaldN (hC : jC p s m args meth c cc nL own Ts D cl tys A) {a : Nat} (q0 t0 : Nat) {cA : ClassId} {N : Nat} {f : Nat → Int32} (ha : ws[q0]? = some (a, .inl (cA, N, .inl f))) (ht : tys[t0]? = some (cA, .boolean)) {n : Nat} {i : Int32} (hi : i = nI n) (hn : n < N) (hN : N < 2 ^ 31) (hd : decode cc pc = .ok (.baload, 1)) (kk : jJ p l e R s m args below meth c nL D cl A Q cells slots ws (lv) (.int (f n) :: st) (pc + 1)) : jJ p l e R s m args below meth c nL D cl A Q cells slots ws (lv) (.int i :: .ref a :: st) (pc) :=
  j_zald hC q0 t0 ha ht (by rw [hi]; exact vp_in_nI hn hN) (by rw [hi, nI_clamp (Nat.lt_trans hn hN)]) hd kk
theorem j_iastN (hC : jC p s m args meth c cc nL own Ts D cl tys A) {a : Nat} (q0 t0 : Nat) {cA : ClassId} {N : Nat} {f : Nat → Int32} (ha : ws[q0]? = some (a, .inl (cA, N, .inl f))) (ht : tys[t0]? = some (cA, .int)) {n : Nat} {i x : Int32} (hi : i = nI n) (hn : n < N) (hN : N < 2 ^ 31) {ws' : va_W} (hw : ws.set q0 (a, .inl (cA, N, .inl (upd f n x))) = ws') (hd : decode cc pc = .ok (.iastore, 1)) (kk : jJ p l e R s m args below meth c nL D cl A Q cells slots ws' (lv) (st) (pc + 1)) : jJ p l e R s m args below meth c nL D cl A Q cells slots ws (lv) (.int x :: .int i :: .ref a :: st) (pc) :=
  j_iast hC q0 t0 ha ht (by rw [hi]; exact vp_in_nI hn hN) (by rw [hi, nI_clamp (Nat.lt_trans hn hN)]; exact hw) hd kk
theorem j_aaldN (hC : jC p s m args meth c cc nL own Ts D cl tys A) {a : Nat} (q0 t0 : Nat) {cA : ClassId} {C : String} {N : Nat} {f : Nat → Option Nat} (ha : ws[q0]? = some (a, .inl (cA, N, .inr (.inr (.inr (.inr f)))))) (ht : tys[t0]? = some (cA, .object C)) {n : Nat} {i : Int32} (hi : i = nI n) (hn : n < N) (hN : N < 2 ^ 31) {v : Nat} (hv : f n = some v) (hd : decode cc pc = .ok (.aaload, 1)) (kk : jJ p l e R s m args below meth c nL D cl A Q cells slots ws (lv) (.ref v :: st) (pc + 1)) : jJ p l e R s m args below meth c nL D cl A Q cells slots ws (lv) (.int i :: .ref a :: st) (pc) :=
  j_aald hC q0 t0 ha ht (by rw [hi]; exact vp_in_nI hn hN) (by rw [hi, nI_clamp (Nat.lt_trans hn hN)]; exact hv) hd kk
end JL
