-- contracts in words of cells; calls, returns, exceptions
/-- the object x is an exception of the class of that name -/
def jThrown (s : State) (cn : String) (x : Addr) (H : Heap) : Prop := ∃ cell : Cell, H[x]? = some cell ∧ cell.vm.isStatics = false ∧ s.vm.findClass cn = some cell.cls
def jO (post : Option String → Option Value → va_W → Prop) (oc : Outcome) (w : va_W) (t : State) : Prop := match oc with
  | .returned v => post none v w
  | .threw x => ∃ cn, post (some cn) none w ∧ jThrown t cn x t.heap
def jQ (D : va_G) (cl : List vw_C) (post : Option String → Option Value → va_W → Prop) (A : Nat → Prop) : Array Value → State → Outcome → State → Prop := fun _ st oc t => (∃ w, jO post oc w t ∧ va_P D cl w t.heap ∧ va_D A w) ∧ va_F A st t
def jPc (D : va_G) (cl : List vw_C) (tys : List (ClassId × FieldType)) (Ts : List Cond) (av : List Value) (ws : va_W) (sz : Nat) : Array Value → State → Prop :=
  va_Pc av (fun U => U.heap.size = sz ∧ jW Ts U ∧ jZ (va_A ws sz) U U.heap ∧ va_P D cl ws U.heap ∧ va_K D cl tys U ∧ va_D (fun _ => True) ws)
/-- the contract of a method: from arguments av and cells ws it returns or throws, 'post' says what, and which cells it leaves; it makes at most mc cells of ms slots -/
def jMet (l : Launch) (y : MethodName) (cw0 : Cond) (rm : Room) (D : va_G) (cl : List vw_C) (tys : List (ClassId × FieldType)) (Ts : List Cond) (av : List Value) (ws : va_W) (mc ms : Nat) (post : Option String → Option Value → va_W → Prop) : Prop :=
  ∀ sz : Nat, MetX l y [cw0] rm (jPc D cl tys Ts av ws sz) (jQ D cl post (va_A ws sz)) mc ms (va_A ws sz)
theorem jZ.go {A B : Nat → Prop} {u U : State} {H H1 : Heap} (h : jZ A u H) (hvm : u.vm.Alike U.vm) (hq : ∀ a : Nat, a < H.size → ¬ A a → H1[a]? = H[a]?) (hAB : ∀ q, B q → A q) : jZ B U H1 :=
  ⟨h.1.go hvm hq hAB, h.2.go hvm hq hAB⟩
theorem jW.go {Ts : List Cond} {u U : State} (h : jW Ts u) (hW : u.WarmedH U.vm) : jW Ts U := fun w hw a' U' h' => h w hw a' U' (State.WarmedH.trans hW h')
theorem jThrown.go {u U : State} {cn : String} {x : Addr} {H : Heap} (h : jThrown u cn x H) (hvm : u.vm.Alike U.vm) : jThrown U cn x H := by
  obtain ⟨cell, h1, h2, h3⟩ := h
  exact ⟨cell, h1, h2, by rw [hvm.findClass]; exact h3⟩
section JX
variable {p : Program} {l : Launch} {e : Env} {R : Room} {s : State} {m : MethodId} {args : Array Value} {below : List Frame} {meth : Method} {c : Code} {Q : State → Prop} {cells slots : Nat}
variable {cc : ByteArray} {nL : Nat} {own : String} {Ts : List Cond} {D : va_G} {cl : List vw_C} {tys : List (ClassId × FieldType)} {A : Nat → Prop}
variable {pc : Nat} {lv : List (Nat × Value)} {st : List Value} {ws : va_W} {post : Option String → Option Value → va_W → Prop}
/-- the walk with an exception of the class cn under way -/
def jT (p : Program) (l : Launch) (e : Env) (R : Room) (s : State) (m : MethodId) (args : Array Value) (below : List Frame) (meth : Method) (c : Code) (nL : Nat) (D : va_G) (cl : List vw_C) (A : Nat → Prop) (Q : State → Prop) (cells slots : Nat) (cn : String) (ws : va_W) (lv : List (Nat × Value)) (pc : Nat) : Prop :=
  ∀ (H : Heap) (locs : List Loc) (ls : Array Slot) (x : Addr) (st : List Value), va_P D cl ws H → va_D A ws → va_S A s.heap H locs → lv_has ls nL lv → jThrown s cn x H → WT p l e R s m args below meth c H locs cells slots Q x (F0 m pc ls st)
/-- a contract out of the walk of the body -/
theorem jMet.of {y : MethodName} {ret : Option FieldType} {rm : Room} {av : List Value} {mc ms : Nat} (hy : plainName y.cls = true) (hlen : (lg_sl av).length ≤ nL)
    (body : ∀ (p : Program) (e : Env) (s : State) (m : MethodId) (below : List Frame) (meth : Method) (c : Code) (A : Nat → Prop), jC p s m av.toArray meth c cc nL y.cls Ts D cl tys A → c.exceptionTable.isEmpty = true → meth.sig.returnType = ret → meth.name = y.name → e.platform.stackTraces = l.stackTraces →
      jJ p l e rm s m av.toArray below meth c nL D cl A (hxQ below (jQ D cl post A) av.toArray s mc ms A) 0 0 ws (lv_args 0 av) [] 0) : jMet l y (.code y cc nL ret) rm D cl tys Ts av ws mc ms post := by
  intro sz
  refine MetX.ofW (cc := cc) (maxL := nL) (ret := ret) hy rfl ?_
  intro p e s m args below meth c s₁ B hml hv
  obtain ⟨rfl, hsz, hw, hz, hP, hK, hD0⟩ := hv
  subst hsz
  have hcode : (Cond.code y cc nL ret).before av.toArray s = true := atoms_spec (ws := [Cond.code y cc nL ret]) B.pre _ List.mem_cons_self
  have hD := hD0.self (sz := s.heap.size)
  have hA : ∀ q : Nat, s.heap.size ≤ q → va_A ws s.heap.size q := fun q h => Or.inr h
  have hC : jC p s m av.toArray meth c cc nL y.cls Ts D cl tys (va_A ws s.heap.size) :=
    ⟨B.exec, B.bytes, hml, findClass_of_methodNamed B.named, fun w h => hw w h _ s (State.WarmedH.refl s), hK, hA, hw, hz, B.notSynchronized⟩
  have hl := lv_entry av (n := nL) hlen
  have k := body p e s m below meth c _ hC (B.noHandlers hcode) B.returns (name_of_methodNamed B.named B.method).1 (by rw [(Stand.of_body B).admits.platform])
  have k2 := k s.heap [] _ hP hD va_S.rf hl
  rw [lg_entry_eq]
  exact k2
theorem j_iret (hC : jC p s m args meth c cc nL own Ts D cl tys A) (hr : meth.sig.returnType = some .int) {v : Int32} (hp : post none (some (.int v)) ws) (hd : decode cc pc = .ok (.ireturn, 1)) :
    jJ p l e R s m args below meth c nL D cl A (hxQ below (jQ D cl post A) args s cells slots A) cells slots ws lv [.int v] pc :=
  fun H locs ls hP hD hS hl => W.mono (fun t => hxQ.of) (W.iret hC.1 hC.2.1 hr (fun t ht hW => ⟨⟨ws, hp, by rw [ht]; exact hP, hD⟩, hS.F ht⟩) hS.2.2 hd hC.2.2.2.2.2.2.2.2.2)
theorem j_zret (hC : jC p s m args meth c cc nL own Ts D cl tys A) {ty : FieldType} (hr : meth.sig.returnType = some ty) {v : Int32} (hn : narrow ty (.int v) = .int v) (hp : post none (some (.int v)) ws) (hd : decode cc pc = .ok (.ireturn, 1)) :
    jJ p l e R s m args below meth c nL D cl A (hxQ below (jQ D cl post A) args s cells slots A) cells slots ws lv [.int v] pc :=
  fun H locs ls hP hD hS hl => W.mono (fun t => hxQ.of) (W.zret hC.1 hC.2.1 hr hn (fun t ht hW => ⟨⟨ws, hp, by rw [ht]; exact hP, hD⟩, hS.F ht⟩) hS.2.2 hd hC.2.2.2.2.2.2.2.2.2)
theorem j_vret (hC : jC p s m args meth c cc nL own Ts D cl tys A) (hr : meth.sig.returnType = none) (hp : post none none ws) (hd : decode cc pc = .ok (.return_, 1)) :
    jJ p l e R s m args below meth c nL D cl A (hxQ below (jQ D cl post A) args s cells slots A) cells slots ws lv [] pc :=
  fun H locs ls hP hD hS hl => W.mono (fun t => hxQ.of) (W.vret hC.1 hC.2.1 hr (fun t ht hW => ⟨⟨ws, hp, by rw [ht]; exact hP, hD⟩, hS.F ht⟩) hS.2.2 hd hC.2.2.2.2.2.2.2.2.2)
/-- an exception goes out of a method without handlers -/
theorem j_out (hC : jC p s m args meth c cc nL own Ts D cl tys A) (hex : c.exceptionTable.isEmpty = true) {cn : String} (hp : post (some cn) none ws) :
    jT p l e R s m args below meth c nL D cl A (hxQ below (jQ D cl post A) args s cells slots A) cells slots cn ws lv pc :=
  fun H locs ls x st hP hD hS hl hx => hx_out hC.2.2.2.2.2.2.2.2.2 (covers_of_empty hex _) (fun t ht hW => ⟨⟨ws, ⟨cn, hp, by rw [ht]; exact hx.go hW.alike⟩, by rw [ht]; exact hP, hD⟩, hS.F ht⟩) hS.2.2
theorem va_A_sub {A0 : Nat → Prop} {w : va_W} {H0 H : Heap} {locs : List Loc} (hD : va_D A0 w) (hS : va_S A0 H0 H locs) (hA : ∀ q, H0.size ≤ q → A0 q) : ∀ q, va_A w H.size q → A0 q := by
  intro q h
  rcases h with ⟨k, e, h⟩ | h
  · exact hD.2 k _ h
  · exact hA q (Nat.le_trans hS.1 h)
/-- a call on the whole of the cells -/
theorem j_call {y : MethodName} {cw0 : Cond} {rm : Room} {mc ms maxL : Nat} {av st0 rest : List Value} {ig : Instr} (hC : jC p s m args meth c cc nL own Ts D cl tys A)
    (hM : jMet l y cw0 rm D cl tys Ts av ws mc ms post) (hrc : rm.cells = mc) (hrs : rm.slots = ms) (hcw : cw0 ∈ Ts) (hini : Cond.initialized y.cls ∈ Ts)
    (hlY : ∀ (U : State) (mk : MethodId) (a : Array Value), cw0.before a U = true → U.methodNamed? y = some mk → ∃ (methY : Method) (cY : Code), U.vm.method? mk = some methY ∧ methY.code = some cY ∧ cY.maxLocals = maxL)
    (inv : ∀ (H : Heap) (locs : List Loc) (ls : Array Slot), va_P D cl ws H → ls.size = c.maxLocals → ∀ T : State, T.heap = H → Stand p l e R s m args below meth c T locs cells slots → ∃ (vm₁ : Vm) (mk : MethodId), Stand p l e R s m args below meth c (T.setVm vm₁) locs cells slots ∧ (T.setVm vm₁).methodNamed? y = some mk ∧
      ∀ target, Steps p.tables e below (doInvoke e ((T.setVm vm₁).setTop (F0 m pc ls rest)) [] mk av.toArray).1 target → Steps p.tables e below (T.setTop (F0 m pc ls st0)) target)
    (hd : decode cc pc = .ok (ig, 3)) (hW : (rest.map fun v => v.category).sum ≤ 8)
    (hframes : rm.frames + 1 ≤ R.frames) (hlocals : 8 + (maxL + 11) + rm.locals ≤ R.locals) (hcells : cells + mc ≤ R.cells) (hslots : slots + ms ≤ R.slots)
    (kr : ∀ (v : Option Value) (w : va_W), post none v w → jJ p l e R s m args below meth c nL D cl A Q (cells + mc) (slots + ms) w lv (v.toList ++ rest) (pc + 3))
    (kt : ∀ (cn : String) (w : va_W), post (some cn) none w → jT p l e R s m args below meth c nL D cl A Q (cells + mc) (slots + ms) cn w lv pc) :
    jJ p l e R s m args below meth c nL D cl A Q cells slots ws lv st0 pc := by
  intro H locs ls hP hD hS hl
  obtain ⟨hx, hb, hml, hown, hts, hK, hA, hw, hz, hlocks⟩ := hC
  have hF := va_A_sub hD hS hA
  have hsz : ls.size = c.maxLocals := hl.1.trans hml.symm
  have back : ∀ (u t : State) (L : List Loc), u.heap = H → va_F (va_A ws H.size) u t → (∀ q ∈ L, va_A ws H.size q.base) → va_S A s.heap t.heap (locs ++ L) := by
    intro u t L hu hFt hL
    refine ⟨Nat.le_trans hS.1 (by have := hFt.1; rw [hu] at this; exact this), fun q h1 h2 => ?_, fun q hq => ?_⟩
    · have h3 := hFt.2 q (by rw [hu]; exact Nat.lt_of_lt_of_le h1 hS.1) (fun z => h2 (hF q z))
      rw [hu] at h3
      rw [h3]
      exact hS.2.1 q h1 h2
    · rcases List.mem_append.mp hq with h | h
      · exact hS.2.2 q h
      · exact hF _ (hL q h)
  refine hx_W (hM H.size) hrc hrs (inv H locs ls hP hsz) hsz (by rw [hb]; exact hd) hW (fun U mk hU hn => hlY U mk #[] (hw _ hcw _ _ hU) hn) (fun U hU => hw _ hini _ _ hU) (fun w0 h0 U hU => by rw [List.mem_singleton.mp h0]; exact hw _ hcw _ _ hU) hframes hlocals hcells hslots (fun U hU hWU => ?_) (fun v u t L hu hWu hq hL hWt => ?_) (fun x u t L hu hWu hq hL hWt => ?_)
  · exact ⟨rfl, by rw [hU], hw.go hWU, hz.go hWU.alike (fun a h1 h2 => by rw [hU]; exact hS.2.1 a h1 h2) hF, by rw [hU]; exact hP, va_K.moved hWU.alike hK, hD.weaken (fun _ _ _ _ => trivial)⟩
  · obtain ⟨⟨w, hp, hP1, hD1⟩, hFt⟩ := hq
    exact kr v w hp t.heap (locs ++ L) ls hP1 (hD1.weaken (fun _ _ _ h => hF _ h)) (back u t L hu hFt hL) hl
  · obtain ⟨⟨w, ⟨cn, hp, hx9⟩, hP1, hD1⟩, hFt⟩ := hq
    exact kt cn w hp t.heap (locs ++ L) ls x rest hP1 (hD1.weaken (fun _ _ _ h => hF _ h)) (back u t L hu hFt hL) hl (hx9.go hWt.alike.symm)
end JX
