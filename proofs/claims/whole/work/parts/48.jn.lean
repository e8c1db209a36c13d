-- making: objects, arrays, constructors
section JN
variable {p : Program} {l : Launch} {e : Env} {R : Room} {s : State} {m : MethodId} {args : Array Value} {below : List Frame} {meth : Method} {c : Code} {Q : State → Prop} {cells slots : Nat}
variable {cc : ByteArray} {nL : Nat} {own : String} {Ts : List Cond} {D : va_G} {cl : List vw_C} {tys : List (ClassId × FieldType)} {A : Nat → Prop}
variable {pc : Nat} {lv : List (Nat × Value)} {st : List Value} {ws : va_W} {post : Option String → Option Value → va_W → Prop}
variable {y : MethodName} {bytes : ByteArray} {maxL index mc ms : Nat} {ret : Option FieldType} {rm : Room} {As rest st0 : List Value}
theorem va_RA_inj {U : State} {a b : ClassId} {ty : FieldType} (h1 : va_RA U a ty) (h2 : va_RA U b ty) : a = b := by
  cases ty with
  | object C =>
    obtain ⟨-, -, -, -, -, h1⟩ := h1
    obtain ⟨-, -, -, -, -, h2⟩ := h2
    exact Option.some.inj (h1.symm.trans h2)
  | _ => exact Option.some.inj ((show U.vm.findClass _ = some a from h1).symm.trans (show U.vm.findClass _ = some b from h2))
theorem va_K_last {U : State} {cA : ClassId} {ty : FieldType} (h : va_K D cl (tys ++ [(cA, ty)]) U) : va_RA U cA ty := (h.2 (tys.length + 0) (cA, ty) (ap_r rfl)).2
theorem j_new (hC : jC p s m args meth c cc nL own Ts D cl tys A) {C : String} {T : u_T} {N ci : Nat} (hin : ∀ w ∈ u_ws C T N, w ∈ Ts) (ty0 : Nat → FieldType) (hty : ∀ k, k < N → parseFieldDescriptor (T k).2.2.1 = some (ty0 k)) (hw : ∀ w ∈ [Cond.classLink own index C, .instantiable C N, .initialized C], w ∈ Ts) (hc : cl[ci]? = some (C, T, N)) {fs : List Value} (hfs : ∀ j, j < N → defaultValue (ty0 j) = vp_V fs j) (hcs : cells + 1 ≤ R.cells ∧ slots + N ≤ R.slots) (hd : decode cc pc = .ok (.new index, 3))
    (kk : ∀ q : Nat, jJ p l e R s m args below meth c nL D cl A Q (cells + 1) (slots + N) (ws ++ [(q, .inr (ci, fs))]) lv (.ref q :: st) (pc + 3)) : jJ p l e R s m args below meth c nL D cl A Q cells slots ws lv st pc :=
  fun H locs ls hP hD hS hl => va_new hC.1 hC.2.1 hC.2.2.2.2.1 hin ty0 hty hC.2.2.2.1 (hC.2.2.2.2.1 _ (hw _ List.mem_cons_self)) (hC.2.2.2.2.1 _ (hw _ (List.mem_of_getElem? (i := 1) rfl))) (hC.2.2.2.2.1 _ (hw _ (List.mem_of_getElem? (i := 2) rfl))) hC.2.2.2.2.2.1 hP hD hS hC.2.2.2.2.2.2.1 hc hfs hcs.1 hcs.2 hd (fun q H1 hP1 hD1 hS1 => kk q H1 locs ls hP1 hD1 hS1 hl)
theorem j_newa (hC : jC p s m args meth c cc nL own Ts D cl tys A) {atype : ArrayType} {ty : FieldType} (hty : newarray.typeOf atype = ty) (harr : Cond.arrayClass ty ∈ Ts) (t0 : Nat) {cA : ClassId} (ht : tys[t0]? = some (cA, ty)) {n : Int32} {N : Nat} {a0 : vp_A} (ha : ∀ cA : ClassId, vp_cell cA a0 = arrV cA N (fun _ => defaultValue ty)) (hn : ¬ n < 0) (hN : n.toNatClampNeg = N) (hb : N * componentBytes ty ≤ 536870912) (hcs : cells + 1 ≤ R.cells ∧ slots + N ≤ R.slots) (hd : decode cc pc = .ok (.newarray atype, 2))
    (kk : ∀ q : Nat, jJ p l e R s m args below meth c nL D cl A Q (cells + 1) (slots + N) (ws ++ [(q, .inl (cA, a0))]) lv (.ref q :: st) (pc + 2)) : jJ p l e R s m args below meth c nL D cl A Q cells slots ws lv (.int n :: st) pc := by
  intro H locs ls hP hD hS hl
  refine va_newa hC.1 hC.2.1 (by rw [hty]; exact hC.2.2.2.2.1 _ harr) hty hC.2.2.2.2.2.1 hP hD hS hC.2.2.2.2.2.2.1 ha hn hN hb hcs.1 hcs.2 hd (fun q cA' H1 hK1 hP1 hD1 hS1 => ?_)
  have e9 := va_RA_inj (va_K_last hK1) (hC.2.2.2.2.2.1.2 t0 _ ht).2
  subst e9
  exact kk q H1 locs ls hP1 hD1 hS1 hl
theorem j_newq (hC : jC p s m args meth c cc nL own Ts D cl tys A) {C : String} (hw : ∀ w ∈ [Cond.classLink own index C, .arrayOver (.object C)], w ∈ Ts) (t0 : Nat) {cA : ClassId} (ht : tys[t0]? = some (cA, .object C)) {n : Int32} {N : Nat} (hn : ¬ n < 0) (hN : n.toNatClampNeg = N) (hb : N * 4 ≤ 536870912) (hcs : cells + 1 ≤ R.cells ∧ slots + N ≤ R.slots) (hd : decode cc pc = .ok (.anewarray index, 3))
    (kk : ∀ q : Nat, jJ p l e R s m args below meth c nL D cl A Q (cells + 1) (slots + N) (ws ++ [(q, .inl (cA, N, .inr (.inr (.inr (.inr (fun _ => none))))))]) lv (.ref q :: st) (pc + 3)) : jJ p l e R s m args below meth c nL D cl A Q cells slots ws lv (.int n :: st) pc := by
  intro H locs ls hP hD hS hl
  refine va_newq hC.1 hC.2.1 hC.2.2.2.1 (hC.2.2.2.2.1 _ (hw _ List.mem_cons_self)) (va_AO.of (hC.2.2.2.2.1 _ (hw _ (List.mem_of_getElem? (i := 1) rfl)))) hC.2.2.2.2.2.1 hP hD hS hC.2.2.2.2.2.2.1 hn hN hb hcs.1 hcs.2 hd (fun q cA' H1 hK1 hP1 hD1 hS1 => ?_)
  have e9 := va_RA_inj (va_K_last hK1) (hC.2.2.2.2.2.1.2 t0 _ ht).2
  subst e9
  exact kk q H1 locs ls hP1 hD1 hS1 hl
theorem j_aast (hC : jC p s m args meth c cc nL own Ts D cl tys A) {a : Nat} (q0 t0 qk ci : Nat) {cA : ClassId} {r : vw_C} {n v : Nat} {vs : List Value} {f : Nat → Option Nat} (ha : ws[q0]? = some (a, .inl (cA, n, .inr (.inr (.inr (.inr f)))))) (ht : tys[t0]? = some (cA, .object r.1)) (hv : ws[qk]? = some (v, .inr (ci, vs))) (hc : cl[ci]? = some r) {i : Int32} (hin : vp_in i n) {ws' : va_W} (hw : ws.set q0 (a, .inl (cA, n, .inr (.inr (.inr (.inr (va_up f i.toNatClampNeg (some v))))))) = ws') (hd : decode cc pc = .ok (.aastore, 1))
    (kk : jJ p l e R s m args below meth c nL D cl A Q cells slots ws' lv st (pc + 1)) : jJ p l e R s m args below meth c nL D cl A Q cells slots ws lv (.ref v :: .int i :: .ref a :: st) pc :=
  fun H locs ls hP hD hS hl => va_astq hC.1 hC.2.1 hC.2.2.2.2.2.1 hP hD hS q0 t0 qk ci ha ht hv hc hin hd (fun H1 locs1 hP1 hD1 hS1 => kk H1 locs1 ls (hw ▸ hP1) (hw ▸ hD1) hS1 hl)
theorem j_objInit (hC : jC p s m args meth c cc nL own Ts D cl tys A) {a : Nat} (hw : ∀ w ∈ [Cond.methodLink own index Lib.objectInit, .instanceMethod Lib.objectInit, .code Lib.objectInit ⟨#[0xb1]⟩ 1 none], w ∈ Ts) (hd : decode cc pc = .ok (.invokespecial index, 3)) (hf : 1 ≤ R.frames) (hlo : (st.map fun v => v.category).sum + 12 ≤ R.locals)
    (k : jJ p l e R s m args below meth c nL D cl A Q cells slots ws lv st (pc + 3)) : jJ p l e R s m args below meth c nL D cl A Q cells slots ws lv (.ref a :: st) pc :=
  fun H locs ls hP hD hS hl => W.objInit hC.1 hC.2.1 hC.2.2.2.1 (hC.2.2.2.2.1 _ (hw _ List.mem_cons_self)) (hC.2.2.2.2.1 _ (hw _ (List.mem_of_getElem? (i := 1) rfl))) (hC.2.2.2.2.1 _ (hw _ (List.mem_of_getElem? (i := 2) rfl))) (g := F0 m pc ls (.ref a :: st)) rfl (hl.1.trans hC.2.2.1.symm) rfl hd hf (by show 2 * 0 + (st.map fun v => v.category).sum + 12 ≤ R.locals; omega) (k H locs ls hP hD hS hl)
/-- a constructor's end: no value, cells of which P speaks -/
def jN (P : va_W → Prop) : Option String → Option Value → va_W → Prop := fun o v w => o = none ∧ v = none ∧ P w
def jwI (own : String) (index : Nat) (y : MethodName) (cw0 : Cond) : List Cond := [cw0, .initialized y.cls, .methodLink own index y, .instanceMethod y]
def jwIN (own : String) (index : Nat) (y : MethodName) (cw0 : Cond) (host : String) : List Cond := [cw0, .initialized y.cls, .methodLinkNest own index y host, .instanceMethod y]
theorem j_callI (hC : jC p s m args meth c cc nL own Ts D cl tys A) {b : Nat} {P : va_W → Prop}
    (hM : jMet l y (.code y bytes maxL none) rm D cl tys Ts (.ref b :: As) ws mc ms (jN P)) (hrc : rm.cells = mc) (hrs : rm.slots = ms) (hy1 : y.name = "<init>") (hw : ∀ w ∈ jwI own index y (.code y bytes maxL none), w ∈ Ts)
    (hy : y.cls ≠ "java/lang/invoke/MethodHandle" ∧ y.cls ≠ "java/lang/invoke/VarHandle" ∧ (parseMethodDescriptor y.desc).map (fun d => d.parameters.length) = some As.length)
    (hst : st0 = As.reverse ++ .ref b :: rest) (hd : decode cc pc = .ok (.invokespecial index, 3)) (hW : (rest.map fun v => v.category).sum ≤ 8)
    (hfl : rm.frames + 1 ≤ R.frames ∧ 8 + (maxL + 11) + rm.locals ≤ R.locals) (hcs : cells + mc ≤ R.cells ∧ slots + ms ≤ R.slots)
    (kr : ∀ w : va_W, P w → jJ p l e R s m args below meth c nL D cl A Q (cells + mc) (slots + ms) w lv rest (pc + 3)) :
    jJ p l e R s m args below meth c nL D cl A Q cells slots ws lv st0 pc := by
  have hts := hC.2.2.2.2.1
  have h0 := hw _ (List.mem_cons_self)
  have h1 := hw _ (List.mem_of_getElem? (i := 1) rfl)
  have h2 := hw _ (List.mem_of_getElem? (i := 2) rfl)
  have h3 := hw _ (List.mem_of_getElem? (i := 3) rfl)
  refine j_call hC hM hrc hrs h0 h1 hx_lY (fun H locs ls hP hsz T0 hT X => ?_) hd hW hfl.1 hfl.2 hcs.1 hcs.2 (fun v w h => ?_) (fun cn w h => ?_)
  · have hpl : e.platform.magicAccessors = ({} : Platform).magicAccessors := by rw [X.admits.platform]
    obtain ⟨mk, methM, cM, kP, vm₁, hnamed, -, -, -, -, -, -, -, hW₁, hstep₁⟩ := Steps.initColdArgs (e := e) X.here hC.1 X.warmed hpl hC.2.2.2.1 hy1 ⟨hy.1, hy.2.1⟩ (hts _ h2) (hts _ h3) (hts _ h0) (f := F0 m pc ls st0) rfl (a := b) (argsL := As) (rest := rest) (hx_len hy.2.2 rfl) hst (by rw [hC.2.1]; exact hd)
    have X₁ := X.noted hW₁
    exact ⟨vm₁, mk, X₁, X₁.named hnamed, fun target h => hstep₁ _ fun acts => by rw [doInvoke_state]; exact h⟩
  · obtain ⟨-, rfl, h⟩ := h
    exact kr w h
  · obtain ⟨h, -⟩ := h
    cases h
theorem j_callIN (hC : jC p s m args meth c cc nL own Ts D cl tys A) {b : Nat} {host : String} {P : va_W → Prop}
    (hM : jMet l y (.code y bytes maxL none) rm D cl tys Ts (.ref b :: As) ws mc ms (jN P)) (hrc : rm.cells = mc) (hrs : rm.slots = ms) (hy1 : y.name = "<init>") (hw : ∀ w ∈ jwIN own index y (.code y bytes maxL none) host, w ∈ Ts)
    (hy : y.cls ≠ "java/lang/invoke/MethodHandle" ∧ y.cls ≠ "java/lang/invoke/VarHandle" ∧ (parseMethodDescriptor y.desc).map (fun d => d.parameters.length) = some As.length)
    (hst : st0 = As.reverse ++ .ref b :: rest) (hd : decode cc pc = .ok (.invokespecial index, 3)) (hW : (rest.map fun v => v.category).sum ≤ 8)
    (hfl : rm.frames + 1 ≤ R.frames ∧ 8 + (maxL + 11) + rm.locals ≤ R.locals) (hcs : cells + mc ≤ R.cells ∧ slots + ms ≤ R.slots)
    (kr : ∀ w : va_W, P w → jJ p l e R s m args below meth c nL D cl A Q (cells + mc) (slots + ms) w lv rest (pc + 3)) :
    jJ p l e R s m args below meth c nL D cl A Q cells slots ws lv st0 pc := by
  have hts := hC.2.2.2.2.1
  have h0 := hw _ (List.mem_cons_self)
  have h1 := hw _ (List.mem_of_getElem? (i := 1) rfl)
  have h2 := hw _ (List.mem_of_getElem? (i := 2) rfl)
  have h3 := hw _ (List.mem_of_getElem? (i := 3) rfl)
  refine j_call hC hM hrc hrs h0 h1 hx_lY (fun H locs ls hP hsz T0 hT X => ?_) hd hW hfl.1 hfl.2 hcs.1 hcs.2 (fun v w h => ?_) (fun cn w h => ?_)
  · have hpl : e.platform.magicAccessors = ({} : Platform).magicAccessors := by rw [X.admits.platform]
    obtain ⟨mk, methM, cM, kP, vm₁, hnamed, -, -, -, -, -, -, -, hW₁, hstep₁⟩ := Steps.initColdArgsNest (e := e) X.here hC.1 X.warmed hpl hC.2.2.2.1 hy1 ⟨hy.1, hy.2.1⟩ (hts _ h2) (hts _ h3) (hts _ h0) (f := F0 m pc ls st0) rfl (a := b) (argsL := As) (rest := rest) (hx_len hy.2.2 rfl) hst (by rw [hC.2.1]; exact hd)
    have X₁ := X.noted hW₁
    exact ⟨vm₁, mk, X₁, X₁.named hnamed, fun target h => hstep₁ _ fun acts => by rw [doInvoke_state]; exact h⟩
  · obtain ⟨-, rfl, h⟩ := h
    exact kr w h
  · obtain ⟨h, -⟩ := h
    cases h
end JN
theorem jMet.frameN {l : Launch} {y : MethodName} {cw0 : Cond} {rm : Room} {D : va_G} {cl : List vw_C} {tys : List (ClassId × FieldType)} {Ts : List Cond} {av : List Value} {ws : va_W} {mc ms : Nat} {P : va_W → Prop} (f : va_W)
    (h : jMet l y cw0 rm D cl tys Ts av ws mc ms (jN P)) : jMet l y cw0 rm D cl tys Ts av (ws ++ f) mc ms (jN (fun w => ∃ w0, P w0 ∧ w = w0 ++ f)) := by
  intro sz
  refine MetFree.mono (h.frame f sz) (fun _ _ hp => hp) (fun _ _ _ _ _ _ => trivial) ?_
  intro a s o t hp hq
  obtain ⟨⟨⟨w, q1, q2⟩, q3⟩, q4⟩ := hq
  refine ⟨⟨⟨w, ?_, q2⟩, q3⟩, q4⟩
  cases o with
  | returned v =>
    obtain ⟨w0, ⟨h1, h2, h3⟩, h4⟩ := q1
    exact ⟨h1, h2, w0, h3, h4⟩
  | threw x =>
    obtain ⟨cn, ⟨w0, ⟨h1, h2, h3⟩, h4⟩, hx⟩ := q1
    cases h1
