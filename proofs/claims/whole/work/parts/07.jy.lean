section JY
variable {p : Program} {l : Launch} {e : Env} {R : Room} {s : State} {m : MethodId} {args : Array Value} {below : List Frame} {meth : Method} {c : Code} {Q : State → Prop} {cells slots : Nat}
variable {cc : ByteArray} {nL : Nat} {own : String} {Ts : List Cond} {D : va_G} {cl : List vw_C} {tys : List (ClassId × FieldType)} {A : Nat → Prop}
variable {pc : Nat} {lv : List (Nat × Value)} {st : List Value} {ws : va_W} {post : Option String → Option Value → va_W → Prop}
variable {y : MethodName} {bytes : ByteArray} {maxL index mc ms : Nat} {ret : Option FieldType} {rm : Room} {As rest st0 : List Value}
theorem hx_lY : ∀ (U : State) (mk : MethodId) (a : Array Value), (Cond.code y bytes maxL ret).before a U = true → U.methodNamed? y = some mk → ∃ (methY : Method) (cY : Code), U.vm.method? mk = some methY ∧ methY.code = some cY ∧ cY.maxLocals = maxL := by
  intro U mk a h hn
  obtain ⟨methY, cY, h1, h2, -, h3, -, -, -, -⟩ := Cond.code_spec hn h
  exact ⟨methY, cY, h1, h2, h3⟩
theorem hx_sig {U : State} {a : Array Value} (h : (Cond.code y bytes maxL ret).before a U = true) : ∀ (mk : MethodId) (methM : Method), U.methodNamed? y = some mk → U.vm.method? mk = some methM → parseMethodDescriptor y.desc = some methM.sig := by
  intro mk methM hn hm
  obtain ⟨methY, cY, h1, -, -, -, -, -, -, h4⟩ := Cond.code_spec hn h
  cases hm.symm.trans h1
  exact h4
theorem hx_len {n : Nat} (h : (parseMethodDescriptor y.desc).map (fun d => d.parameters.length) = some n) {L : List Value} (hL : L.length = n) : ∀ sig, parseMethodDescriptor y.desc = some sig → L.length = sig.parameters.length := by
  intro sig hs
  rw [hs] at h
  exact hL.trans (Option.some.inj h).symm
/-- the words of a call: of a method of the receiver's own class; of a nest mate's private one; of a static one -/
def jwV (own : String) (index : Nat) (C : String) (y : MethodName) (cw0 : Cond) : List Cond := [cw0, .initialized y.cls, .methodLink own index y, .instanceMethod y, .selects C y y]
def jwN (own : String) (index : Nat) (C : String) (y : MethodName) (cw0 : Cond) (host : String) : List Cond := [cw0, .initialized y.cls, .methodLinkNest own index y host, .instanceMethod y, .selects C y y]
def jwS (own : String) (index : Nat) (y : MethodName) (cw0 : Cond) : List Cond := [cw0, .initialized y.cls, .methodLink own index y, .static y]
def jwSN (own : String) (index : Nat) (y : MethodName) (cw0 : Cond) (host : String) : List Cond := [cw0, .initialized y.cls, .methodLinkNest own index y host, .static y]
theorem j_callV (hC : jC p s m args meth c cc nL own Ts D cl tys A) {C : String} {T : u_T} {N ci b q0 : Nat} {fs : List Value}
    (hM : jMet l y (.code y bytes maxL ret) rm D cl tys Ts (.ref b :: As) ws mc ms post) (hrc : rm.cells = mc) (hrs : rm.slots = ms) (hw : ∀ w ∈ jwV own index C y (.code y bytes maxL ret), w ∈ Ts)
    (hy : y.cls ≠ "java/lang/invoke/MethodHandle" ∧ y.cls ≠ "java/lang/invoke/VarHandle" ∧ (parseMethodDescriptor y.desc).map (fun d => d.parameters.length) = some As.length)
    (he : ws[q0]? = some (b, .inr (ci, fs))) (hcl : cl[ci]? = some (C, T, N)) (hst : st0 = As.reverse ++ .ref b :: rest) (hd : decode cc pc = .ok (.invokevirtual index, 3)) (hW : (rest.map fun v => v.category).sum ≤ 8)
    (hfl : rm.frames + 1 ≤ R.frames ∧ 8 + (maxL + 11) + rm.locals ≤ R.locals) (hcs : cells + mc ≤ R.cells ∧ slots + ms ≤ R.slots)
    (kr : ∀ (v : Option Value) (w : va_W), post none v w → jJ p l e R s m args below meth c nL D cl A Q (cells + mc) (slots + ms) w lv (v.toList ++ rest) (pc + 3))
    (kt : ∀ (cn : String) (w : va_W), post (some cn) none w → jT p l e R s m args below meth c nL D cl A Q (cells + mc) (slots + ms) cn w lv pc) :
    jJ p l e R s m args below meth c nL D cl A Q cells slots ws lv st0 pc := by
  have hts := hC.2.2.2.2.1
  have h0 := hw _ (List.mem_cons_self)
  have h1 := hw _ (List.mem_of_getElem? (i := 1) rfl)
  have h2 := hw _ (List.mem_of_getElem? (i := 2) rfl)
  have h3 := hw _ (List.mem_of_getElem? (i := 3) rfl)
  have h4 := hw _ (List.mem_of_getElem? (i := 4) rfl)
  refine j_call hC hM hrc hrs h0 h1 hx_lY (fun H locs ls hP hsz T0 hT X => ?_) hd hW hfl.1 hfl.2 hcs.1 hcs.2 kr kt
  obtain ⟨cellB, g1, g2, g3⟩ := va_recv hC.2.2.2.2.2.1 hP hcl he
  exact hx_invV X hC.1 hC.2.2.2.1 (hts _ h2) (hts _ h3) (hts _ h4) (hx_sig (hts _ h0)) ⟨hy.1, hy.2.1⟩ (by rw [hT]; exact g1) g2 g3 (g := F0 m pc ls st0) rfl (argsL := As) (rest := rest) (hx_len hy.2.2 rfl) hst (by rw [hC.2.1]; exact hd)
theorem j_callN (hC : jC p s m args meth c cc nL own Ts D cl tys A) {C host : String} {T : u_T} {N ci b q0 : Nat} {fs : List Value}
    (hM : jMet l y (.code y bytes maxL ret) rm D cl tys Ts (.ref b :: As) ws mc ms post) (hrc : rm.cells = mc) (hrs : rm.slots = ms) (hw : ∀ w ∈ jwN own index C y (.code y bytes maxL ret) host, w ∈ Ts)
    (hy : y.cls ≠ "java/lang/invoke/MethodHandle" ∧ y.cls ≠ "java/lang/invoke/VarHandle" ∧ (parseMethodDescriptor y.desc).map (fun d => d.parameters.length) = some As.length)
    (he : ws[q0]? = some (b, .inr (ci, fs))) (hcl : cl[ci]? = some (C, T, N)) (hst : st0 = As.reverse ++ .ref b :: rest) (hd : decode cc pc = .ok (.invokevirtual index, 3)) (hW : (rest.map fun v => v.category).sum ≤ 8)
    (hfl : rm.frames + 1 ≤ R.frames ∧ 8 + (maxL + 11) + rm.locals ≤ R.locals) (hcs : cells + mc ≤ R.cells ∧ slots + ms ≤ R.slots)
    (kr : ∀ (v : Option Value) (w : va_W), post none v w → jJ p l e R s m args below meth c nL D cl A Q (cells + mc) (slots + ms) w lv (v.toList ++ rest) (pc + 3))
    (kt : ∀ (cn : String) (w : va_W), post (some cn) none w → jT p l e R s m args below meth c nL D cl A Q (cells + mc) (slots + ms) cn w lv pc) :
    jJ p l e R s m args below meth c nL D cl A Q cells slots ws lv st0 pc := by
  have hts := hC.2.2.2.2.1
  have h0 := hw _ (List.mem_cons_self)
  have h1 := hw _ (List.mem_of_getElem? (i := 1) rfl)
  have h2 := hw _ (List.mem_of_getElem? (i := 2) rfl)
  have h3 := hw _ (List.mem_of_getElem? (i := 3) rfl)
  have h4 := hw _ (List.mem_of_getElem? (i := 4) rfl)
  refine j_call hC hM hrc hrs h0 h1 hx_lY (fun H locs ls hP hsz T0 hT X => ?_) hd hW hfl.1 hfl.2 hcs.1 hcs.2 kr kt
  obtain ⟨cellB, g1, g2, g3⟩ := va_recv hC.2.2.2.2.2.1 hP hcl he
  exact hx_invVN X hC.1 hC.2.2.2.1 (hts _ h2) (hts _ h3) (hts _ h4) (hx_sig (hts _ h0)) ⟨hy.1, hy.2.1⟩ (by rw [hT]; exact g1) g2 g3 (g := F0 m pc ls st0) rfl (argsL := As) (rest := rest) (hx_len hy.2.2 rfl) hst (by rw [hC.2.1]; exact hd)
theorem j_callS (hC : jC p s m args meth c cc nL own Ts D cl tys A)
    (hM : jMet l y (.code y bytes maxL ret) rm D cl tys Ts As ws mc ms post) (hrc : rm.cells = mc) (hrs : rm.slots = ms) (hw : ∀ w ∈ jwS own index y (.code y bytes maxL ret), w ∈ Ts)
    (hy : y.cls ≠ "java/lang/invoke/MethodHandle" ∧ y.cls ≠ "java/lang/invoke/VarHandle" ∧ (parseMethodDescriptor y.desc).map (fun d => d.parameters.length) = some As.length)
    (hst : st0 = As.reverse ++ rest) (hd : decode cc pc = .ok (.invokestatic index, 3)) (hW : (rest.map fun v => v.category).sum ≤ 8)
    (hfl : rm.frames + 1 ≤ R.frames ∧ 8 + (maxL + 11) + rm.locals ≤ R.locals) (hcs : cells + mc ≤ R.cells ∧ slots + ms ≤ R.slots)
    (kr : ∀ (v : Option Value) (w : va_W), post none v w → jJ p l e R s m args below meth c nL D cl A Q (cells + mc) (slots + ms) w lv (v.toList ++ rest) (pc + 3))
    (kt : ∀ (cn : String) (w : va_W), post (some cn) none w → jT p l e R s m args below meth c nL D cl A Q (cells + mc) (slots + ms) cn w lv pc) :
    jJ p l e R s m args below meth c nL D cl A Q cells slots ws lv st0 pc := by
  have hts := hC.2.2.2.2.1
  have h0 := hw _ (List.mem_cons_self)
  have h1 := hw _ (List.mem_of_getElem? (i := 1) rfl)
  have h2 := hw _ (List.mem_of_getElem? (i := 2) rfl)
  have h3 := hw _ (List.mem_of_getElem? (i := 3) rfl)
  refine j_call hC hM hrc hrs h0 h1 hx_lY (fun H locs ls hP hsz T0 hT X => ?_) hd hW hfl.1 hfl.2 hcs.1 hcs.2 kr kt
  obtain ⟨mk, hnamed⟩ := Cond.code_named (hts _ h0)
  obtain ⟨methM, cM, hmethM, -, -, -, -, -, -, hsigM⟩ := Cond.code_spec hnamed (hts _ h0)
  exact hx_invS X hC.1 hC.2.2.2.1 (hts _ h2) (hts _ h3) (hts _ h1) hnamed hmethM hsigM ⟨hy.1, hy.2.1⟩ (g := F0 m pc ls st0) rfl (argsL := As) (rest := rest) (hx_len hy.2.2 rfl) hst (by rw [hC.2.1]; exact hd)
theorem j_callSN (hC : jC p s m args meth c cc nL own Ts D cl tys A) {host : String}
    (hM : jMet l y (.code y bytes maxL ret) rm D cl tys Ts As ws mc ms post) (hrc : rm.cells = mc) (hrs : rm.slots = ms) (hw : ∀ w ∈ jwSN own index y (.code y bytes maxL ret) host, w ∈ Ts)
    (hy : y.cls ≠ "java/lang/invoke/MethodHandle" ∧ y.cls ≠ "java/lang/invoke/VarHandle" ∧ (parseMethodDescriptor y.desc).map (fun d => d.parameters.length) = some As.length)
    (hst : st0 = As.reverse ++ rest) (hd : decode cc pc = .ok (.invokestatic index, 3)) (hW : (rest.map fun v => v.category).sum ≤ 8)
    (hfl : rm.frames + 1 ≤ R.frames ∧ 8 + (maxL + 11) + rm.locals ≤ R.locals) (hcs : cells + mc ≤ R.cells ∧ slots + ms ≤ R.slots)
    (kr : ∀ (v : Option Value) (w : va_W), post none v w → jJ p l e R s m args below meth c nL D cl A Q (cells + mc) (slots + ms) w lv (v.toList ++ rest) (pc + 3))
    (kt : ∀ (cn : String) (w : va_W), post (some cn) none w → jT p l e R s m args below meth c nL D cl A Q (cells + mc) (slots + ms) cn w lv pc) :
    jJ p l e R s m args below meth c nL D cl A Q cells slots ws lv st0 pc := by
  have hts := hC.2.2.2.2.1
  have h0 := hw _ (List.mem_cons_self)
  have h1 := hw _ (List.mem_of_getElem? (i := 1) rfl)
  have h2 := hw _ (List.mem_of_getElem? (i := 2) rfl)
  have h3 := hw _ (List.mem_of_getElem? (i := 3) rfl)
  refine j_call hC hM hrc hrs h0 h1 hx_lY (fun H locs ls hP hsz T0 hT X => ?_) hd hW hfl.1 hfl.2 hcs.1 hcs.2 kr kt
  obtain ⟨mk, hnamed⟩ := Cond.code_named (hts _ h0)
  obtain ⟨methM, cM, hmethM, -, -, -, -, -, -, hsigM⟩ := Cond.code_spec hnamed (hts _ h0)
  exact hx_invSN X hC.1 hC.2.2.2.1 (hts _ h2) (hts _ h3) (hts _ h1) hnamed hmethM hsigM ⟨hy.1, hy.2.1⟩ (g := F0 m pc ls st0) rfl (argsL := As) (rest := rest) (hx_len hy.2.2 rfl) hst (by rw [hC.2.1]; exact hd)
end JY
/-- a contract's end that only returns: this value, these cells -/
def jRet (v : Option Value) (w : va_W) : Option String → Option Value → va_W → Prop := fun o v' w' => o = none ∧ v' = v ∧ w' = w
section JZ
variable {p : Program} {l : Launch} {e : Env} {R : Room} {s : State} {m : MethodId} {args : Array Value} {below : List Frame} {meth : Method} {c : Code} {Q : State → Prop} {cells slots : Nat}
variable {cc : ByteArray} {nL : Nat} {own : String} {Ts : List Cond} {D : va_G} {cl : List vw_C} {tys : List (ClassId × FieldType)} {A : Nat → Prop}
variable {pc : Nat} {lv : List (Nat × Value)} {st : List Value} {ws w1 : va_W}
variable {y : MethodName} {bytes : ByteArray} {maxL index : Nat} {ret : Option FieldType} {rm : Room} {As rest st0 : List Value} {r : Option Value}
theorem j_callVr (hC : jC p s m args meth c cc nL own Ts D cl tys A) {C : String} {T : u_T} {N ci b q0 : Nat} {fs : List Value}
    (hM : jMet l y (.code y bytes maxL ret) rm D cl tys Ts (.ref b :: As) ws 0 0 (jRet r w1)) (hrc : rm.cells = 0) (hrs : rm.slots = 0) (hw : ∀ w ∈ jwV own index C y (.code y bytes maxL ret), w ∈ Ts)
    (hy : y.cls ≠ "java/lang/invoke/MethodHandle" ∧ y.cls ≠ "java/lang/invoke/VarHandle" ∧ (parseMethodDescriptor y.desc).map (fun d => d.parameters.length) = some As.length)
    (he : ws[q0]? = some (b, .inr (ci, fs))) (hcl : cl[ci]? = some (C, T, N)) (hst : st0 = As.reverse ++ .ref b :: rest) (hd : decode cc pc = .ok (.invokevirtual index, 3)) (hW : (rest.map fun v => v.category).sum ≤ 8)
    (hfl : rm.frames + 1 ≤ R.frames ∧ 8 + (maxL + 11) + rm.locals ≤ R.locals) (hcs : cells ≤ R.cells ∧ slots ≤ R.slots) {st1 : List Value} (hr : r.toList ++ rest = st1)
    (k : jJ p l e R s m args below meth c nL D cl A Q cells slots w1 lv st1 (pc + 3)) : jJ p l e R s m args below meth c nL D cl A Q cells slots ws lv st0 pc := by
  subst hr
  refine j_callV hC hM hrc hrs hw hy he hcl hst hd hW hfl hcs (fun v w h => ?_) (fun cn w h => by cases h.1)
  obtain ⟨-, rfl, rfl⟩ := h
  exact k
theorem j_callNr (hC : jC p s m args meth c cc nL own Ts D cl tys A) {C host : String} {T : u_T} {N ci b q0 : Nat} {fs : List Value}
    (hM : jMet l y (.code y bytes maxL ret) rm D cl tys Ts (.ref b :: As) ws 0 0 (jRet r w1)) (hrc : rm.cells = 0) (hrs : rm.slots = 0) (hw : ∀ w ∈ jwN own index C y (.code y bytes maxL ret) host, w ∈ Ts)
    (hy : y.cls ≠ "java/lang/invoke/MethodHandle" ∧ y.cls ≠ "java/lang/invoke/VarHandle" ∧ (parseMethodDescriptor y.desc).map (fun d => d.parameters.length) = some As.length)
    (he : ws[q0]? = some (b, .inr (ci, fs))) (hcl : cl[ci]? = some (C, T, N)) (hst : st0 = As.reverse ++ .ref b :: rest) (hd : decode cc pc = .ok (.invokevirtual index, 3)) (hW : (rest.map fun v => v.category).sum ≤ 8)
    (hfl : rm.frames + 1 ≤ R.frames ∧ 8 + (maxL + 11) + rm.locals ≤ R.locals) (hcs : cells ≤ R.cells ∧ slots ≤ R.slots) {st1 : List Value} (hr : r.toList ++ rest = st1)
    (k : jJ p l e R s m args below meth c nL D cl A Q cells slots w1 lv st1 (pc + 3)) : jJ p l e R s m args below meth c nL D cl A Q cells slots ws lv st0 pc := by
  subst hr
  refine j_callN hC hM hrc hrs hw hy he hcl hst hd hW hfl hcs (fun v w h => ?_) (fun cn w h => by cases h.1)
  obtain ⟨-, rfl, rfl⟩ := h
  exact k
theorem j_callSr (hC : jC p s m args meth c cc nL own Ts D cl tys A)
    (hM : jMet l y (.code y bytes maxL ret) rm D cl tys Ts As ws 0 0 (jRet r w1)) (hrc : rm.cells = 0) (hrs : rm.slots = 0) (hw : ∀ w ∈ jwS own index y (.code y bytes maxL ret), w ∈ Ts)
    (hy : y.cls ≠ "java/lang/invoke/MethodHandle" ∧ y.cls ≠ "java/lang/invoke/VarHandle" ∧ (parseMethodDescriptor y.desc).map (fun d => d.parameters.length) = some As.length)
    (hst : st0 = As.reverse ++ rest) (hd : decode cc pc = .ok (.invokestatic index, 3)) (hW : (rest.map fun v => v.category).sum ≤ 8)
    (hfl : rm.frames + 1 ≤ R.frames ∧ 8 + (maxL + 11) + rm.locals ≤ R.locals) (hcs : cells ≤ R.cells ∧ slots ≤ R.slots) {st1 : List Value} (hr : r.toList ++ rest = st1)
    (k : jJ p l e R s m args below meth c nL D cl A Q cells slots w1 lv st1 (pc + 3)) : jJ p l e R s m args below meth c nL D cl A Q cells slots ws lv st0 pc := by
  subst hr
  refine j_callS hC hM hrc hrs hw hy hst hd hW hfl hcs (fun v w h => ?_) (fun cn w h => by cases h.1)
  obtain ⟨-, rfl, rfl⟩ := h
  exact k
theorem j_callSNr (hC : jC p s m args meth c cc nL own Ts D cl tys A) {host : String}
    (hM : jMet l y (.code y bytes maxL ret) rm D cl tys Ts As ws 0 0 (jRet r w1)) (hrc : rm.cells = 0) (hrs : rm.slots = 0) (hw : ∀ w ∈ jwSN own index y (.code y bytes maxL ret) host, w ∈ Ts)
    (hy : y.cls ≠ "java/lang/invoke/MethodHandle" ∧ y.cls ≠ "java/lang/invoke/VarHandle" ∧ (parseMethodDescriptor y.desc).map (fun d => d.parameters.length) = some As.length)
    (hst : st0 = As.reverse ++ rest) (hd : decode cc pc = .ok (.invokestatic index, 3)) (hW : (rest.map fun v => v.category).sum ≤ 8)
    (hfl : rm.frames + 1 ≤ R.frames ∧ 8 + (maxL + 11) + rm.locals ≤ R.locals) (hcs : cells ≤ R.cells ∧ slots ≤ R.slots) {st1 : List Value} (hr : r.toList ++ rest = st1)
    (k : jJ p l e R s m args below meth c nL D cl A Q cells slots w1 lv st1 (pc + 3)) : jJ p l e R s m args below meth c nL D cl A Q cells slots ws lv st0 pc := by
  subst hr
  refine j_callSN hC hM hrc hrs hw hy hst hd hW hfl hcs (fun v w h => ?_) (fun cn w h => by cases h.1)
  obtain ⟨-, rfl, rfl⟩ := h
  exact k
end JZ
