-- methods with handlers; more words; longs
/-- the 'not castable' words that the law's start gives -/
def jNs : List Cond := [.not (.castable xUO xIA), .not (.castable xIS xIA), .not (.castable xNS xIA), .not (.castable xIA xIS), .not (.castable xUO xIS), .not (.castable xNS xIS), .arrayOver (.object "StrataHouse$Atom"), .arrayOver (.object "StrataHouse$Rule")]
def jTn : List Cond := jTs ++ jNs
theorem jTn_l {w : Cond} (h : w ∈ jTs) : w ∈ jTn := List.mem_append_left _ h
theorem jTn_r {w : Cond} (h : w ∈ jNs) : w ∈ jTn := List.mem_append_right _ h
theorem jMet.more {l : Launch} {y : MethodName} {cw0 : Cond} {rm : Room} {D : va_G} {cl : List vw_C} {tys : List (ClassId × FieldType)} {Ts Ts' : List Cond} {av : List Value} {ws : va_W} {mc ms : Nat} {post : Option String → Option Value → va_W → Prop} (hT : ∀ w ∈ Ts, w ∈ Ts')
    (h : jMet l y cw0 rm D cl tys Ts av ws mc ms post) : jMet l y cw0 rm D cl tys Ts' av ws mc ms post := by
  intro sz
  refine MetFree.mono (h sz) ?_ (fun _ _ _ _ _ _ => trivial) (fun _ _ _ _ _ hq => hq)
  intro a s hp
  obtain ⟨h1, h2, h3, h4⟩ := hp
  exact ⟨h1, h2, fun w hw => h3 w (hT w hw), h4⟩
theorem MetX.ofWH {l : Launch} {y : MethodName} {ws ws' : List Cond} {rm : Room} {Pc : Array Value → State → Prop} {Qc : Array Value → State → Outcome → State → Prop} {mc ms : Nat} {free : Addr → Prop} {cc : ByteArray} {maxL : Nat} {ret : Option FieldType} {hh : List (Nat × Nat × Nat × Nat)}
    (hy : plainName y.cls = true) (hw : ws = Cond.codeWith y cc maxL ret hh :: ws')
    (body : ∀ p e s m args below meth c s₁, BodyLoose p l y (headSpec ws rm) cc maxL ret e s m args below meth c s₁ → c.maxLocals = maxL → Pc args s →
      W p l e (headSpec ws rm).room s m args below meth c s.heap [] 0 0 (hxQ below Qc args s mc ms free) (entryFrame m args maxL)) : MetX l y ws rm Pc Qc mc ms free := by
  refine MetFree.of_bodyS (code := cc) (maxLocals := maxL) (ret := ret) hy ?_ ?_
  · intro args s m h hn
    obtain ⟨m9, meth, c, hn9, h1, h2, h3, h4, -, h5, h6, -⟩ := Cond.codeWith_spec (atoms_spec (ws := ws) h _ (by rw [hw]; exact List.mem_cons_self))
    cases hn.symm.trans hn9
    exact ⟨meth, c, h1, h2, h3, h4, h5, h6⟩
  · intro p e s m args below meth c s₁ B hml hP _
    have hh0 : s₁.heap = s.heap := by rw [B.state]; rfl
    obtain ⟨t, a1, o, b1, b2, b3⟩ := body p e s m args below meth c s₁ B hml hP s₁ hh0 (Stand.of_body B)
    exact ⟨t, o, a1, b1, b2, ⟨b3.1, b3.2⟩⟩
section JH
variable {p : Program} {l : Launch} {e : Env} {R : Room} {s : State} {m : MethodId} {args : Array Value} {below : List Frame} {meth : Method} {c : Code} {Q : State → Prop} {cells slots : Nat}
variable {cc : ByteArray} {nL : Nat} {own : String} {Ts : List Cond} {D : va_G} {cl : List vw_C} {tys : List (ClassId × FieldType)} {A : Nat → Prop}
variable {pc : Nat} {lv : List (Nat × Value)} {st : List Value} {ws : va_W} {post : Option String → Option Value → va_W → Prop}
/-- a contract out of the walk of a body with handlers -/
theorem jMet.ofH {y : MethodName} {ret : Option FieldType} {rm : Room} {av : List Value} {mc ms : Nat} {hh : List (Nat × Nat × Nat × Nat)} (hy : plainName y.cls = true) (hlen : (lg_sl av).length ≤ nL)
    (body : ∀ (p : Program) (e : Env) (s : State) (m : MethodId) (below : List Frame) (meth : Method) (c : Code) (A : Nat → Prop), jC p s m av.toArray meth c cc nL y.cls Ts D cl tys A → c.exceptionTable.toList = tableOf hh → meth.sig.returnType = ret → e.platform.stackTraces = l.stackTraces →
      jJ p l e rm s m av.toArray below meth c nL D cl A (hxQ below (jQ D cl post A) av.toArray s mc ms A) 0 0 ws (lv_args 0 av) [] 0) : jMet l y (.codeWith y cc nL ret hh) rm D cl tys Ts av ws mc ms post := by
  intro sz
  refine MetX.ofWH (cc := cc) (maxL := nL) (ret := ret) (hh := hh) hy rfl ?_
  intro p e s m args below meth c s₁ B hml hv
  obtain ⟨rfl, hsz, hw, hz, hP, hK, hD0⟩ := hv
  subst hsz
  have hcode : (Cond.codeWith y cc nL ret hh).before av.toArray s = true := atoms_spec (ws := [Cond.codeWith y cc nL ret hh]) B.pre _ List.mem_cons_self
  have htab : c.exceptionTable.toList = tableOf hh := by
    obtain ⟨m9, meth9, c9, hn9, h1, h2, -, -, h6, -⟩ := Cond.codeWith_spec hcode
    cases Option.some.inj (hn9.symm.trans B.named)
    cases Option.some.inj (h1.symm.trans B.method)
    cases Option.some.inj (h2.symm.trans (Stand.of_body B).code)
    rw [← h6, table_eq]
  have hD := hD0.self (sz := s.heap.size)
  have hA : ∀ q : Nat, s.heap.size ≤ q → va_A ws s.heap.size q := fun q h => Or.inr h
  have hC : jC p s m av.toArray meth c cc nL y.cls Ts D cl tys (va_A ws s.heap.size) :=
    ⟨B.exec, B.bytes, hml, findClass_of_methodNamed B.named, fun w h => hw w h _ s (State.WarmedH.refl s), hK, hA, hw, hz, B.notSynchronized⟩
  have hl := lv_entry av (n := nL) hlen
  have k := body p e s m below meth c _ hC htab B.returns (by rw [(Stand.of_body B).admits.platform])
  have k2 := k s.heap [] _ hP hD va_S.rf hl
  rw [lg_entry_eq]
  exact k2
/-- caught by the row x of the table, the rows ahead name other classes -/
theorem j_catch (hC : jC p s m args meth c cc nL own Ts D cl tys A) {cn name : String} (pre : List ExceptionTableEntry) (x : ExceptionTableEntry) (suf : List ExceptionTableEntry) (hsplit : c.exceptionTable.toList = pre ++ x :: suf)
    (hpass : ∀ z ∈ pre, z.catchType ≠ 0 ∧ ∃ nm : String, Cond.classLink own z.catchType nm ∈ Ts ∧ Cond.not (.castable cn nm) ∈ Ts) (hx : covers x pc = true) (h0 : x.catchType ≠ 0)
    (hlink : Cond.classLink own x.catchType name ∈ Ts) (hcast : Cond.castable cn name ∈ Ts) {tgt : Nat} (ht : x.handlerPc = tgt)
    (k : ∀ q : Nat, jJ p l e R s m args below meth c nL D cl A Q cells slots ws lv [.ref q] tgt) : jT p l e R s m args below meth c nL D cl A Q cells slots cn ws lv pc := by
  intro H locs ls q st hP hD hS hl hth T hT X
  subst ht
  obtain ⟨ce, hcell, hv, hcl⟩ := hth
  have hts := hC.2.2.2.2.1
  have hown := hC.2.2.2.1
  have hpl : e.platform.magicAccessors = ({} : Platform).magicAccessors := by rw [X.admits.platform]
  obtain ⟨c3, c4, hc3, hc4, hasg⟩ := Cond.castable_spec (hts _ hcast)
  cases Option.some.inj (hc3.symm.trans hcl)
  obtain ⟨c5, hc5, hcl5⟩ := Cond.classLink_spec hown (hts _ hlink) e.platform hpl
  cases Option.some.inj (hc4.symm.trans hc5)
  obtain ⟨vm', X', st9⟩ := X.thenCaughtThrough q (g := F0 m pc ls st) rfl (Steps.refl _) (by rw [hT]; exact hcell) hv (by obtain ⟨k9, h9, -⟩ := Vm.findClass_spec hcl; exact ⟨k9, h9⟩) pre x suf hsplit
    (fun z hz => by
      obtain ⟨hz0, nm, hl1, hn1⟩ := hpass z hz
      obtain ⟨c6, hc6, hcl6⟩ := Cond.classLink_spec hown (hts _ hl1) e.platform hpl
      obtain ⟨a8, b8, h1, h2, h3⟩ := va_Nc.of (hts _ hn1)
      cases Option.some.inj (h1.symm.trans hcl)
      cases Option.some.inj (h2.symm.trans hc6)
      exact Or.inr ⟨hz0, _, hcl6, h3⟩) hx (Or.inr ⟨h0, c4, hcl5, hasg⟩)
  obtain ⟨t, a1, b1⟩ := k q H locs ls hP hD hS hl (T.setVm vm') hT X'
  exact ⟨t, st9.trans a1, b1⟩
theorem j_lconst (hC : jC p s m args meth c cc nL own Ts D cl tys A) {n : Fin 2} {v : Int64} (hd : decode cc pc = .ok (.lconst n, 1)) (hv : Int64.ofNat (n : Nat) = v) (k : jJ p l e R s m args below meth c nL D cl A Q cells slots ws lv (.long v :: st) (pc + 1)) : jJ p l e R s m args below meth c nL D cl A Q cells slots ws lv st pc :=
  fun H locs ls hP hD hS hl => lv_lconst hC.1 hC.2.1 hd hv (k H locs ls hP hD hS hl)
theorem j_lcmp (hC : jC p s m args meth c cc nL own Ts D cl tys A) {x y : Int64} (hd : decode cc pc = .ok (.lcmp, 1)) (k : jJ p l e R s m args below meth c nL D cl A Q cells slots ws lv (.int (lg_cmp x y) :: st) (pc + 1)) : jJ p l e R s m args below meth c nL D cl A Q cells slots ws lv (.long y :: .long x :: st) pc :=
  fun H locs ls hP hD hS hl => W.lcmp hC.1 hC.2.1 hd (k H locs ls hP hD hS hl)
theorem j_last (hC : jC p s m args meth c cc nL own Ts D cl tys A) {a : Nat} (q0 t0 : Nat) {cA : ClassId} {N : Nat} {f : Nat → Int64} (ha : ws[q0]? = some (a, .inl (cA, N, .inr (.inl f)))) (ht : tys[t0]? = some (cA, .long)) {i : Int32} {x : Int64} (hin : vp_in i N) {ws' : va_W} (hw : ws.set q0 (a, .inl (cA, N, .inr (.inl (vp_updL f i.toNatClampNeg x)))) = ws') (hd : decode cc pc = .ok (.lastore, 1))
    (kk : jJ p l e R s m args below meth c nL D cl A Q cells slots ws' lv st (pc + 1)) : jJ p l e R s m args below meth c nL D cl A Q cells slots ws lv (.long x :: .int i :: .ref a :: st) pc :=
  fun H locs ls hP hD hS hl => va_last hC.1 hC.2.1 hC.2.2.2.2.2.1 hP hD hS q0 t0 ha ht hin hd (fun H1 locs1 hP1 hD1 hS1 => kk H1 locs1 ls (hw ▸ hP1) (hw ▸ hD1) hS1 hl)
theorem j_lald (hC : jC p s m args meth c cc nL own Ts D cl tys A) {a : Nat} (q0 t0 : Nat) {cA : ClassId} {N : Nat} {f : Nat → Int64} (ha : ws[q0]? = some (a, .inl (cA, N, .inr (.inl f)))) (ht : tys[t0]? = some (cA, .long)) {i : Int32} (hin : vp_in i N) {v : Int64} (hv : f i.toNatClampNeg = v) (hd : decode cc pc = .ok (.laload, 1))
    (kk : jJ p l e R s m args below meth c nL D cl A Q cells slots ws lv (.long v :: st) (pc + 1)) : jJ p l e R s m args below meth c nL D cl A Q cells slots ws lv (.int i :: .ref a :: st) pc :=
  fun H locs ls hP hD hS hl => va_lald hC.1 hC.2.1 hC.2.2.2.2.2.1 hP q0 t0 ha ht hin hd (by rw [hv]; exact kk H locs ls hP hD hS hl)
theorem j_tableIn (hC : jC p s m args meth c cc nL own Ts D cl tys A) {dflt lo hi : Int} {offs : Array Int} {len : Nat} {x : Int32} {off : Int} {tgt : Nat} (hd : decode cc pc = .ok (.tableswitch dflt lo hi offs, len)) (h1 : ¬ x.toInt < lo) (h2 : ¬ hi < x.toInt) (ho : offs[(x.toInt - lo).toNat]? = some off) (ht : (pc : Int) + off = (tgt : Int))
    (k : jJ p l e R s m args below meth c nL D cl A Q cells slots ws lv st tgt) : jJ p l e R s m args below meth c nL D cl A Q cells slots ws lv (.int x :: st) pc :=
  fun H locs ls hP hD hS hl => lv_tableIn hC.1 hC.2.1 hd h1 h2 ho ht (k H locs ls hP hD hS hl)
theorem j_tableOut (hC : jC p s m args meth c cc nL own Ts D cl tys A) {dflt lo hi : Int} {offs : Array Int} {len : Nat} {x : Int32} {tgt : Nat} (hd : decode cc pc = .ok (.tableswitch dflt lo hi offs, len)) (h : x.toInt < lo ∨ hi < x.toInt) (ht : (pc : Int) + dflt = (tgt : Int))
    (k : jJ p l e R s m args below meth c nL D cl A Q cells slots ws lv st tgt) : jJ p l e R s m args below meth c nL D cl A Q cells slots ws lv (.int x :: st) pc :=
  fun H locs ls hP hD hS hl => lv_tableOut hC.1 hC.2.1 hd h ht (k H locs ls hP hD hS hl)
end JH
