-- contracts that throw, called where nothing catches
/-- a contract's end: thrown c, or (c none) this value; these cells -/
def jE (c : Option String) (v : Option Value) (w : va_W) : Option String → Option Value → va_W → Prop := fun o v' w' => o = c ∧ (o = none → v' = v) ∧ w' = w
section JEX
variable {p : Program} {l : Launch} {e : Env} {R : Room} {s : State} {m : MethodId} {args : Array Value} {below : List Frame} {meth : Method} {c : Code} {Q : State → Prop} {cells slots : Nat}
variable {cc : ByteArray} {nL : Nat} {own : String} {Ts : List Cond} {D : va_G} {cl : List vw_C} {tys : List (ClassId × FieldType)} {A : Nat → Prop}
variable {pc : Nat} {lv : List (Nat × Value)} {st : List Value} {ws w1 w2 : va_W}
variable {y : MethodName} {bytes : ByteArray} {maxL index mc ms MC MS : Nat} {ret : Option FieldType} {rm : Room} {As rest st0 : List Value} {r r2 : Option Value} {c0 c1 : Option String}
theorem jT_widen {cells' slots' : Nat} {cn : String} (h1 : cells ≤ cells') (h2 : slots ≤ slots') (k : jT p l e R s m args below meth c nL D cl A Q cells' slots' cn ws lv pc) : jT p l e R s m args below meth c nL D cl A Q cells slots cn ws lv pc :=
  fun H locs ls x st hP hD hS hl hx T hT X => k H locs ls x st hP hD hS hl hx T hT (stand_widen X h1 h2)
/-- a call of a method that may throw, the exception going on out -/
theorem j_callVx (hC : jC p s m args meth c cc nL own Ts D cl tys A) (hex : c.exceptionTable.isEmpty = true) {C : String} {T : u_T} {N ci b q0 : Nat} {fs : List Value}
    (hM : jMet l y (.code y bytes maxL ret) rm D cl tys Ts (.ref b :: As) ws mc ms (jE c0 r w1)) (hrc : rm.cells = mc) (hrs : rm.slots = ms) (hw : ∀ w ∈ jwV own index C y (.code y bytes maxL ret), w ∈ Ts)
    (hy : y.cls ≠ "java/lang/invoke/MethodHandle" ∧ y.cls ≠ "java/lang/invoke/VarHandle" ∧ (parseMethodDescriptor y.desc).map (fun d => d.parameters.length) = some As.length)
    (he : ws[q0]? = some (b, .inr (ci, fs))) (hcl : cl[ci]? = some (C, T, N)) (hst : st0 = As.reverse ++ .ref b :: rest) (hd : decode cc pc = .ok (.invokevirtual index, 3)) (hW : (rest.map fun v => v.category).sum ≤ 8)
    (hfl : rm.frames + 1 ≤ R.frames ∧ 8 + (maxL + 11) + rm.locals ≤ R.locals) (hcs : cells + mc ≤ R.cells ∧ slots + ms ≤ R.slots) (hcs2 : cells + mc ≤ MC ∧ slots + ms ≤ MS) {st1 : List Value} (hr : r.toList ++ rest = st1)
    (hx : ∀ cn, c0 = some cn → c1 = some cn ∧ w1 = w2)
    (k : c0 = none → jJ p l e R s m args below meth c nL D cl A (hxQ below (jQ D cl (jE c1 r2 w2) A) args s MC MS A) (cells + mc) (slots + ms) w1 lv st1 (pc + 3)) :
    jJ p l e R s m args below meth c nL D cl A (hxQ below (jQ D cl (jE c1 r2 w2) A) args s MC MS A) cells slots ws lv st0 pc := by
  subst hr
  refine j_callV hC hM hrc hrs hw hy he hcl hst hd hW hfl hcs (fun v w h => ?_) (fun cn w h => ?_)
  · obtain ⟨h1, h2, rfl⟩ := h
    rw [h2 rfl]
    exact k h1.symm
  · obtain ⟨h1, h2, rfl⟩ := h
    obtain ⟨h3, h4⟩ := hx cn h1.symm
    refine jT_widen hcs2.1 hcs2.2 (j_out hC hex ⟨h3.symm, fun z => (by cases z), h4⟩)
/-- 'throw new X("..")', the room rounded up -/
theorem j_throwE (hC : jC p s m args meth c cc nL own Ts D cl tys A) (hex : c.exceptionTable.isEmpty = true) (htr : e.platform.stackTraces = false) {cls tx : String} {names : List String} {ia ib ic ix : Nat} {rx : ByteArray} (x0 : decode rx 0 = .ok (.aload_n 0, 1)) (x1 : decode rx 1 = .ok (.aload_n 1, 1)) (x2 : decode rx 2 = .ok (.invokespecial ix, 3)) (x5 : decode rx 5 = .ok (.return_, 1))
    (hd0 : decode cc pc = .ok (.new ia, 3)) (hd3 : decode cc (pc + 3) = .ok (.dup, 1)) (hd4 : decode cc (pc + 4) = .ok (.ldc ib, 2)) (hd6 : decode cc (pc + 6) = .ok (.invokespecial ic, 3)) (hd9 : decode cc (pc + 9) = .ok (.athrow, 1))
    (hcls : Bundle.fit cls = true) (hnames : ∀ n ∈ names, Bundle.fit n = true) (hw : ∀ w ∈ [Cond.classLink own ia cls, .initialized cls, .instantiable cls 6, .stringRef own ib tx], w ∈ Ts)
    (ho : ∀ w ∈ Bundle.ownAtomsX own ic cls ix rx names, w ∈ Ts ∨ w = jA1 ∨ w = jA2 ∨ w = jA3 ∨ w = jA4)
    (hRf : names.length + 3 < R.frames) (hRl : (st.map fun v => v.category).sum + 1 + (13 * (names.length + 1) + 42) ≤ R.locals) (hcells : cells + 1 ≤ MC ∧ slots + 6 ≤ MS) (hR : MC ≤ R.cells ∧ MS ≤ R.slots)
    (hp : c1 = some cls) (hw2 : ws = w2) :
    jJ p l e R s m args below meth c nL D cl A (hxQ below (jQ D cl (jE c1 r2 w2) A) args s MC MS A) cells slots ws lv st pc := by
  subst hw2
  obtain ⟨M1, hM1⟩ : ∃ M1, MC = M1 + 1 := ⟨MC - 1, by omega⟩
  obtain ⟨M2, hM2⟩ : ∃ M2, MS = M2 + 6 := ⟨MS - 6, by omega⟩
  subst hM1
  subst hM2
  refine j_widen (cells' := M1) (slots' := M2) (by omega) (by omega) ?_
  exact j_throw hC hex htr x0 x1 x2 x5 hd0 hd3 hd4 hd6 hd9 hcls hnames hw ho hRf hRl hR.1 hR.2 ⟨hp.symm, fun z => (by cases z), rfl⟩
end JEX
