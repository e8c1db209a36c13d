section
-- ===== PART A: goes FIRST, ahead of the names: the tables' words, and 'selects' of the private methods out of them =====
/-- a private method of a class that the tables say can be made, by its rows of tables_1 -/
def lw_okq (q : MethodName × Nat) : Prop := (q.1.cls ≠ "java/lang/invoke/MethodHandle" ∧ q.1.cls ≠ "java/lang/invoke/VarHandle") ∧ Cond.instantiable q.1.cls q.2 ∈ tables_1 ∧ Cond.privateMethod q.1 ∈ tables_1 ∧ Cond.instanceMethod q.1 ∈ tables_1
theorem lw_p0 : lw_okq (⟨"StrataHouse", "rulesChanged", "()V"⟩, 12) := ⟨⟨by decide +kernel, by decide +kernel⟩, List.mem_of_getElem? (i := 18) (by decide +kernel), List.mem_of_getElem? (i := 176) (by decide +kernel), List.mem_of_getElem? (i := 177) (by decide +kernel)⟩
theorem lw_p1 : lw_okq (⟨"StrataHouse", "judge", "()V"⟩, 12) := ⟨⟨by decide +kernel, by decide +kernel⟩, List.mem_of_getElem? (i := 18) (by decide +kernel), List.mem_of_getElem? (i := 184) (by decide +kernel), List.mem_of_getElem? (i := 185) (by decide +kernel)⟩
theorem lw_p2 : lw_okq (⟨"StrataHouse", "firstUnsafe", "()I"⟩, 12) := ⟨⟨by decide +kernel, by decide +kernel⟩, List.mem_of_getElem? (i := 18) (by decide +kernel), List.mem_of_getElem? (i := 188) (by decide +kernel), List.mem_of_getElem? (i := 189) (by decide +kernel)⟩
theorem lw_p3 : lw_okq (⟨"StrataHouse$Rule", "isSafe", "()Z"⟩, 6) := ⟨⟨by decide +kernel, by decide +kernel⟩, List.mem_of_getElem? (i := 71) (by decide +kernel), List.mem_of_getElem? (i := 192) (by decide +kernel), List.mem_of_getElem? (i := 193) (by decide +kernel)⟩
theorem lw_p4 : lw_okq (⟨"StrataHouse", "findLayers", "()Z"⟩, 12) := ⟨⟨by decide +kernel, by decide +kernel⟩, List.mem_of_getElem? (i := 18) (by decide +kernel), List.mem_of_getElem? (i := 196) (by decide +kernel), List.mem_of_getElem? (i := 197) (by decide +kernel)⟩
theorem lw_p5 : lw_okq (⟨"StrataHouse", "raiseLayers", "()Z"⟩, 12) := ⟨⟨by decide +kernel, by decide +kernel⟩, List.mem_of_getElem? (i := 18) (by decide +kernel), List.mem_of_getElem? (i := 200) (by decide +kernel), List.mem_of_getElem? (i := 201) (by decide +kernel)⟩
theorem lw_p6 : lw_okq (⟨"StrataHouse$Rule", "leastLayer", "([I)I"⟩, 6) := ⟨⟨by decide +kernel, by decide +kernel⟩, List.mem_of_getElem? (i := 71) (by decide +kernel), List.mem_of_getElem? (i := 204) (by decide +kernel), List.mem_of_getElem? (i := 205) (by decide +kernel)⟩
theorem lw_p7 : lw_okq (⟨"java/lang/Throwable", "fillInStackTrace", "(I)Ljava/lang/Throwable;"⟩, 6) := ⟨⟨by decide +kernel, by decide +kernel⟩, List.mem_of_getElem? (i := 259) (by decide +kernel), List.mem_of_getElem? (i := 257) (by decide +kernel), List.mem_of_getElem? (i := 258) (by decide +kernel)⟩
theorem lw_p8 : lw_okq (⟨"StrataHouse", "checkFact", "(III)V"⟩, 12) := ⟨⟨by decide +kernel, by decide +kernel⟩, List.mem_of_getElem? (i := 18) (by decide +kernel), List.mem_of_getElem? (i := 312) (by decide +kernel), List.mem_of_getElem? (i := 313) (by decide +kernel)⟩
theorem lw_p9 : lw_okq (⟨"StrataHouse", "checkRelation", "(I)V"⟩, 12) := ⟨⟨by decide +kernel, by decide +kernel⟩, List.mem_of_getElem? (i := 18) (by decide +kernel), List.mem_of_getElem? (i := 316) (by decide +kernel), List.mem_of_getElem? (i := 317) (by decide +kernel)⟩
theorem lw_p10 : lw_okq (⟨"StrataHouse", "firstOf", "(II)I"⟩, 12) := ⟨⟨by decide +kernel, by decide +kernel⟩, List.mem_of_getElem? (i := 18) (by decide +kernel), List.mem_of_getElem? (i := 321) (by decide +kernel), List.mem_of_getElem? (i := 322) (by decide +kernel)⟩
theorem lw_p11 : lw_okq (⟨"StrataHouse", "secondOf", "(II)I"⟩, 12) := ⟨⟨by decide +kernel, by decide +kernel⟩, List.mem_of_getElem? (i := 18) (by decide +kernel), List.mem_of_getElem? (i := 328) (by decide +kernel), List.mem_of_getElem? (i := 329) (by decide +kernel)⟩
theorem lw_p12 : lw_okq (⟨"StrataHouse", "setGiven", "(IIIZ)Z"⟩, 12) := ⟨⟨by decide +kernel, by decide +kernel⟩, List.mem_of_getElem? (i := 18) (by decide +kernel), List.mem_of_getElem? (i := 333) (by decide +kernel), List.mem_of_getElem? (i := 334) (by decide +kernel)⟩
theorem lw_p13 : lw_okq (⟨"StrataHouse", "checkTerms", "(III)V"⟩, 12) := ⟨⟨by decide +kernel, by decide +kernel⟩, List.mem_of_getElem? (i := 18) (by decide +kernel), List.mem_of_getElem? (i := 357) (by decide +kernel), List.mem_of_getElem? (i := 358) (by decide +kernel)⟩
theorem lw_p14 : lw_okq (⟨"StrataHouse$Rule", "begin", "(III)V"⟩, 6) := ⟨⟨by decide +kernel, by decide +kernel⟩, List.mem_of_getElem? (i := 71) (by decide +kernel), List.mem_of_getElem? (i := 366) (by decide +kernel), List.mem_of_getElem? (i := 367) (by decide +kernel)⟩
theorem lw_p15 : lw_okq (⟨"StrataHouse$Atom", "become", "(IIIZ)V"⟩, 4) := ⟨⟨by decide +kernel, by decide +kernel⟩, List.mem_of_getElem? (i := 77) (by decide +kernel), List.mem_of_getElem? (i := 370) (by decide +kernel), List.mem_of_getElem? (i := 371) (by decide +kernel)⟩
def lw_privs_1 : List (MethodName × Nat) := [(⟨"StrataHouse", "rulesChanged", "()V"⟩, 12), (⟨"StrataHouse", "judge", "()V"⟩, 12), (⟨"StrataHouse", "firstUnsafe", "()I"⟩, 12), (⟨"StrataHouse$Rule", "isSafe", "()Z"⟩, 6), (⟨"StrataHouse", "findLayers", "()Z"⟩, 12), (⟨"StrataHouse", "raiseLayers", "()Z"⟩, 12), (⟨"StrataHouse$Rule", "leastLayer", "([I)I"⟩, 6), (⟨"java/lang/Throwable", "fillInStackTrace", "(I)Ljava/lang/Throwable;"⟩, 6), (⟨"StrataHouse", "checkFact", "(III)V"⟩, 12), (⟨"StrataHouse", "checkRelation", "(I)V"⟩, 12), (⟨"StrataHouse", "firstOf", "(II)I"⟩, 12), (⟨"StrataHouse", "secondOf", "(II)I"⟩, 12), (⟨"StrataHouse", "setGiven", "(IIIZ)Z"⟩, 12), (⟨"StrataHouse", "checkTerms", "(III)V"⟩, 12), (⟨"StrataHouse$Rule", "begin", "(III)V"⟩, 6), (⟨"StrataHouse$Atom", "become", "(IIIZ)V"⟩, 4)]
theorem lw_r1 : ∀ q ∈ lw_privs_1, lw_okq q := List.forall_mem_cons.mpr ⟨lw_p0, List.forall_mem_cons.mpr ⟨lw_p1, List.forall_mem_cons.mpr ⟨lw_p2, List.forall_mem_cons.mpr ⟨lw_p3, List.forall_mem_cons.mpr ⟨lw_p4, List.forall_mem_cons.mpr ⟨lw_p5, List.forall_mem_cons.mpr ⟨lw_p6, List.forall_mem_cons.mpr ⟨lw_p7, List.forall_mem_cons.mpr ⟨lw_p8, List.forall_mem_cons.mpr ⟨lw_p9, List.forall_mem_cons.mpr ⟨lw_p10, List.forall_mem_cons.mpr ⟨lw_p11, List.forall_mem_cons.mpr ⟨lw_p12, List.forall_mem_cons.mpr ⟨lw_p13, List.forall_mem_cons.mpr ⟨lw_p14, List.forall_mem_cons.mpr ⟨lw_p15, fun _ h => absurd h List.not_mem_nil⟩⟩⟩⟩⟩⟩⟩⟩⟩⟩⟩⟩⟩⟩⟩⟩
theorem lw_p16 : lw_okq (⟨"StrataHouse$Atom", "variables", "()I"⟩, 4) := ⟨⟨by decide +kernel, by decide +kernel⟩, List.mem_of_getElem? (i := 77) (by decide +kernel), List.mem_of_getElem? (i := 374) (by decide +kernel), List.mem_of_getElem? (i := 375) (by decide +kernel)⟩
theorem lw_p17 : lw_okq (⟨"StrataHouse", "checkSomeRule", "()V"⟩, 12) := ⟨⟨by decide +kernel, by decide +kernel⟩, List.mem_of_getElem? (i := 18) (by decide +kernel), List.mem_of_getElem? (i := 387) (by decide +kernel), List.mem_of_getElem? (i := 388) (by decide +kernel)⟩
theorem lw_p18 : lw_okq (⟨"StrataHouse$Rule", "isFull", "()Z"⟩, 6) := ⟨⟨by decide +kernel, by decide +kernel⟩, List.mem_of_getElem? (i := 71) (by decide +kernel), List.mem_of_getElem? (i := 407) (by decide +kernel), List.mem_of_getElem? (i := 408) (by decide +kernel)⟩
theorem lw_p19 : lw_okq (⟨"StrataHouse$Rule", "add", "(IIIZ)V"⟩, 6) := ⟨⟨by decide +kernel, by decide +kernel⟩, List.mem_of_getElem? (i := 71) (by decide +kernel), List.mem_of_getElem? (i := 412) (by decide +kernel), List.mem_of_getElem? (i := 413) (by decide +kernel)⟩
theorem lw_p20 : lw_okq (⟨"StrataHouse", "checkNoFault", "()V"⟩, 12) := ⟨⟨by decide +kernel, by decide +kernel⟩, List.mem_of_getElem? (i := 18) (by decide +kernel), List.mem_of_getElem? (i := 431) (by decide +kernel), List.mem_of_getElem? (i := 432) (by decide +kernel)⟩
theorem lw_p21 : lw_okq (⟨"StrataHouse", "settle", "()V"⟩, 12) := ⟨⟨by decide +kernel, by decide +kernel⟩, List.mem_of_getElem? (i := 18) (by decide +kernel), List.mem_of_getElem? (i := 443) (by decide +kernel), List.mem_of_getElem? (i := 444) (by decide +kernel)⟩
theorem lw_p22 : lw_okq (⟨"StrataHouse", "rankGiven", "()V"⟩, 12) := ⟨⟨by decide +kernel, by decide +kernel⟩, List.mem_of_getElem? (i := 18) (by decide +kernel), List.mem_of_getElem? (i := 447) (by decide +kernel), List.mem_of_getElem? (i := 448) (by decide +kernel)⟩
theorem lw_p23 : lw_okq (⟨"StrataHouse", "topLayer", "()I"⟩, 12) := ⟨⟨by decide +kernel, by decide +kernel⟩, List.mem_of_getElem? (i := 18) (by decide +kernel), List.mem_of_getElem? (i := 451) (by decide +kernel), List.mem_of_getElem? (i := 452) (by decide +kernel)⟩
theorem lw_p24 : lw_okq (⟨"StrataHouse", "look", "(II)V"⟩, 12) := ⟨⟨by decide +kernel, by decide +kernel⟩, List.mem_of_getElem? (i := 18) (by decide +kernel), List.mem_of_getElem? (i := 456) (by decide +kernel), List.mem_of_getElem? (i := 457) (by decide +kernel)⟩
theorem lw_p25 : lw_okq (⟨"StrataHouse$Sight", "forget", "()V"⟩, 5) := ⟨⟨by decide +kernel, by decide +kernel⟩, List.mem_of_getElem? (i := 34) (by decide +kernel), List.mem_of_getElem? (i := 460) (by decide +kernel), List.mem_of_getElem? (i := 461) (by decide +kernel)⟩
theorem lw_p26 : lw_okq (⟨"StrataHouse", "lookAt", "(II)V"⟩, 12) := ⟨⟨by decide +kernel, by decide +kernel⟩, List.mem_of_getElem? (i := 18) (by decide +kernel), List.mem_of_getElem? (i := 466) (by decide +kernel), List.mem_of_getElem? (i := 467) (by decide +kernel)⟩
theorem lw_p27 : lw_okq (⟨"StrataHouse$Sight", "show", "(III)V"⟩, 5) := ⟨⟨by decide +kernel, by decide +kernel⟩, List.mem_of_getElem? (i := 34) (by decide +kernel), List.mem_of_getElem? (i := 473) (by decide +kernel), List.mem_of_getElem? (i := 474) (by decide +kernel)⟩
theorem lw_p28 : lw_okq (⟨"StrataHouse", "bringRound", "(III)V"⟩, 12) := ⟨⟨by decide +kernel, by decide +kernel⟩, List.mem_of_getElem? (i := 18) (by decide +kernel), List.mem_of_getElem? (i := 478) (by decide +kernel), List.mem_of_getElem? (i := 479) (by decide +kernel)⟩
theorem lw_p29 : lw_okq (⟨"StrataHouse", "bringByRule", "(LStrataHouse$Rule;I)V"⟩, 12) := ⟨⟨by decide +kernel, by decide +kernel⟩, List.mem_of_getElem? (i := 18) (by decide +kernel), List.mem_of_getElem? (i := 482) (by decide +kernel), List.mem_of_getElem? (i := 483) (by decide +kernel)⟩
theorem lw_p30 : lw_okq (⟨"StrataHouse$Match", "forget", "()V"⟩, 2) := ⟨⟨by decide +kernel, by decide +kernel⟩, List.mem_of_getElem? (i := 28) (by decide +kernel), List.mem_of_getElem? (i := 486) (by decide +kernel), List.mem_of_getElem? (i := 487) (by decide +kernel)⟩
theorem lw_p31 : lw_okq (⟨"StrataHouse$Match", "choices", "(LStrataHouse$Rule;I)I"⟩, 2) := ⟨⟨by decide +kernel, by decide +kernel⟩, List.mem_of_getElem? (i := 28) (by decide +kernel), List.mem_of_getElem? (i := 490) (by decide +kernel), List.mem_of_getElem? (i := 491) (by decide +kernel)⟩
def lw_privs_2 : List (MethodName × Nat) := [(⟨"StrataHouse$Atom", "variables", "()I"⟩, 4), (⟨"StrataHouse", "checkSomeRule", "()V"⟩, 12), (⟨"StrataHouse$Rule", "isFull", "()Z"⟩, 6), (⟨"StrataHouse$Rule", "add", "(IIIZ)V"⟩, 6), (⟨"StrataHouse", "checkNoFault", "()V"⟩, 12), (⟨"StrataHouse", "settle", "()V"⟩, 12), (⟨"StrataHouse", "rankGiven", "()V"⟩, 12), (⟨"StrataHouse", "topLayer", "()I"⟩, 12), (⟨"StrataHouse", "look", "(II)V"⟩, 12), (⟨"StrataHouse$Sight", "forget", "()V"⟩, 5), (⟨"StrataHouse", "lookAt", "(II)V"⟩, 12), (⟨"StrataHouse$Sight", "show", "(III)V"⟩, 5), (⟨"StrataHouse", "bringRound", "(III)V"⟩, 12), (⟨"StrataHouse", "bringByRule", "(LStrataHouse$Rule;I)V"⟩, 12), (⟨"StrataHouse$Match", "forget", "()V"⟩, 2), (⟨"StrataHouse$Match", "choices", "(LStrataHouse$Rule;I)I"⟩, 2)]
theorem lw_r2 : ∀ q ∈ lw_privs_2, lw_okq q := List.forall_mem_cons.mpr ⟨lw_p16, List.forall_mem_cons.mpr ⟨lw_p17, List.forall_mem_cons.mpr ⟨lw_p18, List.forall_mem_cons.mpr ⟨lw_p19, List.forall_mem_cons.mpr ⟨lw_p20, List.forall_mem_cons.mpr ⟨lw_p21, List.forall_mem_cons.mpr ⟨lw_p22, List.forall_mem_cons.mpr ⟨lw_p23, List.forall_mem_cons.mpr ⟨lw_p24, List.forall_mem_cons.mpr ⟨lw_p25, List.forall_mem_cons.mpr ⟨lw_p26, List.forall_mem_cons.mpr ⟨lw_p27, List.forall_mem_cons.mpr ⟨lw_p28, List.forall_mem_cons.mpr ⟨lw_p29, List.forall_mem_cons.mpr ⟨lw_p30, List.forall_mem_cons.mpr ⟨lw_p31, fun _ h => absurd h List.not_mem_nil⟩⟩⟩⟩⟩⟩⟩⟩⟩⟩⟩⟩⟩⟩⟩⟩
theorem lw_p32 : lw_okq (⟨"StrataHouse$Match", "choicesBy", "(LStrataHouse$Atom;I)I"⟩, 2) := ⟨⟨by decide +kernel, by decide +kernel⟩, List.mem_of_getElem? (i := 28) (by decide +kernel), List.mem_of_getElem? (i := 494) (by decide +kernel), List.mem_of_getElem? (i := 495) (by decide +kernel)⟩
theorem lw_p33 : lw_okq (⟨"StrataHouse$Match", "bind", "(II)Z"⟩, 2) := ⟨⟨by decide +kernel, by decide +kernel⟩, List.mem_of_getElem? (i := 28) (by decide +kernel), List.mem_of_getElem? (i := 498) (by decide +kernel), List.mem_of_getElem? (i := 499) (by decide +kernel)⟩
theorem lw_p34 : lw_okq (⟨"StrataHouse$Match", "meets", "(LStrataHouse$Rule;III)Z"⟩, 2) := ⟨⟨by decide +kernel, by decide +kernel⟩, List.mem_of_getElem? (i := 28) (by decide +kernel), List.mem_of_getElem? (i := 502) (by decide +kernel), List.mem_of_getElem? (i := 503) (by decide +kernel)⟩
theorem lw_p35 : lw_okq (⟨"StrataHouse$Match", "knownAgree", "(LStrataHouse$Rule;)Z"⟩, 2) := ⟨⟨by decide +kernel, by decide +kernel⟩, List.mem_of_getElem? (i := 28) (by decide +kernel), List.mem_of_getElem? (i := 508) (by decide +kernel), List.mem_of_getElem? (i := 509) (by decide +kernel)⟩
theorem lw_p36 : lw_okq (⟨"StrataHouse$Sight", "sees", "(III)Z"⟩, 5) := ⟨⟨by decide +kernel, by decide +kernel⟩, List.mem_of_getElem? (i := 34) (by decide +kernel), List.mem_of_getElem? (i := 512) (by decide +kernel), List.mem_of_getElem? (i := 513) (by decide +kernel)⟩
theorem lw_p37 : lw_okq (⟨"StrataHouse$Match", "findLeast", "(LStrataHouse$Rule;I)Z"⟩, 2) := ⟨⟨by decide +kernel, by decide +kernel⟩, List.mem_of_getElem? (i := 28) (by decide +kernel), List.mem_of_getElem? (i := 516) (by decide +kernel), List.mem_of_getElem? (i := 517) (by decide +kernel)⟩
theorem lw_p38 : lw_okq (⟨"StrataHouse$Match", "nextOpen", "(LStrataHouse$Rule;I)I"⟩, 2) := ⟨⟨by decide +kernel, by decide +kernel⟩, List.mem_of_getElem? (i := 28) (by decide +kernel), List.mem_of_getElem? (i := 520) (by decide +kernel), List.mem_of_getElem? (i := 521) (by decide +kernel)⟩
theorem lw_p39 : lw_okq (⟨"StrataHouse", "showFresh", "()I"⟩, 12) := ⟨⟨by decide +kernel, by decide +kernel⟩, List.mem_of_getElem? (i := 18) (by decide +kernel), List.mem_of_getElem? (i := 527) (by decide +kernel), List.mem_of_getElem? (i := 528) (by decide +kernel)⟩
theorem lw_p40 : lw_okq (⟨"StrataHouse$Match", "countInstances", "(LStrataHouse$Rule;I)I"⟩, 2) := ⟨⟨by decide +kernel, by decide +kernel⟩, List.mem_of_getElem? (i := 28) (by decide +kernel), List.mem_of_getElem? (i := 545) (by decide +kernel), List.mem_of_getElem? (i := 546) (by decide +kernel)⟩
theorem lw_p41 : lw_okq (⟨"StrataHouse", "leastRule", "(III)I"⟩, 12) := ⟨⟨by decide +kernel, by decide +kernel⟩, List.mem_of_getElem? (i := 18) (by decide +kernel), List.mem_of_getElem? (i := 581) (by decide +kernel), List.mem_of_getElem? (i := 582) (by decide +kernel)⟩
theorem lw_p42 : lw_okq (⟨"StrataHouseModel", "refuse", "(ZZZ)Z"⟩, 16) := ⟨⟨by decide +kernel, by decide +kernel⟩, List.mem_of_getElem? (i := 585) (by decide +kernel), List.mem_of_getElem? (i := 656) (by decide +kernel), List.mem_of_getElem? (i := 657) (by decide +kernel)⟩
theorem lw_p43 : lw_okq (⟨"StrataHouseModel", "isFact", "(III)Z"⟩, 16) := ⟨⟨by decide +kernel, by decide +kernel⟩, List.mem_of_getElem? (i := 585) (by decide +kernel), List.mem_of_getElem? (i := 664) (by decide +kernel), List.mem_of_getElem? (i := 665) (by decide +kernel)⟩
theorem lw_p44 : lw_okq (⟨"StrataHouseModel", "factAt", "(III)I"⟩, 16) := ⟨⟨by decide +kernel, by decide +kernel⟩, List.mem_of_getElem? (i := 585) (by decide +kernel), List.mem_of_getElem? (i := 668) (by decide +kernel), List.mem_of_getElem? (i := 669) (by decide +kernel)⟩
theorem lw_p45 : lw_okq (⟨"StrataHouseModel", "areTerms", "(III)Z"⟩, 16) := ⟨⟨by decide +kernel, by decide +kernel⟩, List.mem_of_getElem? (i := 585) (by decide +kernel), List.mem_of_getElem? (i := 680) (by decide +kernel), List.mem_of_getElem? (i := 681) (by decide +kernel)⟩
theorem lw_p46 : lw_okq (⟨"StrataHouseModel", "put", "(IIIIZ)V"⟩, 16) := ⟨⟨by decide +kernel, by decide +kernel⟩, List.mem_of_getElem? (i := 585) (by decide +kernel), List.mem_of_getElem? (i := 687) (by decide +kernel), List.mem_of_getElem? (i := 688) (by decide +kernel)⟩
theorem lw_p47 : lw_okq (⟨"StrataHouseModel", "find", "()V"⟩, 16) := ⟨⟨by decide +kernel, by decide +kernel⟩, List.mem_of_getElem? (i := 585) (by decide +kernel), List.mem_of_getElem? (i := 703) (by decide +kernel), List.mem_of_getElem? (i := 704) (by decide +kernel)⟩
def lw_privs_3 : List (MethodName × Nat) := [(⟨"StrataHouse$Match", "choicesBy", "(LStrataHouse$Atom;I)I"⟩, 2), (⟨"StrataHouse$Match", "bind", "(II)Z"⟩, 2), (⟨"StrataHouse$Match", "meets", "(LStrataHouse$Rule;III)Z"⟩, 2), (⟨"StrataHouse$Match", "knownAgree", "(LStrataHouse$Rule;)Z"⟩, 2), (⟨"StrataHouse$Sight", "sees", "(III)Z"⟩, 5), (⟨"StrataHouse$Match", "findLeast", "(LStrataHouse$Rule;I)Z"⟩, 2), (⟨"StrataHouse$Match", "nextOpen", "(LStrataHouse$Rule;I)I"⟩, 2), (⟨"StrataHouse", "showFresh", "()I"⟩, 12), (⟨"StrataHouse$Match", "countInstances", "(LStrataHouse$Rule;I)I"⟩, 2), (⟨"StrataHouse", "leastRule", "(III)I"⟩, 12), (⟨"StrataHouseModel", "refuse", "(ZZZ)Z"⟩, 16), (⟨"StrataHouseModel", "isFact", "(III)Z"⟩, 16), (⟨"StrataHouseModel", "factAt", "(III)I"⟩, 16), (⟨"StrataHouseModel", "areTerms", "(III)Z"⟩, 16), (⟨"StrataHouseModel", "put", "(IIIIZ)V"⟩, 16), (⟨"StrataHouseModel", "find", "()V"⟩, 16)]
theorem lw_r3 : ∀ q ∈ lw_privs_3, lw_okq q := List.forall_mem_cons.mpr ⟨lw_p32, List.forall_mem_cons.mpr ⟨lw_p33, List.forall_mem_cons.mpr ⟨lw_p34, List.forall_mem_cons.mpr ⟨lw_p35, List.forall_mem_cons.mpr ⟨lw_p36, List.forall_mem_cons.mpr ⟨lw_p37, List.forall_mem_cons.mpr ⟨lw_p38, List.forall_mem_cons.mpr ⟨lw_p39, List.forall_mem_cons.mpr ⟨lw_p40, List.forall_mem_cons.mpr ⟨lw_p41, List.forall_mem_cons.mpr ⟨lw_p42, List.forall_mem_cons.mpr ⟨lw_p43, List.forall_mem_cons.mpr ⟨lw_p44, List.forall_mem_cons.mpr ⟨lw_p45, List.forall_mem_cons.mpr ⟨lw_p46, List.forall_mem_cons.mpr ⟨lw_p47, fun _ h => absurd h List.not_mem_nil⟩⟩⟩⟩⟩⟩⟩⟩⟩⟩⟩⟩⟩⟩⟩⟩
theorem lw_p48 : lw_okq (⟨"StrataHouseModel", "findFault", "()I"⟩, 16) := ⟨⟨by decide +kernel, by decide +kernel⟩, List.mem_of_getElem? (i := 585) (by decide +kernel), List.mem_of_getElem? (i := 707) (by decide +kernel), List.mem_of_getElem? (i := 708) (by decide +kernel)⟩
theorem lw_p49 : lw_okq (⟨"StrataHouseModel", "isSafe", "(I)Z"⟩, 16) := ⟨⟨by decide +kernel, by decide +kernel⟩, List.mem_of_getElem? (i := 585) (by decide +kernel), List.mem_of_getElem? (i := 711) (by decide +kernel), List.mem_of_getElem? (i := 712) (by decide +kernel)⟩
theorem lw_p50 : lw_okq (⟨"StrataHouseModel", "variablesOf", "(I)I"⟩, 16) := ⟨⟨by decide +kernel, by decide +kernel⟩, List.mem_of_getElem? (i := 585) (by decide +kernel), List.mem_of_getElem? (i := 715) (by decide +kernel), List.mem_of_getElem? (i := 716) (by decide +kernel)⟩
theorem lw_p51 : lw_okq (⟨"StrataHouseModel", "raise", "(I)Z"⟩, 16) := ⟨⟨by decide +kernel, by decide +kernel⟩, List.mem_of_getElem? (i := 585) (by decide +kernel), List.mem_of_getElem? (i := 719) (by decide +kernel), List.mem_of_getElem? (i := 720) (by decide +kernel)⟩
theorem lw_p52 : lw_okq (⟨"StrataHouseModel", "round", "(II)Z"⟩, 16) := ⟨⟨by decide +kernel, by decide +kernel⟩, List.mem_of_getElem? (i := 585) (by decide +kernel), List.mem_of_getElem? (i := 723) (by decide +kernel), List.mem_of_getElem? (i := 724) (by decide +kernel)⟩
theorem lw_p53 : lw_okq (⟨"StrataHouseModel", "instance", "(II)Z"⟩, 16) := ⟨⟨by decide +kernel, by decide +kernel⟩, List.mem_of_getElem? (i := 585) (by decide +kernel), List.mem_of_getElem? (i := 727) (by decide +kernel), List.mem_of_getElem? (i := 728) (by decide +kernel)⟩
theorem lw_p54 : lw_okq (⟨"StrataHouseModel", "variables", "(I)I"⟩, 16) := ⟨⟨by decide +kernel, by decide +kernel⟩, List.mem_of_getElem? (i := 585) (by decide +kernel), List.mem_of_getElem? (i := 731) (by decide +kernel), List.mem_of_getElem? (i := 732) (by decide +kernel)⟩
theorem lw_p55 : lw_okq (⟨"StrataHouseModel", "factOf", "(I)I"⟩, 16) := ⟨⟨by decide +kernel, by decide +kernel⟩, List.mem_of_getElem? (i := 585) (by decide +kernel), List.mem_of_getElem? (i := 735) (by decide +kernel), List.mem_of_getElem? (i := 736) (by decide +kernel)⟩
theorem lw_p56 : lw_okq (⟨"StrataHouseModel", "termValue", "(I)I"⟩, 16) := ⟨⟨by decide +kernel, by decide +kernel⟩, List.mem_of_getElem? (i := 585) (by decide +kernel), List.mem_of_getElem? (i := 739) (by decide +kernel), List.mem_of_getElem? (i := 740) (by decide +kernel)⟩
theorem lw_p57 : lw_okq (⟨"StrataHouseModel", "holds", "(I)Z"⟩, 16) := ⟨⟨by decide +kernel, by decide +kernel⟩, List.mem_of_getElem? (i := 585) (by decide +kernel), List.mem_of_getElem? (i := 743) (by decide +kernel), List.mem_of_getElem? (i := 744) (by decide +kernel)⟩
theorem lw_p58 : lw_okq (⟨"StrataHouseModel", "isMet", "(I)Z"⟩, 16) := ⟨⟨by decide +kernel, by decide +kernel⟩, List.mem_of_getElem? (i := 585) (by decide +kernel), List.mem_of_getElem? (i := 747) (by decide +kernel), List.mem_of_getElem? (i := 748) (by decide +kernel)⟩
theorem lw_p59 : lw_okq (⟨"StrataHouseModel", "behind", "(II)I"⟩, 16) := ⟨⟨by decide +kernel, by decide +kernel⟩, List.mem_of_getElem? (i := 585) (by decide +kernel), List.mem_of_getElem? (i := 751) (by decide +kernel), List.mem_of_getElem? (i := 752) (by decide +kernel)⟩
theorem lw_p60 : lw_okq (⟨"StrataHouseModel", "isLower", "(II)Z"⟩, 16) := ⟨⟨by decide +kernel, by decide +kernel⟩, List.mem_of_getElem? (i := 585) (by decide +kernel), List.mem_of_getElem? (i := 775) (by decide +kernel), List.mem_of_getElem? (i := 776) (by decide +kernel)⟩
def lw_privs_4 : List (MethodName × Nat) := [(⟨"StrataHouseModel", "findFault", "()I"⟩, 16), (⟨"StrataHouseModel", "isSafe", "(I)Z"⟩, 16), (⟨"StrataHouseModel", "variablesOf", "(I)I"⟩, 16), (⟨"StrataHouseModel", "raise", "(I)Z"⟩, 16), (⟨"StrataHouseModel", "round", "(II)Z"⟩, 16), (⟨"StrataHouseModel", "instance", "(II)Z"⟩, 16), (⟨"StrataHouseModel", "variables", "(I)I"⟩, 16), (⟨"StrataHouseModel", "factOf", "(I)I"⟩, 16), (⟨"StrataHouseModel", "termValue", "(I)I"⟩, 16), (⟨"StrataHouseModel", "holds", "(I)Z"⟩, 16), (⟨"StrataHouseModel", "isMet", "(I)Z"⟩, 16), (⟨"StrataHouseModel", "behind", "(II)I"⟩, 16), (⟨"StrataHouseModel", "isLower", "(II)Z"⟩, 16)]
theorem lw_r4 : ∀ q ∈ lw_privs_4, lw_okq q := List.forall_mem_cons.mpr ⟨lw_p48, List.forall_mem_cons.mpr ⟨lw_p49, List.forall_mem_cons.mpr ⟨lw_p50, List.forall_mem_cons.mpr ⟨lw_p51, List.forall_mem_cons.mpr ⟨lw_p52, List.forall_mem_cons.mpr ⟨lw_p53, List.forall_mem_cons.mpr ⟨lw_p54, List.forall_mem_cons.mpr ⟨lw_p55, List.forall_mem_cons.mpr ⟨lw_p56, List.forall_mem_cons.mpr ⟨lw_p57, List.forall_mem_cons.mpr ⟨lw_p58, List.forall_mem_cons.mpr ⟨lw_p59, List.forall_mem_cons.mpr ⟨lw_p60, fun _ h => absurd h List.not_mem_nil⟩⟩⟩⟩⟩⟩⟩⟩⟩⟩⟩⟩⟩
def lw_privs : List (MethodName × Nat) := lw_privs_1 ++ (lw_privs_2 ++ (lw_privs_3 ++ (lw_privs_4)))
def lw_tbl : List Cond := k2_sels lw_privs ++ tables_1
theorem lw_privs_ok : ∀ q ∈ lw_privs, lw_okq q := by
  show ∀ q ∈ lw_privs_1 ++ (lw_privs_2 ++ (lw_privs_3 ++ (lw_privs_4))), lw_okq q
  exact List.forall_mem_append.mpr ⟨lw_r1, List.forall_mem_append.mpr ⟨lw_r2, List.forall_mem_append.mpr ⟨lw_r3, lw_r4⟩⟩⟩
end
section
/-- the kinds of word that stay true however warm the tables get -/
def jkk : Cond → Bool
  | .fieldLinkNest .. => true
  | .methodLinkNest .. => true
  | .stringRef .. => true
  | .codeWith .. => true
  | .castable .. => true
  | .declares .. => true
  | w => goodWord w
def jTs : List Cond := lw_tbl.filter jkk
theorem jin {w : Cond} (h : w ∈ lw_tbl) (hk : jkk w = true) : w ∈ jTs := List.mem_filter.mpr ⟨h, hk⟩
theorem jt1 {w : Cond} (h : w ∈ tables_1_1) : w ∈ lw_tbl := List.mem_append_right _ (List.mem_append_left _ h)
theorem jt2 {w : Cond} (h : w ∈ tables_1_2) : w ∈ lw_tbl := List.mem_append_right _ (List.mem_append_right _ (List.mem_append_left _ h))
theorem jt3 {w : Cond} (h : w ∈ tables_1_3) : w ∈ lw_tbl := List.mem_append_right _ (List.mem_append_right _ (List.mem_append_right _ (List.mem_append_left _ h)))
theorem jt4 {w : Cond} (h : w ∈ tables_1_4) : w ∈ lw_tbl := List.mem_append_right _ (List.mem_append_right _ (List.mem_append_right _ (List.mem_append_right _ h)))
theorem jts {w : Cond} (h : w ∈ k2_sels lw_privs) : w ∈ lw_tbl := List.mem_append_left _ h
def RX0 : String := "StrataHouse$Atom"
def TX0 : u_T := fun k => match k with
  | 0 => ("StrataHouse$Atom", "relation", "I", false)
  | 1 => ("StrataHouse$Atom", "first", "I", false)
  | 2 => ("StrataHouse$Atom", "second", "I", false)
  | _ => ("StrataHouse$Atom", "negated", "Z", false)
def tyX0 : Nat → FieldType := fun k => match k with
  | 0 => .int
  | 1 => .int
  | 2 => .int
  | _ => .boolean
abbrev wsX00 : List Cond := u_ws RX0 TX0 4
theorem nmX0 : ∀ a, a < 4 → ∀ b, b < 4 → a ≠ b → (TX0 a).2.1 ≠ (TX0 b).2.1 := by decide +kernel
theorem tyX0_ok : ∀ k, k < 4 → parseFieldDescriptor (TX0 k).2.2.1 = some (tyX0 k) := by decide +kernel
def RX1 : String := "StrataHouse$Match"
def TX1 : u_T := fun k => match k with
  | 0 => ("StrataHouse$Match", "sight", "LStrataHouse$Sight;", true)
  | _ => ("StrataHouse$Match", "values", "[I", true)
def tyX1 : Nat → FieldType := fun k => match k with
  | 0 => .object "StrataHouse$Sight"
  | _ => .array .int
abbrev wsX10 : List Cond := u_ws RX1 TX1 2
theorem nmX1 : ∀ a, a < 2 → ∀ b, b < 2 → a ≠ b → (TX1 a).2.1 ≠ (TX1 b).2.1 := by decide +kernel
theorem tyX1_ok : ∀ k, k < 2 → parseFieldDescriptor (TX1 k).2.2.1 = some (tyX1 k) := by decide +kernel
def RX2 : String := "StrataHouse$Rule"
def TX2 : u_T := fun k => match k with
  | 0 => ("StrataHouse$Rule", "head", "LStrataHouse$Atom;", true)
  | 1 => ("StrataHouse$Rule", "literals", "[LStrataHouse$Atom;", true)
  | 2 => ("StrataHouse$Rule", "size", "I", false)
  | 3 => ("StrataHouse$Rule", "variables", "I", false)
  | 4 => ("StrataHouse$Rule", "positiveVariables", "I", false)
  | _ => ("StrataHouse$Rule", "positiveRelations", "I", false)
def tyX2 : Nat → FieldType := fun k => match k with
  | 0 => .object "StrataHouse$Atom"
  | 1 => .array (.object "StrataHouse$Atom")
  | 2 => .int
  | 3 => .int
  | 4 => .int
  | _ => .int
abbrev wsX20 : List Cond := u_ws RX2 TX2 6
theorem nmX2 : ∀ a, a < 6 → ∀ b, b < 6 → a ≠ b → (TX2 a).2.1 ≠ (TX2 b).2.1 := by decide +kernel
theorem tyX2_ok : ∀ k, k < 6 → parseFieldDescriptor (TX2 k).2.2.1 = some (tyX2 k) := by decide +kernel
def RX3 : String := "StrataHouse$Sight"
def TX3 : u_T := fun k => match k with
  | 0 => ("StrataHouse$Sight", "secondsByFirst", "[I", true)
  | 1 => ("StrataHouse$Sight", "firstsBySecond", "[I", true)
  | 2 => ("StrataHouse$Sight", "firsts", "[I", true)
  | 3 => ("StrataHouse$Sight", "seconds", "[I", true)
  | _ => ("StrataHouse$Sight", "doubles", "[I", true)
def tyX3 : Nat → FieldType := fun k => match k with
  | 0 => .array .int
  | 1 => .array .int
  | 2 => .array .int
  | 3 => .array .int
  | _ => .array .int
abbrev wsX30 : List Cond := u_ws RX3 TX3 5
theorem nmX3 : ∀ a, a < 5 → ∀ b, b < 5 → a ≠ b → (TX3 a).2.1 ≠ (TX3 b).2.1 := by decide +kernel
theorem tyX3_ok : ∀ k, k < 5 → parseFieldDescriptor (TX3 k).2.2.1 = some (tyX3 k) := by decide +kernel
def RX4 : String := "StrataHouse"
def TX4 : u_T := fun k => match k with
  | 0 => ("StrataHouse", "places", "[I", true)
  | 1 => ("StrataHouse", "given", "[I", true)
  | 2 => ("StrataHouse", "rules", "[LStrataHouse$Rule;", true)
  | 3 => ("StrataHouse", "relationCount", "I", false)
  | 4 => ("StrataHouse", "ruleCount", "I", false)
  | 5 => ("StrataHouse", "layers", "[I", true)
  | 6 => ("StrataHouse", "ranks", "[I", true)
  | 7 => ("StrataHouse", "fresh", "[I", true)
  | 8 => ("StrataHouse", "match", "LStrataHouse$Match;", true)
  | 9 => ("StrataHouse", "faultFound", "I", false)
  | 10 => ("StrataHouse", "judged", "Z", false)
  | _ => ("StrataHouse", "settled", "Z", false)
def tyX4 : Nat → FieldType := fun k => match k with
  | 0 => .array .int
  | 1 => .array .int
  | 2 => .array (.object "StrataHouse$Rule")
  | 3 => .int
  | 4 => .int
  | 5 => .array .int
  | 6 => .array .int
  | 7 => .array .int
  | 8 => .object "StrataHouse$Match"
  | 9 => .int
  | 10 => .boolean
  | _ => .boolean
abbrev wsX40 : List Cond := u_ws RX4 TX4 12
theorem nmX4 : ∀ a, a < 12 → ∀ b, b < 12 → a ≠ b → (TX4 a).2.1 ≠ (TX4 b).2.1 := by decide +kernel
theorem tyX4_ok : ∀ k, k < 12 → parseFieldDescriptor (TX4 k).2.2.1 = some (tyX4 k) := by decide +kernel
def RX5 : String := "StrataHouseModel"
def TX5 : u_T := fun k => match k with
  | 0 => ("StrataHouseModel", "thrown", "I", false)
  | 1 => ("StrataHouseModel", "relations", "I", false)
  | 2 => ("StrataHouseModel", "places", "[I", true)
  | 3 => ("StrataHouseModel", "given", "[Z", true)
  | 4 => ("StrataHouseModel", "ranks", "[I", true)
  | 5 => ("StrataHouseModel", "rules", "I", false)
  | 6 => ("StrataHouseModel", "counts", "[I", true)
  | 7 => ("StrataHouseModel", "of", "[I", true)
  | 8 => ("StrataHouseModel", "first", "[I", true)
  | 9 => ("StrataHouseModel", "second", "[I", true)
  | 10 => ("StrataHouseModel", "negated", "[Z", true)
  | 11 => ("StrataHouseModel", "layers", "[I", true)
  | 12 => ("StrataHouseModel", "known", "Z", false)
  | 13 => ("StrataHouseModel", "fault", "I", false)
  | 14 => ("StrataHouseModel", "values", "[I", true)
  | _ => ("StrataHouseModel", "news", "[Z", true)
def tyX5 : Nat → FieldType := fun k => match k with
  | 0 => .int
  | 1 => .int
  | 2 => .array .int
  | 3 => .array .boolean
  | 4 => .array .int
  | 5 => .int
  | 6 => .array .int
  | 7 => .array .int
  | 8 => .array .int
  | 9 => .array .int
  | 10 => .array .boolean
  | 11 => .array .int
  | 12 => .boolean
  | 13 => .int
  | 14 => .array .int
  | _ => .array .boolean
theorem nmX5 : ∀ a, a < 16 → ∀ b, b < 16 → a ≠ b → (TX5 a).2.1 ≠ (TX5 b).2.1 := by decide +kernel
theorem tyX5_ok : ∀ k, k < 16 → parseFieldDescriptor (TX5 k).2.2.1 = some (tyX5 k) := by decide +kernel
abbrev jcl : List vw_C := [(RX0, TX0, 4), (RX1, TX1, 2), (RX2, TX2, 6), (RX3, TX3, 5), (RX4, TX4, 12), (RX5, TX5, 16)]
set_option maxRecDepth 100000 in
theorem hin_A : ∀ w ∈ u_ws RX0 TX0 4, w ∈ jTs := fun w h => jin ((by decide +kernel : ∀ w ∈ u_ws RX0 TX0 4, w ∈ lw_tbl) w h) ((by decide +kernel : ∀ w ∈ u_ws RX0 TX0 4, jkk w = true) w h)
set_option maxRecDepth 100000 in
theorem hin_M : ∀ w ∈ u_ws RX1 TX1 2, w ∈ jTs := fun w h => jin ((by decide +kernel : ∀ w ∈ u_ws RX1 TX1 2, w ∈ lw_tbl) w h) ((by decide +kernel : ∀ w ∈ u_ws RX1 TX1 2, jkk w = true) w h)
set_option maxRecDepth 100000 in
theorem hin_R : ∀ w ∈ u_ws RX2 TX2 6, w ∈ jTs := fun w h => jin ((by decide +kernel : ∀ w ∈ u_ws RX2 TX2 6, w ∈ lw_tbl) w h) ((by decide +kernel : ∀ w ∈ u_ws RX2 TX2 6, jkk w = true) w h)
set_option maxRecDepth 100000 in
theorem hin_S : ∀ w ∈ u_ws RX3 TX3 5, w ∈ jTs := fun w h => jin ((by decide +kernel : ∀ w ∈ u_ws RX3 TX3 5, w ∈ lw_tbl) w h) ((by decide +kernel : ∀ w ∈ u_ws RX3 TX3 5, jkk w = true) w h)
set_option maxRecDepth 100000 in
theorem hin_H : ∀ w ∈ u_ws RX4 TX4 12, w ∈ jTs := fun w h => jin ((by decide +kernel : ∀ w ∈ u_ws RX4 TX4 12, w ∈ lw_tbl) w h) ((by decide +kernel : ∀ w ∈ u_ws RX4 TX4 12, jkk w = true) w h)
set_option maxRecDepth 100000 in
theorem hin_D : ∀ w ∈ u_ws RX5 TX5 16, w ∈ jTs := fun w h => jin ((by decide +kernel : ∀ w ∈ u_ws RX5 TX5 16, w ∈ lw_tbl) w h) ((by decide +kernel : ∀ w ∈ u_ws RX5 TX5 16, jkk w = true) w h)
abbrev c_H_init : ByteArray := prog_1_method_1_code
def y_H_init : MethodName := ⟨"StrataHouse", "<init>", "()V"⟩
abbrev c_H_clear : ByteArray := prog_1_method_2_code
def y_H_clear : MethodName := ⟨"StrataHouse", "clear", "()V"⟩
abbrev c_H_relation : ByteArray := prog_1_method_3_code
def y_H_relation : MethodName := ⟨"StrataHouse", "relation", "(I)I"⟩
abbrev c_H_give : ByteArray := prog_1_method_4_code
def y_H_give : MethodName := ⟨"StrataHouse", "give", "(III)Z"⟩
abbrev c_H_take : ByteArray := prog_1_method_5_code
def y_H_take : MethodName := ⟨"StrataHouse", "take", "(III)Z"⟩
abbrev c_H_rule : ByteArray := prog_1_method_6_code
def y_H_rule : MethodName := ⟨"StrataHouse", "rule", "(III)I"⟩
abbrev c_H_literal : ByteArray := prog_1_method_7_code
def y_H_literal : MethodName := ⟨"StrataHouse", "literal", "(IIIZ)I"⟩
abbrev c_H_unrule : ByteArray := prog_1_method_8_code
def y_H_unrule : MethodName := ⟨"StrataHouse", "unrule", "()V"⟩
abbrev c_H_fault : ByteArray := prog_1_method_9_code
def y_H_fault : MethodName := ⟨"StrataHouse", "fault", "()I"⟩
abbrev c_H_layer : ByteArray := prog_1_method_10_code
def y_H_layer : MethodName := ⟨"StrataHouse", "layer", "(I)I"⟩
abbrev c_H_count : ByteArray := prog_1_method_11_code
def y_H_count : MethodName := ⟨"StrataHouse", "count", "(I)I"⟩
abbrev c_H_rank : ByteArray := prog_1_method_12_code
def y_H_rank : MethodName := ⟨"StrataHouse", "rank", "(III)I"⟩
abbrev c_H_ways : ByteArray := prog_1_method_13_code
def y_H_ways : MethodName := ⟨"StrataHouse", "ways", "(III)I"⟩
abbrev c_H_proof : ByteArray := prog_1_method_14_code
def y_H_proof : MethodName := ⟨"StrataHouse", "proof", "(IIII)I"⟩
abbrev c_H_checkRelation : ByteArray := prog_1_method_15_code
def y_H_checkRelation : MethodName := ⟨"StrataHouse", "checkRelation", "(I)V"⟩
abbrev c_H_checkFact : ByteArray := prog_1_method_16_code
def y_H_checkFact : MethodName := ⟨"StrataHouse", "checkFact", "(III)V"⟩
abbrev c_H_checkTerms : ByteArray := prog_1_method_17_code
def y_H_checkTerms : MethodName := ⟨"StrataHouse", "checkTerms", "(III)V"⟩
abbrev c_H_checkSomeRule : ByteArray := prog_1_method_18_code
def y_H_checkSomeRule : MethodName := ⟨"StrataHouse", "checkSomeRule", "()V"⟩
abbrev c_H_checkNoFault : ByteArray := prog_1_method_19_code
def y_H_checkNoFault : MethodName := ⟨"StrataHouse", "checkNoFault", "()V"⟩
abbrev c_H_isConstant : ByteArray := prog_1_method_20_code
def y_H_isConstant : MethodName := ⟨"StrataHouse", "isConstant", "(I)Z"⟩
abbrev c_H_isTerm : ByteArray := prog_1_method_21_code
def y_H_isTerm : MethodName := ⟨"StrataHouse", "isTerm", "(I)Z"⟩
abbrev c_H_firstOf : ByteArray := prog_1_method_22_code
def y_H_firstOf : MethodName := ⟨"StrataHouse", "firstOf", "(II)I"⟩
abbrev c_H_secondOf : ByteArray := prog_1_method_23_code
def y_H_secondOf : MethodName := ⟨"StrataHouse", "secondOf", "(II)I"⟩
abbrev c_H_rowAt : ByteArray := prog_1_method_24_code
def y_H_rowAt : MethodName := ⟨"StrataHouse", "rowAt", "(II)I"⟩
abbrev c_H_factAt : ByteArray := prog_1_method_25_code
def y_H_factAt : MethodName := ⟨"StrataHouse", "factAt", "(III)I"⟩
abbrev c_H_hasBit : ByteArray := prog_1_method_26_code
def y_H_hasBit : MethodName := ⟨"StrataHouse", "hasBit", "(II)Z"⟩
abbrev c_H_rulesChanged : ByteArray := prog_1_method_27_code
def y_H_rulesChanged : MethodName := ⟨"StrataHouse", "rulesChanged", "()V"⟩
abbrev c_H_setGiven : ByteArray := prog_1_method_28_code
def y_H_setGiven : MethodName := ⟨"StrataHouse", "setGiven", "(IIIZ)Z"⟩
abbrev c_H_judge : ByteArray := prog_1_method_29_code
def y_H_judge : MethodName := ⟨"StrataHouse", "judge", "()V"⟩
abbrev c_H_firstUnsafe : ByteArray := prog_1_method_30_code
def y_H_firstUnsafe : MethodName := ⟨"StrataHouse", "firstUnsafe", "()I"⟩
abbrev c_H_findLayers : ByteArray := prog_1_method_31_code
def y_H_findLayers : MethodName := ⟨"StrataHouse", "findLayers", "()Z"⟩
abbrev c_H_raiseLayers : ByteArray := prog_1_method_32_code
def y_H_raiseLayers : MethodName := ⟨"StrataHouse", "raiseLayers", "()Z"⟩
abbrev c_H_topLayer : ByteArray := prog_1_method_33_code
def y_H_topLayer : MethodName := ⟨"StrataHouse", "topLayer", "()I"⟩
abbrev c_H_settle : ByteArray := prog_1_method_34_code
def y_H_settle : MethodName := ⟨"StrataHouse", "settle", "()V"⟩
abbrev c_H_rankGiven : ByteArray := prog_1_method_35_code
def y_H_rankGiven : MethodName := ⟨"StrataHouse", "rankGiven", "()V"⟩
abbrev c_H_bringRound : ByteArray := prog_1_method_36_code
def y_H_bringRound : MethodName := ⟨"StrataHouse", "bringRound", "(III)V"⟩
abbrev c_H_bringByRule : ByteArray := prog_1_method_37_code
def y_H_bringByRule : MethodName := ⟨"StrataHouse", "bringByRule", "(LStrataHouse$Rule;I)V"⟩
abbrev c_H_showFresh : ByteArray := prog_1_method_38_code
def y_H_showFresh : MethodName := ⟨"StrataHouse", "showFresh", "()I"⟩
abbrev c_H_look : ByteArray := prog_1_method_39_code
def y_H_look : MethodName := ⟨"StrataHouse", "look", "(II)V"⟩
abbrev c_H_lookAt : ByteArray := prog_1_method_40_code
def y_H_lookAt : MethodName := ⟨"StrataHouse", "lookAt", "(II)V"⟩
abbrev c_H_leastRule : ByteArray := prog_1_method_41_code
def y_H_leastRule : MethodName := ⟨"StrataHouse", "leastRule", "(III)I"⟩
abbrev c_D_init : ByteArray := prog_7_method_1_code
def y_D_init : MethodName := ⟨"StrataHouseModel", "<init>", "()V"⟩
abbrev c_D_thrown : ByteArray := prog_7_method_2_code
def y_D_thrown : MethodName := ⟨"StrataHouseModel", "thrown", "()I"⟩
abbrev c_D_refuse : ByteArray := prog_7_method_3_code
def y_D_refuse : MethodName := ⟨"StrataHouseModel", "refuse", "(ZZZ)Z"⟩
abbrev c_D_in : ByteArray := prog_7_method_4_code
def y_D_in : MethodName := ⟨"StrataHouseModel", "in", "(III)Z"⟩
abbrev c_D_clear : ByteArray := prog_7_method_5_code
def y_D_clear : MethodName := ⟨"StrataHouseModel", "clear", "()V"⟩
abbrev c_D_relation : ByteArray := prog_7_method_6_code
def y_D_relation : MethodName := ⟨"StrataHouseModel", "relation", "(I)I"⟩
abbrev c_D_isFact : ByteArray := prog_7_method_7_code
def y_D_isFact : MethodName := ⟨"StrataHouseModel", "isFact", "(III)Z"⟩
abbrev c_D_factAt : ByteArray := prog_7_method_8_code
def y_D_factAt : MethodName := ⟨"StrataHouseModel", "factAt", "(III)I"⟩
abbrev c_D_give : ByteArray := prog_7_method_9_code
def y_D_give : MethodName := ⟨"StrataHouseModel", "give", "(III)Z"⟩
abbrev c_D_take : ByteArray := prog_7_method_10_code
def y_D_take : MethodName := ⟨"StrataHouseModel", "take", "(III)Z"⟩
abbrev c_D_isTerm : ByteArray := prog_7_method_11_code
def y_D_isTerm : MethodName := ⟨"StrataHouseModel", "isTerm", "(I)Z"⟩
abbrev c_D_areTerms : ByteArray := prog_7_method_12_code
def y_D_areTerms : MethodName := ⟨"StrataHouseModel", "areTerms", "(III)Z"⟩
abbrev c_D_put : ByteArray := prog_7_method_13_code
def y_D_put : MethodName := ⟨"StrataHouseModel", "put", "(IIIIZ)V"⟩
abbrev c_D_rule : ByteArray := prog_7_method_14_code
def y_D_rule : MethodName := ⟨"StrataHouseModel", "rule", "(III)I"⟩
abbrev c_D_literal : ByteArray := prog_7_method_15_code
def y_D_literal : MethodName := ⟨"StrataHouseModel", "literal", "(IIIZ)I"⟩
abbrev c_D_unrule : ByteArray := prog_7_method_16_code
def y_D_unrule : MethodName := ⟨"StrataHouseModel", "unrule", "()V"⟩
abbrev c_D_variablesOf : ByteArray := prog_7_method_17_code
def y_D_variablesOf : MethodName := ⟨"StrataHouseModel", "variablesOf", "(I)I"⟩
abbrev c_D_variables : ByteArray := prog_7_method_18_code
def y_D_variables : MethodName := ⟨"StrataHouseModel", "variables", "(I)I"⟩
abbrev c_D_isSafe : ByteArray := prog_7_method_19_code
def y_D_isSafe : MethodName := ⟨"StrataHouseModel", "isSafe", "(I)Z"⟩
abbrev c_D_raise : ByteArray := prog_7_method_20_code
def y_D_raise : MethodName := ⟨"StrataHouseModel", "raise", "(I)Z"⟩
abbrev c_D_findFault : ByteArray := prog_7_method_21_code
def y_D_findFault : MethodName := ⟨"StrataHouseModel", "findFault", "()I"⟩
abbrev c_D_termValue : ByteArray := prog_7_method_22_code
def y_D_termValue : MethodName := ⟨"StrataHouseModel", "termValue", "(I)I"⟩
abbrev c_D_factOf : ByteArray := prog_7_method_23_code
def y_D_factOf : MethodName := ⟨"StrataHouseModel", "factOf", "(I)I"⟩
abbrev c_D_instance : ByteArray := prog_7_method_24_code
def y_D_instance : MethodName := ⟨"StrataHouseModel", "instance", "(II)Z"⟩
abbrev c_D_holds : ByteArray := prog_7_method_25_code
def y_D_holds : MethodName := ⟨"StrataHouseModel", "holds", "(I)Z"⟩
abbrev c_D_isMet : ByteArray := prog_7_method_26_code
def y_D_isMet : MethodName := ⟨"StrataHouseModel", "isMet", "(I)Z"⟩
abbrev c_D_behind : ByteArray := prog_7_method_27_code
def y_D_behind : MethodName := ⟨"StrataHouseModel", "behind", "(II)I"⟩
abbrev c_D_round : ByteArray := prog_7_method_28_code
def y_D_round : MethodName := ⟨"StrataHouseModel", "round", "(II)Z"⟩
abbrev c_D_find : ByteArray := prog_7_method_29_code
def y_D_find : MethodName := ⟨"StrataHouseModel", "find", "()V"⟩
abbrev c_D_fault : ByteArray := prog_7_method_30_code
def y_D_fault : MethodName := ⟨"StrataHouseModel", "fault", "()I"⟩
abbrev c_D_layer : ByteArray := prog_7_method_31_code
def y_D_layer : MethodName := ⟨"StrataHouseModel", "layer", "(I)I"⟩
abbrev c_D_count : ByteArray := prog_7_method_32_code
def y_D_count : MethodName := ⟨"StrataHouseModel", "count", "(I)I"⟩
abbrev c_D_rank : ByteArray := prog_7_method_33_code
def y_D_rank : MethodName := ⟨"StrataHouseModel", "rank", "(III)I"⟩
abbrev c_D_ways : ByteArray := prog_7_method_34_code
def y_D_ways : MethodName := ⟨"StrataHouseModel", "ways", "(III)I"⟩
abbrev c_D_isLower : ByteArray := prog_7_method_35_code
def y_D_isLower : MethodName := ⟨"StrataHouseModel", "isLower", "(II)Z"⟩
abbrev c_D_proof : ByteArray := prog_7_method_36_code
def y_D_proof : MethodName := ⟨"StrataHouseModel", "proof", "(IIII)I"⟩
abbrev c_A_init : ByteArray := prog_2_method_1_code
def y_A_init : MethodName := ⟨"StrataHouse$Atom", "<init>", "()V"⟩
abbrev c_A_become : ByteArray := prog_2_method_2_code
def y_A_become : MethodName := ⟨"StrataHouse$Atom", "become", "(IIIZ)V"⟩
abbrev c_A_variables : ByteArray := prog_2_method_3_code
def y_A_variables : MethodName := ⟨"StrataHouse$Atom", "variables", "()I"⟩
abbrev c_M_init : ByteArray := prog_3_method_1_code
def y_M_init : MethodName := ⟨"StrataHouse$Match", "<init>", "()V"⟩
abbrev c_M_forget : ByteArray := prog_3_method_2_code
def y_M_forget : MethodName := ⟨"StrataHouse$Match", "forget", "()V"⟩
abbrev c_M_bind : ByteArray := prog_3_method_3_code
def y_M_bind : MethodName := ⟨"StrataHouse$Match", "bind", "(II)Z"⟩
abbrev c_M_meets : ByteArray := prog_3_method_4_code
def y_M_meets : MethodName := ⟨"StrataHouse$Match", "meets", "(LStrataHouse$Rule;III)Z"⟩
abbrev c_M_knownAgree : ByteArray := prog_3_method_5_code
def y_M_knownAgree : MethodName := ⟨"StrataHouse$Match", "knownAgree", "(LStrataHouse$Rule;)Z"⟩
abbrev c_M_choices : ByteArray := prog_3_method_6_code
def y_M_choices : MethodName := ⟨"StrataHouse$Match", "choices", "(LStrataHouse$Rule;I)I"⟩
abbrev c_M_choicesBy : ByteArray := prog_3_method_7_code
def y_M_choicesBy : MethodName := ⟨"StrataHouse$Match", "choicesBy", "(LStrataHouse$Atom;I)I"⟩
abbrev c_M_nextOpen : ByteArray := prog_3_method_8_code
def y_M_nextOpen : MethodName := ⟨"StrataHouse$Match", "nextOpen", "(LStrataHouse$Rule;I)I"⟩
abbrev c_M_findLeast : ByteArray := prog_3_method_9_code
def y_M_findLeast : MethodName := ⟨"StrataHouse$Match", "findLeast", "(LStrataHouse$Rule;I)Z"⟩
abbrev c_M_countInstances : ByteArray := prog_3_method_10_code
def y_M_countInstances : MethodName := ⟨"StrataHouse$Match", "countInstances", "(LStrataHouse$Rule;I)I"⟩
abbrev c_R_init : ByteArray := prog_4_method_1_code
def y_R_init : MethodName := ⟨"StrataHouse$Rule", "<init>", "()V"⟩
abbrev c_R_begin : ByteArray := prog_4_method_2_code
def y_R_begin : MethodName := ⟨"StrataHouse$Rule", "begin", "(III)V"⟩
abbrev c_R_isFull : ByteArray := prog_4_method_3_code
def y_R_isFull : MethodName := ⟨"StrataHouse$Rule", "isFull", "()Z"⟩
abbrev c_R_add : ByteArray := prog_4_method_4_code
def y_R_add : MethodName := ⟨"StrataHouse$Rule", "add", "(IIIZ)V"⟩
abbrev c_R_isSafe : ByteArray := prog_4_method_5_code
def y_R_isSafe : MethodName := ⟨"StrataHouse$Rule", "isSafe", "()Z"⟩
abbrev c_R_leastLayer : ByteArray := prog_4_method_6_code
def y_R_leastLayer : MethodName := ⟨"StrataHouse$Rule", "leastLayer", "([I)I"⟩
abbrev c_S_init : ByteArray := prog_5_method_1_code
def y_S_init : MethodName := ⟨"StrataHouse$Sight", "<init>", "()V"⟩
abbrev c_S_forget : ByteArray := prog_5_method_2_code
def y_S_forget : MethodName := ⟨"StrataHouse$Sight", "forget", "()V"⟩
abbrev c_S_show : ByteArray := prog_5_method_3_code
def y_S_show : MethodName := ⟨"StrataHouse$Sight", "show", "(III)V"⟩
abbrev c_S_sees : ByteArray := prog_5_method_4_code
def y_S_sees : MethodName := ⟨"StrataHouse$Sight", "sees", "(III)Z"⟩
abbrev c_Arrays_fill : ByteArray := prog_17_method_103_code
def y_Arrays_fill : MethodName := ⟨"java/util/Arrays", "fill", "([II)V"⟩
abbrev c_Math_max : ByteArray := prog_12_method_65_code
def y_Math_max : MethodName := ⟨"java/lang/Math", "max", "(II)I"⟩
abbrev c_L_relation : ByteArray := method_3_code
def y_L_relation : MethodName := ⟨"StrataHouseLaw", "relation", "(LStrataHouse;I[J)I"⟩
abbrev c_L_give : ByteArray := method_4_code
def y_L_give : MethodName := ⟨"StrataHouseLaw", "give", "(LStrataHouse;III[J)I"⟩
abbrev c_L_take : ByteArray := method_5_code
def y_L_take : MethodName := ⟨"StrataHouseLaw", "take", "(LStrataHouse;III[J)I"⟩
abbrev c_L_rule : ByteArray := method_6_code
def y_L_rule : MethodName := ⟨"StrataHouseLaw", "rule", "(LStrataHouse;III[J)I"⟩
abbrev c_L_literal : ByteArray := method_7_code
def y_L_literal : MethodName := ⟨"StrataHouseLaw", "literal", "(LStrataHouse;IIIZ[J)I"⟩
abbrev c_L_unrule : ByteArray := method_8_code
def y_L_unrule : MethodName := ⟨"StrataHouseLaw", "unrule", "(LStrataHouse;)I"⟩
abbrev c_L_layer : ByteArray := method_9_code
def y_L_layer : MethodName := ⟨"StrataHouseLaw", "layer", "(LStrataHouse;I[J)I"⟩
abbrev c_L_count : ByteArray := method_10_code
def y_L_count : MethodName := ⟨"StrataHouseLaw", "count", "(LStrataHouse;I[J)I"⟩
abbrev c_L_rank : ByteArray := method_11_code
def y_L_rank : MethodName := ⟨"StrataHouseLaw", "rank", "(LStrataHouse;III[J)I"⟩
abbrev c_L_ways : ByteArray := method_12_code
def y_L_ways : MethodName := ⟨"StrataHouseLaw", "ways", "(LStrataHouse;III[J)I"⟩
abbrev c_Integer_bitCount : ByteArray := prog_11_method_49_code
def y_Integer_bitCount : MethodName := ⟨"java/lang/Integer", "bitCount", "(I)I"⟩
abbrev c_L_proof : ByteArray := method_13_code
def y_L_proof : MethodName := ⟨"StrataHouseLaw", "proof", "(LStrataHouse;IIII[J)I"⟩
end
section
theorem d_H_init_0 : decode c_H_init 0 = .ok (.aload_n 0, 1) := by decide +kernel
theorem d_H_init_1 : decode c_H_init 1 = .ok (.invokespecial 5, 3) := by decide +kernel
theorem d_H_init_4 : decode c_H_init 4 = .ok (.aload_n 0, 1) := by decide +kernel
theorem d_H_init_5 : decode c_H_init 5 = .ok (.bipush 8, 2) := by decide +kernel
theorem d_H_init_7 : decode c_H_init 7 = .ok (.newarray .int, 2) := by decide +kernel
theorem d_H_init_9 : decode c_H_init 9 = .ok (.putfield 11, 3) := by decide +kernel
theorem d_H_init_12 : decode c_H_init 12 = .ok (.aload_n 0, 1) := by decide +kernel
theorem d_H_init_13 : decode c_H_init 13 = .ok (.bipush 96, 2) := by decide +kernel
theorem d_H_init_15 : decode c_H_init 15 = .ok (.newarray .int, 2) := by decide +kernel
theorem d_H_init_17 : decode c_H_init 17 = .ok (.putfield 15, 3) := by decide +kernel
theorem d_H_init_20 : decode c_H_init 20 = .ok (.aload_n 0, 1) := by decide +kernel
theorem d_H_init_21 : decode c_H_init 21 = .ok (.bipush 16, 2) := by decide +kernel
theorem d_H_init_23 : decode c_H_init 23 = .ok (.anewarray 18, 3) := by decide +kernel
theorem d_H_init_26 : decode c_H_init 26 = .ok (.putfield 20, 3) := by decide +kernel
theorem d_H_init_29 : decode c_H_init 29 = .ok (.aload_n 0, 1) := by decide +kernel
theorem d_H_init_30 : decode c_H_init 30 = .ok (.bipush 8, 2) := by decide +kernel
theorem d_H_init_32 : decode c_H_init 32 = .ok (.newarray .int, 2) := by decide +kernel
theorem d_H_init_34 : decode c_H_init 34 = .ok (.putfield 24, 3) := by decide +kernel
theorem d_H_init_37 : decode c_H_init 37 = .ok (.aload_n 0, 1) := by decide +kernel
theorem d_H_init_38 : decode c_H_init 38 = .ok (.sipush 1152, 3) := by decide +kernel
theorem d_H_init_41 : decode c_H_init 41 = .ok (.newarray .int, 2) := by decide +kernel
theorem d_H_init_43 : decode c_H_init 43 = .ok (.putfield 27, 3) := by decide +kernel
theorem d_H_init_46 : decode c_H_init 46 = .ok (.aload_n 0, 1) := by decide +kernel
theorem d_H_init_47 : decode c_H_init 47 = .ok (.bipush 96, 2) := by decide +kernel
theorem d_H_init_49 : decode c_H_init 49 = .ok (.newarray .int, 2) := by decide +kernel
theorem d_H_init_51 : decode c_H_init 51 = .ok (.putfield 30, 3) := by decide +kernel
theorem d_H_init_54 : decode c_H_init 54 = .ok (.aload_n 0, 1) := by decide +kernel
theorem d_H_init_55 : decode c_H_init 55 = .ok (.new 33, 3) := by decide +kernel
theorem d_H_init_58 : decode c_H_init 58 = .ok (.dup, 1) := by decide +kernel
theorem d_H_init_59 : decode c_H_init 59 = .ok (.invokespecial 35, 3) := by decide +kernel
theorem d_H_init_62 : decode c_H_init 62 = .ok (.putfield 36, 3) := by decide +kernel
theorem d_H_init_65 : decode c_H_init 65 = .ok (.aload_n 0, 1) := by decide +kernel
theorem d_H_init_66 : decode c_H_init 66 = .ok (.iconst (-1), 1) := by decide +kernel
theorem d_H_init_67 : decode c_H_init 67 = .ok (.putfield 40, 3) := by decide +kernel
theorem d_H_init_70 : decode c_H_init 70 = .ok (.iconst 0, 1) := by decide +kernel
theorem d_H_init_71 : decode c_H_init 71 = .ok (.istore_n 1, 1) := by decide +kernel
theorem d_H_init_72 : decode c_H_init 72 = .ok (.iload_n 1, 1) := by decide +kernel
theorem d_H_init_73 : decode c_H_init 73 = .ok (.bipush 16, 2) := by decide +kernel
theorem d_H_init_75 : decode c_H_init 75 = .ok (.if_icmp .ge 22, 3) := by decide +kernel
theorem d_H_init_78 : decode c_H_init 78 = .ok (.aload_n 0, 1) := by decide +kernel
theorem d_H_init_79 : decode c_H_init 79 = .ok (.getfield 20, 3) := by decide +kernel
theorem d_H_init_82 : decode c_H_init 82 = .ok (.iload_n 1, 1) := by decide +kernel
theorem d_H_init_83 : decode c_H_init 83 = .ok (.new 18, 3) := by decide +kernel
theorem d_H_init_86 : decode c_H_init 86 = .ok (.dup, 1) := by decide +kernel
theorem d_H_init_87 : decode c_H_init 87 = .ok (.invokespecial 44, 3) := by decide +kernel
theorem d_H_init_90 : decode c_H_init 90 = .ok (.aastore, 1) := by decide +kernel
theorem d_H_init_91 : decode c_H_init 91 = .ok (.iinc 1 1, 3) := by decide +kernel
theorem d_H_init_94 : decode c_H_init 94 = .ok (.goto (-22), 3) := by decide +kernel
theorem d_H_init_97 : decode c_H_init 97 = .ok (.return_, 1) := by decide +kernel
theorem d_H_clear_0 : decode c_H_clear 0 = .ok (.aload_n 0, 1) := by decide +kernel
theorem d_H_clear_1 : decode c_H_clear 1 = .ok (.getfield 15, 3) := by decide +kernel
theorem d_H_clear_4 : decode c_H_clear 4 = .ok (.iconst 0, 1) := by decide +kernel
theorem d_H_clear_5 : decode c_H_clear 5 = .ok (.invokestatic 45, 3) := by decide +kernel
theorem d_H_clear_8 : decode c_H_clear 8 = .ok (.aload_n 0, 1) := by decide +kernel
theorem d_H_clear_9 : decode c_H_clear 9 = .ok (.iconst 0, 1) := by decide +kernel
theorem d_H_clear_10 : decode c_H_clear 10 = .ok (.putfield 51, 3) := by decide +kernel
theorem d_H_clear_13 : decode c_H_clear 13 = .ok (.aload_n 0, 1) := by decide +kernel
theorem d_H_clear_14 : decode c_H_clear 14 = .ok (.iconst 0, 1) := by decide +kernel
theorem d_H_clear_15 : decode c_H_clear 15 = .ok (.putfield 54, 3) := by decide +kernel
theorem d_H_clear_18 : decode c_H_clear 18 = .ok (.aload_n 0, 1) := by decide +kernel
theorem d_H_clear_19 : decode c_H_clear 19 = .ok (.invokevirtual 57, 3) := by decide +kernel
theorem d_H_clear_22 : decode c_H_clear 22 = .ok (.return_, 1) := by decide +kernel
theorem d_H_relation_0 : decode c_H_relation 0 = .ok (.iload_n 1, 1) := by decide +kernel
theorem d_H_relation_1 : decode c_H_relation 1 = .ok (.ifCond .lt 8, 3) := by decide +kernel
theorem d_H_relation_4 : decode c_H_relation 4 = .ok (.iload_n 1, 1) := by decide +kernel
theorem d_H_relation_5 : decode c_H_relation 5 = .ok (.iconst 2, 1) := by decide +kernel
theorem d_H_relation_6 : decode c_H_relation 6 = .ok (.if_icmp .le 13, 3) := by decide +kernel
theorem d_H_relation_9 : decode c_H_relation 9 = .ok (.new 60, 3) := by decide +kernel
theorem d_H_relation_12 : decode c_H_relation 12 = .ok (.dup, 1) := by decide +kernel
theorem d_H_relation_13 : decode c_H_relation 13 = .ok (.ldc 62, 2) := by decide +kernel
theorem d_H_relation_15 : decode c_H_relation 15 = .ok (.invokespecial 64, 3) := by decide +kernel
theorem d_H_relation_18 : decode c_H_relation 18 = .ok (.athrow, 1) := by decide +kernel
theorem d_H_relation_19 : decode c_H_relation 19 = .ok (.aload_n 0, 1) := by decide +kernel
theorem d_H_relation_20 : decode c_H_relation 20 = .ok (.getfield 51, 3) := by decide +kernel
theorem d_H_relation_23 : decode c_H_relation 23 = .ok (.bipush 8, 2) := by decide +kernel
theorem d_H_relation_25 : decode c_H_relation 25 = .ok (.if_icmp .lt 13, 3) := by decide +kernel
theorem d_H_relation_28 : decode c_H_relation 28 = .ok (.new 67, 3) := by decide +kernel
theorem d_H_relation_31 : decode c_H_relation 31 = .ok (.dup, 1) := by decide +kernel
theorem d_H_relation_32 : decode c_H_relation 32 = .ok (.ldc 69, 2) := by decide +kernel
theorem d_H_relation_34 : decode c_H_relation 34 = .ok (.invokespecial 71, 3) := by decide +kernel
theorem d_H_relation_37 : decode c_H_relation 37 = .ok (.athrow, 1) := by decide +kernel
theorem d_H_relation_38 : decode c_H_relation 38 = .ok (.aload_n 0, 1) := by decide +kernel
theorem d_H_relation_39 : decode c_H_relation 39 = .ok (.getfield 11, 3) := by decide +kernel
theorem d_H_relation_42 : decode c_H_relation 42 = .ok (.aload_n 0, 1) := by decide +kernel
theorem d_H_relation_43 : decode c_H_relation 43 = .ok (.getfield 51, 3) := by decide +kernel
theorem d_H_relation_46 : decode c_H_relation 46 = .ok (.iload_n 1, 1) := by decide +kernel
theorem d_H_relation_47 : decode c_H_relation 47 = .ok (.iastore, 1) := by decide +kernel
theorem d_H_relation_48 : decode c_H_relation 48 = .ok (.aload_n 0, 1) := by decide +kernel
theorem d_H_relation_49 : decode c_H_relation 49 = .ok (.dup, 1) := by decide +kernel
theorem d_H_relation_50 : decode c_H_relation 50 = .ok (.getfield 51, 3) := by decide +kernel
theorem d_H_relation_53 : decode c_H_relation 53 = .ok (.iconst 1, 1) := by decide +kernel
theorem d_H_relation_54 : decode c_H_relation 54 = .ok (.iadd, 1) := by decide +kernel
theorem d_H_relation_55 : decode c_H_relation 55 = .ok (.putfield 51, 3) := by decide +kernel
theorem d_H_relation_58 : decode c_H_relation 58 = .ok (.aload_n 0, 1) := by decide +kernel
theorem d_H_relation_59 : decode c_H_relation 59 = .ok (.invokevirtual 57, 3) := by decide +kernel
theorem d_H_relation_62 : decode c_H_relation 62 = .ok (.aload_n 0, 1) := by decide +kernel
theorem d_H_relation_63 : decode c_H_relation 63 = .ok (.getfield 51, 3) := by decide +kernel
theorem d_H_relation_66 : decode c_H_relation 66 = .ok (.iconst 1, 1) := by decide +kernel
theorem d_H_relation_67 : decode c_H_relation 67 = .ok (.isub, 1) := by decide +kernel
theorem d_H_relation_68 : decode c_H_relation 68 = .ok (.ireturn, 1) := by decide +kernel
theorem d_H_give_0 : decode c_H_give 0 = .ok (.aload_n 0, 1) := by decide +kernel
theorem d_H_give_1 : decode c_H_give 1 = .ok (.iload_n 1, 1) := by decide +kernel
theorem d_H_give_2 : decode c_H_give 2 = .ok (.iload_n 2, 1) := by decide +kernel
theorem d_H_give_3 : decode c_H_give 3 = .ok (.iload_n 3, 1) := by decide +kernel
theorem d_H_give_4 : decode c_H_give 4 = .ok (.invokevirtual 72, 3) := by decide +kernel
theorem d_H_give_7 : decode c_H_give 7 = .ok (.aload_n 0, 1) := by decide +kernel
theorem d_H_give_8 : decode c_H_give 8 = .ok (.iload_n 1, 1) := by decide +kernel
theorem d_H_give_9 : decode c_H_give 9 = .ok (.iload_n 2, 1) := by decide +kernel
theorem d_H_give_10 : decode c_H_give 10 = .ok (.iload_n 3, 1) := by decide +kernel
theorem d_H_give_11 : decode c_H_give 11 = .ok (.iconst 1, 1) := by decide +kernel
theorem d_H_give_12 : decode c_H_give 12 = .ok (.invokevirtual 76, 3) := by decide +kernel
theorem d_H_give_15 : decode c_H_give 15 = .ok (.ireturn, 1) := by decide +kernel
theorem d_H_take_0 : decode c_H_take 0 = .ok (.aload_n 0, 1) := by decide +kernel
theorem d_H_take_1 : decode c_H_take 1 = .ok (.iload_n 1, 1) := by decide +kernel
theorem d_H_take_2 : decode c_H_take 2 = .ok (.iload_n 2, 1) := by decide +kernel
theorem d_H_take_3 : decode c_H_take 3 = .ok (.iload_n 3, 1) := by decide +kernel
theorem d_H_take_4 : decode c_H_take 4 = .ok (.invokevirtual 72, 3) := by decide +kernel
theorem d_H_take_7 : decode c_H_take 7 = .ok (.aload_n 0, 1) := by decide +kernel
theorem d_H_take_8 : decode c_H_take 8 = .ok (.iload_n 1, 1) := by decide +kernel
theorem d_H_take_9 : decode c_H_take 9 = .ok (.iload_n 2, 1) := by decide +kernel
theorem d_H_take_10 : decode c_H_take 10 = .ok (.iload_n 3, 1) := by decide +kernel
theorem d_H_take_11 : decode c_H_take 11 = .ok (.iconst 0, 1) := by decide +kernel
theorem d_H_take_12 : decode c_H_take 12 = .ok (.invokevirtual 76, 3) := by decide +kernel
theorem d_H_take_15 : decode c_H_take 15 = .ok (.ireturn, 1) := by decide +kernel
theorem d_H_rule_0 : decode c_H_rule 0 = .ok (.aload_n 0, 1) := by decide +kernel
theorem d_H_rule_1 : decode c_H_rule 1 = .ok (.iload_n 1, 1) := by decide +kernel
theorem d_H_rule_2 : decode c_H_rule 2 = .ok (.iload_n 2, 1) := by decide +kernel
theorem d_H_rule_3 : decode c_H_rule 3 = .ok (.iload_n 3, 1) := by decide +kernel
theorem d_H_rule_4 : decode c_H_rule 4 = .ok (.invokevirtual 80, 3) := by decide +kernel
theorem d_H_rule_7 : decode c_H_rule 7 = .ok (.aload_n 0, 1) := by decide +kernel
theorem d_H_rule_8 : decode c_H_rule 8 = .ok (.getfield 54, 3) := by decide +kernel
theorem d_H_rule_11 : decode c_H_rule 11 = .ok (.bipush 16, 2) := by decide +kernel
theorem d_H_rule_13 : decode c_H_rule 13 = .ok (.if_icmp .lt 13, 3) := by decide +kernel
theorem d_H_rule_16 : decode c_H_rule 16 = .ok (.new 67, 3) := by decide +kernel
theorem d_H_rule_19 : decode c_H_rule 19 = .ok (.dup, 1) := by decide +kernel
theorem d_H_rule_20 : decode c_H_rule 20 = .ok (.ldc 83, 2) := by decide +kernel
theorem d_H_rule_22 : decode c_H_rule 22 = .ok (.invokespecial 71, 3) := by decide +kernel
theorem d_H_rule_25 : decode c_H_rule 25 = .ok (.athrow, 1) := by decide +kernel
theorem d_H_rule_26 : decode c_H_rule 26 = .ok (.aload_n 0, 1) := by decide +kernel
theorem d_H_rule_27 : decode c_H_rule 27 = .ok (.getfield 20, 3) := by decide +kernel
theorem d_H_rule_30 : decode c_H_rule 30 = .ok (.aload_n 0, 1) := by decide +kernel
theorem d_H_rule_31 : decode c_H_rule 31 = .ok (.getfield 54, 3) := by decide +kernel
theorem d_H_rule_34 : decode c_H_rule 34 = .ok (.aaload, 1) := by decide +kernel
theorem d_H_rule_35 : decode c_H_rule 35 = .ok (.iload_n 1, 1) := by decide +kernel
theorem d_H_rule_36 : decode c_H_rule 36 = .ok (.aload_n 0, 1) := by decide +kernel
theorem d_H_rule_37 : decode c_H_rule 37 = .ok (.iload_n 1, 1) := by decide +kernel
theorem d_H_rule_38 : decode c_H_rule 38 = .ok (.iload_n 2, 1) := by decide +kernel
theorem d_H_rule_39 : decode c_H_rule 39 = .ok (.invokevirtual 85, 3) := by decide +kernel
theorem d_H_rule_42 : decode c_H_rule 42 = .ok (.aload_n 0, 1) := by decide +kernel
theorem d_H_rule_43 : decode c_H_rule 43 = .ok (.iload_n 1, 1) := by decide +kernel
theorem d_H_rule_44 : decode c_H_rule 44 = .ok (.iload_n 3, 1) := by decide +kernel
theorem d_H_rule_45 : decode c_H_rule 45 = .ok (.invokevirtual 89, 3) := by decide +kernel
theorem d_H_rule_48 : decode c_H_rule 48 = .ok (.invokevirtual 92, 3) := by decide +kernel
theorem d_H_rule_51 : decode c_H_rule 51 = .ok (.aload_n 0, 1) := by decide +kernel
theorem d_H_rule_52 : decode c_H_rule 52 = .ok (.dup, 1) := by decide +kernel
theorem d_H_rule_53 : decode c_H_rule 53 = .ok (.getfield 54, 3) := by decide +kernel
theorem d_H_rule_56 : decode c_H_rule 56 = .ok (.iconst 1, 1) := by decide +kernel
theorem d_H_rule_57 : decode c_H_rule 57 = .ok (.iadd, 1) := by decide +kernel
theorem d_H_rule_58 : decode c_H_rule 58 = .ok (.putfield 54, 3) := by decide +kernel
theorem d_H_rule_61 : decode c_H_rule 61 = .ok (.aload_n 0, 1) := by decide +kernel
theorem d_H_rule_62 : decode c_H_rule 62 = .ok (.invokevirtual 57, 3) := by decide +kernel
theorem d_H_rule_65 : decode c_H_rule 65 = .ok (.aload_n 0, 1) := by decide +kernel
theorem d_H_rule_66 : decode c_H_rule 66 = .ok (.getfield 54, 3) := by decide +kernel
theorem d_H_rule_69 : decode c_H_rule 69 = .ok (.iconst 1, 1) := by decide +kernel
theorem d_H_rule_70 : decode c_H_rule 70 = .ok (.isub, 1) := by decide +kernel
theorem d_H_rule_71 : decode c_H_rule 71 = .ok (.ireturn, 1) := by decide +kernel
theorem d_H_literal_0 : decode c_H_literal 0 = .ok (.aload_n 0, 1) := by decide +kernel
theorem d_H_literal_1 : decode c_H_literal 1 = .ok (.invokevirtual 95, 3) := by decide +kernel
theorem d_H_literal_4 : decode c_H_literal 4 = .ok (.aload_n 0, 1) := by decide +kernel
theorem d_H_literal_5 : decode c_H_literal 5 = .ok (.iload_n 1, 1) := by decide +kernel
theorem d_H_literal_6 : decode c_H_literal 6 = .ok (.iload_n 2, 1) := by decide +kernel
theorem d_H_literal_7 : decode c_H_literal 7 = .ok (.iload_n 3, 1) := by decide +kernel
theorem d_H_literal_8 : decode c_H_literal 8 = .ok (.invokevirtual 80, 3) := by decide +kernel
theorem d_H_literal_11 : decode c_H_literal 11 = .ok (.aload_n 0, 1) := by decide +kernel
theorem d_H_literal_12 : decode c_H_literal 12 = .ok (.getfield 20, 3) := by decide +kernel
theorem d_H_literal_15 : decode c_H_literal 15 = .ok (.aload_n 0, 1) := by decide +kernel
theorem d_H_literal_16 : decode c_H_literal 16 = .ok (.getfield 54, 3) := by decide +kernel
theorem d_H_literal_19 : decode c_H_literal 19 = .ok (.iconst 1, 1) := by decide +kernel
theorem d_H_literal_20 : decode c_H_literal 20 = .ok (.isub, 1) := by decide +kernel
theorem d_H_literal_21 : decode c_H_literal 21 = .ok (.aaload, 1) := by decide +kernel
theorem d_H_literal_22 : decode c_H_literal 22 = .ok (.astore 5, 2) := by decide +kernel
theorem d_H_literal_24 : decode c_H_literal 24 = .ok (.aload 5, 2) := by decide +kernel
theorem d_H_literal_26 : decode c_H_literal 26 = .ok (.invokevirtual 98, 3) := by decide +kernel
theorem d_H_literal_29 : decode c_H_literal 29 = .ok (.ifCond .eq 13, 3) := by decide +kernel
theorem d_H_literal_32 : decode c_H_literal 32 = .ok (.new 67, 3) := by decide +kernel
theorem d_H_literal_35 : decode c_H_literal 35 = .ok (.dup, 1) := by decide +kernel
theorem d_H_literal_36 : decode c_H_literal 36 = .ok (.ldc 102, 2) := by decide +kernel
theorem d_H_literal_38 : decode c_H_literal 38 = .ok (.invokespecial 71, 3) := by decide +kernel
theorem d_H_literal_41 : decode c_H_literal 41 = .ok (.athrow, 1) := by decide +kernel
theorem d_H_literal_42 : decode c_H_literal 42 = .ok (.aload 5, 2) := by decide +kernel
theorem d_H_literal_44 : decode c_H_literal 44 = .ok (.iload_n 1, 1) := by decide +kernel
theorem d_H_literal_45 : decode c_H_literal 45 = .ok (.aload_n 0, 1) := by decide +kernel
theorem d_H_literal_46 : decode c_H_literal 46 = .ok (.iload_n 1, 1) := by decide +kernel
theorem d_H_literal_47 : decode c_H_literal 47 = .ok (.iload_n 2, 1) := by decide +kernel
theorem d_H_literal_48 : decode c_H_literal 48 = .ok (.invokevirtual 85, 3) := by decide +kernel
theorem d_H_literal_51 : decode c_H_literal 51 = .ok (.aload_n 0, 1) := by decide +kernel
theorem d_H_literal_52 : decode c_H_literal 52 = .ok (.iload_n 1, 1) := by decide +kernel
theorem d_H_literal_53 : decode c_H_literal 53 = .ok (.iload_n 3, 1) := by decide +kernel
theorem d_H_literal_54 : decode c_H_literal 54 = .ok (.invokevirtual 89, 3) := by decide +kernel
theorem d_H_literal_57 : decode c_H_literal 57 = .ok (.iload 4, 2) := by decide +kernel
theorem d_H_literal_59 : decode c_H_literal 59 = .ok (.invokevirtual 104, 3) := by decide +kernel
theorem d_H_literal_62 : decode c_H_literal 62 = .ok (.aload_n 0, 1) := by decide +kernel
theorem d_H_literal_63 : decode c_H_literal 63 = .ok (.invokevirtual 57, 3) := by decide +kernel
theorem d_H_literal_66 : decode c_H_literal 66 = .ok (.aload 5, 2) := by decide +kernel
theorem d_H_literal_68 : decode c_H_literal 68 = .ok (.getfield 108, 3) := by decide +kernel
theorem d_H_literal_71 : decode c_H_literal 71 = .ok (.ireturn, 1) := by decide +kernel
theorem d_H_unrule_0 : decode c_H_unrule 0 = .ok (.aload_n 0, 1) := by decide +kernel
theorem d_H_unrule_1 : decode c_H_unrule 1 = .ok (.invokevirtual 95, 3) := by decide +kernel
theorem d_H_unrule_4 : decode c_H_unrule 4 = .ok (.aload_n 0, 1) := by decide +kernel
theorem d_H_unrule_5 : decode c_H_unrule 5 = .ok (.dup, 1) := by decide +kernel
theorem d_H_unrule_6 : decode c_H_unrule 6 = .ok (.getfield 54, 3) := by decide +kernel
theorem d_H_unrule_9 : decode c_H_unrule 9 = .ok (.iconst 1, 1) := by decide +kernel
theorem d_H_unrule_10 : decode c_H_unrule 10 = .ok (.isub, 1) := by decide +kernel
theorem d_H_unrule_11 : decode c_H_unrule 11 = .ok (.putfield 54, 3) := by decide +kernel
theorem d_H_unrule_14 : decode c_H_unrule 14 = .ok (.aload_n 0, 1) := by decide +kernel
theorem d_H_unrule_15 : decode c_H_unrule 15 = .ok (.invokevirtual 57, 3) := by decide +kernel
theorem d_H_unrule_18 : decode c_H_unrule 18 = .ok (.return_, 1) := by decide +kernel
theorem d_H_fault_0 : decode c_H_fault 0 = .ok (.aload_n 0, 1) := by decide +kernel
theorem d_H_fault_1 : decode c_H_fault 1 = .ok (.invokevirtual 111, 3) := by decide +kernel
theorem d_H_fault_4 : decode c_H_fault 4 = .ok (.aload_n 0, 1) := by decide +kernel
theorem d_H_fault_5 : decode c_H_fault 5 = .ok (.getfield 40, 3) := by decide +kernel
theorem d_H_fault_8 : decode c_H_fault 8 = .ok (.ireturn, 1) := by decide +kernel
theorem d_H_layer_0 : decode c_H_layer 0 = .ok (.aload_n 0, 1) := by decide +kernel
theorem d_H_layer_1 : decode c_H_layer 1 = .ok (.iload_n 1, 1) := by decide +kernel
theorem d_H_layer_2 : decode c_H_layer 2 = .ok (.invokevirtual 114, 3) := by decide +kernel
theorem d_H_layer_5 : decode c_H_layer 5 = .ok (.aload_n 0, 1) := by decide +kernel
theorem d_H_layer_6 : decode c_H_layer 6 = .ok (.invokevirtual 118, 3) := by decide +kernel
theorem d_H_layer_9 : decode c_H_layer 9 = .ok (.aload_n 0, 1) := by decide +kernel
theorem d_H_layer_10 : decode c_H_layer 10 = .ok (.getfield 24, 3) := by decide +kernel
theorem d_H_layer_13 : decode c_H_layer 13 = .ok (.iload_n 1, 1) := by decide +kernel
theorem d_H_layer_14 : decode c_H_layer 14 = .ok (.iaload, 1) := by decide +kernel
theorem d_H_layer_15 : decode c_H_layer 15 = .ok (.ireturn, 1) := by decide +kernel
theorem d_H_count_0 : decode c_H_count 0 = .ok (.aload_n 0, 1) := by decide +kernel
theorem d_H_count_1 : decode c_H_count 1 = .ok (.iload_n 1, 1) := by decide +kernel
theorem d_H_count_2 : decode c_H_count 2 = .ok (.invokevirtual 114, 3) := by decide +kernel
theorem d_H_count_5 : decode c_H_count 5 = .ok (.aload_n 0, 1) := by decide +kernel
theorem d_H_count_6 : decode c_H_count 6 = .ok (.invokevirtual 118, 3) := by decide +kernel
theorem d_H_count_9 : decode c_H_count 9 = .ok (.aload_n 0, 1) := by decide +kernel
theorem d_H_count_10 : decode c_H_count 10 = .ok (.invokevirtual 121, 3) := by decide +kernel
theorem d_H_count_13 : decode c_H_count 13 = .ok (.iconst 0, 1) := by decide +kernel
theorem d_H_count_14 : decode c_H_count 14 = .ok (.istore_n 2, 1) := by decide +kernel
theorem d_H_count_15 : decode c_H_count 15 = .ok (.iload_n 1, 1) := by decide +kernel
theorem d_H_count_16 : decode c_H_count 16 = .ok (.bipush 12, 2) := by decide +kernel
theorem d_H_count_18 : decode c_H_count 18 = .ok (.iconst 0, 1) := by decide +kernel
theorem d_H_count_19 : decode c_H_count 19 = .ok (.invokestatic 124, 3) := by decide +kernel
theorem d_H_count_22 : decode c_H_count 22 = .ok (.istore_n 3, 1) := by decide +kernel
theorem d_H_count_23 : decode c_H_count 23 = .ok (.iload_n 1, 1) := by decide +kernel
theorem d_H_count_24 : decode c_H_count 24 = .ok (.iconst 0, 1) := by decide +kernel
theorem d_H_count_25 : decode c_H_count 25 = .ok (.iconst 0, 1) := by decide +kernel
theorem d_H_count_26 : decode c_H_count 26 = .ok (.invokestatic 124, 3) := by decide +kernel
theorem d_H_count_29 : decode c_H_count 29 = .ok (.istore 4, 2) := by decide +kernel
theorem d_H_count_31 : decode c_H_count 31 = .ok (.iload 4, 2) := by decide +kernel
theorem d_H_count_33 : decode c_H_count 33 = .ok (.iload_n 3, 1) := by decide +kernel
theorem d_H_count_34 : decode c_H_count 34 = .ok (.if_icmp .ge 23, 3) := by decide +kernel
theorem d_H_count_37 : decode c_H_count 37 = .ok (.aload_n 0, 1) := by decide +kernel
theorem d_H_count_38 : decode c_H_count 38 = .ok (.getfield 27, 3) := by decide +kernel
theorem d_H_count_41 : decode c_H_count 41 = .ok (.iload 4, 2) := by decide +kernel
theorem d_H_count_43 : decode c_H_count 43 = .ok (.iaload, 1) := by decide +kernel
theorem d_H_count_44 : decode c_H_count 44 = .ok (.iconst (-1), 1) := by decide +kernel
theorem d_H_count_45 : decode c_H_count 45 = .ok (.if_icmp .eq 6, 3) := by decide +kernel
theorem d_H_count_48 : decode c_H_count 48 = .ok (.iinc 2 1, 3) := by decide +kernel
theorem d_H_count_51 : decode c_H_count 51 = .ok (.iinc 4 1, 3) := by decide +kernel
theorem d_H_count_54 : decode c_H_count 54 = .ok (.goto (-23), 3) := by decide +kernel
theorem d_H_count_57 : decode c_H_count 57 = .ok (.iload_n 2, 1) := by decide +kernel
theorem d_H_count_58 : decode c_H_count 58 = .ok (.ireturn, 1) := by decide +kernel
theorem d_H_rank_0 : decode c_H_rank 0 = .ok (.aload_n 0, 1) := by decide +kernel
theorem d_H_rank_1 : decode c_H_rank 1 = .ok (.iload_n 1, 1) := by decide +kernel
theorem d_H_rank_2 : decode c_H_rank 2 = .ok (.iload_n 2, 1) := by decide +kernel
theorem d_H_rank_3 : decode c_H_rank 3 = .ok (.iload_n 3, 1) := by decide +kernel
theorem d_H_rank_4 : decode c_H_rank 4 = .ok (.invokevirtual 72, 3) := by decide +kernel
theorem d_H_rank_7 : decode c_H_rank 7 = .ok (.aload_n 0, 1) := by decide +kernel
theorem d_H_rank_8 : decode c_H_rank 8 = .ok (.invokevirtual 118, 3) := by decide +kernel
theorem d_H_rank_11 : decode c_H_rank 11 = .ok (.aload_n 0, 1) := by decide +kernel
theorem d_H_rank_12 : decode c_H_rank 12 = .ok (.invokevirtual 121, 3) := by decide +kernel
theorem d_H_rank_15 : decode c_H_rank 15 = .ok (.aload_n 0, 1) := by decide +kernel
theorem d_H_rank_16 : decode c_H_rank 16 = .ok (.getfield 27, 3) := by decide +kernel
theorem d_H_rank_19 : decode c_H_rank 19 = .ok (.iload_n 1, 1) := by decide +kernel
theorem d_H_rank_20 : decode c_H_rank 20 = .ok (.aload_n 0, 1) := by decide +kernel
theorem d_H_rank_21 : decode c_H_rank 21 = .ok (.iload_n 1, 1) := by decide +kernel
theorem d_H_rank_22 : decode c_H_rank 22 = .ok (.iload_n 2, 1) := by decide +kernel
theorem d_H_rank_23 : decode c_H_rank 23 = .ok (.invokevirtual 85, 3) := by decide +kernel
theorem d_H_rank_26 : decode c_H_rank 26 = .ok (.aload_n 0, 1) := by decide +kernel
theorem d_H_rank_27 : decode c_H_rank 27 = .ok (.iload_n 1, 1) := by decide +kernel
theorem d_H_rank_28 : decode c_H_rank 28 = .ok (.iload_n 3, 1) := by decide +kernel
theorem d_H_rank_29 : decode c_H_rank 29 = .ok (.invokevirtual 89, 3) := by decide +kernel
theorem d_H_rank_32 : decode c_H_rank 32 = .ok (.invokestatic 124, 3) := by decide +kernel
theorem d_H_rank_35 : decode c_H_rank 35 = .ok (.iaload, 1) := by decide +kernel
theorem d_H_rank_36 : decode c_H_rank 36 = .ok (.ireturn, 1) := by decide +kernel
theorem d_H_ways_0 : decode c_H_ways 0 = .ok (.aload_n 0, 1) := by decide +kernel
theorem d_H_ways_1 : decode c_H_ways 1 = .ok (.iload_n 1, 1) := by decide +kernel
theorem d_H_ways_2 : decode c_H_ways 2 = .ok (.iload_n 2, 1) := by decide +kernel
theorem d_H_ways_3 : decode c_H_ways 3 = .ok (.iload_n 3, 1) := by decide +kernel
theorem d_H_ways_4 : decode c_H_ways 4 = .ok (.invokevirtual 72, 3) := by decide +kernel
theorem d_H_ways_7 : decode c_H_ways 7 = .ok (.aload_n 0, 1) := by decide +kernel
theorem d_H_ways_8 : decode c_H_ways 8 = .ok (.invokevirtual 118, 3) := by decide +kernel
theorem d_H_ways_11 : decode c_H_ways 11 = .ok (.aload_n 0, 1) := by decide +kernel
theorem d_H_ways_12 : decode c_H_ways 12 = .ok (.invokevirtual 121, 3) := by decide +kernel
theorem d_H_ways_15 : decode c_H_ways 15 = .ok (.aload_n 0, 1) := by decide +kernel
theorem d_H_ways_16 : decode c_H_ways 16 = .ok (.aload_n 0, 1) := by decide +kernel
theorem d_H_ways_17 : decode c_H_ways 17 = .ok (.getfield 24, 3) := by decide +kernel
theorem d_H_ways_20 : decode c_H_ways 20 = .ok (.iload_n 1, 1) := by decide +kernel
theorem d_H_ways_21 : decode c_H_ways 21 = .ok (.iaload, 1) := by decide +kernel
theorem d_H_ways_22 : decode c_H_ways 22 = .ok (.ldc 128, 2) := by decide +kernel
theorem d_H_ways_24 : decode c_H_ways 24 = .ok (.invokevirtual 129, 3) := by decide +kernel
theorem d_H_ways_27 : decode c_H_ways 27 = .ok (.iconst 0, 1) := by decide +kernel
theorem d_H_ways_28 : decode c_H_ways 28 = .ok (.istore 4, 2) := by decide +kernel
theorem d_H_ways_30 : decode c_H_ways 30 = .ok (.iconst 0, 1) := by decide +kernel
theorem d_H_ways_31 : decode c_H_ways 31 = .ok (.istore 5, 2) := by decide +kernel
theorem d_H_ways_33 : decode c_H_ways 33 = .ok (.iload 5, 2) := by decide +kernel
theorem d_H_ways_35 : decode c_H_ways 35 = .ok (.aload_n 0, 1) := by decide +kernel
theorem d_H_ways_36 : decode c_H_ways 36 = .ok (.getfield 54, 3) := by decide +kernel
theorem d_H_ways_39 : decode c_H_ways 39 = .ok (.if_icmp .ge 60, 3) := by decide +kernel
theorem d_H_ways_42 : decode c_H_ways 42 = .ok (.aload_n 0, 1) := by decide +kernel
theorem d_H_ways_43 : decode c_H_ways 43 = .ok (.getfield 36, 3) := by decide +kernel
theorem d_H_ways_46 : decode c_H_ways 46 = .ok (.aload_n 0, 1) := by decide +kernel
theorem d_H_ways_47 : decode c_H_ways 47 = .ok (.getfield 20, 3) := by decide +kernel
theorem d_H_ways_50 : decode c_H_ways 50 = .ok (.iload 5, 2) := by decide +kernel
theorem d_H_ways_52 : decode c_H_ways 52 = .ok (.aaload, 1) := by decide +kernel
theorem d_H_ways_53 : decode c_H_ways 53 = .ok (.iload_n 1, 1) := by decide +kernel
theorem d_H_ways_54 : decode c_H_ways 54 = .ok (.aload_n 0, 1) := by decide +kernel
theorem d_H_ways_55 : decode c_H_ways 55 = .ok (.iload_n 1, 1) := by decide +kernel
theorem d_H_ways_56 : decode c_H_ways 56 = .ok (.iload_n 2, 1) := by decide +kernel
theorem d_H_ways_57 : decode c_H_ways 57 = .ok (.invokevirtual 85, 3) := by decide +kernel
theorem d_H_ways_60 : decode c_H_ways 60 = .ok (.aload_n 0, 1) := by decide +kernel
theorem d_H_ways_61 : decode c_H_ways 61 = .ok (.iload_n 1, 1) := by decide +kernel
theorem d_H_ways_62 : decode c_H_ways 62 = .ok (.iload_n 3, 1) := by decide +kernel
theorem d_H_ways_63 : decode c_H_ways 63 = .ok (.invokevirtual 89, 3) := by decide +kernel
theorem d_H_ways_66 : decode c_H_ways 66 = .ok (.invokevirtual 133, 3) := by decide +kernel
theorem d_H_ways_69 : decode c_H_ways 69 = .ok (.ifCond .eq 24, 3) := by decide +kernel
theorem d_H_ways_72 : decode c_H_ways 72 = .ok (.iload 4, 2) := by decide +kernel
theorem d_H_ways_74 : decode c_H_ways 74 = .ok (.aload_n 0, 1) := by decide +kernel
theorem d_H_ways_75 : decode c_H_ways 75 = .ok (.getfield 36, 3) := by decide +kernel
theorem d_H_ways_78 : decode c_H_ways 78 = .ok (.aload_n 0, 1) := by decide +kernel
theorem d_H_ways_79 : decode c_H_ways 79 = .ok (.getfield 20, 3) := by decide +kernel
theorem d_H_ways_82 : decode c_H_ways 82 = .ok (.iload 5, 2) := by decide +kernel
theorem d_H_ways_84 : decode c_H_ways 84 = .ok (.aaload, 1) := by decide +kernel
theorem d_H_ways_85 : decode c_H_ways 85 = .ok (.bipush 20, 2) := by decide +kernel
theorem d_H_ways_87 : decode c_H_ways 87 = .ok (.invokevirtual 137, 3) := by decide +kernel
theorem d_H_ways_90 : decode c_H_ways 90 = .ok (.iadd, 1) := by decide +kernel
theorem d_H_ways_91 : decode c_H_ways 91 = .ok (.istore 4, 2) := by decide +kernel
theorem d_H_ways_93 : decode c_H_ways 93 = .ok (.iinc 5 1, 3) := by decide +kernel
theorem d_H_ways_96 : decode c_H_ways 96 = .ok (.goto (-63), 3) := by decide +kernel
theorem d_H_ways_99 : decode c_H_ways 99 = .ok (.iload 4, 2) := by decide +kernel
theorem d_H_ways_101 : decode c_H_ways 101 = .ok (.ireturn, 1) := by decide +kernel
theorem d_H_proof_0 : decode c_H_proof 0 = .ok (.aload_n 0, 1) := by decide +kernel
theorem d_H_proof_1 : decode c_H_proof 1 = .ok (.iload_n 1, 1) := by decide +kernel
theorem d_H_proof_2 : decode c_H_proof 2 = .ok (.iload_n 2, 1) := by decide +kernel
theorem d_H_proof_3 : decode c_H_proof 3 = .ok (.iload_n 3, 1) := by decide +kernel
theorem d_H_proof_4 : decode c_H_proof 4 = .ok (.invokevirtual 72, 3) := by decide +kernel
theorem d_H_proof_7 : decode c_H_proof 7 = .ok (.iload 4, 2) := by decide +kernel
theorem d_H_proof_9 : decode c_H_proof 9 = .ok (.ifCond .lt 9, 3) := by decide +kernel
theorem d_H_proof_12 : decode c_H_proof 12 = .ok (.iload 4, 2) := by decide +kernel
theorem d_H_proof_14 : decode c_H_proof 14 = .ok (.iconst 4, 1) := by decide +kernel
theorem d_H_proof_15 : decode c_H_proof 15 = .ok (.if_icmp .le 13, 3) := by decide +kernel
theorem d_H_proof_18 : decode c_H_proof 18 = .ok (.new 60, 3) := by decide +kernel
theorem d_H_proof_21 : decode c_H_proof 21 = .ok (.dup, 1) := by decide +kernel
theorem d_H_proof_22 : decode c_H_proof 22 = .ok (.ldc 141, 2) := by decide +kernel
theorem d_H_proof_24 : decode c_H_proof 24 = .ok (.invokespecial 64, 3) := by decide +kernel
theorem d_H_proof_27 : decode c_H_proof 27 = .ok (.athrow, 1) := by decide +kernel
theorem d_H_proof_28 : decode c_H_proof 28 = .ok (.aload_n 0, 1) := by decide +kernel
theorem d_H_proof_29 : decode c_H_proof 29 = .ok (.invokevirtual 118, 3) := by decide +kernel
theorem d_H_proof_32 : decode c_H_proof 32 = .ok (.aload_n 0, 1) := by decide +kernel
theorem d_H_proof_33 : decode c_H_proof 33 = .ok (.invokevirtual 121, 3) := by decide +kernel
theorem d_H_proof_36 : decode c_H_proof 36 = .ok (.aload_n 0, 1) := by decide +kernel
theorem d_H_proof_37 : decode c_H_proof 37 = .ok (.iload_n 1, 1) := by decide +kernel
theorem d_H_proof_38 : decode c_H_proof 38 = .ok (.iload_n 2, 1) := by decide +kernel
theorem d_H_proof_39 : decode c_H_proof 39 = .ok (.invokevirtual 85, 3) := by decide +kernel
theorem d_H_proof_42 : decode c_H_proof 42 = .ok (.istore 5, 2) := by decide +kernel
theorem d_H_proof_44 : decode c_H_proof 44 = .ok (.aload_n 0, 1) := by decide +kernel
theorem d_H_proof_45 : decode c_H_proof 45 = .ok (.iload_n 1, 1) := by decide +kernel
theorem d_H_proof_46 : decode c_H_proof 46 = .ok (.iload_n 3, 1) := by decide +kernel
theorem d_H_proof_47 : decode c_H_proof 47 = .ok (.invokevirtual 89, 3) := by decide +kernel
theorem d_H_proof_50 : decode c_H_proof 50 = .ok (.istore 6, 2) := by decide +kernel
theorem d_H_proof_52 : decode c_H_proof 52 = .ok (.aload_n 0, 1) := by decide +kernel
theorem d_H_proof_53 : decode c_H_proof 53 = .ok (.getfield 27, 3) := by decide +kernel
theorem d_H_proof_56 : decode c_H_proof 56 = .ok (.iload_n 1, 1) := by decide +kernel
theorem d_H_proof_57 : decode c_H_proof 57 = .ok (.iload 5, 2) := by decide +kernel
theorem d_H_proof_59 : decode c_H_proof 59 = .ok (.iload 6, 2) := by decide +kernel
theorem d_H_proof_61 : decode c_H_proof 61 = .ok (.invokestatic 124, 3) := by decide +kernel
theorem d_H_proof_64 : decode c_H_proof 64 = .ok (.iaload, 1) := by decide +kernel
theorem d_H_proof_65 : decode c_H_proof 65 = .ok (.istore 7, 2) := by decide +kernel
theorem d_H_proof_67 : decode c_H_proof 67 = .ok (.iload 7, 2) := by decide +kernel
theorem d_H_proof_69 : decode c_H_proof 69 = .ok (.iconst (-1), 1) := by decide +kernel
theorem d_H_proof_70 : decode c_H_proof 70 = .ok (.if_icmp .eq 8, 3) := by decide +kernel
theorem d_H_proof_73 : decode c_H_proof 73 = .ok (.iload 7, 2) := by decide +kernel
theorem d_H_proof_75 : decode c_H_proof 75 = .ok (.ifCond .ne 13, 3) := by decide +kernel
theorem d_H_proof_78 : decode c_H_proof 78 = .ok (.new 143, 3) := by decide +kernel
theorem d_H_proof_81 : decode c_H_proof 81 = .ok (.dup, 1) := by decide +kernel
theorem d_H_proof_82 : decode c_H_proof 82 = .ok (.ldc 145, 2) := by decide +kernel
theorem d_H_proof_84 : decode c_H_proof 84 = .ok (.invokespecial 147, 3) := by decide +kernel
theorem d_H_proof_87 : decode c_H_proof 87 = .ok (.athrow, 1) := by decide +kernel
theorem d_H_proof_88 : decode c_H_proof 88 = .ok (.aload_n 0, 1) := by decide +kernel
theorem d_H_proof_89 : decode c_H_proof 89 = .ok (.aload_n 0, 1) := by decide +kernel
theorem d_H_proof_90 : decode c_H_proof 90 = .ok (.getfield 24, 3) := by decide +kernel
theorem d_H_proof_93 : decode c_H_proof 93 = .ok (.iload_n 1, 1) := by decide +kernel
theorem d_H_proof_94 : decode c_H_proof 94 = .ok (.iaload, 1) := by decide +kernel
theorem d_H_proof_95 : decode c_H_proof 95 = .ok (.iload 7, 2) := by decide +kernel
theorem d_H_proof_97 : decode c_H_proof 97 = .ok (.invokevirtual 129, 3) := by decide +kernel
theorem d_H_proof_100 : decode c_H_proof 100 = .ok (.aload_n 0, 1) := by decide +kernel
theorem d_H_proof_101 : decode c_H_proof 101 = .ok (.iload_n 1, 1) := by decide +kernel
theorem d_H_proof_102 : decode c_H_proof 102 = .ok (.iload 5, 2) := by decide +kernel
theorem d_H_proof_104 : decode c_H_proof 104 = .ok (.iload 6, 2) := by decide +kernel
theorem d_H_proof_106 : decode c_H_proof 106 = .ok (.invokevirtual 148, 3) := by decide +kernel
theorem d_H_proof_109 : decode c_H_proof 109 = .ok (.istore 8, 2) := by decide +kernel
theorem d_H_proof_111 : decode c_H_proof 111 = .ok (.iload 4, 2) := by decide +kernel
theorem d_H_proof_113 : decode c_H_proof 113 = .ok (.ifCond .ne 8, 3) := by decide +kernel
theorem d_H_proof_116 : decode c_H_proof 116 = .ok (.iload 8, 2) := by decide +kernel
theorem d_H_proof_118 : decode c_H_proof 118 = .ok (.goto 18, 3) := by decide +kernel
theorem d_H_proof_121 : decode c_H_proof 121 = .ok (.aload_n 0, 1) := by decide +kernel
theorem d_H_proof_122 : decode c_H_proof 122 = .ok (.getfield 36, 3) := by decide +kernel
theorem d_H_proof_125 : decode c_H_proof 125 = .ok (.getfield 151, 3) := by decide +kernel
theorem d_H_proof_128 : decode c_H_proof 128 = .ok (.bipush 20, 2) := by decide +kernel
theorem d_H_proof_130 : decode c_H_proof 130 = .ok (.iload 4, 2) := by decide +kernel
theorem d_H_proof_132 : decode c_H_proof 132 = .ok (.iadd, 1) := by decide +kernel
theorem d_H_proof_133 : decode c_H_proof 133 = .ok (.iconst 1, 1) := by decide +kernel
theorem d_H_proof_134 : decode c_H_proof 134 = .ok (.isub, 1) := by decide +kernel
theorem d_H_proof_135 : decode c_H_proof 135 = .ok (.iaload, 1) := by decide +kernel
theorem d_H_proof_136 : decode c_H_proof 136 = .ok (.ireturn, 1) := by decide +kernel
theorem d_H_checkRelation_0 : decode c_H_checkRelation 0 = .ok (.iload_n 1, 1) := by decide +kernel
theorem d_H_checkRelation_1 : decode c_H_checkRelation 1 = .ok (.ifCond .lt 11, 3) := by decide +kernel
theorem d_H_checkRelation_4 : decode c_H_checkRelation 4 = .ok (.iload_n 1, 1) := by decide +kernel
theorem d_H_checkRelation_5 : decode c_H_checkRelation 5 = .ok (.aload_n 0, 1) := by decide +kernel
theorem d_H_checkRelation_6 : decode c_H_checkRelation 6 = .ok (.getfield 51, 3) := by decide +kernel
theorem d_H_checkRelation_9 : decode c_H_checkRelation 9 = .ok (.if_icmp .lt 13, 3) := by decide +kernel
theorem d_H_checkRelation_12 : decode c_H_checkRelation 12 = .ok (.new 60, 3) := by decide +kernel
theorem d_H_checkRelation_15 : decode c_H_checkRelation 15 = .ok (.dup, 1) := by decide +kernel
theorem d_H_checkRelation_16 : decode c_H_checkRelation 16 = .ok (.ldc 154, 2) := by decide +kernel
theorem d_H_checkRelation_18 : decode c_H_checkRelation 18 = .ok (.invokespecial 64, 3) := by decide +kernel
theorem d_H_checkRelation_21 : decode c_H_checkRelation 21 = .ok (.athrow, 1) := by decide +kernel
theorem d_H_checkRelation_22 : decode c_H_checkRelation 22 = .ok (.return_, 1) := by decide +kernel
theorem d_H_checkFact_0 : decode c_H_checkFact 0 = .ok (.aload_n 0, 1) := by decide +kernel
theorem d_H_checkFact_1 : decode c_H_checkFact 1 = .ok (.iload_n 1, 1) := by decide +kernel
theorem d_H_checkFact_2 : decode c_H_checkFact 2 = .ok (.invokevirtual 114, 3) := by decide +kernel
theorem d_H_checkFact_5 : decode c_H_checkFact 5 = .ok (.aload_n 0, 1) := by decide +kernel
theorem d_H_checkFact_6 : decode c_H_checkFact 6 = .ok (.iload_n 1, 1) := by decide +kernel
theorem d_H_checkFact_7 : decode c_H_checkFact 7 = .ok (.iload_n 2, 1) := by decide +kernel
theorem d_H_checkFact_8 : decode c_H_checkFact 8 = .ok (.invokevirtual 85, 3) := by decide +kernel
theorem d_H_checkFact_11 : decode c_H_checkFact 11 = .ok (.invokestatic 156, 3) := by decide +kernel
theorem d_H_checkFact_14 : decode c_H_checkFact 14 = .ok (.ifCond .eq 15, 3) := by decide +kernel
theorem d_H_checkFact_17 : decode c_H_checkFact 17 = .ok (.aload_n 0, 1) := by decide +kernel
theorem d_H_checkFact_18 : decode c_H_checkFact 18 = .ok (.iload_n 1, 1) := by decide +kernel
theorem d_H_checkFact_19 : decode c_H_checkFact 19 = .ok (.iload_n 3, 1) := by decide +kernel
theorem d_H_checkFact_20 : decode c_H_checkFact 20 = .ok (.invokevirtual 89, 3) := by decide +kernel
theorem d_H_checkFact_23 : decode c_H_checkFact 23 = .ok (.invokestatic 156, 3) := by decide +kernel
theorem d_H_checkFact_26 : decode c_H_checkFact 26 = .ok (.ifCond .ne 13, 3) := by decide +kernel
theorem d_H_checkFact_29 : decode c_H_checkFact 29 = .ok (.new 60, 3) := by decide +kernel
theorem d_H_checkFact_32 : decode c_H_checkFact 32 = .ok (.dup, 1) := by decide +kernel
theorem d_H_checkFact_33 : decode c_H_checkFact 33 = .ok (.ldc 160, 2) := by decide +kernel
theorem d_H_checkFact_35 : decode c_H_checkFact 35 = .ok (.invokespecial 64, 3) := by decide +kernel
theorem d_H_checkFact_38 : decode c_H_checkFact 38 = .ok (.athrow, 1) := by decide +kernel
theorem d_H_checkFact_39 : decode c_H_checkFact 39 = .ok (.return_, 1) := by decide +kernel
theorem d_H_checkTerms_0 : decode c_H_checkTerms 0 = .ok (.aload_n 0, 1) := by decide +kernel
theorem d_H_checkTerms_1 : decode c_H_checkTerms 1 = .ok (.iload_n 1, 1) := by decide +kernel
theorem d_H_checkTerms_2 : decode c_H_checkTerms 2 = .ok (.invokevirtual 114, 3) := by decide +kernel
theorem d_H_checkTerms_5 : decode c_H_checkTerms 5 = .ok (.aload_n 0, 1) := by decide +kernel
theorem d_H_checkTerms_6 : decode c_H_checkTerms 6 = .ok (.iload_n 1, 1) := by decide +kernel
theorem d_H_checkTerms_7 : decode c_H_checkTerms 7 = .ok (.iload_n 2, 1) := by decide +kernel
theorem d_H_checkTerms_8 : decode c_H_checkTerms 8 = .ok (.invokevirtual 85, 3) := by decide +kernel
theorem d_H_checkTerms_11 : decode c_H_checkTerms 11 = .ok (.invokestatic 162, 3) := by decide +kernel
theorem d_H_checkTerms_14 : decode c_H_checkTerms 14 = .ok (.ifCond .eq 15, 3) := by decide +kernel
theorem d_H_checkTerms_17 : decode c_H_checkTerms 17 = .ok (.aload_n 0, 1) := by decide +kernel
theorem d_H_checkTerms_18 : decode c_H_checkTerms 18 = .ok (.iload_n 1, 1) := by decide +kernel
theorem d_H_checkTerms_19 : decode c_H_checkTerms 19 = .ok (.iload_n 3, 1) := by decide +kernel
theorem d_H_checkTerms_20 : decode c_H_checkTerms 20 = .ok (.invokevirtual 89, 3) := by decide +kernel
theorem d_H_checkTerms_23 : decode c_H_checkTerms 23 = .ok (.invokestatic 162, 3) := by decide +kernel
theorem d_H_checkTerms_26 : decode c_H_checkTerms 26 = .ok (.ifCond .ne 13, 3) := by decide +kernel
theorem d_H_checkTerms_29 : decode c_H_checkTerms 29 = .ok (.new 60, 3) := by decide +kernel
theorem d_H_checkTerms_32 : decode c_H_checkTerms 32 = .ok (.dup, 1) := by decide +kernel
theorem d_H_checkTerms_33 : decode c_H_checkTerms 33 = .ok (.ldc 165, 2) := by decide +kernel
theorem d_H_checkTerms_35 : decode c_H_checkTerms 35 = .ok (.invokespecial 64, 3) := by decide +kernel
theorem d_H_checkTerms_38 : decode c_H_checkTerms 38 = .ok (.athrow, 1) := by decide +kernel
theorem d_H_checkTerms_39 : decode c_H_checkTerms 39 = .ok (.return_, 1) := by decide +kernel
theorem d_H_checkSomeRule_0 : decode c_H_checkSomeRule 0 = .ok (.aload_n 0, 1) := by decide +kernel
theorem d_H_checkSomeRule_1 : decode c_H_checkSomeRule 1 = .ok (.getfield 54, 3) := by decide +kernel
theorem d_H_checkSomeRule_4 : decode c_H_checkSomeRule 4 = .ok (.ifCond .ne 13, 3) := by decide +kernel
theorem d_H_checkSomeRule_7 : decode c_H_checkSomeRule 7 = .ok (.new 167, 3) := by decide +kernel
theorem d_H_checkSomeRule_10 : decode c_H_checkSomeRule 10 = .ok (.dup, 1) := by decide +kernel
theorem d_H_checkSomeRule_11 : decode c_H_checkSomeRule 11 = .ok (.ldc 169, 2) := by decide +kernel
theorem d_H_checkSomeRule_13 : decode c_H_checkSomeRule 13 = .ok (.invokespecial 171, 3) := by decide +kernel
theorem d_H_checkSomeRule_16 : decode c_H_checkSomeRule 16 = .ok (.athrow, 1) := by decide +kernel
theorem d_H_checkSomeRule_17 : decode c_H_checkSomeRule 17 = .ok (.return_, 1) := by decide +kernel
theorem d_H_checkNoFault_0 : decode c_H_checkNoFault 0 = .ok (.aload_n 0, 1) := by decide +kernel
theorem d_H_checkNoFault_1 : decode c_H_checkNoFault 1 = .ok (.invokevirtual 111, 3) := by decide +kernel
theorem d_H_checkNoFault_4 : decode c_H_checkNoFault 4 = .ok (.aload_n 0, 1) := by decide +kernel
theorem d_H_checkNoFault_5 : decode c_H_checkNoFault 5 = .ok (.getfield 40, 3) := by decide +kernel
theorem d_H_checkNoFault_8 : decode c_H_checkNoFault 8 = .ok (.iconst (-1), 1) := by decide +kernel
theorem d_H_checkNoFault_9 : decode c_H_checkNoFault 9 = .ok (.if_icmp .eq 13, 3) := by decide +kernel
theorem d_H_checkNoFault_12 : decode c_H_checkNoFault 12 = .ok (.new 167, 3) := by decide +kernel
theorem d_H_checkNoFault_15 : decode c_H_checkNoFault 15 = .ok (.dup, 1) := by decide +kernel
theorem d_H_checkNoFault_16 : decode c_H_checkNoFault 16 = .ok (.ldc 172, 2) := by decide +kernel
theorem d_H_checkNoFault_18 : decode c_H_checkNoFault 18 = .ok (.invokespecial 171, 3) := by decide +kernel
theorem d_H_checkNoFault_21 : decode c_H_checkNoFault 21 = .ok (.athrow, 1) := by decide +kernel
theorem d_H_checkNoFault_22 : decode c_H_checkNoFault 22 = .ok (.return_, 1) := by decide +kernel
theorem d_H_isConstant_0 : decode c_H_isConstant 0 = .ok (.iload_n 0, 1) := by decide +kernel
theorem d_H_isConstant_1 : decode c_H_isConstant 1 = .ok (.ifCond .lt 13, 3) := by decide +kernel
theorem d_H_isConstant_4 : decode c_H_isConstant 4 = .ok (.iload_n 0, 1) := by decide +kernel
theorem d_H_isConstant_5 : decode c_H_isConstant 5 = .ok (.bipush 12, 2) := by decide +kernel
theorem d_H_isConstant_7 : decode c_H_isConstant 7 = .ok (.if_icmp .ge 7, 3) := by decide +kernel
theorem d_H_isConstant_10 : decode c_H_isConstant 10 = .ok (.iconst 1, 1) := by decide +kernel
theorem d_H_isConstant_11 : decode c_H_isConstant 11 = .ok (.goto 4, 3) := by decide +kernel
theorem d_H_isConstant_14 : decode c_H_isConstant 14 = .ok (.iconst 0, 1) := by decide +kernel
theorem d_H_isConstant_15 : decode c_H_isConstant 15 = .ok (.ireturn, 1) := by decide +kernel
theorem d_H_isTerm_0 : decode c_H_isTerm 0 = .ok (.iload_n 0, 1) := by decide +kernel
theorem d_H_isTerm_1 : decode c_H_isTerm 1 = .ok (.invokestatic 156, 3) := by decide +kernel
theorem d_H_isTerm_4 : decode c_H_isTerm 4 = .ok (.ifCond .ne 15, 3) := by decide +kernel
theorem d_H_isTerm_7 : decode c_H_isTerm 7 = .ok (.iload_n 0, 1) := by decide +kernel
theorem d_H_isTerm_8 : decode c_H_isTerm 8 = .ok (.bipush 20, 2) := by decide +kernel
theorem d_H_isTerm_10 : decode c_H_isTerm 10 = .ok (.if_icmp .lt 13, 3) := by decide +kernel
theorem d_H_isTerm_13 : decode c_H_isTerm 13 = .ok (.iload_n 0, 1) := by decide +kernel
theorem d_H_isTerm_14 : decode c_H_isTerm 14 = .ok (.bipush 24, 2) := by decide +kernel
theorem d_H_isTerm_16 : decode c_H_isTerm 16 = .ok (.if_icmp .ge 7, 3) := by decide +kernel
theorem d_H_isTerm_19 : decode c_H_isTerm 19 = .ok (.iconst 1, 1) := by decide +kernel
theorem d_H_isTerm_20 : decode c_H_isTerm 20 = .ok (.goto 4, 3) := by decide +kernel
theorem d_H_isTerm_23 : decode c_H_isTerm 23 = .ok (.iconst 0, 1) := by decide +kernel
theorem d_H_isTerm_24 : decode c_H_isTerm 24 = .ok (.ireturn, 1) := by decide +kernel
theorem d_H_firstOf_0 : decode c_H_firstOf 0 = .ok (.aload_n 0, 1) := by decide +kernel
theorem d_H_firstOf_1 : decode c_H_firstOf 1 = .ok (.getfield 11, 3) := by decide +kernel
theorem d_H_firstOf_4 : decode c_H_firstOf 4 = .ok (.iload_n 1, 1) := by decide +kernel
theorem d_H_firstOf_5 : decode c_H_firstOf 5 = .ok (.iaload, 1) := by decide +kernel
theorem d_H_firstOf_6 : decode c_H_firstOf 6 = .ok (.iconst 1, 1) := by decide +kernel
theorem d_H_firstOf_7 : decode c_H_firstOf 7 = .ok (.if_icmp .lt 7, 3) := by decide +kernel
theorem d_H_firstOf_10 : decode c_H_firstOf 10 = .ok (.iload_n 2, 1) := by decide +kernel
theorem d_H_firstOf_11 : decode c_H_firstOf 11 = .ok (.goto 4, 3) := by decide +kernel
theorem d_H_firstOf_14 : decode c_H_firstOf 14 = .ok (.iconst 0, 1) := by decide +kernel
theorem d_H_firstOf_15 : decode c_H_firstOf 15 = .ok (.ireturn, 1) := by decide +kernel
theorem d_H_secondOf_0 : decode c_H_secondOf 0 = .ok (.aload_n 0, 1) := by decide +kernel
theorem d_H_secondOf_1 : decode c_H_secondOf 1 = .ok (.getfield 11, 3) := by decide +kernel
theorem d_H_secondOf_4 : decode c_H_secondOf 4 = .ok (.iload_n 1, 1) := by decide +kernel
theorem d_H_secondOf_5 : decode c_H_secondOf 5 = .ok (.iaload, 1) := by decide +kernel
theorem d_H_secondOf_6 : decode c_H_secondOf 6 = .ok (.iconst 2, 1) := by decide +kernel
theorem d_H_secondOf_7 : decode c_H_secondOf 7 = .ok (.if_icmp .lt 7, 3) := by decide +kernel
theorem d_H_secondOf_10 : decode c_H_secondOf 10 = .ok (.iload_n 2, 1) := by decide +kernel
theorem d_H_secondOf_11 : decode c_H_secondOf 11 = .ok (.goto 4, 3) := by decide +kernel
theorem d_H_secondOf_14 : decode c_H_secondOf 14 = .ok (.iconst 0, 1) := by decide +kernel
theorem d_H_secondOf_15 : decode c_H_secondOf 15 = .ok (.ireturn, 1) := by decide +kernel
theorem d_H_rowAt_0 : decode c_H_rowAt 0 = .ok (.iload_n 0, 1) := by decide +kernel
theorem d_H_rowAt_1 : decode c_H_rowAt 1 = .ok (.bipush 12, 2) := by decide +kernel
theorem d_H_rowAt_3 : decode c_H_rowAt 3 = .ok (.imul, 1) := by decide +kernel
theorem d_H_rowAt_4 : decode c_H_rowAt 4 = .ok (.iload_n 1, 1) := by decide +kernel
theorem d_H_rowAt_5 : decode c_H_rowAt 5 = .ok (.iadd, 1) := by decide +kernel
theorem d_H_rowAt_6 : decode c_H_rowAt 6 = .ok (.ireturn, 1) := by decide +kernel
theorem d_H_factAt_0 : decode c_H_factAt 0 = .ok (.iload_n 0, 1) := by decide +kernel
theorem d_H_factAt_1 : decode c_H_factAt 1 = .ok (.iload_n 1, 1) := by decide +kernel
theorem d_H_factAt_2 : decode c_H_factAt 2 = .ok (.invokestatic 174, 3) := by decide +kernel
theorem d_H_factAt_5 : decode c_H_factAt 5 = .ok (.bipush 12, 2) := by decide +kernel
theorem d_H_factAt_7 : decode c_H_factAt 7 = .ok (.imul, 1) := by decide +kernel
theorem d_H_factAt_8 : decode c_H_factAt 8 = .ok (.iload_n 2, 1) := by decide +kernel
theorem d_H_factAt_9 : decode c_H_factAt 9 = .ok (.iadd, 1) := by decide +kernel
theorem d_H_factAt_10 : decode c_H_factAt 10 = .ok (.ireturn, 1) := by decide +kernel
theorem d_H_hasBit_0 : decode c_H_hasBit 0 = .ok (.iload_n 0, 1) := by decide +kernel
theorem d_H_hasBit_1 : decode c_H_hasBit 1 = .ok (.iload_n 1, 1) := by decide +kernel
theorem d_H_hasBit_2 : decode c_H_hasBit 2 = .ok (.ishr, 1) := by decide +kernel
theorem d_H_hasBit_3 : decode c_H_hasBit 3 = .ok (.iconst 1, 1) := by decide +kernel
theorem d_H_hasBit_4 : decode c_H_hasBit 4 = .ok (.iand, 1) := by decide +kernel
theorem d_H_hasBit_5 : decode c_H_hasBit 5 = .ok (.ifCond .eq 7, 3) := by decide +kernel
theorem d_H_hasBit_8 : decode c_H_hasBit 8 = .ok (.iconst 1, 1) := by decide +kernel
theorem d_H_hasBit_9 : decode c_H_hasBit 9 = .ok (.goto 4, 3) := by decide +kernel
theorem d_H_hasBit_12 : decode c_H_hasBit 12 = .ok (.iconst 0, 1) := by decide +kernel
theorem d_H_hasBit_13 : decode c_H_hasBit 13 = .ok (.ireturn, 1) := by decide +kernel
theorem d_H_rulesChanged_0 : decode c_H_rulesChanged 0 = .ok (.aload_n 0, 1) := by decide +kernel
theorem d_H_rulesChanged_1 : decode c_H_rulesChanged 1 = .ok (.iconst 0, 1) := by decide +kernel
theorem d_H_rulesChanged_2 : decode c_H_rulesChanged 2 = .ok (.putfield 177, 3) := by decide +kernel
theorem d_H_rulesChanged_5 : decode c_H_rulesChanged 5 = .ok (.aload_n 0, 1) := by decide +kernel
theorem d_H_rulesChanged_6 : decode c_H_rulesChanged 6 = .ok (.iconst 0, 1) := by decide +kernel
theorem d_H_rulesChanged_7 : decode c_H_rulesChanged 7 = .ok (.putfield 181, 3) := by decide +kernel
theorem d_H_rulesChanged_10 : decode c_H_rulesChanged 10 = .ok (.return_, 1) := by decide +kernel
theorem d_H_setGiven_0 : decode c_H_setGiven 0 = .ok (.iload_n 1, 1) := by decide +kernel
theorem d_H_setGiven_1 : decode c_H_setGiven 1 = .ok (.aload_n 0, 1) := by decide +kernel
theorem d_H_setGiven_2 : decode c_H_setGiven 2 = .ok (.iload_n 1, 1) := by decide +kernel
theorem d_H_setGiven_3 : decode c_H_setGiven 3 = .ok (.iload_n 2, 1) := by decide +kernel
theorem d_H_setGiven_4 : decode c_H_setGiven 4 = .ok (.invokevirtual 85, 3) := by decide +kernel
theorem d_H_setGiven_7 : decode c_H_setGiven 7 = .ok (.invokestatic 174, 3) := by decide +kernel
theorem d_H_setGiven_10 : decode c_H_setGiven 10 = .ok (.istore 5, 2) := by decide +kernel
theorem d_H_setGiven_12 : decode c_H_setGiven 12 = .ok (.aload_n 0, 1) := by decide +kernel
theorem d_H_setGiven_13 : decode c_H_setGiven 13 = .ok (.iload_n 1, 1) := by decide +kernel
theorem d_H_setGiven_14 : decode c_H_setGiven 14 = .ok (.iload_n 3, 1) := by decide +kernel
theorem d_H_setGiven_15 : decode c_H_setGiven 15 = .ok (.invokevirtual 89, 3) := by decide +kernel
theorem d_H_setGiven_18 : decode c_H_setGiven 18 = .ok (.istore 6, 2) := by decide +kernel
theorem d_H_setGiven_20 : decode c_H_setGiven 20 = .ok (.aload_n 0, 1) := by decide +kernel
theorem d_H_setGiven_21 : decode c_H_setGiven 21 = .ok (.getfield 15, 3) := by decide +kernel
theorem d_H_setGiven_24 : decode c_H_setGiven 24 = .ok (.iload 5, 2) := by decide +kernel
theorem d_H_setGiven_26 : decode c_H_setGiven 26 = .ok (.iaload, 1) := by decide +kernel
theorem d_H_setGiven_27 : decode c_H_setGiven 27 = .ok (.iload 6, 2) := by decide +kernel
theorem d_H_setGiven_29 : decode c_H_setGiven 29 = .ok (.invokestatic 184, 3) := by decide +kernel
theorem d_H_setGiven_32 : decode c_H_setGiven 32 = .ok (.iload 4, 2) := by decide +kernel
theorem d_H_setGiven_34 : decode c_H_setGiven 34 = .ok (.if_icmp .ne 5, 3) := by decide +kernel
theorem d_H_setGiven_37 : decode c_H_setGiven 37 = .ok (.iconst 0, 1) := by decide +kernel
theorem d_H_setGiven_38 : decode c_H_setGiven 38 = .ok (.ireturn, 1) := by decide +kernel
theorem d_H_setGiven_39 : decode c_H_setGiven 39 = .ok (.aload_n 0, 1) := by decide +kernel
theorem d_H_setGiven_40 : decode c_H_setGiven 40 = .ok (.getfield 15, 3) := by decide +kernel
theorem d_H_setGiven_43 : decode c_H_setGiven 43 = .ok (.iload 5, 2) := by decide +kernel
theorem d_H_setGiven_45 : decode c_H_setGiven 45 = .ok (.dup2, 1) := by decide +kernel
theorem d_H_setGiven_46 : decode c_H_setGiven 46 = .ok (.iaload, 1) := by decide +kernel
theorem d_H_setGiven_47 : decode c_H_setGiven 47 = .ok (.iconst 1, 1) := by decide +kernel
theorem d_H_setGiven_48 : decode c_H_setGiven 48 = .ok (.iload 6, 2) := by decide +kernel
theorem d_H_setGiven_50 : decode c_H_setGiven 50 = .ok (.ishl, 1) := by decide +kernel
theorem d_H_setGiven_51 : decode c_H_setGiven 51 = .ok (.ixor, 1) := by decide +kernel
theorem d_H_setGiven_52 : decode c_H_setGiven 52 = .ok (.iastore, 1) := by decide +kernel
theorem d_H_setGiven_53 : decode c_H_setGiven 53 = .ok (.aload_n 0, 1) := by decide +kernel
theorem d_H_setGiven_54 : decode c_H_setGiven 54 = .ok (.iconst 0, 1) := by decide +kernel
end
section
theorem d_H_setGiven_55 : decode c_H_setGiven 55 = .ok (.putfield 181, 3) := by decide +kernel
theorem d_H_setGiven_58 : decode c_H_setGiven 58 = .ok (.iconst 1, 1) := by decide +kernel
theorem d_H_setGiven_59 : decode c_H_setGiven 59 = .ok (.ireturn, 1) := by decide +kernel
theorem d_H_judge_0 : decode c_H_judge 0 = .ok (.aload_n 0, 1) := by decide +kernel
theorem d_H_judge_1 : decode c_H_judge 1 = .ok (.getfield 177, 3) := by decide +kernel
theorem d_H_judge_4 : decode c_H_judge 4 = .ok (.ifCond .eq 4, 3) := by decide +kernel
theorem d_H_judge_7 : decode c_H_judge 7 = .ok (.return_, 1) := by decide +kernel
theorem d_H_judge_8 : decode c_H_judge 8 = .ok (.aload_n 0, 1) := by decide +kernel
theorem d_H_judge_9 : decode c_H_judge 9 = .ok (.aload_n 0, 1) := by decide +kernel
theorem d_H_judge_10 : decode c_H_judge 10 = .ok (.invokevirtual 188, 3) := by decide +kernel
theorem d_H_judge_13 : decode c_H_judge 13 = .ok (.putfield 40, 3) := by decide +kernel
theorem d_H_judge_16 : decode c_H_judge 16 = .ok (.aload_n 0, 1) := by decide +kernel
theorem d_H_judge_17 : decode c_H_judge 17 = .ok (.getfield 40, 3) := by decide +kernel
theorem d_H_judge_20 : decode c_H_judge 20 = .ok (.iconst (-1), 1) := by decide +kernel
theorem d_H_judge_21 : decode c_H_judge 21 = .ok (.if_icmp .ne 16, 3) := by decide +kernel
theorem d_H_judge_24 : decode c_H_judge 24 = .ok (.aload_n 0, 1) := by decide +kernel
theorem d_H_judge_25 : decode c_H_judge 25 = .ok (.invokevirtual 192, 3) := by decide +kernel
theorem d_H_judge_28 : decode c_H_judge 28 = .ok (.ifCond .ne 9, 3) := by decide +kernel
theorem d_H_judge_31 : decode c_H_judge 31 = .ok (.aload_n 0, 1) := by decide +kernel
theorem d_H_judge_32 : decode c_H_judge 32 = .ok (.bipush 100, 2) := by decide +kernel
theorem d_H_judge_34 : decode c_H_judge 34 = .ok (.putfield 40, 3) := by decide +kernel
theorem d_H_judge_37 : decode c_H_judge 37 = .ok (.aload_n 0, 1) := by decide +kernel
theorem d_H_judge_38 : decode c_H_judge 38 = .ok (.iconst 1, 1) := by decide +kernel
theorem d_H_judge_39 : decode c_H_judge 39 = .ok (.putfield 177, 3) := by decide +kernel
theorem d_H_judge_42 : decode c_H_judge 42 = .ok (.return_, 1) := by decide +kernel
theorem d_H_firstUnsafe_0 : decode c_H_firstUnsafe 0 = .ok (.iconst 0, 1) := by decide +kernel
theorem d_H_firstUnsafe_1 : decode c_H_firstUnsafe 1 = .ok (.istore_n 1, 1) := by decide +kernel
theorem d_H_firstUnsafe_2 : decode c_H_firstUnsafe 2 = .ok (.iload_n 1, 1) := by decide +kernel
theorem d_H_firstUnsafe_3 : decode c_H_firstUnsafe 3 = .ok (.aload_n 0, 1) := by decide +kernel
theorem d_H_firstUnsafe_4 : decode c_H_firstUnsafe 4 = .ok (.getfield 54, 3) := by decide +kernel
theorem d_H_firstUnsafe_7 : decode c_H_firstUnsafe 7 = .ok (.if_icmp .ge 23, 3) := by decide +kernel
theorem d_H_firstUnsafe_10 : decode c_H_firstUnsafe 10 = .ok (.aload_n 0, 1) := by decide +kernel
theorem d_H_firstUnsafe_11 : decode c_H_firstUnsafe 11 = .ok (.getfield 20, 3) := by decide +kernel
theorem d_H_firstUnsafe_14 : decode c_H_firstUnsafe 14 = .ok (.iload_n 1, 1) := by decide +kernel
theorem d_H_firstUnsafe_15 : decode c_H_firstUnsafe 15 = .ok (.aaload, 1) := by decide +kernel
theorem d_H_firstUnsafe_16 : decode c_H_firstUnsafe 16 = .ok (.invokevirtual 195, 3) := by decide +kernel
theorem d_H_firstUnsafe_19 : decode c_H_firstUnsafe 19 = .ok (.ifCond .ne 5, 3) := by decide +kernel
theorem d_H_firstUnsafe_22 : decode c_H_firstUnsafe 22 = .ok (.iload_n 1, 1) := by decide +kernel
theorem d_H_firstUnsafe_23 : decode c_H_firstUnsafe 23 = .ok (.ireturn, 1) := by decide +kernel
theorem d_H_firstUnsafe_24 : decode c_H_firstUnsafe 24 = .ok (.iinc 1 1, 3) := by decide +kernel
theorem d_H_firstUnsafe_27 : decode c_H_firstUnsafe 27 = .ok (.goto (-25), 3) := by decide +kernel
theorem d_H_firstUnsafe_30 : decode c_H_firstUnsafe 30 = .ok (.iconst (-1), 1) := by decide +kernel
theorem d_H_firstUnsafe_31 : decode c_H_firstUnsafe 31 = .ok (.ireturn, 1) := by decide +kernel
theorem d_H_findLayers_0 : decode c_H_findLayers 0 = .ok (.aload_n 0, 1) := by decide +kernel
theorem d_H_findLayers_1 : decode c_H_findLayers 1 = .ok (.getfield 24, 3) := by decide +kernel
theorem d_H_findLayers_4 : decode c_H_findLayers 4 = .ok (.iconst 0, 1) := by decide +kernel
theorem d_H_findLayers_5 : decode c_H_findLayers 5 = .ok (.invokestatic 45, 3) := by decide +kernel
theorem d_H_findLayers_8 : decode c_H_findLayers 8 = .ok (.iconst 0, 1) := by decide +kernel
theorem d_H_findLayers_9 : decode c_H_findLayers 9 = .ok (.istore_n 1, 1) := by decide +kernel
theorem d_H_findLayers_10 : decode c_H_findLayers 10 = .ok (.iload_n 1, 1) := by decide +kernel
theorem d_H_findLayers_11 : decode c_H_findLayers 11 = .ok (.bipush 8, 2) := by decide +kernel
theorem d_H_findLayers_13 : decode c_H_findLayers 13 = .ok (.if_icmp .ge 18, 3) := by decide +kernel
theorem d_H_findLayers_16 : decode c_H_findLayers 16 = .ok (.aload_n 0, 1) := by decide +kernel
theorem d_H_findLayers_17 : decode c_H_findLayers 17 = .ok (.invokevirtual 198, 3) := by decide +kernel
theorem d_H_findLayers_20 : decode c_H_findLayers 20 = .ok (.ifCond .ne 5, 3) := by decide +kernel
theorem d_H_findLayers_23 : decode c_H_findLayers 23 = .ok (.iconst 1, 1) := by decide +kernel
theorem d_H_findLayers_24 : decode c_H_findLayers 24 = .ok (.ireturn, 1) := by decide +kernel
theorem d_H_findLayers_25 : decode c_H_findLayers 25 = .ok (.iinc 1 1, 3) := by decide +kernel
theorem d_H_findLayers_28 : decode c_H_findLayers 28 = .ok (.goto (-18), 3) := by decide +kernel
theorem d_H_findLayers_31 : decode c_H_findLayers 31 = .ok (.iconst 0, 1) := by decide +kernel
theorem d_H_findLayers_32 : decode c_H_findLayers 32 = .ok (.ireturn, 1) := by decide +kernel
theorem d_H_raiseLayers_0 : decode c_H_raiseLayers 0 = .ok (.iconst 0, 1) := by decide +kernel
theorem d_H_raiseLayers_1 : decode c_H_raiseLayers 1 = .ok (.istore_n 1, 1) := by decide +kernel
theorem d_H_raiseLayers_2 : decode c_H_raiseLayers 2 = .ok (.iconst 0, 1) := by decide +kernel
theorem d_H_raiseLayers_3 : decode c_H_raiseLayers 3 = .ok (.istore_n 2, 1) := by decide +kernel
theorem d_H_raiseLayers_4 : decode c_H_raiseLayers 4 = .ok (.iload_n 2, 1) := by decide +kernel
theorem d_H_raiseLayers_5 : decode c_H_raiseLayers 5 = .ok (.aload_n 0, 1) := by decide +kernel
theorem d_H_raiseLayers_6 : decode c_H_raiseLayers 6 = .ok (.getfield 54, 3) := by decide +kernel
theorem d_H_raiseLayers_9 : decode c_H_raiseLayers 9 = .ok (.if_icmp .ge 58, 3) := by decide +kernel
theorem d_H_raiseLayers_12 : decode c_H_raiseLayers 12 = .ok (.aload_n 0, 1) := by decide +kernel
theorem d_H_raiseLayers_13 : decode c_H_raiseLayers 13 = .ok (.getfield 20, 3) := by decide +kernel
theorem d_H_raiseLayers_16 : decode c_H_raiseLayers 16 = .ok (.iload_n 2, 1) := by decide +kernel
theorem d_H_raiseLayers_17 : decode c_H_raiseLayers 17 = .ok (.aaload, 1) := by decide +kernel
theorem d_H_raiseLayers_18 : decode c_H_raiseLayers 18 = .ok (.getfield 201, 3) := by decide +kernel
theorem d_H_raiseLayers_21 : decode c_H_raiseLayers 21 = .ok (.getfield 205, 3) := by decide +kernel
theorem d_H_raiseLayers_24 : decode c_H_raiseLayers 24 = .ok (.istore_n 3, 1) := by decide +kernel
theorem d_H_raiseLayers_25 : decode c_H_raiseLayers 25 = .ok (.aload_n 0, 1) := by decide +kernel
theorem d_H_raiseLayers_26 : decode c_H_raiseLayers 26 = .ok (.getfield 20, 3) := by decide +kernel
theorem d_H_raiseLayers_29 : decode c_H_raiseLayers 29 = .ok (.iload_n 2, 1) := by decide +kernel
theorem d_H_raiseLayers_30 : decode c_H_raiseLayers 30 = .ok (.aaload, 1) := by decide +kernel
theorem d_H_raiseLayers_31 : decode c_H_raiseLayers 31 = .ok (.aload_n 0, 1) := by decide +kernel
theorem d_H_raiseLayers_32 : decode c_H_raiseLayers 32 = .ok (.getfield 24, 3) := by decide +kernel
theorem d_H_raiseLayers_35 : decode c_H_raiseLayers 35 = .ok (.invokevirtual 210, 3) := by decide +kernel
theorem d_H_raiseLayers_38 : decode c_H_raiseLayers 38 = .ok (.istore 4, 2) := by decide +kernel
theorem d_H_raiseLayers_40 : decode c_H_raiseLayers 40 = .ok (.aload_n 0, 1) := by decide +kernel
theorem d_H_raiseLayers_41 : decode c_H_raiseLayers 41 = .ok (.getfield 24, 3) := by decide +kernel
theorem d_H_raiseLayers_44 : decode c_H_raiseLayers 44 = .ok (.iload_n 3, 1) := by decide +kernel
theorem d_H_raiseLayers_45 : decode c_H_raiseLayers 45 = .ok (.iaload, 1) := by decide +kernel
theorem d_H_raiseLayers_46 : decode c_H_raiseLayers 46 = .ok (.iload 4, 2) := by decide +kernel
theorem d_H_raiseLayers_48 : decode c_H_raiseLayers 48 = .ok (.if_icmp .ge 13, 3) := by decide +kernel
theorem d_H_raiseLayers_51 : decode c_H_raiseLayers 51 = .ok (.aload_n 0, 1) := by decide +kernel
theorem d_H_raiseLayers_52 : decode c_H_raiseLayers 52 = .ok (.getfield 24, 3) := by decide +kernel
theorem d_H_raiseLayers_55 : decode c_H_raiseLayers 55 = .ok (.iload_n 3, 1) := by decide +kernel
theorem d_H_raiseLayers_56 : decode c_H_raiseLayers 56 = .ok (.iload 4, 2) := by decide +kernel
theorem d_H_raiseLayers_58 : decode c_H_raiseLayers 58 = .ok (.iastore, 1) := by decide +kernel
theorem d_H_raiseLayers_59 : decode c_H_raiseLayers 59 = .ok (.iconst 1, 1) := by decide +kernel
theorem d_H_raiseLayers_60 : decode c_H_raiseLayers 60 = .ok (.istore_n 1, 1) := by decide +kernel
theorem d_H_raiseLayers_61 : decode c_H_raiseLayers 61 = .ok (.iinc 2 1, 3) := by decide +kernel
theorem d_H_raiseLayers_64 : decode c_H_raiseLayers 64 = .ok (.goto (-60), 3) := by decide +kernel
theorem d_H_raiseLayers_67 : decode c_H_raiseLayers 67 = .ok (.iload_n 1, 1) := by decide +kernel
theorem d_H_raiseLayers_68 : decode c_H_raiseLayers 68 = .ok (.ireturn, 1) := by decide +kernel
theorem d_H_topLayer_0 : decode c_H_topLayer 0 = .ok (.iconst 0, 1) := by decide +kernel
theorem d_H_topLayer_1 : decode c_H_topLayer 1 = .ok (.istore_n 1, 1) := by decide +kernel
theorem d_H_topLayer_2 : decode c_H_topLayer 2 = .ok (.iconst 0, 1) := by decide +kernel
theorem d_H_topLayer_3 : decode c_H_topLayer 3 = .ok (.istore_n 2, 1) := by decide +kernel
theorem d_H_topLayer_4 : decode c_H_topLayer 4 = .ok (.iload_n 2, 1) := by decide +kernel
theorem d_H_topLayer_5 : decode c_H_topLayer 5 = .ok (.aload_n 0, 1) := by decide +kernel
theorem d_H_topLayer_6 : decode c_H_topLayer 6 = .ok (.getfield 51, 3) := by decide +kernel
theorem d_H_topLayer_9 : decode c_H_topLayer 9 = .ok (.if_icmp .ge 20, 3) := by decide +kernel
theorem d_H_topLayer_12 : decode c_H_topLayer 12 = .ok (.iload_n 1, 1) := by decide +kernel
theorem d_H_topLayer_13 : decode c_H_topLayer 13 = .ok (.aload_n 0, 1) := by decide +kernel
theorem d_H_topLayer_14 : decode c_H_topLayer 14 = .ok (.getfield 24, 3) := by decide +kernel
theorem d_H_topLayer_17 : decode c_H_topLayer 17 = .ok (.iload_n 2, 1) := by decide +kernel
theorem d_H_topLayer_18 : decode c_H_topLayer 18 = .ok (.iaload, 1) := by decide +kernel
theorem d_H_topLayer_19 : decode c_H_topLayer 19 = .ok (.invokestatic 214, 3) := by decide +kernel
theorem d_H_topLayer_22 : decode c_H_topLayer 22 = .ok (.istore_n 1, 1) := by decide +kernel
theorem d_H_topLayer_23 : decode c_H_topLayer 23 = .ok (.iinc 2 1, 3) := by decide +kernel
theorem d_H_topLayer_26 : decode c_H_topLayer 26 = .ok (.goto (-22), 3) := by decide +kernel
theorem d_H_topLayer_29 : decode c_H_topLayer 29 = .ok (.iload_n 1, 1) := by decide +kernel
theorem d_H_topLayer_30 : decode c_H_topLayer 30 = .ok (.ireturn, 1) := by decide +kernel
theorem d_H_settle_0 : decode c_H_settle 0 = .ok (.aload_n 0, 1) := by decide +kernel
theorem d_H_settle_1 : decode c_H_settle 1 = .ok (.getfield 181, 3) := by decide +kernel
theorem d_H_settle_4 : decode c_H_settle 4 = .ok (.ifCond .eq 4, 3) := by decide +kernel
theorem d_H_settle_7 : decode c_H_settle 7 = .ok (.return_, 1) := by decide +kernel
theorem d_H_settle_8 : decode c_H_settle 8 = .ok (.aload_n 0, 1) := by decide +kernel
theorem d_H_settle_9 : decode c_H_settle 9 = .ok (.invokevirtual 219, 3) := by decide +kernel
theorem d_H_settle_12 : decode c_H_settle 12 = .ok (.aload_n 0, 1) := by decide +kernel
theorem d_H_settle_13 : decode c_H_settle 13 = .ok (.invokevirtual 222, 3) := by decide +kernel
theorem d_H_settle_16 : decode c_H_settle 16 = .ok (.istore_n 1, 1) := by decide +kernel
theorem d_H_settle_17 : decode c_H_settle 17 = .ok (.iconst 0, 1) := by decide +kernel
theorem d_H_settle_18 : decode c_H_settle 18 = .ok (.istore_n 2, 1) := by decide +kernel
theorem d_H_settle_19 : decode c_H_settle 19 = .ok (.iload_n 2, 1) := by decide +kernel
theorem d_H_settle_20 : decode c_H_settle 20 = .ok (.iload_n 1, 1) := by decide +kernel
theorem d_H_settle_21 : decode c_H_settle 21 = .ok (.if_icmp .gt 53, 3) := by decide +kernel
theorem d_H_settle_24 : decode c_H_settle 24 = .ok (.aload_n 0, 1) := by decide +kernel
theorem d_H_settle_25 : decode c_H_settle 25 = .ok (.iload_n 2, 1) := by decide +kernel
theorem d_H_settle_26 : decode c_H_settle 26 = .ok (.iconst 1, 1) := by decide +kernel
theorem d_H_settle_27 : decode c_H_settle 27 = .ok (.invokevirtual 129, 3) := by decide +kernel
theorem d_H_settle_30 : decode c_H_settle 30 = .ok (.sipush 255, 3) := by decide +kernel
theorem d_H_settle_33 : decode c_H_settle 33 = .ok (.istore_n 3, 1) := by decide +kernel
theorem d_H_settle_34 : decode c_H_settle 34 = .ok (.iconst 1, 1) := by decide +kernel
theorem d_H_settle_35 : decode c_H_settle 35 = .ok (.istore 4, 2) := by decide +kernel
theorem d_H_settle_37 : decode c_H_settle 37 = .ok (.iload_n 3, 1) := by decide +kernel
theorem d_H_settle_38 : decode c_H_settle 38 = .ok (.ifCond .eq 30, 3) := by decide +kernel
theorem d_H_settle_41 : decode c_H_settle 41 = .ok (.iload 4, 2) := by decide +kernel
theorem d_H_settle_43 : decode c_H_settle 43 = .ok (.sipush 1153, 3) := by decide +kernel
theorem d_H_settle_46 : decode c_H_settle 46 = .ok (.if_icmp .gt 22, 3) := by decide +kernel
theorem d_H_settle_49 : decode c_H_settle 49 = .ok (.aload_n 0, 1) := by decide +kernel
theorem d_H_settle_50 : decode c_H_settle 50 = .ok (.iload_n 2, 1) := by decide +kernel
theorem d_H_settle_51 : decode c_H_settle 51 = .ok (.iload 4, 2) := by decide +kernel
theorem d_H_settle_53 : decode c_H_settle 53 = .ok (.iload_n 3, 1) := by decide +kernel
theorem d_H_settle_54 : decode c_H_settle 54 = .ok (.invokevirtual 225, 3) := by decide +kernel
theorem d_H_settle_57 : decode c_H_settle 57 = .ok (.aload_n 0, 1) := by decide +kernel
theorem d_H_settle_58 : decode c_H_settle 58 = .ok (.invokevirtual 228, 3) := by decide +kernel
theorem d_H_settle_61 : decode c_H_settle 61 = .ok (.istore_n 3, 1) := by decide +kernel
theorem d_H_settle_62 : decode c_H_settle 62 = .ok (.iinc 4 1, 3) := by decide +kernel
theorem d_H_settle_65 : decode c_H_settle 65 = .ok (.goto (-28), 3) := by decide +kernel
theorem d_H_settle_68 : decode c_H_settle 68 = .ok (.iinc 2 1, 3) := by decide +kernel
theorem d_H_settle_71 : decode c_H_settle 71 = .ok (.goto (-52), 3) := by decide +kernel
theorem d_H_settle_74 : decode c_H_settle 74 = .ok (.aload_n 0, 1) := by decide +kernel
theorem d_H_settle_75 : decode c_H_settle 75 = .ok (.iconst 1, 1) := by decide +kernel
theorem d_H_settle_76 : decode c_H_settle 76 = .ok (.putfield 181, 3) := by decide +kernel
theorem d_H_settle_79 : decode c_H_settle 79 = .ok (.return_, 1) := by decide +kernel
theorem d_H_rankGiven_0 : decode c_H_rankGiven 0 = .ok (.iconst 0, 1) := by decide +kernel
theorem d_H_rankGiven_1 : decode c_H_rankGiven 1 = .ok (.istore_n 1, 1) := by decide +kernel
theorem d_H_rankGiven_2 : decode c_H_rankGiven 2 = .ok (.iload_n 1, 1) := by decide +kernel
theorem d_H_rankGiven_3 : decode c_H_rankGiven 3 = .ok (.bipush 96, 2) := by decide +kernel
theorem d_H_rankGiven_5 : decode c_H_rankGiven 5 = .ok (.if_icmp .ge 52, 3) := by decide +kernel
theorem d_H_rankGiven_8 : decode c_H_rankGiven 8 = .ok (.iconst 0, 1) := by decide +kernel
theorem d_H_rankGiven_9 : decode c_H_rankGiven 9 = .ok (.istore_n 2, 1) := by decide +kernel
theorem d_H_rankGiven_10 : decode c_H_rankGiven 10 = .ok (.iload_n 2, 1) := by decide +kernel
theorem d_H_rankGiven_11 : decode c_H_rankGiven 11 = .ok (.bipush 12, 2) := by decide +kernel
theorem d_H_rankGiven_13 : decode c_H_rankGiven 13 = .ok (.if_icmp .ge 38, 3) := by decide +kernel
theorem d_H_rankGiven_16 : decode c_H_rankGiven 16 = .ok (.aload_n 0, 1) := by decide +kernel
theorem d_H_rankGiven_17 : decode c_H_rankGiven 17 = .ok (.getfield 27, 3) := by decide +kernel
theorem d_H_rankGiven_20 : decode c_H_rankGiven 20 = .ok (.iload_n 1, 1) := by decide +kernel
theorem d_H_rankGiven_21 : decode c_H_rankGiven 21 = .ok (.bipush 12, 2) := by decide +kernel
theorem d_H_rankGiven_23 : decode c_H_rankGiven 23 = .ok (.imul, 1) := by decide +kernel
theorem d_H_rankGiven_24 : decode c_H_rankGiven 24 = .ok (.iload_n 2, 1) := by decide +kernel
theorem d_H_rankGiven_25 : decode c_H_rankGiven 25 = .ok (.iadd, 1) := by decide +kernel
theorem d_H_rankGiven_26 : decode c_H_rankGiven 26 = .ok (.aload_n 0, 1) := by decide +kernel
theorem d_H_rankGiven_27 : decode c_H_rankGiven 27 = .ok (.getfield 15, 3) := by decide +kernel
theorem d_H_rankGiven_30 : decode c_H_rankGiven 30 = .ok (.iload_n 1, 1) := by decide +kernel
theorem d_H_rankGiven_31 : decode c_H_rankGiven 31 = .ok (.iaload, 1) := by decide +kernel
theorem d_H_rankGiven_32 : decode c_H_rankGiven 32 = .ok (.iload_n 2, 1) := by decide +kernel
theorem d_H_rankGiven_33 : decode c_H_rankGiven 33 = .ok (.invokestatic 184, 3) := by decide +kernel
theorem d_H_rankGiven_36 : decode c_H_rankGiven 36 = .ok (.ifCond .eq 7, 3) := by decide +kernel
theorem d_H_rankGiven_39 : decode c_H_rankGiven 39 = .ok (.iconst 0, 1) := by decide +kernel
theorem d_H_rankGiven_40 : decode c_H_rankGiven 40 = .ok (.goto 4, 3) := by decide +kernel
theorem d_H_rankGiven_43 : decode c_H_rankGiven 43 = .ok (.iconst (-1), 1) := by decide +kernel
theorem d_H_rankGiven_44 : decode c_H_rankGiven 44 = .ok (.iastore, 1) := by decide +kernel
theorem d_H_rankGiven_45 : decode c_H_rankGiven 45 = .ok (.iinc 2 1, 3) := by decide +kernel
theorem d_H_rankGiven_48 : decode c_H_rankGiven 48 = .ok (.goto (-38), 3) := by decide +kernel
theorem d_H_rankGiven_51 : decode c_H_rankGiven 51 = .ok (.iinc 1 1, 3) := by decide +kernel
theorem d_H_rankGiven_54 : decode c_H_rankGiven 54 = .ok (.goto (-52), 3) := by decide +kernel
theorem d_H_rankGiven_57 : decode c_H_rankGiven 57 = .ok (.return_, 1) := by decide +kernel
theorem d_H_bringRound_0 : decode c_H_bringRound 0 = .ok (.iconst 0, 1) := by decide +kernel
theorem d_H_bringRound_1 : decode c_H_bringRound 1 = .ok (.istore 4, 2) := by decide +kernel
theorem d_H_bringRound_3 : decode c_H_bringRound 3 = .ok (.iload 4, 2) := by decide +kernel
theorem d_H_bringRound_5 : decode c_H_bringRound 5 = .ok (.aload_n 0, 1) := by decide +kernel
theorem d_H_bringRound_6 : decode c_H_bringRound 6 = .ok (.getfield 54, 3) := by decide +kernel
theorem d_H_bringRound_9 : decode c_H_bringRound 9 = .ok (.if_icmp .ge 57, 3) := by decide +kernel
theorem d_H_bringRound_12 : decode c_H_bringRound 12 = .ok (.aload_n 0, 1) := by decide +kernel
theorem d_H_bringRound_13 : decode c_H_bringRound 13 = .ok (.getfield 20, 3) := by decide +kernel
theorem d_H_bringRound_16 : decode c_H_bringRound 16 = .ok (.iload 4, 2) := by decide +kernel
theorem d_H_bringRound_18 : decode c_H_bringRound 18 = .ok (.aaload, 1) := by decide +kernel
theorem d_H_bringRound_19 : decode c_H_bringRound 19 = .ok (.astore 5, 2) := by decide +kernel
theorem d_H_bringRound_21 : decode c_H_bringRound 21 = .ok (.aload_n 0, 1) := by decide +kernel
theorem d_H_bringRound_22 : decode c_H_bringRound 22 = .ok (.getfield 24, 3) := by decide +kernel
theorem d_H_bringRound_25 : decode c_H_bringRound 25 = .ok (.aload 5, 2) := by decide +kernel
theorem d_H_bringRound_27 : decode c_H_bringRound 27 = .ok (.getfield 201, 3) := by decide +kernel
theorem d_H_bringRound_30 : decode c_H_bringRound 30 = .ok (.getfield 205, 3) := by decide +kernel
theorem d_H_bringRound_33 : decode c_H_bringRound 33 = .ok (.iaload, 1) := by decide +kernel
theorem d_H_bringRound_34 : decode c_H_bringRound 34 = .ok (.iload_n 1, 1) := by decide +kernel
theorem d_H_bringRound_35 : decode c_H_bringRound 35 = .ok (.if_icmp .ne 25, 3) := by decide +kernel
theorem d_H_bringRound_38 : decode c_H_bringRound 38 = .ok (.iload_n 2, 1) := by decide +kernel
theorem d_H_bringRound_39 : decode c_H_bringRound 39 = .ok (.iconst 1, 1) := by decide +kernel
theorem d_H_bringRound_40 : decode c_H_bringRound 40 = .ok (.if_icmp .eq 13, 3) := by decide +kernel
theorem d_H_bringRound_43 : decode c_H_bringRound 43 = .ok (.aload 5, 2) := by decide +kernel
theorem d_H_bringRound_45 : decode c_H_bringRound 45 = .ok (.getfield 231, 3) := by decide +kernel
theorem d_H_bringRound_48 : decode c_H_bringRound 48 = .ok (.iload_n 3, 1) := by decide +kernel
theorem d_H_bringRound_49 : decode c_H_bringRound 49 = .ok (.iand, 1) := by decide +kernel
theorem d_H_bringRound_50 : decode c_H_bringRound 50 = .ok (.ifCond .eq 10, 3) := by decide +kernel
theorem d_H_bringRound_53 : decode c_H_bringRound 53 = .ok (.aload_n 0, 1) := by decide +kernel
theorem d_H_bringRound_54 : decode c_H_bringRound 54 = .ok (.aload 5, 2) := by decide +kernel
theorem d_H_bringRound_56 : decode c_H_bringRound 56 = .ok (.iload_n 2, 1) := by decide +kernel
theorem d_H_bringRound_57 : decode c_H_bringRound 57 = .ok (.invokevirtual 234, 3) := by decide +kernel
theorem d_H_bringRound_60 : decode c_H_bringRound 60 = .ok (.iinc 4 1, 3) := by decide +kernel
theorem d_H_bringRound_63 : decode c_H_bringRound 63 = .ok (.goto (-60), 3) := by decide +kernel
theorem d_H_bringRound_66 : decode c_H_bringRound 66 = .ok (.return_, 1) := by decide +kernel
theorem d_H_bringByRule_0 : decode c_H_bringByRule 0 = .ok (.aload_n 1, 1) := by decide +kernel
theorem d_H_bringByRule_1 : decode c_H_bringByRule 1 = .ok (.getfield 201, 3) := by decide +kernel
theorem d_H_bringByRule_4 : decode c_H_bringByRule 4 = .ok (.astore_n 3, 1) := by decide +kernel
theorem d_H_bringByRule_5 : decode c_H_bringByRule 5 = .ok (.aload_n 0, 1) := by decide +kernel
theorem d_H_bringByRule_6 : decode c_H_bringByRule 6 = .ok (.getfield 36, 3) := by decide +kernel
theorem d_H_bringByRule_9 : decode c_H_bringByRule 9 = .ok (.invokevirtual 238, 3) := by decide +kernel
theorem d_H_bringByRule_12 : decode c_H_bringByRule 12 = .ok (.aload_n 0, 1) := by decide +kernel
theorem d_H_bringByRule_13 : decode c_H_bringByRule 13 = .ok (.getfield 36, 3) := by decide +kernel
theorem d_H_bringByRule_16 : decode c_H_bringByRule 16 = .ok (.aload_n 1, 1) := by decide +kernel
theorem d_H_bringByRule_17 : decode c_H_bringByRule 17 = .ok (.aload_n 3, 1) := by decide +kernel
theorem d_H_bringByRule_18 : decode c_H_bringByRule 18 = .ok (.getfield 241, 3) := by decide +kernel
theorem d_H_bringByRule_21 : decode c_H_bringByRule 21 = .ok (.invokevirtual 244, 3) := by decide +kernel
theorem d_H_bringByRule_24 : decode c_H_bringByRule 24 = .ok (.istore 4, 2) := by decide +kernel
theorem d_H_bringByRule_26 : decode c_H_bringByRule 26 = .ok (.iconst 0, 1) := by decide +kernel
theorem d_H_bringByRule_27 : decode c_H_bringByRule 27 = .ok (.istore 5, 2) := by decide +kernel
theorem d_H_bringByRule_29 : decode c_H_bringByRule 29 = .ok (.iload 5, 2) := by decide +kernel
theorem d_H_bringByRule_31 : decode c_H_bringByRule 31 = .ok (.bipush 12, 2) := by decide +kernel
theorem d_H_bringByRule_33 : decode c_H_bringByRule 33 = .ok (.if_icmp .ge 187, 3) := by decide +kernel
theorem d_H_bringByRule_36 : decode c_H_bringByRule 36 = .ok (.iload 4, 2) := by decide +kernel
theorem d_H_bringByRule_38 : decode c_H_bringByRule 38 = .ok (.iload 5, 2) := by decide +kernel
theorem d_H_bringByRule_40 : decode c_H_bringByRule 40 = .ok (.invokestatic 184, 3) := by decide +kernel
theorem d_H_bringByRule_43 : decode c_H_bringByRule 43 = .ok (.ifCond .ne 6, 3) := by decide +kernel
theorem d_H_bringByRule_46 : decode c_H_bringByRule 46 = .ok (.goto 168, 3) := by decide +kernel
theorem d_H_bringByRule_49 : decode c_H_bringByRule 49 = .ok (.aload_n 3, 1) := by decide +kernel
theorem d_H_bringByRule_50 : decode c_H_bringByRule 50 = .ok (.getfield 205, 3) := by decide +kernel
theorem d_H_bringByRule_53 : decode c_H_bringByRule 53 = .ok (.iload 5, 2) := by decide +kernel
theorem d_H_bringByRule_55 : decode c_H_bringByRule 55 = .ok (.invokestatic 174, 3) := by decide +kernel
theorem d_H_bringByRule_58 : decode c_H_bringByRule 58 = .ok (.istore 6, 2) := by decide +kernel
theorem d_H_bringByRule_60 : decode c_H_bringByRule 60 = .ok (.aload_n 0, 1) := by decide +kernel
theorem d_H_bringByRule_61 : decode c_H_bringByRule 61 = .ok (.getfield 36, 3) := by decide +kernel
theorem d_H_bringByRule_64 : decode c_H_bringByRule 64 = .ok (.getfield 247, 3) := by decide +kernel
theorem d_H_bringByRule_67 : decode c_H_bringByRule 67 = .ok (.getfield 251, 3) := by decide +kernel
theorem d_H_bringByRule_70 : decode c_H_bringByRule 70 = .ok (.iload 6, 2) := by decide +kernel
theorem d_H_bringByRule_72 : decode c_H_bringByRule 72 = .ok (.iaload, 1) := by decide +kernel
theorem d_H_bringByRule_73 : decode c_H_bringByRule 73 = .ok (.aload_n 0, 1) := by decide +kernel
theorem d_H_bringByRule_74 : decode c_H_bringByRule 74 = .ok (.getfield 30, 3) := by decide +kernel
theorem d_H_bringByRule_77 : decode c_H_bringByRule 77 = .ok (.iload 6, 2) := by decide +kernel
theorem d_H_bringByRule_79 : decode c_H_bringByRule 79 = .ok (.iaload, 1) := by decide +kernel
theorem d_H_bringByRule_80 : decode c_H_bringByRule 80 = .ok (.ior, 1) := by decide +kernel
theorem d_H_bringByRule_81 : decode c_H_bringByRule 81 = .ok (.istore 7, 2) := by decide +kernel
theorem d_H_bringByRule_83 : decode c_H_bringByRule 83 = .ok (.aload_n 0, 1) := by decide +kernel
theorem d_H_bringByRule_84 : decode c_H_bringByRule 84 = .ok (.getfield 36, 3) := by decide +kernel
theorem d_H_bringByRule_87 : decode c_H_bringByRule 87 = .ok (.invokevirtual 238, 3) := by decide +kernel
theorem d_H_bringByRule_90 : decode c_H_bringByRule 90 = .ok (.aload_n 0, 1) := by decide +kernel
theorem d_H_bringByRule_91 : decode c_H_bringByRule 91 = .ok (.getfield 36, 3) := by decide +kernel
theorem d_H_bringByRule_94 : decode c_H_bringByRule 94 = .ok (.aload_n 3, 1) := by decide +kernel
theorem d_H_bringByRule_95 : decode c_H_bringByRule 95 = .ok (.getfield 241, 3) := by decide +kernel
theorem d_H_bringByRule_98 : decode c_H_bringByRule 98 = .ok (.iload 5, 2) := by decide +kernel
theorem d_H_bringByRule_100 : decode c_H_bringByRule 100 = .ok (.invokevirtual 256, 3) := by decide +kernel
theorem d_H_bringByRule_103 : decode c_H_bringByRule 103 = .ok (.pop, 1) := by decide +kernel
theorem d_H_bringByRule_104 : decode c_H_bringByRule 104 = .ok (.aload_n 0, 1) := by decide +kernel
theorem d_H_bringByRule_105 : decode c_H_bringByRule 105 = .ok (.getfield 36, 3) := by decide +kernel
theorem d_H_bringByRule_108 : decode c_H_bringByRule 108 = .ok (.aload_n 1, 1) := by decide +kernel
theorem d_H_bringByRule_109 : decode c_H_bringByRule 109 = .ok (.aload_n 3, 1) := by decide +kernel
theorem d_H_bringByRule_110 : decode c_H_bringByRule 110 = .ok (.getfield 259, 3) := by decide +kernel
theorem d_H_bringByRule_113 : decode c_H_bringByRule 113 = .ok (.invokevirtual 244, 3) := by decide +kernel
theorem d_H_bringByRule_116 : decode c_H_bringByRule 116 = .ok (.iload 7, 2) := by decide +kernel
theorem d_H_bringByRule_118 : decode c_H_bringByRule 118 = .ok (.iconst (-1), 1) := by decide +kernel
theorem d_H_bringByRule_119 : decode c_H_bringByRule 119 = .ok (.ixor, 1) := by decide +kernel
theorem d_H_bringByRule_120 : decode c_H_bringByRule 120 = .ok (.iand, 1) := by decide +kernel
theorem d_H_bringByRule_121 : decode c_H_bringByRule 121 = .ok (.istore 8, 2) := by decide +kernel
theorem d_H_bringByRule_123 : decode c_H_bringByRule 123 = .ok (.iconst 0, 1) := by decide +kernel
theorem d_H_bringByRule_124 : decode c_H_bringByRule 124 = .ok (.istore 9, 2) := by decide +kernel
theorem d_H_bringByRule_126 : decode c_H_bringByRule 126 = .ok (.iload 8, 2) := by decide +kernel
theorem d_H_bringByRule_128 : decode c_H_bringByRule 128 = .ok (.ifCond .eq 86, 3) := by decide +kernel
theorem d_H_bringByRule_131 : decode c_H_bringByRule 131 = .ok (.iload 9, 2) := by decide +kernel
theorem d_H_bringByRule_133 : decode c_H_bringByRule 133 = .ok (.bipush 12, 2) := by decide +kernel
theorem d_H_bringByRule_135 : decode c_H_bringByRule 135 = .ok (.if_icmp .ge 79, 3) := by decide +kernel
theorem d_H_bringByRule_138 : decode c_H_bringByRule 138 = .ok (.iload 8, 2) := by decide +kernel
theorem d_H_bringByRule_140 : decode c_H_bringByRule 140 = .ok (.iload 9, 2) := by decide +kernel
theorem d_H_bringByRule_142 : decode c_H_bringByRule 142 = .ok (.invokestatic 184, 3) := by decide +kernel
theorem d_H_bringByRule_145 : decode c_H_bringByRule 145 = .ok (.ifCond .eq 63, 3) := by decide +kernel
theorem d_H_bringByRule_148 : decode c_H_bringByRule 148 = .ok (.aload_n 0, 1) := by decide +kernel
theorem d_H_bringByRule_149 : decode c_H_bringByRule 149 = .ok (.getfield 36, 3) := by decide +kernel
theorem d_H_bringByRule_152 : decode c_H_bringByRule 152 = .ok (.aload_n 1, 1) := by decide +kernel
theorem d_H_bringByRule_153 : decode c_H_bringByRule 153 = .ok (.aload_n 3, 1) := by decide +kernel
theorem d_H_bringByRule_154 : decode c_H_bringByRule 154 = .ok (.getfield 205, 3) := by decide +kernel
theorem d_H_bringByRule_157 : decode c_H_bringByRule 157 = .ok (.iload 5, 2) := by decide +kernel
theorem d_H_bringByRule_159 : decode c_H_bringByRule 159 = .ok (.iload 9, 2) := by decide +kernel
theorem d_H_bringByRule_161 : decode c_H_bringByRule 161 = .ok (.invokevirtual 133, 3) := by decide +kernel
theorem d_H_bringByRule_164 : decode c_H_bringByRule 164 = .ok (.ifCond .eq 44, 3) := by decide +kernel
theorem d_H_bringByRule_167 : decode c_H_bringByRule 167 = .ok (.aload_n 0, 1) := by decide +kernel
theorem d_H_bringByRule_168 : decode c_H_bringByRule 168 = .ok (.getfield 36, 3) := by decide +kernel
theorem d_H_bringByRule_171 : decode c_H_bringByRule 171 = .ok (.aload_n 1, 1) := by decide +kernel
theorem d_H_bringByRule_172 : decode c_H_bringByRule 172 = .ok (.bipush 20, 2) := by decide +kernel
theorem d_H_bringByRule_174 : decode c_H_bringByRule 174 = .ok (.invokevirtual 262, 3) := by decide +kernel
theorem d_H_bringByRule_177 : decode c_H_bringByRule 177 = .ok (.ifCond .eq 31, 3) := by decide +kernel
theorem d_H_bringByRule_180 : decode c_H_bringByRule 180 = .ok (.aload_n 0, 1) := by decide +kernel
theorem d_H_bringByRule_181 : decode c_H_bringByRule 181 = .ok (.getfield 27, 3) := by decide +kernel
theorem d_H_bringByRule_184 : decode c_H_bringByRule 184 = .ok (.iload 6, 2) := by decide +kernel
theorem d_H_bringByRule_186 : decode c_H_bringByRule 186 = .ok (.bipush 12, 2) := by decide +kernel
theorem d_H_bringByRule_188 : decode c_H_bringByRule 188 = .ok (.imul, 1) := by decide +kernel
theorem d_H_bringByRule_189 : decode c_H_bringByRule 189 = .ok (.iload 9, 2) := by decide +kernel
theorem d_H_bringByRule_191 : decode c_H_bringByRule 191 = .ok (.iadd, 1) := by decide +kernel
theorem d_H_bringByRule_192 : decode c_H_bringByRule 192 = .ok (.iload_n 2, 1) := by decide +kernel
theorem d_H_bringByRule_193 : decode c_H_bringByRule 193 = .ok (.iastore, 1) := by decide +kernel
theorem d_H_bringByRule_194 : decode c_H_bringByRule 194 = .ok (.aload_n 0, 1) := by decide +kernel
theorem d_H_bringByRule_195 : decode c_H_bringByRule 195 = .ok (.getfield 30, 3) := by decide +kernel
theorem d_H_bringByRule_198 : decode c_H_bringByRule 198 = .ok (.iload 6, 2) := by decide +kernel
theorem d_H_bringByRule_200 : decode c_H_bringByRule 200 = .ok (.dup2, 1) := by decide +kernel
theorem d_H_bringByRule_201 : decode c_H_bringByRule 201 = .ok (.iaload, 1) := by decide +kernel
theorem d_H_bringByRule_202 : decode c_H_bringByRule 202 = .ok (.iconst 1, 1) := by decide +kernel
theorem d_H_bringByRule_203 : decode c_H_bringByRule 203 = .ok (.iload 9, 2) := by decide +kernel
theorem d_H_bringByRule_205 : decode c_H_bringByRule 205 = .ok (.ishl, 1) := by decide +kernel
theorem d_H_bringByRule_206 : decode c_H_bringByRule 206 = .ok (.ior, 1) := by decide +kernel
theorem d_H_bringByRule_207 : decode c_H_bringByRule 207 = .ok (.iastore, 1) := by decide +kernel
theorem d_H_bringByRule_208 : decode c_H_bringByRule 208 = .ok (.iinc 9 1, 3) := by decide +kernel
theorem d_H_bringByRule_211 : decode c_H_bringByRule 211 = .ok (.goto (-85), 3) := by decide +kernel
theorem d_H_bringByRule_214 : decode c_H_bringByRule 214 = .ok (.iinc 5 1, 3) := by decide +kernel
theorem d_H_bringByRule_217 : decode c_H_bringByRule 217 = .ok (.goto (-188), 3) := by decide +kernel
theorem d_H_bringByRule_220 : decode c_H_bringByRule 220 = .ok (.return_, 1) := by decide +kernel
theorem d_H_showFresh_0 : decode c_H_showFresh 0 = .ok (.iconst 0, 1) := by decide +kernel
theorem d_H_showFresh_1 : decode c_H_showFresh 1 = .ok (.istore_n 1, 1) := by decide +kernel
theorem d_H_showFresh_2 : decode c_H_showFresh 2 = .ok (.iconst 0, 1) := by decide +kernel
theorem d_H_showFresh_3 : decode c_H_showFresh 3 = .ok (.istore_n 2, 1) := by decide +kernel
theorem d_H_showFresh_4 : decode c_H_showFresh 4 = .ok (.iload_n 2, 1) := by decide +kernel
theorem d_H_showFresh_5 : decode c_H_showFresh 5 = .ok (.bipush 96, 2) := by decide +kernel
theorem d_H_showFresh_7 : decode c_H_showFresh 7 = .ok (.if_icmp .ge 80, 3) := by decide +kernel
theorem d_H_showFresh_10 : decode c_H_showFresh 10 = .ok (.iconst 0, 1) := by decide +kernel
theorem d_H_showFresh_11 : decode c_H_showFresh 11 = .ok (.istore_n 3, 1) := by decide +kernel
theorem d_H_showFresh_12 : decode c_H_showFresh 12 = .ok (.aload_n 0, 1) := by decide +kernel
theorem d_H_showFresh_13 : decode c_H_showFresh 13 = .ok (.getfield 30, 3) := by decide +kernel
theorem d_H_showFresh_16 : decode c_H_showFresh 16 = .ok (.iload_n 2, 1) := by decide +kernel
theorem d_H_showFresh_17 : decode c_H_showFresh 17 = .ok (.iaload, 1) := by decide +kernel
theorem d_H_showFresh_18 : decode c_H_showFresh 18 = .ok (.ifCond .eq 56, 3) := by decide +kernel
theorem d_H_showFresh_21 : decode c_H_showFresh 21 = .ok (.iload_n 3, 1) := by decide +kernel
theorem d_H_showFresh_22 : decode c_H_showFresh 22 = .ok (.bipush 12, 2) := by decide +kernel
theorem d_H_showFresh_24 : decode c_H_showFresh 24 = .ok (.if_icmp .ge 50, 3) := by decide +kernel
theorem d_H_showFresh_27 : decode c_H_showFresh 27 = .ok (.aload_n 0, 1) := by decide +kernel
theorem d_H_showFresh_28 : decode c_H_showFresh 28 = .ok (.getfield 30, 3) := by decide +kernel
theorem d_H_showFresh_31 : decode c_H_showFresh 31 = .ok (.iload_n 2, 1) := by decide +kernel
theorem d_H_showFresh_32 : decode c_H_showFresh 32 = .ok (.iaload, 1) := by decide +kernel
theorem d_H_showFresh_33 : decode c_H_showFresh 33 = .ok (.iload_n 3, 1) := by decide +kernel
theorem d_H_showFresh_34 : decode c_H_showFresh 34 = .ok (.invokestatic 184, 3) := by decide +kernel
theorem d_H_showFresh_37 : decode c_H_showFresh 37 = .ok (.ifCond .eq 31, 3) := by decide +kernel
theorem d_H_showFresh_40 : decode c_H_showFresh 40 = .ok (.aload_n 0, 1) := by decide +kernel
theorem d_H_showFresh_41 : decode c_H_showFresh 41 = .ok (.getfield 36, 3) := by decide +kernel
theorem d_H_showFresh_44 : decode c_H_showFresh 44 = .ok (.getfield 247, 3) := by decide +kernel
theorem d_H_showFresh_47 : decode c_H_showFresh 47 = .ok (.iload_n 2, 1) := by decide +kernel
theorem d_H_showFresh_48 : decode c_H_showFresh 48 = .ok (.bipush 12, 2) := by decide +kernel
theorem d_H_showFresh_50 : decode c_H_showFresh 50 = .ok (.idiv, 1) := by decide +kernel
theorem d_H_showFresh_51 : decode c_H_showFresh 51 = .ok (.iload_n 2, 1) := by decide +kernel
theorem d_H_showFresh_52 : decode c_H_showFresh 52 = .ok (.bipush 12, 2) := by decide +kernel
theorem d_H_showFresh_54 : decode c_H_showFresh 54 = .ok (.irem, 1) := by decide +kernel
theorem d_H_showFresh_55 : decode c_H_showFresh 55 = .ok (.iload_n 3, 1) := by decide +kernel
theorem d_H_showFresh_56 : decode c_H_showFresh 56 = .ok (.invokevirtual 266, 3) := by decide +kernel
theorem d_H_showFresh_59 : decode c_H_showFresh 59 = .ok (.iload_n 1, 1) := by decide +kernel
theorem d_H_showFresh_60 : decode c_H_showFresh 60 = .ok (.iconst 1, 1) := by decide +kernel
theorem d_H_showFresh_61 : decode c_H_showFresh 61 = .ok (.iload_n 2, 1) := by decide +kernel
theorem d_H_showFresh_62 : decode c_H_showFresh 62 = .ok (.bipush 12, 2) := by decide +kernel
theorem d_H_showFresh_64 : decode c_H_showFresh 64 = .ok (.idiv, 1) := by decide +kernel
theorem d_H_showFresh_65 : decode c_H_showFresh 65 = .ok (.ishl, 1) := by decide +kernel
theorem d_H_showFresh_66 : decode c_H_showFresh 66 = .ok (.ior, 1) := by decide +kernel
theorem d_H_showFresh_67 : decode c_H_showFresh 67 = .ok (.istore_n 1, 1) := by decide +kernel
theorem d_H_showFresh_68 : decode c_H_showFresh 68 = .ok (.iinc 3 1, 3) := by decide +kernel
theorem d_H_showFresh_71 : decode c_H_showFresh 71 = .ok (.goto (-59), 3) := by decide +kernel
theorem d_H_showFresh_74 : decode c_H_showFresh 74 = .ok (.aload_n 0, 1) := by decide +kernel
theorem d_H_showFresh_75 : decode c_H_showFresh 75 = .ok (.getfield 30, 3) := by decide +kernel
theorem d_H_showFresh_78 : decode c_H_showFresh 78 = .ok (.iload_n 2, 1) := by decide +kernel
theorem d_H_showFresh_79 : decode c_H_showFresh 79 = .ok (.iconst 0, 1) := by decide +kernel
theorem d_H_showFresh_80 : decode c_H_showFresh 80 = .ok (.iastore, 1) := by decide +kernel
theorem d_H_showFresh_81 : decode c_H_showFresh 81 = .ok (.iinc 2 1, 3) := by decide +kernel
theorem d_H_showFresh_84 : decode c_H_showFresh 84 = .ok (.goto (-80), 3) := by decide +kernel
theorem d_H_showFresh_87 : decode c_H_showFresh 87 = .ok (.iload_n 1, 1) := by decide +kernel
theorem d_H_showFresh_88 : decode c_H_showFresh 88 = .ok (.ireturn, 1) := by decide +kernel
theorem d_H_look_0 : decode c_H_look 0 = .ok (.aload_n 0, 1) := by decide +kernel
theorem d_H_look_1 : decode c_H_look 1 = .ok (.getfield 36, 3) := by decide +kernel
theorem d_H_look_4 : decode c_H_look 4 = .ok (.getfield 247, 3) := by decide +kernel
theorem d_H_look_7 : decode c_H_look 7 = .ok (.invokevirtual 269, 3) := by decide +kernel
theorem d_H_look_10 : decode c_H_look 10 = .ok (.iconst 0, 1) := by decide +kernel
theorem d_H_look_11 : decode c_H_look 11 = .ok (.istore_n 3, 1) := by decide +kernel
theorem d_H_look_12 : decode c_H_look 12 = .ok (.iload_n 3, 1) := by decide +kernel
theorem d_H_look_13 : decode c_H_look 13 = .ok (.aload_n 0, 1) := by decide +kernel
theorem d_H_look_14 : decode c_H_look 14 = .ok (.getfield 51, 3) := by decide +kernel
theorem d_H_look_17 : decode c_H_look 17 = .ok (.if_icmp .ge 40, 3) := by decide +kernel
theorem d_H_look_20 : decode c_H_look 20 = .ok (.aload_n 0, 1) := by decide +kernel
theorem d_H_look_21 : decode c_H_look 21 = .ok (.getfield 24, 3) := by decide +kernel
theorem d_H_look_24 : decode c_H_look 24 = .ok (.iload_n 3, 1) := by decide +kernel
theorem d_H_look_25 : decode c_H_look 25 = .ok (.iaload, 1) := by decide +kernel
theorem d_H_look_26 : decode c_H_look 26 = .ok (.iload_n 1, 1) := by decide +kernel
theorem d_H_look_27 : decode c_H_look 27 = .ok (.if_icmp .gt 24, 3) := by decide +kernel
theorem d_H_look_30 : decode c_H_look 30 = .ok (.aload_n 0, 1) := by decide +kernel
theorem d_H_look_31 : decode c_H_look 31 = .ok (.iload_n 3, 1) := by decide +kernel
theorem d_H_look_32 : decode c_H_look 32 = .ok (.aload_n 0, 1) := by decide +kernel
theorem d_H_look_33 : decode c_H_look 33 = .ok (.getfield 24, 3) := by decide +kernel
theorem d_H_look_36 : decode c_H_look 36 = .ok (.iload_n 3, 1) := by decide +kernel
theorem d_H_look_37 : decode c_H_look 37 = .ok (.iaload, 1) := by decide +kernel
theorem d_H_look_38 : decode c_H_look 38 = .ok (.iload_n 1, 1) := by decide +kernel
theorem d_H_look_39 : decode c_H_look 39 = .ok (.if_icmp .ge 8, 3) := by decide +kernel
theorem d_H_look_42 : decode c_H_look 42 = .ok (.ldc 128, 2) := by decide +kernel
theorem d_H_look_44 : decode c_H_look 44 = .ok (.goto 4, 3) := by decide +kernel
theorem d_H_look_47 : decode c_H_look 47 = .ok (.iload_n 2, 1) := by decide +kernel
theorem d_H_look_48 : decode c_H_look 48 = .ok (.invokevirtual 270, 3) := by decide +kernel
theorem d_H_look_51 : decode c_H_look 51 = .ok (.iinc 3 1, 3) := by decide +kernel
theorem d_H_look_54 : decode c_H_look 54 = .ok (.goto (-42), 3) := by decide +kernel
theorem d_H_look_57 : decode c_H_look 57 = .ok (.return_, 1) := by decide +kernel
theorem d_H_lookAt_0 : decode c_H_lookAt 0 = .ok (.iconst 0, 1) := by decide +kernel
theorem d_H_lookAt_1 : decode c_H_lookAt 1 = .ok (.istore_n 3, 1) := by decide +kernel
theorem d_H_lookAt_2 : decode c_H_lookAt 2 = .ok (.iload_n 3, 1) := by decide +kernel
theorem d_H_lookAt_3 : decode c_H_lookAt 3 = .ok (.bipush 12, 2) := by decide +kernel
theorem d_H_lookAt_5 : decode c_H_lookAt 5 = .ok (.if_icmp .ge 65, 3) := by decide +kernel
theorem d_H_lookAt_8 : decode c_H_lookAt 8 = .ok (.iconst 0, 1) := by decide +kernel
theorem d_H_lookAt_9 : decode c_H_lookAt 9 = .ok (.istore 4, 2) := by decide +kernel
theorem d_H_lookAt_11 : decode c_H_lookAt 11 = .ok (.iload 4, 2) := by decide +kernel
theorem d_H_lookAt_13 : decode c_H_lookAt 13 = .ok (.bipush 12, 2) := by decide +kernel
theorem d_H_lookAt_15 : decode c_H_lookAt 15 = .ok (.if_icmp .ge 49, 3) := by decide +kernel
theorem d_H_lookAt_18 : decode c_H_lookAt 18 = .ok (.aload_n 0, 1) := by decide +kernel
theorem d_H_lookAt_19 : decode c_H_lookAt 19 = .ok (.getfield 27, 3) := by decide +kernel
theorem d_H_lookAt_22 : decode c_H_lookAt 22 = .ok (.iload_n 1, 1) := by decide +kernel
theorem d_H_lookAt_23 : decode c_H_lookAt 23 = .ok (.iload_n 3, 1) := by decide +kernel
theorem d_H_lookAt_24 : decode c_H_lookAt 24 = .ok (.iload 4, 2) := by decide +kernel
theorem d_H_lookAt_26 : decode c_H_lookAt 26 = .ok (.invokestatic 124, 3) := by decide +kernel
theorem d_H_lookAt_29 : decode c_H_lookAt 29 = .ok (.iaload, 1) := by decide +kernel
theorem d_H_lookAt_30 : decode c_H_lookAt 30 = .ok (.istore 5, 2) := by decide +kernel
theorem d_H_lookAt_32 : decode c_H_lookAt 32 = .ok (.iload 5, 2) := by decide +kernel
theorem d_H_lookAt_34 : decode c_H_lookAt 34 = .ok (.iconst (-1), 1) := by decide +kernel
theorem d_H_lookAt_35 : decode c_H_lookAt 35 = .ok (.if_icmp .eq 23, 3) := by decide +kernel
theorem d_H_lookAt_38 : decode c_H_lookAt 38 = .ok (.iload 5, 2) := by decide +kernel
theorem d_H_lookAt_40 : decode c_H_lookAt 40 = .ok (.iload_n 2, 1) := by decide +kernel
theorem d_H_lookAt_41 : decode c_H_lookAt 41 = .ok (.if_icmp .ge 17, 3) := by decide +kernel
theorem d_H_lookAt_44 : decode c_H_lookAt 44 = .ok (.aload_n 0, 1) := by decide +kernel
theorem d_H_lookAt_45 : decode c_H_lookAt 45 = .ok (.getfield 36, 3) := by decide +kernel
theorem d_H_lookAt_48 : decode c_H_lookAt 48 = .ok (.getfield 247, 3) := by decide +kernel
theorem d_H_lookAt_51 : decode c_H_lookAt 51 = .ok (.iload_n 1, 1) := by decide +kernel
theorem d_H_lookAt_52 : decode c_H_lookAt 52 = .ok (.iload_n 3, 1) := by decide +kernel
theorem d_H_lookAt_53 : decode c_H_lookAt 53 = .ok (.iload 4, 2) := by decide +kernel
theorem d_H_lookAt_55 : decode c_H_lookAt 55 = .ok (.invokevirtual 266, 3) := by decide +kernel
theorem d_H_lookAt_58 : decode c_H_lookAt 58 = .ok (.iinc 4 1, 3) := by decide +kernel
theorem d_H_lookAt_61 : decode c_H_lookAt 61 = .ok (.goto (-50), 3) := by decide +kernel
theorem d_H_lookAt_64 : decode c_H_lookAt 64 = .ok (.iinc 3 1, 3) := by decide +kernel
theorem d_H_lookAt_67 : decode c_H_lookAt 67 = .ok (.goto (-65), 3) := by decide +kernel
theorem d_H_lookAt_70 : decode c_H_lookAt 70 = .ok (.return_, 1) := by decide +kernel
theorem d_H_leastRule_0 : decode c_H_leastRule 0 = .ok (.iconst 0, 1) := by decide +kernel
theorem d_H_leastRule_1 : decode c_H_leastRule 1 = .ok (.istore 4, 2) := by decide +kernel
theorem d_H_leastRule_3 : decode c_H_leastRule 3 = .ok (.iload 4, 2) := by decide +kernel
theorem d_H_leastRule_5 : decode c_H_leastRule 5 = .ok (.aload_n 0, 1) := by decide +kernel
theorem d_H_leastRule_6 : decode c_H_leastRule 6 = .ok (.getfield 54, 3) := by decide +kernel
theorem d_H_leastRule_9 : decode c_H_leastRule 9 = .ok (.if_icmp .ge 51, 3) := by decide +kernel
theorem d_H_leastRule_12 : decode c_H_leastRule 12 = .ok (.aload_n 0, 1) := by decide +kernel
theorem d_H_leastRule_13 : decode c_H_leastRule 13 = .ok (.getfield 36, 3) := by decide +kernel
theorem d_H_leastRule_16 : decode c_H_leastRule 16 = .ok (.aload_n 0, 1) := by decide +kernel
theorem d_H_leastRule_17 : decode c_H_leastRule 17 = .ok (.getfield 20, 3) := by decide +kernel
theorem d_H_leastRule_20 : decode c_H_leastRule 20 = .ok (.iload 4, 2) := by decide +kernel
theorem d_H_leastRule_22 : decode c_H_leastRule 22 = .ok (.aaload, 1) := by decide +kernel
theorem d_H_leastRule_23 : decode c_H_leastRule 23 = .ok (.iload_n 1, 1) := by decide +kernel
theorem d_H_leastRule_24 : decode c_H_leastRule 24 = .ok (.iload_n 2, 1) := by decide +kernel
theorem d_H_leastRule_25 : decode c_H_leastRule 25 = .ok (.iload_n 3, 1) := by decide +kernel
theorem d_H_leastRule_26 : decode c_H_leastRule 26 = .ok (.invokevirtual 133, 3) := by decide +kernel
theorem d_H_leastRule_29 : decode c_H_leastRule 29 = .ok (.ifCond .eq 25, 3) := by decide +kernel
theorem d_H_leastRule_32 : decode c_H_leastRule 32 = .ok (.aload_n 0, 1) := by decide +kernel
theorem d_H_leastRule_33 : decode c_H_leastRule 33 = .ok (.getfield 36, 3) := by decide +kernel
theorem d_H_leastRule_36 : decode c_H_leastRule 36 = .ok (.aload_n 0, 1) := by decide +kernel
theorem d_H_leastRule_37 : decode c_H_leastRule 37 = .ok (.getfield 20, 3) := by decide +kernel
theorem d_H_leastRule_40 : decode c_H_leastRule 40 = .ok (.iload 4, 2) := by decide +kernel
theorem d_H_leastRule_42 : decode c_H_leastRule 42 = .ok (.aaload, 1) := by decide +kernel
theorem d_H_leastRule_43 : decode c_H_leastRule 43 = .ok (.bipush 20, 2) := by decide +kernel
theorem d_H_leastRule_45 : decode c_H_leastRule 45 = .ok (.invokevirtual 262, 3) := by decide +kernel
theorem d_H_leastRule_48 : decode c_H_leastRule 48 = .ok (.ifCond .eq 6, 3) := by decide +kernel
theorem d_H_leastRule_51 : decode c_H_leastRule 51 = .ok (.iload 4, 2) := by decide +kernel
theorem d_H_leastRule_53 : decode c_H_leastRule 53 = .ok (.ireturn, 1) := by decide +kernel
theorem d_H_leastRule_54 : decode c_H_leastRule 54 = .ok (.iinc 4 1, 3) := by decide +kernel
theorem d_H_leastRule_57 : decode c_H_leastRule 57 = .ok (.goto (-54), 3) := by decide +kernel
theorem d_H_leastRule_60 : decode c_H_leastRule 60 = .ok (.iconst (-1), 1) := by decide +kernel
theorem d_H_leastRule_61 : decode c_H_leastRule 61 = .ok (.ireturn, 1) := by decide +kernel
theorem d_A_init_0 : decode c_A_init 0 = .ok (.aload_n 0, 1) := by decide +kernel
theorem d_A_init_1 : decode c_A_init 1 = .ok (.invokespecial 3, 3) := by decide +kernel
theorem d_A_init_4 : decode c_A_init 4 = .ok (.return_, 1) := by decide +kernel
theorem d_A_become_0 : decode c_A_become 0 = .ok (.aload_n 0, 1) := by decide +kernel
theorem d_A_become_1 : decode c_A_become 1 = .ok (.iload_n 1, 1) := by decide +kernel
theorem d_A_become_2 : decode c_A_become 2 = .ok (.putfield 9, 3) := by decide +kernel
theorem d_A_become_5 : decode c_A_become 5 = .ok (.aload_n 0, 1) := by decide +kernel
theorem d_A_become_6 : decode c_A_become 6 = .ok (.iload_n 2, 1) := by decide +kernel
theorem d_A_become_7 : decode c_A_become 7 = .ok (.putfield 15, 3) := by decide +kernel
theorem d_A_become_10 : decode c_A_become 10 = .ok (.aload_n 0, 1) := by decide +kernel
theorem d_A_become_11 : decode c_A_become 11 = .ok (.iload_n 3, 1) := by decide +kernel
theorem d_A_become_12 : decode c_A_become 12 = .ok (.putfield 18, 3) := by decide +kernel
theorem d_A_become_15 : decode c_A_become 15 = .ok (.aload_n 0, 1) := by decide +kernel
theorem d_A_become_16 : decode c_A_become 16 = .ok (.iload 4, 2) := by decide +kernel
theorem d_A_become_18 : decode c_A_become 18 = .ok (.putfield 21, 3) := by decide +kernel
theorem d_A_become_21 : decode c_A_become 21 = .ok (.return_, 1) := by decide +kernel
theorem d_A_variables_0 : decode c_A_variables 0 = .ok (.iconst 1, 1) := by decide +kernel
theorem d_A_variables_1 : decode c_A_variables 1 = .ok (.aload_n 0, 1) := by decide +kernel
theorem d_A_variables_2 : decode c_A_variables 2 = .ok (.getfield 15, 3) := by decide +kernel
theorem d_A_variables_5 : decode c_A_variables 5 = .ok (.ishl, 1) := by decide +kernel
theorem d_A_variables_6 : decode c_A_variables 6 = .ok (.iconst 1, 1) := by decide +kernel
theorem d_A_variables_7 : decode c_A_variables 7 = .ok (.aload_n 0, 1) := by decide +kernel
theorem d_A_variables_8 : decode c_A_variables 8 = .ok (.getfield 18, 3) := by decide +kernel
theorem d_A_variables_11 : decode c_A_variables 11 = .ok (.ishl, 1) := by decide +kernel
theorem d_A_variables_12 : decode c_A_variables 12 = .ok (.ior, 1) := by decide +kernel
theorem d_A_variables_13 : decode c_A_variables 13 = .ok (.ldc 25, 2) := by decide +kernel
theorem d_A_variables_15 : decode c_A_variables 15 = .ok (.iand, 1) := by decide +kernel
theorem d_A_variables_16 : decode c_A_variables 16 = .ok (.ireturn, 1) := by decide +kernel
theorem d_M_init_0 : decode c_M_init 0 = .ok (.aload_n 0, 1) := by decide +kernel
theorem d_M_init_1 : decode c_M_init 1 = .ok (.invokespecial 3, 3) := by decide +kernel
theorem d_M_init_4 : decode c_M_init 4 = .ok (.aload_n 0, 1) := by decide +kernel
theorem d_M_init_5 : decode c_M_init 5 = .ok (.new 9, 3) := by decide +kernel
theorem d_M_init_8 : decode c_M_init 8 = .ok (.dup, 1) := by decide +kernel
theorem d_M_init_9 : decode c_M_init 9 = .ok (.invokespecial 11, 3) := by decide +kernel
theorem d_M_init_12 : decode c_M_init 12 = .ok (.putfield 12, 3) := by decide +kernel
theorem d_M_init_15 : decode c_M_init 15 = .ok (.aload_n 0, 1) := by decide +kernel
theorem d_M_init_16 : decode c_M_init 16 = .ok (.bipush 24, 2) := by decide +kernel
theorem d_M_init_18 : decode c_M_init 18 = .ok (.newarray .int, 2) := by decide +kernel
theorem d_M_init_20 : decode c_M_init 20 = .ok (.putfield 18, 3) := by decide +kernel
theorem d_M_init_23 : decode c_M_init 23 = .ok (.iconst 0, 1) := by decide +kernel
theorem d_M_init_24 : decode c_M_init 24 = .ok (.istore_n 1, 1) := by decide +kernel
theorem d_M_init_25 : decode c_M_init 25 = .ok (.iload_n 1, 1) := by decide +kernel
theorem d_M_init_26 : decode c_M_init 26 = .ok (.bipush 12, 2) := by decide +kernel
theorem d_M_init_28 : decode c_M_init 28 = .ok (.if_icmp .ge 16, 3) := by decide +kernel
theorem d_M_init_31 : decode c_M_init 31 = .ok (.aload_n 0, 1) := by decide +kernel
theorem d_M_init_32 : decode c_M_init 32 = .ok (.getfield 18, 3) := by decide +kernel
theorem d_M_init_35 : decode c_M_init 35 = .ok (.iload_n 1, 1) := by decide +kernel
theorem d_M_init_36 : decode c_M_init 36 = .ok (.iload_n 1, 1) := by decide +kernel
theorem d_M_init_37 : decode c_M_init 37 = .ok (.iastore, 1) := by decide +kernel
theorem d_M_init_38 : decode c_M_init 38 = .ok (.iinc 1 1, 3) := by decide +kernel
theorem d_M_init_41 : decode c_M_init 41 = .ok (.goto (-16), 3) := by decide +kernel
theorem d_M_init_44 : decode c_M_init 44 = .ok (.return_, 1) := by decide +kernel
theorem d_M_forget_0 : decode c_M_forget 0 = .ok (.bipush 20, 2) := by decide +kernel
theorem d_M_forget_2 : decode c_M_forget 2 = .ok (.istore_n 1, 1) := by decide +kernel
theorem d_M_forget_3 : decode c_M_forget 3 = .ok (.iload_n 1, 1) := by decide +kernel
theorem d_M_forget_4 : decode c_M_forget 4 = .ok (.bipush 24, 2) := by decide +kernel
theorem d_M_forget_6 : decode c_M_forget 6 = .ok (.if_icmp .ge 16, 3) := by decide +kernel
theorem d_M_forget_9 : decode c_M_forget 9 = .ok (.aload_n 0, 1) := by decide +kernel
theorem d_M_forget_10 : decode c_M_forget 10 = .ok (.getfield 18, 3) := by decide +kernel
theorem d_M_forget_13 : decode c_M_forget 13 = .ok (.iload_n 1, 1) := by decide +kernel
theorem d_M_forget_14 : decode c_M_forget 14 = .ok (.iconst (-1), 1) := by decide +kernel
theorem d_M_forget_15 : decode c_M_forget 15 = .ok (.iastore, 1) := by decide +kernel
theorem d_M_forget_16 : decode c_M_forget 16 = .ok (.iinc 1 1, 3) := by decide +kernel
theorem d_M_forget_19 : decode c_M_forget 19 = .ok (.goto (-16), 3) := by decide +kernel
theorem d_M_forget_22 : decode c_M_forget 22 = .ok (.return_, 1) := by decide +kernel
theorem d_M_bind_0 : decode c_M_bind 0 = .ok (.aload_n 0, 1) := by decide +kernel
theorem d_M_bind_1 : decode c_M_bind 1 = .ok (.getfield 18, 3) := by decide +kernel
theorem d_M_bind_4 : decode c_M_bind 4 = .ok (.iload_n 1, 1) := by decide +kernel
theorem d_M_bind_5 : decode c_M_bind 5 = .ok (.iaload, 1) := by decide +kernel
theorem d_M_bind_6 : decode c_M_bind 6 = .ok (.iconst (-1), 1) := by decide +kernel
theorem d_M_bind_7 : decode c_M_bind 7 = .ok (.if_icmp .ne 10, 3) := by decide +kernel
theorem d_M_bind_10 : decode c_M_bind 10 = .ok (.aload_n 0, 1) := by decide +kernel
theorem d_M_bind_11 : decode c_M_bind 11 = .ok (.getfield 18, 3) := by decide +kernel
theorem d_M_bind_14 : decode c_M_bind 14 = .ok (.iload_n 1, 1) := by decide +kernel
theorem d_M_bind_15 : decode c_M_bind 15 = .ok (.iload_n 2, 1) := by decide +kernel
theorem d_M_bind_16 : decode c_M_bind 16 = .ok (.iastore, 1) := by decide +kernel
theorem d_M_bind_17 : decode c_M_bind 17 = .ok (.aload_n 0, 1) := by decide +kernel
theorem d_M_bind_18 : decode c_M_bind 18 = .ok (.getfield 18, 3) := by decide +kernel
theorem d_M_bind_21 : decode c_M_bind 21 = .ok (.iload_n 1, 1) := by decide +kernel
theorem d_M_bind_22 : decode c_M_bind 22 = .ok (.iaload, 1) := by decide +kernel
theorem d_M_bind_23 : decode c_M_bind 23 = .ok (.iload_n 2, 1) := by decide +kernel
theorem d_M_bind_24 : decode c_M_bind 24 = .ok (.if_icmp .ne 7, 3) := by decide +kernel
theorem d_M_bind_27 : decode c_M_bind 27 = .ok (.iconst 1, 1) := by decide +kernel
theorem d_M_bind_28 : decode c_M_bind 28 = .ok (.goto 4, 3) := by decide +kernel
theorem d_M_bind_31 : decode c_M_bind 31 = .ok (.iconst 0, 1) := by decide +kernel
theorem d_M_bind_32 : decode c_M_bind 32 = .ok (.ireturn, 1) := by decide +kernel
theorem d_M_meets_0 : decode c_M_meets 0 = .ok (.aload_n 0, 1) := by decide +kernel
theorem d_M_meets_1 : decode c_M_meets 1 = .ok (.invokevirtual 22, 3) := by decide +kernel
theorem d_M_meets_4 : decode c_M_meets 4 = .ok (.aload_n 1, 1) := by decide +kernel
theorem d_M_meets_5 : decode c_M_meets 5 = .ok (.getfield 25, 3) := by decide +kernel
theorem d_M_meets_8 : decode c_M_meets 8 = .ok (.getfield 31, 3) := by decide +kernel
theorem d_M_meets_11 : decode c_M_meets 11 = .ok (.iload_n 2, 1) := by decide +kernel
theorem d_M_meets_12 : decode c_M_meets 12 = .ok (.if_icmp .ne 46, 3) := by decide +kernel
theorem d_M_meets_15 : decode c_M_meets 15 = .ok (.aload_n 0, 1) := by decide +kernel
theorem d_M_meets_16 : decode c_M_meets 16 = .ok (.aload_n 1, 1) := by decide +kernel
theorem d_M_meets_17 : decode c_M_meets 17 = .ok (.getfield 25, 3) := by decide +kernel
theorem d_M_meets_20 : decode c_M_meets 20 = .ok (.getfield 37, 3) := by decide +kernel
theorem d_M_meets_23 : decode c_M_meets 23 = .ok (.iload_n 3, 1) := by decide +kernel
theorem d_M_meets_24 : decode c_M_meets 24 = .ok (.invokevirtual 40, 3) := by decide +kernel
theorem d_M_meets_27 : decode c_M_meets 27 = .ok (.ifCond .eq 31, 3) := by decide +kernel
theorem d_M_meets_30 : decode c_M_meets 30 = .ok (.aload_n 0, 1) := by decide +kernel
theorem d_M_meets_31 : decode c_M_meets 31 = .ok (.aload_n 1, 1) := by decide +kernel
theorem d_M_meets_32 : decode c_M_meets 32 = .ok (.getfield 25, 3) := by decide +kernel
theorem d_M_meets_35 : decode c_M_meets 35 = .ok (.getfield 44, 3) := by decide +kernel
theorem d_M_meets_38 : decode c_M_meets 38 = .ok (.iload 4, 2) := by decide +kernel
theorem d_M_meets_40 : decode c_M_meets 40 = .ok (.invokevirtual 40, 3) := by decide +kernel
end
section
theorem d_M_meets_43 : decode c_M_meets 43 = .ok (.ifCond .eq 15, 3) := by decide +kernel
theorem d_M_meets_46 : decode c_M_meets 46 = .ok (.aload_n 0, 1) := by decide +kernel
theorem d_M_meets_47 : decode c_M_meets 47 = .ok (.aload_n 1, 1) := by decide +kernel
theorem d_M_meets_48 : decode c_M_meets 48 = .ok (.invokevirtual 47, 3) := by decide +kernel
theorem d_M_meets_51 : decode c_M_meets 51 = .ok (.ifCond .eq 7, 3) := by decide +kernel
theorem d_M_meets_54 : decode c_M_meets 54 = .ok (.iconst 1, 1) := by decide +kernel
theorem d_M_meets_55 : decode c_M_meets 55 = .ok (.goto 4, 3) := by decide +kernel
theorem d_M_meets_58 : decode c_M_meets 58 = .ok (.iconst 0, 1) := by decide +kernel
theorem d_M_meets_59 : decode c_M_meets 59 = .ok (.ireturn, 1) := by decide +kernel
theorem d_M_knownAgree_0 : decode c_M_knownAgree 0 = .ok (.iconst 0, 1) := by decide +kernel
theorem d_M_knownAgree_1 : decode c_M_knownAgree 1 = .ok (.istore_n 2, 1) := by decide +kernel
theorem d_M_knownAgree_2 : decode c_M_knownAgree 2 = .ok (.iload_n 2, 1) := by decide +kernel
theorem d_M_knownAgree_3 : decode c_M_knownAgree 3 = .ok (.aload_n 1, 1) := by decide +kernel
theorem d_M_knownAgree_4 : decode c_M_knownAgree 4 = .ok (.getfield 51, 3) := by decide +kernel
theorem d_M_knownAgree_7 : decode c_M_knownAgree 7 = .ok (.if_icmp .ge 74, 3) := by decide +kernel
theorem d_M_knownAgree_10 : decode c_M_knownAgree 10 = .ok (.aload_n 1, 1) := by decide +kernel
theorem d_M_knownAgree_11 : decode c_M_knownAgree 11 = .ok (.getfield 54, 3) := by decide +kernel
theorem d_M_knownAgree_14 : decode c_M_knownAgree 14 = .ok (.iload_n 2, 1) := by decide +kernel
theorem d_M_knownAgree_15 : decode c_M_knownAgree 15 = .ok (.aaload, 1) := by decide +kernel
theorem d_M_knownAgree_16 : decode c_M_knownAgree 16 = .ok (.astore_n 3, 1) := by decide +kernel
theorem d_M_knownAgree_17 : decode c_M_knownAgree 17 = .ok (.aload_n 0, 1) := by decide +kernel
theorem d_M_knownAgree_18 : decode c_M_knownAgree 18 = .ok (.getfield 18, 3) := by decide +kernel
theorem d_M_knownAgree_21 : decode c_M_knownAgree 21 = .ok (.aload_n 3, 1) := by decide +kernel
theorem d_M_knownAgree_22 : decode c_M_knownAgree 22 = .ok (.getfield 37, 3) := by decide +kernel
theorem d_M_knownAgree_25 : decode c_M_knownAgree 25 = .ok (.iaload, 1) := by decide +kernel
theorem d_M_knownAgree_26 : decode c_M_knownAgree 26 = .ok (.istore 4, 2) := by decide +kernel
theorem d_M_knownAgree_28 : decode c_M_knownAgree 28 = .ok (.aload_n 0, 1) := by decide +kernel
theorem d_M_knownAgree_29 : decode c_M_knownAgree 29 = .ok (.getfield 18, 3) := by decide +kernel
theorem d_M_knownAgree_32 : decode c_M_knownAgree 32 = .ok (.aload_n 3, 1) := by decide +kernel
theorem d_M_knownAgree_33 : decode c_M_knownAgree 33 = .ok (.getfield 44, 3) := by decide +kernel
theorem d_M_knownAgree_36 : decode c_M_knownAgree 36 = .ok (.iaload, 1) := by decide +kernel
theorem d_M_knownAgree_37 : decode c_M_knownAgree 37 = .ok (.istore 5, 2) := by decide +kernel
theorem d_M_knownAgree_39 : decode c_M_knownAgree 39 = .ok (.iload 4, 2) := by decide +kernel
theorem d_M_knownAgree_41 : decode c_M_knownAgree 41 = .ok (.iconst (-1), 1) := by decide +kernel
theorem d_M_knownAgree_42 : decode c_M_knownAgree 42 = .ok (.if_icmp .eq 33, 3) := by decide +kernel
theorem d_M_knownAgree_45 : decode c_M_knownAgree 45 = .ok (.iload 5, 2) := by decide +kernel
theorem d_M_knownAgree_47 : decode c_M_knownAgree 47 = .ok (.iconst (-1), 1) := by decide +kernel
theorem d_M_knownAgree_48 : decode c_M_knownAgree 48 = .ok (.if_icmp .eq 27, 3) := by decide +kernel
theorem d_M_knownAgree_51 : decode c_M_knownAgree 51 = .ok (.aload_n 0, 1) := by decide +kernel
theorem d_M_knownAgree_52 : decode c_M_knownAgree 52 = .ok (.getfield 12, 3) := by decide +kernel
theorem d_M_knownAgree_55 : decode c_M_knownAgree 55 = .ok (.aload_n 3, 1) := by decide +kernel
theorem d_M_knownAgree_56 : decode c_M_knownAgree 56 = .ok (.getfield 31, 3) := by decide +kernel
theorem d_M_knownAgree_59 : decode c_M_knownAgree 59 = .ok (.iload 4, 2) := by decide +kernel
theorem d_M_knownAgree_61 : decode c_M_knownAgree 61 = .ok (.iload 5, 2) := by decide +kernel
theorem d_M_knownAgree_63 : decode c_M_knownAgree 63 = .ok (.invokevirtual 58, 3) := by decide +kernel
theorem d_M_knownAgree_66 : decode c_M_knownAgree 66 = .ok (.aload_n 3, 1) := by decide +kernel
theorem d_M_knownAgree_67 : decode c_M_knownAgree 67 = .ok (.getfield 62, 3) := by decide +kernel
theorem d_M_knownAgree_70 : decode c_M_knownAgree 70 = .ok (.if_icmp .ne 5, 3) := by decide +kernel
theorem d_M_knownAgree_73 : decode c_M_knownAgree 73 = .ok (.iconst 0, 1) := by decide +kernel
theorem d_M_knownAgree_74 : decode c_M_knownAgree 74 = .ok (.ireturn, 1) := by decide +kernel
theorem d_M_knownAgree_75 : decode c_M_knownAgree 75 = .ok (.iinc 2 1, 3) := by decide +kernel
theorem d_M_knownAgree_78 : decode c_M_knownAgree 78 = .ok (.goto (-76), 3) := by decide +kernel
theorem d_M_knownAgree_81 : decode c_M_knownAgree 81 = .ok (.iconst 1, 1) := by decide +kernel
theorem d_M_knownAgree_82 : decode c_M_knownAgree 82 = .ok (.ireturn, 1) := by decide +kernel
theorem d_M_choices_0 : decode c_M_choices 0 = .ok (.aload_n 0, 1) := by decide +kernel
theorem d_M_choices_1 : decode c_M_choices 1 = .ok (.getfield 18, 3) := by decide +kernel
theorem d_M_choices_4 : decode c_M_choices 4 = .ok (.iload_n 2, 1) := by decide +kernel
theorem d_M_choices_5 : decode c_M_choices 5 = .ok (.iaload, 1) := by decide +kernel
theorem d_M_choices_6 : decode c_M_choices 6 = .ok (.iconst (-1), 1) := by decide +kernel
theorem d_M_choices_7 : decode c_M_choices 7 = .ok (.if_icmp .eq 12, 3) := by decide +kernel
theorem d_M_choices_10 : decode c_M_choices 10 = .ok (.iconst 1, 1) := by decide +kernel
theorem d_M_choices_11 : decode c_M_choices 11 = .ok (.aload_n 0, 1) := by decide +kernel
theorem d_M_choices_12 : decode c_M_choices 12 = .ok (.getfield 18, 3) := by decide +kernel
theorem d_M_choices_15 : decode c_M_choices 15 = .ok (.iload_n 2, 1) := by decide +kernel
theorem d_M_choices_16 : decode c_M_choices 16 = .ok (.iaload, 1) := by decide +kernel
theorem d_M_choices_17 : decode c_M_choices 17 = .ok (.ishl, 1) := by decide +kernel
theorem d_M_choices_18 : decode c_M_choices 18 = .ok (.ireturn, 1) := by decide +kernel
theorem d_M_choices_19 : decode c_M_choices 19 = .ok (.sipush 4095, 3) := by decide +kernel
theorem d_M_choices_22 : decode c_M_choices 22 = .ok (.istore_n 3, 1) := by decide +kernel
theorem d_M_choices_23 : decode c_M_choices 23 = .ok (.iconst 0, 1) := by decide +kernel
theorem d_M_choices_24 : decode c_M_choices 24 = .ok (.istore 4, 2) := by decide +kernel
theorem d_M_choices_26 : decode c_M_choices 26 = .ok (.iload 4, 2) := by decide +kernel
theorem d_M_choices_28 : decode c_M_choices 28 = .ok (.aload_n 1, 1) := by decide +kernel
theorem d_M_choices_29 : decode c_M_choices 29 = .ok (.getfield 51, 3) := by decide +kernel
theorem d_M_choices_32 : decode c_M_choices 32 = .ok (.if_icmp .ge 46, 3) := by decide +kernel
theorem d_M_choices_35 : decode c_M_choices 35 = .ok (.aload_n 1, 1) := by decide +kernel
theorem d_M_choices_36 : decode c_M_choices 36 = .ok (.getfield 54, 3) := by decide +kernel
theorem d_M_choices_39 : decode c_M_choices 39 = .ok (.iload 4, 2) := by decide +kernel
theorem d_M_choices_41 : decode c_M_choices 41 = .ok (.aaload, 1) := by decide +kernel
theorem d_M_choices_42 : decode c_M_choices 42 = .ok (.astore 5, 2) := by decide +kernel
theorem d_M_choices_44 : decode c_M_choices 44 = .ok (.aload 5, 2) := by decide +kernel
theorem d_M_choices_46 : decode c_M_choices 46 = .ok (.getfield 37, 3) := by decide +kernel
theorem d_M_choices_49 : decode c_M_choices 49 = .ok (.iload_n 2, 1) := by decide +kernel
theorem d_M_choices_50 : decode c_M_choices 50 = .ok (.if_icmp .eq 12, 3) := by decide +kernel
theorem d_M_choices_53 : decode c_M_choices 53 = .ok (.aload 5, 2) := by decide +kernel
theorem d_M_choices_55 : decode c_M_choices 55 = .ok (.getfield 44, 3) := by decide +kernel
theorem d_M_choices_58 : decode c_M_choices 58 = .ok (.iload_n 2, 1) := by decide +kernel
theorem d_M_choices_59 : decode c_M_choices 59 = .ok (.if_icmp .ne 13, 3) := by decide +kernel
theorem d_M_choices_62 : decode c_M_choices 62 = .ok (.iload_n 3, 1) := by decide +kernel
theorem d_M_choices_63 : decode c_M_choices 63 = .ok (.aload_n 0, 1) := by decide +kernel
theorem d_M_choices_64 : decode c_M_choices 64 = .ok (.aload 5, 2) := by decide +kernel
theorem d_M_choices_66 : decode c_M_choices 66 = .ok (.iload_n 2, 1) := by decide +kernel
theorem d_M_choices_67 : decode c_M_choices 67 = .ok (.invokevirtual 66, 3) := by decide +kernel
theorem d_M_choices_70 : decode c_M_choices 70 = .ok (.iand, 1) := by decide +kernel
theorem d_M_choices_71 : decode c_M_choices 71 = .ok (.istore_n 3, 1) := by decide +kernel
theorem d_M_choices_72 : decode c_M_choices 72 = .ok (.iinc 4 1, 3) := by decide +kernel
theorem d_M_choices_75 : decode c_M_choices 75 = .ok (.goto (-49), 3) := by decide +kernel
theorem d_M_choices_78 : decode c_M_choices 78 = .ok (.iload_n 3, 1) := by decide +kernel
theorem d_M_choices_79 : decode c_M_choices 79 = .ok (.ireturn, 1) := by decide +kernel
theorem d_M_choicesBy_0 : decode c_M_choicesBy 0 = .ok (.aload_n 1, 1) := by decide +kernel
theorem d_M_choicesBy_1 : decode c_M_choicesBy 1 = .ok (.getfield 31, 3) := by decide +kernel
theorem d_M_choicesBy_4 : decode c_M_choicesBy 4 = .ok (.istore_n 3, 1) := by decide +kernel
theorem d_M_choicesBy_5 : decode c_M_choicesBy 5 = .ok (.aload_n 1, 1) := by decide +kernel
theorem d_M_choicesBy_6 : decode c_M_choicesBy 6 = .ok (.getfield 37, 3) := by decide +kernel
theorem d_M_choicesBy_9 : decode c_M_choicesBy 9 = .ok (.iload_n 2, 1) := by decide +kernel
theorem d_M_choicesBy_10 : decode c_M_choicesBy 10 = .ok (.if_icmp .ne 7, 3) := by decide +kernel
theorem d_M_choicesBy_13 : decode c_M_choicesBy 13 = .ok (.iconst 1, 1) := by decide +kernel
theorem d_M_choicesBy_14 : decode c_M_choicesBy 14 = .ok (.goto 4, 3) := by decide +kernel
theorem d_M_choicesBy_17 : decode c_M_choicesBy 17 = .ok (.iconst 0, 1) := by decide +kernel
theorem d_M_choicesBy_18 : decode c_M_choicesBy 18 = .ok (.istore 4, 2) := by decide +kernel
theorem d_M_choicesBy_20 : decode c_M_choicesBy 20 = .ok (.aload_n 0, 1) := by decide +kernel
theorem d_M_choicesBy_21 : decode c_M_choicesBy 21 = .ok (.getfield 18, 3) := by decide +kernel
theorem d_M_choicesBy_24 : decode c_M_choicesBy 24 = .ok (.iload 4, 2) := by decide +kernel
theorem d_M_choicesBy_26 : decode c_M_choicesBy 26 = .ok (.ifCond .eq 10, 3) := by decide +kernel
theorem d_M_choicesBy_29 : decode c_M_choicesBy 29 = .ok (.aload_n 1, 1) := by decide +kernel
theorem d_M_choicesBy_30 : decode c_M_choicesBy 30 = .ok (.getfield 44, 3) := by decide +kernel
theorem d_M_choicesBy_33 : decode c_M_choicesBy 33 = .ok (.goto 7, 3) := by decide +kernel
theorem d_M_choicesBy_36 : decode c_M_choicesBy 36 = .ok (.aload_n 1, 1) := by decide +kernel
theorem d_M_choicesBy_37 : decode c_M_choicesBy 37 = .ok (.getfield 37, 3) := by decide +kernel
theorem d_M_choicesBy_40 : decode c_M_choicesBy 40 = .ok (.iaload, 1) := by decide +kernel
theorem d_M_choicesBy_41 : decode c_M_choicesBy 41 = .ok (.istore 5, 2) := by decide +kernel
theorem d_M_choicesBy_43 : decode c_M_choicesBy 43 = .ok (.aload_n 1, 1) := by decide +kernel
theorem d_M_choicesBy_44 : decode c_M_choicesBy 44 = .ok (.getfield 37, 3) := by decide +kernel
theorem d_M_choicesBy_47 : decode c_M_choicesBy 47 = .ok (.aload_n 1, 1) := by decide +kernel
theorem d_M_choicesBy_48 : decode c_M_choicesBy 48 = .ok (.getfield 44, 3) := by decide +kernel
theorem d_M_choicesBy_51 : decode c_M_choicesBy 51 = .ok (.if_icmp .ne 17, 3) := by decide +kernel
theorem d_M_choicesBy_54 : decode c_M_choicesBy 54 = .ok (.aload_n 0, 1) := by decide +kernel
theorem d_M_choicesBy_55 : decode c_M_choicesBy 55 = .ok (.getfield 12, 3) := by decide +kernel
theorem d_M_choicesBy_58 : decode c_M_choicesBy 58 = .ok (.getfield 70, 3) := by decide +kernel
theorem d_M_choicesBy_61 : decode c_M_choicesBy 61 = .ok (.iload_n 3, 1) := by decide +kernel
theorem d_M_choicesBy_62 : decode c_M_choicesBy 62 = .ok (.iaload, 1) := by decide +kernel
theorem d_M_choicesBy_63 : decode c_M_choicesBy 63 = .ok (.istore 6, 2) := by decide +kernel
theorem d_M_choicesBy_65 : decode c_M_choicesBy 65 = .ok (.goto 92, 3) := by decide +kernel
theorem d_M_choicesBy_68 : decode c_M_choicesBy 68 = .ok (.iload 5, 2) := by decide +kernel
theorem d_M_choicesBy_70 : decode c_M_choicesBy 70 = .ok (.iconst (-1), 1) := by decide +kernel
theorem d_M_choicesBy_71 : decode c_M_choicesBy 71 = .ok (.if_icmp .eq 45, 3) := by decide +kernel
theorem d_M_choicesBy_74 : decode c_M_choicesBy 74 = .ok (.iload_n 3, 1) := by decide +kernel
theorem d_M_choicesBy_75 : decode c_M_choicesBy 75 = .ok (.bipush 12, 2) := by decide +kernel
theorem d_M_choicesBy_77 : decode c_M_choicesBy 77 = .ok (.imul, 1) := by decide +kernel
theorem d_M_choicesBy_78 : decode c_M_choicesBy 78 = .ok (.iload 5, 2) := by decide +kernel
theorem d_M_choicesBy_80 : decode c_M_choicesBy 80 = .ok (.iadd, 1) := by decide +kernel
theorem d_M_choicesBy_81 : decode c_M_choicesBy 81 = .ok (.istore 7, 2) := by decide +kernel
theorem d_M_choicesBy_83 : decode c_M_choicesBy 83 = .ok (.iload 4, 2) := by decide +kernel
theorem d_M_choicesBy_85 : decode c_M_choicesBy 85 = .ok (.ifCond .eq 16, 3) := by decide +kernel
theorem d_M_choicesBy_88 : decode c_M_choicesBy 88 = .ok (.aload_n 0, 1) := by decide +kernel
theorem d_M_choicesBy_89 : decode c_M_choicesBy 89 = .ok (.getfield 12, 3) := by decide +kernel
theorem d_M_choicesBy_92 : decode c_M_choicesBy 92 = .ok (.getfield 73, 3) := by decide +kernel
theorem d_M_choicesBy_95 : decode c_M_choicesBy 95 = .ok (.iload 7, 2) := by decide +kernel
theorem d_M_choicesBy_97 : decode c_M_choicesBy 97 = .ok (.iaload, 1) := by decide +kernel
theorem d_M_choicesBy_98 : decode c_M_choicesBy 98 = .ok (.goto 13, 3) := by decide +kernel
theorem d_M_choicesBy_101 : decode c_M_choicesBy 101 = .ok (.aload_n 0, 1) := by decide +kernel
theorem d_M_choicesBy_102 : decode c_M_choicesBy 102 = .ok (.getfield 12, 3) := by decide +kernel
theorem d_M_choicesBy_105 : decode c_M_choicesBy 105 = .ok (.getfield 76, 3) := by decide +kernel
theorem d_M_choicesBy_108 : decode c_M_choicesBy 108 = .ok (.iload 7, 2) := by decide +kernel
theorem d_M_choicesBy_110 : decode c_M_choicesBy 110 = .ok (.iaload, 1) := by decide +kernel
theorem d_M_choicesBy_111 : decode c_M_choicesBy 111 = .ok (.istore 6, 2) := by decide +kernel
theorem d_M_choicesBy_113 : decode c_M_choicesBy 113 = .ok (.goto 44, 3) := by decide +kernel
theorem d_M_choicesBy_116 : decode c_M_choicesBy 116 = .ok (.aload_n 1, 1) := by decide +kernel
theorem d_M_choicesBy_117 : decode c_M_choicesBy 117 = .ok (.getfield 62, 3) := by decide +kernel
theorem d_M_choicesBy_120 : decode c_M_choicesBy 120 = .ok (.ifCond .eq 9, 3) := by decide +kernel
theorem d_M_choicesBy_123 : decode c_M_choicesBy 123 = .ok (.iconst 0, 1) := by decide +kernel
theorem d_M_choicesBy_124 : decode c_M_choicesBy 124 = .ok (.istore 6, 2) := by decide +kernel
theorem d_M_choicesBy_126 : decode c_M_choicesBy 126 = .ok (.goto 31, 3) := by decide +kernel
theorem d_M_choicesBy_129 : decode c_M_choicesBy 129 = .ok (.iload 4, 2) := by decide +kernel
theorem d_M_choicesBy_131 : decode c_M_choicesBy 131 = .ok (.ifCond .eq 15, 3) := by decide +kernel
theorem d_M_choicesBy_134 : decode c_M_choicesBy 134 = .ok (.aload_n 0, 1) := by decide +kernel
theorem d_M_choicesBy_135 : decode c_M_choicesBy 135 = .ok (.getfield 12, 3) := by decide +kernel
theorem d_M_choicesBy_138 : decode c_M_choicesBy 138 = .ok (.getfield 79, 3) := by decide +kernel
theorem d_M_choicesBy_141 : decode c_M_choicesBy 141 = .ok (.iload_n 3, 1) := by decide +kernel
theorem d_M_choicesBy_142 : decode c_M_choicesBy 142 = .ok (.iaload, 1) := by decide +kernel
theorem d_M_choicesBy_143 : decode c_M_choicesBy 143 = .ok (.goto 12, 3) := by decide +kernel
theorem d_M_choicesBy_146 : decode c_M_choicesBy 146 = .ok (.aload_n 0, 1) := by decide +kernel
theorem d_M_choicesBy_147 : decode c_M_choicesBy 147 = .ok (.getfield 12, 3) := by decide +kernel
theorem d_M_choicesBy_150 : decode c_M_choicesBy 150 = .ok (.getfield 82, 3) := by decide +kernel
theorem d_M_choicesBy_153 : decode c_M_choicesBy 153 = .ok (.iload_n 3, 1) := by decide +kernel
theorem d_M_choicesBy_154 : decode c_M_choicesBy 154 = .ok (.iaload, 1) := by decide +kernel
theorem d_M_choicesBy_155 : decode c_M_choicesBy 155 = .ok (.istore 6, 2) := by decide +kernel
theorem d_M_choicesBy_157 : decode c_M_choicesBy 157 = .ok (.aload_n 1, 1) := by decide +kernel
theorem d_M_choicesBy_158 : decode c_M_choicesBy 158 = .ok (.getfield 62, 3) := by decide +kernel
theorem d_M_choicesBy_161 : decode c_M_choicesBy 161 = .ok (.ifCond .eq 10, 3) := by decide +kernel
theorem d_M_choicesBy_164 : decode c_M_choicesBy 164 = .ok (.iload 6, 2) := by decide +kernel
theorem d_M_choicesBy_166 : decode c_M_choicesBy 166 = .ok (.iconst (-1), 1) := by decide +kernel
theorem d_M_choicesBy_167 : decode c_M_choicesBy 167 = .ok (.ixor, 1) := by decide +kernel
theorem d_M_choicesBy_168 : decode c_M_choicesBy 168 = .ok (.goto 5, 3) := by decide +kernel
theorem d_M_choicesBy_171 : decode c_M_choicesBy 171 = .ok (.iload 6, 2) := by decide +kernel
theorem d_M_choicesBy_173 : decode c_M_choicesBy 173 = .ok (.ireturn, 1) := by decide +kernel
theorem d_M_nextOpen_0 : decode c_M_nextOpen 0 = .ok (.iload_n 2, 1) := by decide +kernel
theorem d_M_nextOpen_1 : decode c_M_nextOpen 1 = .ok (.istore_n 3, 1) := by decide +kernel
theorem d_M_nextOpen_2 : decode c_M_nextOpen 2 = .ok (.iload_n 3, 1) := by decide +kernel
theorem d_M_nextOpen_3 : decode c_M_nextOpen 3 = .ok (.bipush 24, 2) := by decide +kernel
theorem d_M_nextOpen_5 : decode c_M_nextOpen 5 = .ok (.if_icmp .ge 32, 3) := by decide +kernel
theorem d_M_nextOpen_8 : decode c_M_nextOpen 8 = .ok (.aload_n 1, 1) := by decide +kernel
theorem d_M_nextOpen_9 : decode c_M_nextOpen 9 = .ok (.getfield 85, 3) := by decide +kernel
theorem d_M_nextOpen_12 : decode c_M_nextOpen 12 = .ok (.iload_n 3, 1) := by decide +kernel
theorem d_M_nextOpen_13 : decode c_M_nextOpen 13 = .ok (.invokestatic 88, 3) := by decide +kernel
theorem d_M_nextOpen_16 : decode c_M_nextOpen 16 = .ok (.ifCond .eq 15, 3) := by decide +kernel
theorem d_M_nextOpen_19 : decode c_M_nextOpen 19 = .ok (.aload_n 0, 1) := by decide +kernel
theorem d_M_nextOpen_20 : decode c_M_nextOpen 20 = .ok (.getfield 18, 3) := by decide +kernel
theorem d_M_nextOpen_23 : decode c_M_nextOpen 23 = .ok (.iload_n 3, 1) := by decide +kernel
theorem d_M_nextOpen_24 : decode c_M_nextOpen 24 = .ok (.iaload, 1) := by decide +kernel
theorem d_M_nextOpen_25 : decode c_M_nextOpen 25 = .ok (.iconst (-1), 1) := by decide +kernel
theorem d_M_nextOpen_26 : decode c_M_nextOpen 26 = .ok (.if_icmp .ne 5, 3) := by decide +kernel
theorem d_M_nextOpen_29 : decode c_M_nextOpen 29 = .ok (.iload_n 3, 1) := by decide +kernel
theorem d_M_nextOpen_30 : decode c_M_nextOpen 30 = .ok (.ireturn, 1) := by decide +kernel
theorem d_M_nextOpen_31 : decode c_M_nextOpen 31 = .ok (.iinc 3 1, 3) := by decide +kernel
theorem d_M_nextOpen_34 : decode c_M_nextOpen 34 = .ok (.goto (-32), 3) := by decide +kernel
theorem d_M_nextOpen_37 : decode c_M_nextOpen 37 = .ok (.bipush 24, 2) := by decide +kernel
theorem d_M_nextOpen_39 : decode c_M_nextOpen 39 = .ok (.ireturn, 1) := by decide +kernel
theorem d_M_findLeast_0 : decode c_M_findLeast 0 = .ok (.aload_n 0, 1) := by decide +kernel
theorem d_M_findLeast_1 : decode c_M_findLeast 1 = .ok (.aload_n 1, 1) := by decide +kernel
theorem d_M_findLeast_2 : decode c_M_findLeast 2 = .ok (.iload_n 2, 1) := by decide +kernel
theorem d_M_findLeast_3 : decode c_M_findLeast 3 = .ok (.invokevirtual 91, 3) := by decide +kernel
theorem d_M_findLeast_6 : decode c_M_findLeast 6 = .ok (.istore_n 3, 1) := by decide +kernel
theorem d_M_findLeast_7 : decode c_M_findLeast 7 = .ok (.iload_n 3, 1) := by decide +kernel
theorem d_M_findLeast_8 : decode c_M_findLeast 8 = .ok (.bipush 24, 2) := by decide +kernel
theorem d_M_findLeast_10 : decode c_M_findLeast 10 = .ok (.if_icmp .lt 5, 3) := by decide +kernel
theorem d_M_findLeast_13 : decode c_M_findLeast 13 = .ok (.iconst 1, 1) := by decide +kernel
theorem d_M_findLeast_14 : decode c_M_findLeast 14 = .ok (.ireturn, 1) := by decide +kernel
theorem d_M_findLeast_15 : decode c_M_findLeast 15 = .ok (.aload_n 0, 1) := by decide +kernel
theorem d_M_findLeast_16 : decode c_M_findLeast 16 = .ok (.aload_n 1, 1) := by decide +kernel
theorem d_M_findLeast_17 : decode c_M_findLeast 17 = .ok (.iload_n 3, 1) := by decide +kernel
theorem d_M_findLeast_18 : decode c_M_findLeast 18 = .ok (.invokevirtual 95, 3) := by decide +kernel
theorem d_M_findLeast_21 : decode c_M_findLeast 21 = .ok (.istore 4, 2) := by decide +kernel
theorem d_M_findLeast_23 : decode c_M_findLeast 23 = .ok (.iconst 0, 1) := by decide +kernel
theorem d_M_findLeast_24 : decode c_M_findLeast 24 = .ok (.istore 5, 2) := by decide +kernel
theorem d_M_findLeast_26 : decode c_M_findLeast 26 = .ok (.iload 5, 2) := by decide +kernel
theorem d_M_findLeast_28 : decode c_M_findLeast 28 = .ok (.bipush 12, 2) := by decide +kernel
theorem d_M_findLeast_30 : decode c_M_findLeast 30 = .ok (.if_icmp .ge 40, 3) := by decide +kernel
theorem d_M_findLeast_33 : decode c_M_findLeast 33 = .ok (.iload 4, 2) := by decide +kernel
theorem d_M_findLeast_35 : decode c_M_findLeast 35 = .ok (.iload 5, 2) := by decide +kernel
theorem d_M_findLeast_37 : decode c_M_findLeast 37 = .ok (.invokestatic 88, 3) := by decide +kernel
theorem d_M_findLeast_40 : decode c_M_findLeast 40 = .ok (.ifCond .eq 24, 3) := by decide +kernel
theorem d_M_findLeast_43 : decode c_M_findLeast 43 = .ok (.aload_n 0, 1) := by decide +kernel
theorem d_M_findLeast_44 : decode c_M_findLeast 44 = .ok (.getfield 18, 3) := by decide +kernel
theorem d_M_findLeast_47 : decode c_M_findLeast 47 = .ok (.iload_n 3, 1) := by decide +kernel
theorem d_M_findLeast_48 : decode c_M_findLeast 48 = .ok (.iload 5, 2) := by decide +kernel
theorem d_M_findLeast_50 : decode c_M_findLeast 50 = .ok (.iastore, 1) := by decide +kernel
theorem d_M_findLeast_51 : decode c_M_findLeast 51 = .ok (.aload_n 0, 1) := by decide +kernel
theorem d_M_findLeast_52 : decode c_M_findLeast 52 = .ok (.aload_n 1, 1) := by decide +kernel
theorem d_M_findLeast_53 : decode c_M_findLeast 53 = .ok (.iload_n 3, 1) := by decide +kernel
theorem d_M_findLeast_54 : decode c_M_findLeast 54 = .ok (.iconst 1, 1) := by decide +kernel
theorem d_M_findLeast_55 : decode c_M_findLeast 55 = .ok (.iadd, 1) := by decide +kernel
theorem d_M_findLeast_56 : decode c_M_findLeast 56 = .ok (.invokevirtual 98, 3) := by decide +kernel
theorem d_M_findLeast_59 : decode c_M_findLeast 59 = .ok (.ifCond .eq 5, 3) := by decide +kernel
theorem d_M_findLeast_62 : decode c_M_findLeast 62 = .ok (.iconst 1, 1) := by decide +kernel
theorem d_M_findLeast_63 : decode c_M_findLeast 63 = .ok (.ireturn, 1) := by decide +kernel
theorem d_M_findLeast_64 : decode c_M_findLeast 64 = .ok (.iinc 5 1, 3) := by decide +kernel
theorem d_M_findLeast_67 : decode c_M_findLeast 67 = .ok (.goto (-41), 3) := by decide +kernel
theorem d_M_findLeast_70 : decode c_M_findLeast 70 = .ok (.aload_n 0, 1) := by decide +kernel
theorem d_M_findLeast_71 : decode c_M_findLeast 71 = .ok (.getfield 18, 3) := by decide +kernel
theorem d_M_findLeast_74 : decode c_M_findLeast 74 = .ok (.iload_n 3, 1) := by decide +kernel
theorem d_M_findLeast_75 : decode c_M_findLeast 75 = .ok (.iconst (-1), 1) := by decide +kernel
theorem d_M_findLeast_76 : decode c_M_findLeast 76 = .ok (.iastore, 1) := by decide +kernel
theorem d_M_findLeast_77 : decode c_M_findLeast 77 = .ok (.iconst 0, 1) := by decide +kernel
theorem d_M_findLeast_78 : decode c_M_findLeast 78 = .ok (.ireturn, 1) := by decide +kernel
theorem d_M_countInstances_0 : decode c_M_countInstances 0 = .ok (.aload_n 0, 1) := by decide +kernel
theorem d_M_countInstances_1 : decode c_M_countInstances 1 = .ok (.aload_n 1, 1) := by decide +kernel
theorem d_M_countInstances_2 : decode c_M_countInstances 2 = .ok (.iload_n 2, 1) := by decide +kernel
theorem d_M_countInstances_3 : decode c_M_countInstances 3 = .ok (.invokevirtual 91, 3) := by decide +kernel
theorem d_M_countInstances_6 : decode c_M_countInstances 6 = .ok (.istore_n 3, 1) := by decide +kernel
theorem d_M_countInstances_7 : decode c_M_countInstances 7 = .ok (.iload_n 3, 1) := by decide +kernel
theorem d_M_countInstances_8 : decode c_M_countInstances 8 = .ok (.bipush 24, 2) := by decide +kernel
theorem d_M_countInstances_10 : decode c_M_countInstances 10 = .ok (.if_icmp .lt 5, 3) := by decide +kernel
theorem d_M_countInstances_13 : decode c_M_countInstances 13 = .ok (.iconst 1, 1) := by decide +kernel
theorem d_M_countInstances_14 : decode c_M_countInstances 14 = .ok (.ireturn, 1) := by decide +kernel
theorem d_M_countInstances_15 : decode c_M_countInstances 15 = .ok (.aload_n 0, 1) := by decide +kernel
theorem d_M_countInstances_16 : decode c_M_countInstances 16 = .ok (.aload_n 1, 1) := by decide +kernel
theorem d_M_countInstances_17 : decode c_M_countInstances 17 = .ok (.iload_n 3, 1) := by decide +kernel
theorem d_M_countInstances_18 : decode c_M_countInstances 18 = .ok (.invokevirtual 95, 3) := by decide +kernel
theorem d_M_countInstances_21 : decode c_M_countInstances 21 = .ok (.istore 4, 2) := by decide +kernel
theorem d_M_countInstances_23 : decode c_M_countInstances 23 = .ok (.aload_n 0, 1) := by decide +kernel
theorem d_M_countInstances_24 : decode c_M_countInstances 24 = .ok (.aload_n 1, 1) := by decide +kernel
theorem d_M_countInstances_25 : decode c_M_countInstances 25 = .ok (.iload_n 3, 1) := by decide +kernel
theorem d_M_countInstances_26 : decode c_M_countInstances 26 = .ok (.iconst 1, 1) := by decide +kernel
theorem d_M_countInstances_27 : decode c_M_countInstances 27 = .ok (.iadd, 1) := by decide +kernel
theorem d_M_countInstances_28 : decode c_M_countInstances 28 = .ok (.invokevirtual 91, 3) := by decide +kernel
theorem d_M_countInstances_31 : decode c_M_countInstances 31 = .ok (.bipush 24, 2) := by decide +kernel
theorem d_M_countInstances_33 : decode c_M_countInstances 33 = .ok (.if_icmp .lt 9, 3) := by decide +kernel
theorem d_M_countInstances_36 : decode c_M_countInstances 36 = .ok (.iload 4, 2) := by decide +kernel
theorem d_M_countInstances_38 : decode c_M_countInstances 38 = .ok (.invokestatic 102, 3) := by decide +kernel
theorem d_M_countInstances_41 : decode c_M_countInstances 41 = .ok (.ireturn, 1) := by decide +kernel
theorem d_M_countInstances_42 : decode c_M_countInstances 42 = .ok (.iconst 0, 1) := by decide +kernel
theorem d_M_countInstances_43 : decode c_M_countInstances 43 = .ok (.istore 5, 2) := by decide +kernel
theorem d_M_countInstances_45 : decode c_M_countInstances 45 = .ok (.iconst 0, 1) := by decide +kernel
theorem d_M_countInstances_46 : decode c_M_countInstances 46 = .ok (.istore 6, 2) := by decide +kernel
theorem d_M_countInstances_48 : decode c_M_countInstances 48 = .ok (.iload 6, 2) := by decide +kernel
theorem d_M_countInstances_50 : decode c_M_countInstances 50 = .ok (.bipush 12, 2) := by decide +kernel
theorem d_M_countInstances_52 : decode c_M_countInstances 52 = .ok (.if_icmp .ge 40, 3) := by decide +kernel
theorem d_M_countInstances_55 : decode c_M_countInstances 55 = .ok (.iload 4, 2) := by decide +kernel
theorem d_M_countInstances_57 : decode c_M_countInstances 57 = .ok (.iload 6, 2) := by decide +kernel
theorem d_M_countInstances_59 : decode c_M_countInstances 59 = .ok (.invokestatic 88, 3) := by decide +kernel
theorem d_M_countInstances_62 : decode c_M_countInstances 62 = .ok (.ifCond .eq 24, 3) := by decide +kernel
theorem d_M_countInstances_65 : decode c_M_countInstances 65 = .ok (.aload_n 0, 1) := by decide +kernel
theorem d_M_countInstances_66 : decode c_M_countInstances 66 = .ok (.getfield 18, 3) := by decide +kernel
theorem d_M_countInstances_69 : decode c_M_countInstances 69 = .ok (.iload_n 3, 1) := by decide +kernel
theorem d_M_countInstances_70 : decode c_M_countInstances 70 = .ok (.iload 6, 2) := by decide +kernel
theorem d_M_countInstances_72 : decode c_M_countInstances 72 = .ok (.iastore, 1) := by decide +kernel
theorem d_M_countInstances_73 : decode c_M_countInstances 73 = .ok (.iload 5, 2) := by decide +kernel
theorem d_M_countInstances_75 : decode c_M_countInstances 75 = .ok (.aload_n 0, 1) := by decide +kernel
theorem d_M_countInstances_76 : decode c_M_countInstances 76 = .ok (.aload_n 1, 1) := by decide +kernel
theorem d_M_countInstances_77 : decode c_M_countInstances 77 = .ok (.iload_n 3, 1) := by decide +kernel
theorem d_M_countInstances_78 : decode c_M_countInstances 78 = .ok (.iconst 1, 1) := by decide +kernel
theorem d_M_countInstances_79 : decode c_M_countInstances 79 = .ok (.iadd, 1) := by decide +kernel
theorem d_M_countInstances_80 : decode c_M_countInstances 80 = .ok (.invokevirtual 108, 3) := by decide +kernel
theorem d_M_countInstances_83 : decode c_M_countInstances 83 = .ok (.iadd, 1) := by decide +kernel
theorem d_M_countInstances_84 : decode c_M_countInstances 84 = .ok (.istore 5, 2) := by decide +kernel
theorem d_M_countInstances_86 : decode c_M_countInstances 86 = .ok (.iinc 6 1, 3) := by decide +kernel
theorem d_M_countInstances_89 : decode c_M_countInstances 89 = .ok (.goto (-41), 3) := by decide +kernel
theorem d_M_countInstances_92 : decode c_M_countInstances 92 = .ok (.aload_n 0, 1) := by decide +kernel
theorem d_M_countInstances_93 : decode c_M_countInstances 93 = .ok (.getfield 18, 3) := by decide +kernel
theorem d_M_countInstances_96 : decode c_M_countInstances 96 = .ok (.iload_n 3, 1) := by decide +kernel
theorem d_M_countInstances_97 : decode c_M_countInstances 97 = .ok (.iconst (-1), 1) := by decide +kernel
theorem d_M_countInstances_98 : decode c_M_countInstances 98 = .ok (.iastore, 1) := by decide +kernel
theorem d_M_countInstances_99 : decode c_M_countInstances 99 = .ok (.iload 5, 2) := by decide +kernel
theorem d_M_countInstances_101 : decode c_M_countInstances 101 = .ok (.ireturn, 1) := by decide +kernel
theorem d_R_init_0 : decode c_R_init 0 = .ok (.aload_n 0, 1) := by decide +kernel
theorem d_R_init_1 : decode c_R_init 1 = .ok (.invokespecial 3, 3) := by decide +kernel
theorem d_R_init_4 : decode c_R_init 4 = .ok (.aload_n 0, 1) := by decide +kernel
theorem d_R_init_5 : decode c_R_init 5 = .ok (.new 9, 3) := by decide +kernel
theorem d_R_init_8 : decode c_R_init 8 = .ok (.dup, 1) := by decide +kernel
theorem d_R_init_9 : decode c_R_init 9 = .ok (.invokespecial 11, 3) := by decide +kernel
theorem d_R_init_12 : decode c_R_init 12 = .ok (.putfield 12, 3) := by decide +kernel
theorem d_R_init_15 : decode c_R_init 15 = .ok (.aload_n 0, 1) := by decide +kernel
theorem d_R_init_16 : decode c_R_init 16 = .ok (.iconst 4, 1) := by decide +kernel
theorem d_R_init_17 : decode c_R_init 17 = .ok (.anewarray 9, 3) := by decide +kernel
theorem d_R_init_20 : decode c_R_init 20 = .ok (.putfield 18, 3) := by decide +kernel
theorem d_R_init_23 : decode c_R_init 23 = .ok (.iconst 0, 1) := by decide +kernel
theorem d_R_init_24 : decode c_R_init 24 = .ok (.istore_n 1, 1) := by decide +kernel
theorem d_R_init_25 : decode c_R_init 25 = .ok (.iload_n 1, 1) := by decide +kernel
theorem d_R_init_26 : decode c_R_init 26 = .ok (.iconst 4, 1) := by decide +kernel
theorem d_R_init_27 : decode c_R_init 27 = .ok (.if_icmp .ge 22, 3) := by decide +kernel
theorem d_R_init_30 : decode c_R_init 30 = .ok (.aload_n 0, 1) := by decide +kernel
theorem d_R_init_31 : decode c_R_init 31 = .ok (.getfield 18, 3) := by decide +kernel
theorem d_R_init_34 : decode c_R_init 34 = .ok (.iload_n 1, 1) := by decide +kernel
theorem d_R_init_35 : decode c_R_init 35 = .ok (.new 9, 3) := by decide +kernel
theorem d_R_init_38 : decode c_R_init 38 = .ok (.dup, 1) := by decide +kernel
theorem d_R_init_39 : decode c_R_init 39 = .ok (.invokespecial 11, 3) := by decide +kernel
theorem d_R_init_42 : decode c_R_init 42 = .ok (.aastore, 1) := by decide +kernel
theorem d_R_init_43 : decode c_R_init 43 = .ok (.iinc 1 1, 3) := by decide +kernel
theorem d_R_init_46 : decode c_R_init 46 = .ok (.goto (-21), 3) := by decide +kernel
theorem d_R_init_49 : decode c_R_init 49 = .ok (.return_, 1) := by decide +kernel
theorem d_R_begin_0 : decode c_R_begin 0 = .ok (.aload_n 0, 1) := by decide +kernel
theorem d_R_begin_1 : decode c_R_begin 1 = .ok (.getfield 12, 3) := by decide +kernel
theorem d_R_begin_4 : decode c_R_begin 4 = .ok (.iload_n 1, 1) := by decide +kernel
theorem d_R_begin_5 : decode c_R_begin 5 = .ok (.iload_n 2, 1) := by decide +kernel
theorem d_R_begin_6 : decode c_R_begin 6 = .ok (.iload_n 3, 1) := by decide +kernel
theorem d_R_begin_7 : decode c_R_begin 7 = .ok (.iconst 0, 1) := by decide +kernel
theorem d_R_begin_8 : decode c_R_begin 8 = .ok (.invokevirtual 22, 3) := by decide +kernel
theorem d_R_begin_11 : decode c_R_begin 11 = .ok (.aload_n 0, 1) := by decide +kernel
theorem d_R_begin_12 : decode c_R_begin 12 = .ok (.iconst 0, 1) := by decide +kernel
theorem d_R_begin_13 : decode c_R_begin 13 = .ok (.putfield 26, 3) := by decide +kernel
theorem d_R_begin_16 : decode c_R_begin 16 = .ok (.aload_n 0, 1) := by decide +kernel
theorem d_R_begin_17 : decode c_R_begin 17 = .ok (.aload_n 0, 1) := by decide +kernel
theorem d_R_begin_18 : decode c_R_begin 18 = .ok (.getfield 12, 3) := by decide +kernel
theorem d_R_begin_21 : decode c_R_begin 21 = .ok (.invokevirtual 30, 3) := by decide +kernel
theorem d_R_begin_24 : decode c_R_begin 24 = .ok (.putfield 34, 3) := by decide +kernel
theorem d_R_begin_27 : decode c_R_begin 27 = .ok (.aload_n 0, 1) := by decide +kernel
theorem d_R_begin_28 : decode c_R_begin 28 = .ok (.iconst 0, 1) := by decide +kernel
theorem d_R_begin_29 : decode c_R_begin 29 = .ok (.putfield 36, 3) := by decide +kernel
theorem d_R_begin_32 : decode c_R_begin 32 = .ok (.aload_n 0, 1) := by decide +kernel
theorem d_R_begin_33 : decode c_R_begin 33 = .ok (.iconst 0, 1) := by decide +kernel
theorem d_R_begin_34 : decode c_R_begin 34 = .ok (.putfield 39, 3) := by decide +kernel
theorem d_R_begin_37 : decode c_R_begin 37 = .ok (.return_, 1) := by decide +kernel
theorem d_R_isFull_0 : decode c_R_isFull 0 = .ok (.aload_n 0, 1) := by decide +kernel
theorem d_R_isFull_1 : decode c_R_isFull 1 = .ok (.getfield 26, 3) := by decide +kernel
theorem d_R_isFull_4 : decode c_R_isFull 4 = .ok (.iconst 4, 1) := by decide +kernel
theorem d_R_isFull_5 : decode c_R_isFull 5 = .ok (.if_icmp .lt 7, 3) := by decide +kernel
theorem d_R_isFull_8 : decode c_R_isFull 8 = .ok (.iconst 1, 1) := by decide +kernel
theorem d_R_isFull_9 : decode c_R_isFull 9 = .ok (.goto 4, 3) := by decide +kernel
theorem d_R_isFull_12 : decode c_R_isFull 12 = .ok (.iconst 0, 1) := by decide +kernel
theorem d_R_isFull_13 : decode c_R_isFull 13 = .ok (.ireturn, 1) := by decide +kernel
theorem d_R_add_0 : decode c_R_add 0 = .ok (.aload_n 0, 1) := by decide +kernel
theorem d_R_add_1 : decode c_R_add 1 = .ok (.invokevirtual 42, 3) := by decide +kernel
theorem d_R_add_4 : decode c_R_add 4 = .ok (.ifCond .eq 4, 3) := by decide +kernel
theorem d_R_add_7 : decode c_R_add 7 = .ok (.return_, 1) := by decide +kernel
theorem d_R_add_8 : decode c_R_add 8 = .ok (.aload_n 0, 1) := by decide +kernel
theorem d_R_add_9 : decode c_R_add 9 = .ok (.getfield 18, 3) := by decide +kernel
theorem d_R_add_12 : decode c_R_add 12 = .ok (.aload_n 0, 1) := by decide +kernel
theorem d_R_add_13 : decode c_R_add 13 = .ok (.getfield 26, 3) := by decide +kernel
theorem d_R_add_16 : decode c_R_add 16 = .ok (.aaload, 1) := by decide +kernel
theorem d_R_add_17 : decode c_R_add 17 = .ok (.astore 5, 2) := by decide +kernel
theorem d_R_add_19 : decode c_R_add 19 = .ok (.aload 5, 2) := by decide +kernel
theorem d_R_add_21 : decode c_R_add 21 = .ok (.iload_n 1, 1) := by decide +kernel
theorem d_R_add_22 : decode c_R_add 22 = .ok (.iload_n 2, 1) := by decide +kernel
theorem d_R_add_23 : decode c_R_add 23 = .ok (.iload_n 3, 1) := by decide +kernel
theorem d_R_add_24 : decode c_R_add 24 = .ok (.iload 4, 2) := by decide +kernel
theorem d_R_add_26 : decode c_R_add 26 = .ok (.invokevirtual 22, 3) := by decide +kernel
theorem d_R_add_29 : decode c_R_add 29 = .ok (.aload_n 0, 1) := by decide +kernel
theorem d_R_add_30 : decode c_R_add 30 = .ok (.dup, 1) := by decide +kernel
theorem d_R_add_31 : decode c_R_add 31 = .ok (.getfield 26, 3) := by decide +kernel
theorem d_R_add_34 : decode c_R_add 34 = .ok (.iconst 1, 1) := by decide +kernel
theorem d_R_add_35 : decode c_R_add 35 = .ok (.iadd, 1) := by decide +kernel
theorem d_R_add_36 : decode c_R_add 36 = .ok (.putfield 26, 3) := by decide +kernel
theorem d_R_add_39 : decode c_R_add 39 = .ok (.aload_n 0, 1) := by decide +kernel
theorem d_R_add_40 : decode c_R_add 40 = .ok (.dup, 1) := by decide +kernel
theorem d_R_add_41 : decode c_R_add 41 = .ok (.getfield 34, 3) := by decide +kernel
theorem d_R_add_44 : decode c_R_add 44 = .ok (.aload 5, 2) := by decide +kernel
theorem d_R_add_46 : decode c_R_add 46 = .ok (.invokevirtual 30, 3) := by decide +kernel
theorem d_R_add_49 : decode c_R_add 49 = .ok (.ior, 1) := by decide +kernel
theorem d_R_add_50 : decode c_R_add 50 = .ok (.putfield 34, 3) := by decide +kernel
theorem d_R_add_53 : decode c_R_add 53 = .ok (.iload 4, 2) := by decide +kernel
theorem d_R_add_55 : decode c_R_add 55 = .ok (.ifCond .ne 29, 3) := by decide +kernel
theorem d_R_add_58 : decode c_R_add 58 = .ok (.aload_n 0, 1) := by decide +kernel
theorem d_R_add_59 : decode c_R_add 59 = .ok (.dup, 1) := by decide +kernel
theorem d_R_add_60 : decode c_R_add 60 = .ok (.getfield 36, 3) := by decide +kernel
theorem d_R_add_63 : decode c_R_add 63 = .ok (.aload 5, 2) := by decide +kernel
theorem d_R_add_65 : decode c_R_add 65 = .ok (.invokevirtual 30, 3) := by decide +kernel
theorem d_R_add_68 : decode c_R_add 68 = .ok (.ior, 1) := by decide +kernel
theorem d_R_add_69 : decode c_R_add 69 = .ok (.putfield 36, 3) := by decide +kernel
theorem d_R_add_72 : decode c_R_add 72 = .ok (.aload_n 0, 1) := by decide +kernel
theorem d_R_add_73 : decode c_R_add 73 = .ok (.dup, 1) := by decide +kernel
theorem d_R_add_74 : decode c_R_add 74 = .ok (.getfield 39, 3) := by decide +kernel
theorem d_R_add_77 : decode c_R_add 77 = .ok (.iconst 1, 1) := by decide +kernel
theorem d_R_add_78 : decode c_R_add 78 = .ok (.iload_n 1, 1) := by decide +kernel
theorem d_R_add_79 : decode c_R_add 79 = .ok (.ishl, 1) := by decide +kernel
theorem d_R_add_80 : decode c_R_add 80 = .ok (.ior, 1) := by decide +kernel
theorem d_R_add_81 : decode c_R_add 81 = .ok (.putfield 39, 3) := by decide +kernel
theorem d_R_add_84 : decode c_R_add 84 = .ok (.return_, 1) := by decide +kernel
theorem d_R_isSafe_0 : decode c_R_isSafe 0 = .ok (.aload_n 0, 1) := by decide +kernel
theorem d_R_isSafe_1 : decode c_R_isSafe 1 = .ok (.getfield 34, 3) := by decide +kernel
theorem d_R_isSafe_4 : decode c_R_isSafe 4 = .ok (.aload_n 0, 1) := by decide +kernel
theorem d_R_isSafe_5 : decode c_R_isSafe 5 = .ok (.getfield 36, 3) := by decide +kernel
theorem d_R_isSafe_8 : decode c_R_isSafe 8 = .ok (.if_icmp .ne 7, 3) := by decide +kernel
theorem d_R_isSafe_11 : decode c_R_isSafe 11 = .ok (.iconst 1, 1) := by decide +kernel
theorem d_R_isSafe_12 : decode c_R_isSafe 12 = .ok (.goto 4, 3) := by decide +kernel
theorem d_R_isSafe_15 : decode c_R_isSafe 15 = .ok (.iconst 0, 1) := by decide +kernel
theorem d_R_isSafe_16 : decode c_R_isSafe 16 = .ok (.ireturn, 1) := by decide +kernel
theorem d_R_leastLayer_0 : decode c_R_leastLayer 0 = .ok (.iconst 0, 1) := by decide +kernel
theorem d_R_leastLayer_1 : decode c_R_leastLayer 1 = .ok (.istore_n 2, 1) := by decide +kernel
theorem d_R_leastLayer_2 : decode c_R_leastLayer 2 = .ok (.iconst 0, 1) := by decide +kernel
theorem d_R_leastLayer_3 : decode c_R_leastLayer 3 = .ok (.istore_n 3, 1) := by decide +kernel
theorem d_R_leastLayer_4 : decode c_R_leastLayer 4 = .ok (.iload_n 3, 1) := by decide +kernel
theorem d_R_leastLayer_5 : decode c_R_leastLayer 5 = .ok (.aload_n 0, 1) := by decide +kernel
theorem d_R_leastLayer_6 : decode c_R_leastLayer 6 = .ok (.getfield 26, 3) := by decide +kernel
theorem d_R_leastLayer_9 : decode c_R_leastLayer 9 = .ok (.if_icmp .ge 43, 3) := by decide +kernel
theorem d_R_leastLayer_12 : decode c_R_leastLayer 12 = .ok (.aload_n 0, 1) := by decide +kernel
theorem d_R_leastLayer_13 : decode c_R_leastLayer 13 = .ok (.getfield 18, 3) := by decide +kernel
theorem d_R_leastLayer_16 : decode c_R_leastLayer 16 = .ok (.iload_n 3, 1) := by decide +kernel
theorem d_R_leastLayer_17 : decode c_R_leastLayer 17 = .ok (.aaload, 1) := by decide +kernel
theorem d_R_leastLayer_18 : decode c_R_leastLayer 18 = .ok (.astore 4, 2) := by decide +kernel
theorem d_R_leastLayer_20 : decode c_R_leastLayer 20 = .ok (.iload_n 2, 1) := by decide +kernel
theorem d_R_leastLayer_21 : decode c_R_leastLayer 21 = .ok (.aload_n 1, 1) := by decide +kernel
theorem d_R_leastLayer_22 : decode c_R_leastLayer 22 = .ok (.aload 4, 2) := by decide +kernel
theorem d_R_leastLayer_24 : decode c_R_leastLayer 24 = .ok (.getfield 46, 3) := by decide +kernel
theorem d_R_leastLayer_27 : decode c_R_leastLayer 27 = .ok (.iaload, 1) := by decide +kernel
theorem d_R_leastLayer_28 : decode c_R_leastLayer 28 = .ok (.aload 4, 2) := by decide +kernel
theorem d_R_leastLayer_30 : decode c_R_leastLayer 30 = .ok (.getfield 49, 3) := by decide +kernel
theorem d_R_leastLayer_33 : decode c_R_leastLayer 33 = .ok (.ifCond .eq 7, 3) := by decide +kernel
theorem d_R_leastLayer_36 : decode c_R_leastLayer 36 = .ok (.iconst 1, 1) := by decide +kernel
theorem d_R_leastLayer_37 : decode c_R_leastLayer 37 = .ok (.goto 4, 3) := by decide +kernel
theorem d_R_leastLayer_40 : decode c_R_leastLayer 40 = .ok (.iconst 0, 1) := by decide +kernel
theorem d_R_leastLayer_41 : decode c_R_leastLayer 41 = .ok (.iadd, 1) := by decide +kernel
theorem d_R_leastLayer_42 : decode c_R_leastLayer 42 = .ok (.invokestatic 53, 3) := by decide +kernel
theorem d_R_leastLayer_45 : decode c_R_leastLayer 45 = .ok (.istore_n 2, 1) := by decide +kernel
theorem d_R_leastLayer_46 : decode c_R_leastLayer 46 = .ok (.iinc 3 1, 3) := by decide +kernel
theorem d_R_leastLayer_49 : decode c_R_leastLayer 49 = .ok (.goto (-45), 3) := by decide +kernel
theorem d_R_leastLayer_52 : decode c_R_leastLayer 52 = .ok (.iload_n 2, 1) := by decide +kernel
theorem d_R_leastLayer_53 : decode c_R_leastLayer 53 = .ok (.ireturn, 1) := by decide +kernel
theorem d_S_init_0 : decode c_S_init 0 = .ok (.aload_n 0, 1) := by decide +kernel
theorem d_S_init_1 : decode c_S_init 1 = .ok (.invokespecial 3, 3) := by decide +kernel
theorem d_S_init_4 : decode c_S_init 4 = .ok (.aload_n 0, 1) := by decide +kernel
theorem d_S_init_5 : decode c_S_init 5 = .ok (.bipush 96, 2) := by decide +kernel
theorem d_S_init_7 : decode c_S_init 7 = .ok (.newarray .int, 2) := by decide +kernel
theorem d_S_init_9 : decode c_S_init 9 = .ok (.putfield 9, 3) := by decide +kernel
theorem d_S_init_12 : decode c_S_init 12 = .ok (.aload_n 0, 1) := by decide +kernel
theorem d_S_init_13 : decode c_S_init 13 = .ok (.bipush 96, 2) := by decide +kernel
theorem d_S_init_15 : decode c_S_init 15 = .ok (.newarray .int, 2) := by decide +kernel
theorem d_S_init_17 : decode c_S_init 17 = .ok (.putfield 15, 3) := by decide +kernel
theorem d_S_init_20 : decode c_S_init 20 = .ok (.aload_n 0, 1) := by decide +kernel
theorem d_S_init_21 : decode c_S_init 21 = .ok (.bipush 8, 2) := by decide +kernel
theorem d_S_init_23 : decode c_S_init 23 = .ok (.newarray .int, 2) := by decide +kernel
theorem d_S_init_25 : decode c_S_init 25 = .ok (.putfield 18, 3) := by decide +kernel
theorem d_S_init_28 : decode c_S_init 28 = .ok (.aload_n 0, 1) := by decide +kernel
theorem d_S_init_29 : decode c_S_init 29 = .ok (.bipush 8, 2) := by decide +kernel
theorem d_S_init_31 : decode c_S_init 31 = .ok (.newarray .int, 2) := by decide +kernel
theorem d_S_init_33 : decode c_S_init 33 = .ok (.putfield 21, 3) := by decide +kernel
theorem d_S_init_36 : decode c_S_init 36 = .ok (.aload_n 0, 1) := by decide +kernel
theorem d_S_init_37 : decode c_S_init 37 = .ok (.bipush 8, 2) := by decide +kernel
theorem d_S_init_39 : decode c_S_init 39 = .ok (.newarray .int, 2) := by decide +kernel
theorem d_S_init_41 : decode c_S_init 41 = .ok (.putfield 24, 3) := by decide +kernel
theorem d_S_init_44 : decode c_S_init 44 = .ok (.return_, 1) := by decide +kernel
theorem d_S_forget_0 : decode c_S_forget 0 = .ok (.aload_n 0, 1) := by decide +kernel
theorem d_S_forget_1 : decode c_S_forget 1 = .ok (.getfield 9, 3) := by decide +kernel
theorem d_S_forget_4 : decode c_S_forget 4 = .ok (.iconst 0, 1) := by decide +kernel
theorem d_S_forget_5 : decode c_S_forget 5 = .ok (.invokestatic 27, 3) := by decide +kernel
theorem d_S_forget_8 : decode c_S_forget 8 = .ok (.aload_n 0, 1) := by decide +kernel
theorem d_S_forget_9 : decode c_S_forget 9 = .ok (.getfield 15, 3) := by decide +kernel
theorem d_S_forget_12 : decode c_S_forget 12 = .ok (.iconst 0, 1) := by decide +kernel
theorem d_S_forget_13 : decode c_S_forget 13 = .ok (.invokestatic 27, 3) := by decide +kernel
theorem d_S_forget_16 : decode c_S_forget 16 = .ok (.aload_n 0, 1) := by decide +kernel
theorem d_S_forget_17 : decode c_S_forget 17 = .ok (.getfield 18, 3) := by decide +kernel
theorem d_S_forget_20 : decode c_S_forget 20 = .ok (.iconst 0, 1) := by decide +kernel
theorem d_S_forget_21 : decode c_S_forget 21 = .ok (.invokestatic 27, 3) := by decide +kernel
theorem d_S_forget_24 : decode c_S_forget 24 = .ok (.aload_n 0, 1) := by decide +kernel
theorem d_S_forget_25 : decode c_S_forget 25 = .ok (.getfield 21, 3) := by decide +kernel
theorem d_S_forget_28 : decode c_S_forget 28 = .ok (.iconst 0, 1) := by decide +kernel
theorem d_S_forget_29 : decode c_S_forget 29 = .ok (.invokestatic 27, 3) := by decide +kernel
theorem d_S_forget_32 : decode c_S_forget 32 = .ok (.aload_n 0, 1) := by decide +kernel
theorem d_S_forget_33 : decode c_S_forget 33 = .ok (.getfield 24, 3) := by decide +kernel
theorem d_S_forget_36 : decode c_S_forget 36 = .ok (.iconst 0, 1) := by decide +kernel
theorem d_S_forget_37 : decode c_S_forget 37 = .ok (.invokestatic 27, 3) := by decide +kernel
theorem d_S_forget_40 : decode c_S_forget 40 = .ok (.return_, 1) := by decide +kernel
theorem d_S_show_0 : decode c_S_show 0 = .ok (.aload_n 0, 1) := by decide +kernel
theorem d_S_show_1 : decode c_S_show 1 = .ok (.getfield 9, 3) := by decide +kernel
theorem d_S_show_4 : decode c_S_show 4 = .ok (.iload_n 1, 1) := by decide +kernel
theorem d_S_show_5 : decode c_S_show 5 = .ok (.iload_n 2, 1) := by decide +kernel
theorem d_S_show_6 : decode c_S_show 6 = .ok (.invokestatic 33, 3) := by decide +kernel
theorem d_S_show_9 : decode c_S_show 9 = .ok (.dup2, 1) := by decide +kernel
theorem d_S_show_10 : decode c_S_show 10 = .ok (.iaload, 1) := by decide +kernel
theorem d_S_show_11 : decode c_S_show 11 = .ok (.iconst 1, 1) := by decide +kernel
theorem d_S_show_12 : decode c_S_show 12 = .ok (.iload_n 3, 1) := by decide +kernel
theorem d_S_show_13 : decode c_S_show 13 = .ok (.ishl, 1) := by decide +kernel
theorem d_S_show_14 : decode c_S_show 14 = .ok (.ior, 1) := by decide +kernel
theorem d_S_show_15 : decode c_S_show 15 = .ok (.iastore, 1) := by decide +kernel
theorem d_S_show_16 : decode c_S_show 16 = .ok (.aload_n 0, 1) := by decide +kernel
theorem d_S_show_17 : decode c_S_show 17 = .ok (.getfield 15, 3) := by decide +kernel
theorem d_S_show_20 : decode c_S_show 20 = .ok (.iload_n 1, 1) := by decide +kernel
theorem d_S_show_21 : decode c_S_show 21 = .ok (.iload_n 3, 1) := by decide +kernel
theorem d_S_show_22 : decode c_S_show 22 = .ok (.invokestatic 33, 3) := by decide +kernel
theorem d_S_show_25 : decode c_S_show 25 = .ok (.dup2, 1) := by decide +kernel
theorem d_S_show_26 : decode c_S_show 26 = .ok (.iaload, 1) := by decide +kernel
theorem d_S_show_27 : decode c_S_show 27 = .ok (.iconst 1, 1) := by decide +kernel
theorem d_S_show_28 : decode c_S_show 28 = .ok (.iload_n 2, 1) := by decide +kernel
theorem d_S_show_29 : decode c_S_show 29 = .ok (.ishl, 1) := by decide +kernel
theorem d_S_show_30 : decode c_S_show 30 = .ok (.ior, 1) := by decide +kernel
theorem d_S_show_31 : decode c_S_show 31 = .ok (.iastore, 1) := by decide +kernel
theorem d_S_show_32 : decode c_S_show 32 = .ok (.aload_n 0, 1) := by decide +kernel
theorem d_S_show_33 : decode c_S_show 33 = .ok (.getfield 18, 3) := by decide +kernel
theorem d_S_show_36 : decode c_S_show 36 = .ok (.iload_n 1, 1) := by decide +kernel
theorem d_S_show_37 : decode c_S_show 37 = .ok (.dup2, 1) := by decide +kernel
theorem d_S_show_38 : decode c_S_show 38 = .ok (.iaload, 1) := by decide +kernel
theorem d_S_show_39 : decode c_S_show 39 = .ok (.iconst 1, 1) := by decide +kernel
theorem d_S_show_40 : decode c_S_show 40 = .ok (.iload_n 2, 1) := by decide +kernel
theorem d_S_show_41 : decode c_S_show 41 = .ok (.ishl, 1) := by decide +kernel
theorem d_S_show_42 : decode c_S_show 42 = .ok (.ior, 1) := by decide +kernel
theorem d_S_show_43 : decode c_S_show 43 = .ok (.iastore, 1) := by decide +kernel
theorem d_S_show_44 : decode c_S_show 44 = .ok (.aload_n 0, 1) := by decide +kernel
theorem d_S_show_45 : decode c_S_show 45 = .ok (.getfield 21, 3) := by decide +kernel
theorem d_S_show_48 : decode c_S_show 48 = .ok (.iload_n 1, 1) := by decide +kernel
theorem d_S_show_49 : decode c_S_show 49 = .ok (.dup2, 1) := by decide +kernel
theorem d_S_show_50 : decode c_S_show 50 = .ok (.iaload, 1) := by decide +kernel
theorem d_S_show_51 : decode c_S_show 51 = .ok (.iconst 1, 1) := by decide +kernel
theorem d_S_show_52 : decode c_S_show 52 = .ok (.iload_n 3, 1) := by decide +kernel
theorem d_S_show_53 : decode c_S_show 53 = .ok (.ishl, 1) := by decide +kernel
theorem d_S_show_54 : decode c_S_show 54 = .ok (.ior, 1) := by decide +kernel
theorem d_S_show_55 : decode c_S_show 55 = .ok (.iastore, 1) := by decide +kernel
theorem d_S_show_56 : decode c_S_show 56 = .ok (.iload_n 2, 1) := by decide +kernel
theorem d_S_show_57 : decode c_S_show 57 = .ok (.iload_n 3, 1) := by decide +kernel
theorem d_S_show_58 : decode c_S_show 58 = .ok (.if_icmp .ne 15, 3) := by decide +kernel
theorem d_S_show_61 : decode c_S_show 61 = .ok (.aload_n 0, 1) := by decide +kernel
theorem d_S_show_62 : decode c_S_show 62 = .ok (.getfield 24, 3) := by decide +kernel
theorem d_S_show_65 : decode c_S_show 65 = .ok (.iload_n 1, 1) := by decide +kernel
theorem d_S_show_66 : decode c_S_show 66 = .ok (.dup2, 1) := by decide +kernel
theorem d_S_show_67 : decode c_S_show 67 = .ok (.iaload, 1) := by decide +kernel
theorem d_S_show_68 : decode c_S_show 68 = .ok (.iconst 1, 1) := by decide +kernel
theorem d_S_show_69 : decode c_S_show 69 = .ok (.iload_n 2, 1) := by decide +kernel
theorem d_S_show_70 : decode c_S_show 70 = .ok (.ishl, 1) := by decide +kernel
theorem d_S_show_71 : decode c_S_show 71 = .ok (.ior, 1) := by decide +kernel
theorem d_S_show_72 : decode c_S_show 72 = .ok (.iastore, 1) := by decide +kernel
theorem d_S_show_73 : decode c_S_show 73 = .ok (.return_, 1) := by decide +kernel
theorem d_S_sees_0 : decode c_S_sees 0 = .ok (.aload_n 0, 1) := by decide +kernel
theorem d_S_sees_1 : decode c_S_sees 1 = .ok (.getfield 9, 3) := by decide +kernel
theorem d_S_sees_4 : decode c_S_sees 4 = .ok (.iload_n 1, 1) := by decide +kernel
theorem d_S_sees_5 : decode c_S_sees 5 = .ok (.bipush 12, 2) := by decide +kernel
theorem d_S_sees_7 : decode c_S_sees 7 = .ok (.imul, 1) := by decide +kernel
theorem d_S_sees_8 : decode c_S_sees 8 = .ok (.iload_n 2, 1) := by decide +kernel
theorem d_S_sees_9 : decode c_S_sees 9 = .ok (.iadd, 1) := by decide +kernel
theorem d_S_sees_10 : decode c_S_sees 10 = .ok (.iaload, 1) := by decide +kernel
theorem d_S_sees_11 : decode c_S_sees 11 = .ok (.iload_n 3, 1) := by decide +kernel
theorem d_S_sees_12 : decode c_S_sees 12 = .ok (.ishr, 1) := by decide +kernel
theorem d_S_sees_13 : decode c_S_sees 13 = .ok (.iconst 1, 1) := by decide +kernel
theorem d_S_sees_14 : decode c_S_sees 14 = .ok (.iand, 1) := by decide +kernel
theorem d_S_sees_15 : decode c_S_sees 15 = .ok (.ifCond .eq 7, 3) := by decide +kernel
theorem d_S_sees_18 : decode c_S_sees 18 = .ok (.iconst 1, 1) := by decide +kernel
theorem d_S_sees_19 : decode c_S_sees 19 = .ok (.goto 4, 3) := by decide +kernel
theorem d_S_sees_22 : decode c_S_sees 22 = .ok (.iconst 0, 1) := by decide +kernel
theorem d_S_sees_23 : decode c_S_sees 23 = .ok (.ireturn, 1) := by decide +kernel
end
section
-- contracts whose method may return or throw, the call of such a method, the throw, the way out
/-- an end, by either road: the tables warmer, nothing moved but the slots L and at most k new cells of n slots -/
def hxE (a t : State) (L : List Loc) (k n : Nat) : Prop := a.WarmedH t.vm ∧ a.sameButNew ({ t with vm := a.vm } : State) L k n
def MetX (l : Launch) (y : MethodName) (ws : List Cond) (rm : Room) (Pc : Array Value → State → Prop) (Qc : Array Value → State → Outcome → State → Prop) (mc ms : Nat) (free : Addr → Prop) : Prop :=
  MetFree l y (headSpec ws rm) Pc (fun _ _ _ _ _ => True) (fun a st o t => Qc a st o t ∧ ∃ L, hxE st t L mc ms ∧ ∀ q ∈ L, free q.base)
/-- what the walk of a body owes -/
def hxQ (below : List Frame) (Qc : Array Value → State → Outcome → State → Prop) (a : Array Value) (s : State) (mc ms : Nat) (free : Addr → Prop) : State → Prop := fun t =>
  ∃ o, t.status = .running ∧ Ended t below o ∧ Qc a s o t ∧ ∃ L, hxE s t L mc ms ∧ ∀ q ∈ L, free q.base
/-- where a call lands -/
def hxL (U : State) (g : JFrame) (len : Nat) (o : Outcome) : State := match o with
  | .returned v => U.setTop { g with pc := g.pc + len, stack := v.toList ++ g.stack }
  | .threw x => (U.setTop g).pushFrame (.throwing x)
section HX
variable {p : Program} {l : Launch} {e : Env} {R : Room} {s : State} {m : MethodId} {args : Array Value} {below : List Frame} {meth : Method} {c : Code} {H : Heap} {locs : List Loc} {cells slots : Nat} {Q : State → Prop}
/-- the walk, an exception x under way over the frame g -/
def WT (p : Program) (l : Launch) (e : Env) (R : Room) (s : State) (m : MethodId) (args : Array Value) (below : List Frame) (meth : Method) (c : Code) (H : Heap) (locs : List Loc) (cells slots : Nat) (Q : State → Prop) (x : Addr) (g : JFrame) : Prop :=
  ∀ T : State, T.heap = H → Stand p l e R s m args below meth c T locs cells slots → ∃ t, Steps p.tables e below ((T.setTop g).pushFrame (.throwing x)) t ∧ Q t
theorem W.mono {Q' : State → Prop} {g : JFrame} (h : ∀ t, Q t → Q' t) (k : W p l e R s m args below meth c H locs cells slots Q g) : W p l e R s m args below meth c H locs cells slots Q' g := by
  intro T hT X
  obtain ⟨t, a, b⟩ := k T hT X
  exact ⟨t, a, h t b⟩
theorem hxQ.of {Qc : Array Value → State → Outcome → State → Prop} {mc ms : Nat} {free : Addr → Prop} {t : State} (h : MQ below Qc args s mc ms free t) : hxQ below Qc args s mc ms free t := by
  obtain ⟨o, h1, h2, h3, L, ⟨-, h4, h5⟩, h6⟩ := h
  exact ⟨o, h1, h2, h3, L, ⟨h4, h5⟩, h6⟩
/-- a body's walk gives the contract -/
theorem MetX.ofW {y : MethodName} {ws ws' : List Cond} {rm : Room} {Pc : Array Value → State → Prop} {Qc : Array Value → State → Outcome → State → Prop} {mc ms : Nat} {free : Addr → Prop} {cc : ByteArray} {maxL : Nat} {ret : Option FieldType}
    (hy : plainName y.cls = true) (hw : ws = Cond.code y cc maxL ret :: ws')
    (body : ∀ p e s m args below meth c s₁, BodyLoose p l y (headSpec ws rm) cc maxL ret e s m args below meth c s₁ → c.maxLocals = maxL → Pc args s →
      W p l e (headSpec ws rm).room s m args below meth c s.heap [] 0 0 (hxQ below Qc args s mc ms free) (entryFrame m args maxL)) : MetX l y ws rm Pc Qc mc ms free := by
  refine MetFree.of_bodyS (code := cc) (maxLocals := maxL) (ret := ret) hy ?_ ?_
  · intro args s m h hn
    obtain ⟨meth, c, h1, h2, h3, h4, h5, h6, -, -⟩ := Cond.code_spec hn (atoms_spec (ws := ws) h _ (by rw [hw]; exact List.mem_cons_self))
    exact ⟨meth, c, h1, h2, h3, h4, h5, h6⟩
  · intro p e s m args below meth c s₁ B hml hP _
    have hh0 : s₁.heap = s.heap := by rw [B.state]; rfl
    obtain ⟨t, a1, o, b1, b2, b3⟩ := body p e s m args below meth c s₁ B hml hP s₁ hh0 (Stand.of_body B)
    exact ⟨t, o, a1, b1, b2, ⟨b3.1, b3.2⟩⟩
/-- the call itself: whatever the callee's end, the caller stands again -/
theorem hx_call {U : State} {y : MethodName} {ws : List Cond} {rm : Room} {Pc : Array Value → State → Prop} {Qc : Array Value → State → Outcome → State → Prop} {mc ms : Nat} {free : Addr → Prop}
    (hM : MetX l y ws rm Pc Qc mc ms free) (hrc : rm.cells = mc) (hrs : rm.slots = ms)
    (X : Stand p l e R s m args below meth c U locs cells slots) {g : JFrame} {ig : Instr} {len Wg maxL : Nat} {mk : MethodId} {a : Array Value}
    (hg : g.method = m) (hsize : g.locals.size = c.maxLocals) (hdg : decode c.code g.pc = .ok (ig, len)) (hW : 2 * g.monitorRoom + (g.stack.map fun v => v.category).sum ≤ Wg)
    (hn : U.methodNamed? y = some mk) (hlY : ∃ (methY : Method) (cY : Code), U.vm.method? mk = some methY ∧ methY.code = some cY ∧ cY.maxLocals = maxL)
    (hini : (Cond.initialized y.cls).before a U = true) (hws : ∀ w ∈ ws, w.before a U = true)
    (hframes : rm.frames + 1 ≤ R.frames) (hlocals : Wg + (maxL + 11) + rm.locals ≤ R.locals) (hcells : cells + mc ≤ R.cells) (hslots : slots + ms ≤ R.slots)
    (hP : Pc a (U.calling g mk a)) :
    ∃ (o : Outcome) (t : State) (L : List Loc), Qc a (U.calling g mk a) o t ∧ (∀ q ∈ L, free q.base) ∧
      Stand p l e R s m args below meth c (({ U with heap := t.heap, slotsUsed := t.slotsUsed } : State).setVm t.vm) (locs ++ L) (cells + mc) (slots + ms) ∧
      Steps p.tables e below (doInvoke e (U.setTop g) [] mk a).1 (hxL (({ U with heap := t.heap, slotsUsed := t.slotsUsed } : State).setVm t.vm) g len o) := by
  obtain ⟨methY, cY, hmY, hcY, hlY⟩ := hlY
  obtain ⟨kY, hkY, -⟩ := className_of_methodNamed hn
  have hinitY : kY.init = .initialized := Cond.initialized_spec (findClass_of_methodNamed hn) hkY hini
  have h : At U g.method c below := by rw [hg]; exact X.here
  have happ : (headSpec ws rm).appliesLoose y e.platform (U.calling g mk a) = true :=
    Spec.appliesLoose_calling (g := g) h hdg hn hkY hinitY
      (X.room_calling (g := g) (R' := (headSpec ws rm).room) hsize hmY hcY hframes (by rw [hlY]; exact Nat.le_trans (by have := hW; show _ + (maxL + 11) + rm.locals ≤ Wg + (maxL + 11) + rm.locals; omega) hlocals) (by rw [show (headSpec ws rm).room.cells = mc from hrc]; exact hcells) (by rw [show (headSpec ws rm).room.slots = ms from hrs]; exact hslots)) (atoms_intro hws)
  obtain ⟨mid, hmid⟩ := h.above
  have hfr : (U.setTop g).frames = (.java g :: mid) ++ below := by rw [State.frames_setTop' g h.top, hmid]; rfl
  obtain ⟨o, s₂, hsteps, -, hend, hq⟩ := Steps.callFree hM p X.admits X.cas X.clock (acts := []) hfr happ hP trivial
  rw [State.frames_setTop' g h.top] at hend
  have hq' : Qc a (U.calling g mk a) o s₂ ∧ ∃ L, hxE (U.calling g mk a) s₂ L mc ms ∧ ∀ q ∈ L, free q.base := hq
  obtain ⟨hq1, L, ⟨hW₂, e2, q2, q3, q4, q5, q6⟩, hL⟩ := hq'
  have e3 : s₂ = ({ (U.calling g mk a).setFrames s₂.frames with heap := s₂.heap, slotsUsed := s₂.slotsUsed } : State).setVm s₂.vm := by
    have : s₂ = ({ s₂ with vm := (U.calling g mk a).vm } : State).setVm s₂.vm := rfl
    rw [e2] at this
    exact this
  have hW' : U.WarmedH s₂.vm := hW₂
  obtain ⟨g₀, hg0⟩ := Option.isSome_iff_exists.mp h.top
  obtain ⟨r, hr⟩ := State.topJava?_eq_some.mp hg0
  have hr' : (({ U with heap := s₂.heap, slotsUsed := s₂.slotsUsed } : State).setVm s₂.vm).frames = .java g₀ :: r := hr
  have hs₂ : s₂ = hxL (({ U with heap := s₂.heap, slotsUsed := s₂.slotsUsed } : State).setVm s₂.vm) g len o := by
    cases o with
    | returned v =>
      obtain ⟨c₂, i₂, len₂, hc₂, hd₂, hf₂⟩ := hend
      have hcc : c₂ = c := by
        have h1 : s₂.code? g.method = U.code? g.method := by
          rw [State.code?_eq, State.code?_eq, hW'.alike.method?]
        exact Option.some.inj (hc₂.symm.trans (h1.trans h.code))
      subst hcc
      have hlen : len₂ = len := by rw [hdg] at hd₂; cases hd₂; rfl
      subst hlen
      refine e3.trans ?_
      show _ = State.setTop _ _
      rw [hf₂, State.calling_eq h.top, State.setFrames_setFrames, State.setTop_of_frames _ hr', hr]
      rfl
    | threw v =>
      have hf₂ : s₂.frames = .throwing v :: .java g :: U.frames.tail := hend
      refine e3.trans ?_
      show _ = State.pushFrame _ _
      rw [hf₂, State.calling_eq h.top, State.setFrames_setFrames, State.pushFrame, State.frames_setTop _ hr', State.setTop_of_frames _ hr', State.setFrames_setFrames, hr]
      rfl
  have hsame : U.sameButNew ({ U with heap := s₂.heap, slotsUsed := s₂.slotsUsed } : State) L mc ms := by
    refine ⟨?_, q2, q3, q4, q5, q6⟩
    obtain ⟨t, ht, -⟩ := State.frames_cons hr
    show ({ U with heap := s₂.heap, slotsUsed := s₂.slotsUsed } : State) = { U.setFrames U.frames with heap := s₂.heap, slotsUsed := s₂.slotsUsed }
    rw [State.setFrames_self ht]
  subst hg
  refine ⟨o, s₂, L, hq1, hL, ⟨X.admits, X.cas, X.clock, X.frames, X.room, X.hears, X.method, X.code, (X.here.setHeapUsed s₂.heap s₂.slotsUsed).setVm hW'.alike, X.tail, State.WarmedH.trans X.warmed hW', X.limits, X.bytes, X.same.trans (hsame.setVm s.vm)⟩, ?_⟩
  rw [← hs₂]
  exact hsteps
/-- out of the method, the exception with us -/
theorem hx_out {Qc : Array Value → State → Outcome → State → Prop} {free : Addr → Prop} {x : Addr} (hlocks : meth.locks = false) {pc : Nat} {ls : Array Slot} {st : List Value} (hout : ∀ y ∈ c.exceptionTable.toList, covers y pc = false)
    (hq : ∀ t : State, t.heap = H → s.WarmedH t.vm → Qc args s (.threw x) t) (hf : ∀ q ∈ locs, free q.base) : WT p l e R s m args below meth c H locs cells slots (hxQ below Qc args s cells slots free) x (F0 m pc ls st) := by
  intro T hT X
  obtain ⟨h1, h2, h3, h4, h5⟩ := X.leaveThrown x (g := F0 m pc ls st) rfl rfl rfl hout hlocks
  exact ⟨_, h1, .threw x, h2, h3, hq _ hT h4, locs, ⟨h4, h5⟩, hf⟩
/-- the call in the walk: both roads -/
theorem hx_W {pc : Nat} {ls : Array Slot} {st0 rest : List Value} {y : MethodName} {ws : List Cond} {rm : Room} {Pc : Array Value → State → Prop} {Qc : Array Value → State → Outcome → State → Prop} {mc ms : Nat} {free : Addr → Prop} {ig : Instr} {maxL : Nat} {a : Array Value}
    (hM : MetX l y ws rm Pc Qc mc ms free) (hrc : rm.cells = mc) (hrs : rm.slots = ms)
    (inv : ∀ T : State, T.heap = H → Stand p l e R s m args below meth c T locs cells slots → ∃ (vm₁ : Vm) (mk : MethodId), Stand p l e R s m args below meth c (T.setVm vm₁) locs cells slots ∧ (T.setVm vm₁).methodNamed? y = some mk ∧
      ∀ target, Steps p.tables e below (doInvoke e ((T.setVm vm₁).setTop (F0 m pc ls rest)) [] mk a).1 target → Steps p.tables e below (T.setTop (F0 m pc ls st0)) target)
    (hsize : ls.size = c.maxLocals) (hdg : decode c.code pc = .ok (ig, 3)) (hW : (rest.map fun v => v.category).sum ≤ 8)
    (hlY : ∀ (U : State) (mk : MethodId), s.WarmedH U.vm → U.methodNamed? y = some mk → ∃ (methY : Method) (cY : Code), U.vm.method? mk = some methY ∧ methY.code = some cY ∧ cY.maxLocals = maxL)
    (hini : ∀ U : State, s.WarmedH U.vm → (Cond.initialized y.cls).before a U = true) (hws : ∀ w ∈ ws, ∀ U : State, s.WarmedH U.vm → w.before a U = true)
    (hframes : rm.frames + 1 ≤ R.frames) (hlocals : 8 + (maxL + 11) + rm.locals ≤ R.locals) (hcells : cells + mc ≤ R.cells) (hslots : slots + ms ≤ R.slots)
    (hP : ∀ U : State, U.heap = H → s.WarmedH U.vm → Pc a U)
    (kr : ∀ (v : Option Value) (u t : State) (L : List Loc), u.heap = H → s.WarmedH u.vm → Qc a u (.returned v) t → (∀ q ∈ L, free q.base) → s.WarmedH t.vm → W p l e R s m args below meth c t.heap (locs ++ L) (cells + mc) (slots + ms) Q (F0 m (pc + 3) ls (v.toList ++ rest)))
    (kt : ∀ (x : Addr) (u t : State) (L : List Loc), u.heap = H → s.WarmedH u.vm → Qc a u (.threw x) t → (∀ q ∈ L, free q.base) → s.WarmedH t.vm → WT p l e R s m args below meth c t.heap (locs ++ L) (cells + mc) (slots + ms) Q x (F0 m pc ls rest)) :
    W p l e R s m args below meth c H locs cells slots Q (F0 m pc ls st0) := by
  intro T hT X
  obtain ⟨vm₁, mk, X₁, hn, st⟩ := inv T hT X
  have hW₁ : s.WarmedH (T.setVm vm₁).vm := X₁.warmed
  obtain ⟨o, t, L, hq, hL, X₂, st₂⟩ := hx_call hM hrc hrs X₁ (g := F0 m pc ls rest) (Wg := 8) (a := a) rfl hsize hdg (by show 2 * 0 + (rest.map fun v => v.category).sum ≤ 8; omega) hn (hlY _ _ hW₁ hn) (hini _ hW₁) (fun w hw => hws w hw _ hW₁) hframes hlocals hcells hslots (hP _ hT hW₁)
  have hWt : s.WarmedH t.vm := X₂.warmed
  cases o with
  | returned v =>
    obtain ⟨t2, a1, b1⟩ := kr v ((T.setVm vm₁).calling (F0 m pc ls rest) mk a) t L hT hW₁ hq hL hWt (({ T.setVm vm₁ with heap := t.heap, slotsUsed := t.slotsUsed } : State).setVm t.vm) rfl X₂
    exact ⟨t2, st _ (st₂.trans a1), b1⟩
  | threw x =>
    obtain ⟨t2, a1, b1⟩ := kt x ((T.setVm vm₁).calling (F0 m pc ls rest) mk a) t L hT hW₁ hq hL hWt (({ T.setVm vm₁ with heap := t.heap, slotsUsed := t.slotsUsed } : State).setVm t.vm) rfl X₂
    exact ⟨t2, st _ (st₂.trans a1), b1⟩
end HX
section HXI
variable {p : Program} {l : Launch} {e : Env} {R : Room} {s : State} {m : MethodId} {args : Array Value} {below : List Frame} {meth : Method} {c : Code} {T : State} {locs : List Loc} {cells slots : Nat}
variable {own C host : String} {index : Nat} {y : MethodName}
/-- a virtual call's first half, for a method of the receiver's own class -/
theorem hx_invV (X : Stand p l e R s m args below meth c T locs cells slots) (hexec : p.tables.exec = Jvm.exec)
    (hown : s.vm.findClass own = some m.cls) (hlink : (Cond.methodLink own index y).before args s = true) (hinst : (Cond.instanceMethod y).before args s = true) (hsel : (Cond.selects C y y).before args s = true)
    (hsig : ∀ mk methM, s.methodNamed? y = some mk → s.vm.method? mk = some methM → parseMethodDescriptor y.desc = some methM.sig) (hy : y.cls ≠ "java/lang/invoke/MethodHandle" ∧ y.cls ≠ "java/lang/invoke/VarHandle")
    {b : Addr} {cellB : Cell} (hcell : T.heap[b]? = some cellB) (hobj : cellB.vm.isStatics = false) (hcls : s.vm.findClass C = some cellB.cls)
    {g : JFrame} (hg : g.method = m) {argsL rest : List Value} (hlen : ∀ sig, parseMethodDescriptor y.desc = some sig → argsL.length = sig.parameters.length)
    (hstack : g.stack = argsL.reverse ++ .ref b :: rest) (hdg : decode c.code g.pc = .ok (.invokevirtual index, 3)) :
    ∃ (vm₁ : Vm) (mk : MethodId), Stand p l e R s m args below meth c (T.setVm vm₁) locs cells slots ∧ (T.setVm vm₁).methodNamed? y = some mk ∧
      ∀ target, Steps p.tables e below (doInvoke e ((T.setVm vm₁).setTop { g with stack := rest }) [] mk (Value.ref b :: argsL).toArray).1 target → Steps p.tables e below (T.setTop g) target := by
  obtain ⟨mk, methM, hnamed, hmethM, hstM, habM⟩ := Cond.instanceMethod_spec hinst
  have hsigM := hsig mk methM hnamed hmethM
  obtain ⟨c2, r2, m2, q1, q2, q3, q4, kP, hkP, hkPi⟩ := Cond.selects_spec hsel
  cases hcls.symm.trans q1
  cases (State.methodFound?_of_named hnamed hy).symm.trans q2
  cases hnamed.symm.trans q3
  have hselP : selectMethod e.platform s.vm cellB.cls mk = .method mk := by rw [Launch.admits_selectMethod X.admits]; exact q4
  obtain ⟨vm₁, X₁, hstep₁⟩ := X.invokevirtual hexec hown hlink hnamed hmethM hstM hkP hkPi hy (a := b) (cell := cellB) hcell
    (fun z h => by rw [h] at hobj; cases hobj) hselP hmethM habM hkP hkPi (g := g) hg (argsL := argsL) (rest := rest) (hlen _ hsigM) hstack hdg
  exact ⟨vm₁, mk, X₁, X₁.named hnamed, fun target h => hstep₁ _ fun acts => by rw [doInvoke_state]; exact h⟩
/-- the same, the method private in a nest mate -/
theorem hx_invVN (X : Stand p l e R s m args below meth c T locs cells slots) (hexec : p.tables.exec = Jvm.exec)
    (hown : s.vm.findClass own = some m.cls) (hlink : (Cond.methodLinkNest own index y host).before args s = true) (hinst : (Cond.instanceMethod y).before args s = true) (hsel : (Cond.selects C y y).before args s = true)
    (hsig : ∀ mk methM, s.methodNamed? y = some mk → s.vm.method? mk = some methM → parseMethodDescriptor y.desc = some methM.sig) (hy : y.cls ≠ "java/lang/invoke/MethodHandle" ∧ y.cls ≠ "java/lang/invoke/VarHandle")
    {b : Addr} {cellB : Cell} (hcell : T.heap[b]? = some cellB) (hobj : cellB.vm.isStatics = false) (hcls : s.vm.findClass C = some cellB.cls)
    {g : JFrame} (hg : g.method = m) {argsL rest : List Value} (hlen : ∀ sig, parseMethodDescriptor y.desc = some sig → argsL.length = sig.parameters.length)
    (hstack : g.stack = argsL.reverse ++ .ref b :: rest) (hdg : decode c.code g.pc = .ok (.invokevirtual index, 3)) :
    ∃ (vm₁ : Vm) (mk : MethodId), Stand p l e R s m args below meth c (T.setVm vm₁) locs cells slots ∧ (T.setVm vm₁).methodNamed? y = some mk ∧
      ∀ target, Steps p.tables e below (doInvoke e ((T.setVm vm₁).setTop { g with stack := rest }) [] mk (Value.ref b :: argsL).toArray).1 target → Steps p.tables e below (T.setTop g) target := by
  obtain ⟨mk, methM, hnamed, hmethM, hstM, habM⟩ := Cond.instanceMethod_spec hinst
  have hsigM := hsig mk methM hnamed hmethM
  obtain ⟨c2, r2, m2, q1, q2, q3, q4, kP, hkP, hkPi⟩ := Cond.selects_spec hsel
  cases hcls.symm.trans q1
  cases (State.methodFound?_of_named hnamed hy).symm.trans q2
  cases hnamed.symm.trans q3
  have hselP : selectMethod e.platform s.vm cellB.cls mk = .method mk := by rw [Launch.admits_selectMethod X.admits]; exact q4
  obtain ⟨vm₁, X₁, hstep₁⟩ := X.invokevirtualNest hexec hown hlink hnamed hmethM hstM hkP hkPi hy (a := b) (cell := cellB) hcell
    (fun z h => by rw [h] at hobj; cases hobj) hselP hmethM habM hkP hkPi (g := g) hg (argsL := argsL) (rest := rest) (hlen _ hsigM) hstack hdg
  exact ⟨vm₁, mk, X₁, X₁.named hnamed, fun target h => hstep₁ _ fun acts => by rw [doInvoke_state]; exact h⟩
/-- a static call's first half -/
theorem hx_invS (X : Stand p l e R s m args below meth c T locs cells slots) (hexec : p.tables.exec = Jvm.exec)
    (hown : s.vm.findClass own = some m.cls) (hlink : (Cond.methodLink own index y).before args s = true) (hstat : (Cond.static y).before args s = true) (hinit : (Cond.initialized y.cls).before args s = true)
    {mk : MethodId} {methM : Method} (hnamed : s.methodNamed? y = some mk) (hmethM : s.vm.method? mk = some methM) (hsigM : parseMethodDescriptor y.desc = some methM.sig) (hy : y.cls ≠ "java/lang/invoke/MethodHandle" ∧ y.cls ≠ "java/lang/invoke/VarHandle")
    {g : JFrame} (hg : g.method = m) {argsL rest : List Value} (hlen : ∀ sig, parseMethodDescriptor y.desc = some sig → argsL.length = sig.parameters.length)
    (hstack : g.stack = argsL.reverse ++ rest) (hdg : decode c.code g.pc = .ok (.invokestatic index, 3)) :
    ∃ (vm₁ : Vm) (mk : MethodId), Stand p l e R s m args below meth c (T.setVm vm₁) locs cells slots ∧ (T.setVm vm₁).methodNamed? y = some mk ∧
      ∀ target, Steps p.tables e below (doInvoke e ((T.setVm vm₁).setTop { g with stack := rest }) [] mk argsL.toArray).1 target → Steps p.tables e below (T.setTop g) target := by
  have hstatic : methM.isStatic = true := Cond.static_spec hnamed hmethM hstat
  obtain ⟨kP, hkP, -⟩ := className_of_methodNamed hnamed
  have hinitP : kP.init = .initialized := Cond.initialized_spec (findClass_of_methodNamed hnamed) hkP hinit
  obtain ⟨vm₁, X₁, hstep₁⟩ := X.invokestatic hexec hown hlink hnamed hmethM hstatic hkP hinitP hy (g := g) hg (argsL := argsL) (rest := rest) (hlen _ hsigM) hstack hdg
  exact ⟨vm₁, mk, X₁, X₁.named hnamed, fun target h => hstep₁ _ fun acts => by rw [doInvoke_state]; exact h⟩
/-- the same, the method private in a nest mate -/
theorem hx_invSN (X : Stand p l e R s m args below meth c T locs cells slots) (hexec : p.tables.exec = Jvm.exec)
    (hown : s.vm.findClass own = some m.cls) (hlink : (Cond.methodLinkNest own index y host).before args s = true) (hstat : (Cond.static y).before args s = true) (hinit : (Cond.initialized y.cls).before args s = true)
    {mk : MethodId} {methM : Method} (hnamed : s.methodNamed? y = some mk) (hmethM : s.vm.method? mk = some methM) (hsigM : parseMethodDescriptor y.desc = some methM.sig) (hy : y.cls ≠ "java/lang/invoke/MethodHandle" ∧ y.cls ≠ "java/lang/invoke/VarHandle")
    {g : JFrame} (hg : g.method = m) {argsL rest : List Value} (hlen : ∀ sig, parseMethodDescriptor y.desc = some sig → argsL.length = sig.parameters.length)
    (hstack : g.stack = argsL.reverse ++ rest) (hdg : decode c.code g.pc = .ok (.invokestatic index, 3)) :
    ∃ (vm₁ : Vm) (mk : MethodId), Stand p l e R s m args below meth c (T.setVm vm₁) locs cells slots ∧ (T.setVm vm₁).methodNamed? y = some mk ∧
      ∀ target, Steps p.tables e below (doInvoke e ((T.setVm vm₁).setTop { g with stack := rest }) [] mk argsL.toArray).1 target → Steps p.tables e below (T.setTop g) target := by
  have hstatic : methM.isStatic = true := Cond.static_spec hnamed hmethM hstat
  obtain ⟨kP, hkP, -⟩ := className_of_methodNamed hnamed
  have hinitP : kP.init = .initialized := Cond.initialized_spec (findClass_of_methodNamed hnamed) hkP hinit
  obtain ⟨vm₁, X₁, hstep₁⟩ := X.invokestaticNest hexec hown hlink hnamed hmethM hstatic hkP hinitP hy (g := g) hg (argsL := argsL) (rest := rest) (hlen _ hsigM) hstack hdg
  exact ⟨vm₁, mk, X₁, X₁.named hnamed, fun target h => hstep₁ _ fun acts => by rw [doInvoke_state]; exact h⟩
end HXI
end
section
/-- words that stay true however warm the tables get -/
def jW (Ts : List Cond) (U : State) : Prop := ∀ w ∈ Ts, ∀ (a' : Array Value) (U' : State), U.WarmedH U'.vm → w.before a' U' = true
/-- the two statics of Throwable that an exception's making reads, outside the cells A -/
def jL (C n d : String) (A : Nat → Prop) (U : State) (H : Heap) : Prop := ∃ (c : ClassId) (k : Class) (i : Nat) (f : Field) (a : Nat) (cell : Cell), U.vm.findClass C = some c ∧ U.fieldFound? C n d = some (c, k, i, f) ∧ f.isStatic = true ∧ k.statics = some a ∧ H[a]? = some cell ∧ cell.vm.isStatics = true ∧ cell.cls = c ∧ f.slot < cell.slots.size ∧ k.staticTypes[f.slot]? = some f.type ∧ ¬ A a
theorem jL.go {C n d : String} {A B : Nat → Prop} {u U : State} {H H1 : Heap} (h : jL C n d A u H) (hvm : u.vm.Alike U.vm) (hq : ∀ a : Nat, a < H.size → ¬ A a → H1[a]? = H[a]?) (hAB : ∀ q, B q → A q) : jL C n d B U H1 := by
  obtain ⟨c, k, i, f, a, cell, h1, h2, h3, h4, h5, h6, h7, h8, h9, h10⟩ := h
  obtain ⟨k', hi', he⟩ := State.fieldFound?_setVm hvm h2
  exact ⟨c, k', i, f, a, cell, by rw [hvm.findClass]; exact h1, hi', h3, by rw [he]; exact h4, by rw [hq a (Array.getElem?_eq_some_iff.mp h5).1 h10]; exact h5, h6, h7, h8, by rw [he]; exact h9, fun z => h10 (hAB _ z)⟩
theorem jL.word {C n d : String} {A : Nat → Prop} {s : State} {args : Array Value} (h : jL C n d A s s.heap) : (Cond.laysStatic C n d).before args s = true := by
  obtain ⟨c, k, i, f, a, cell, h1, h2, h3, h4, h5, h6, h7, h8, h9, -⟩ := h
  show (Cond.laysStatic C n d).holds args s none s [] = true
  exact Cond.laysStatic_of h1 h2 h3 h4 h5 h6 h7 h8 h9
def jZ1 (C n d : String) (A : Nat → Prop) (U : State) (H : Heap) : Prop := va_Zq C n d A U H ∧ jL C n d A U H
theorem jZ1.go {C n d : String} {A B : Nat → Prop} {u U : State} {H H1 : Heap} (h : jZ1 C n d A u H) (hvm : u.vm.Alike U.vm) (hq : ∀ a : Nat, a < H.size → ¬ A a → H1[a]? = H[a]?) (hAB : ∀ q, B q → A q) : jZ1 C n d B U H1 :=
  ⟨((h.1.moved hvm).kept hq).narrow hAB, h.2.go hvm hq hAB⟩
def jZ (A : Nat → Prop) (U : State) (H : Heap) : Prop := jZ1 Bundle.tN "UNASSIGNED_STACK" Bundle.steD A U H ∧ jZ1 Bundle.tN "SUPPRESSED_SENTINEL" Bundle.listD A U H
section JL
variable {p : Program} {l : Launch} {e : Env} {R : Room} {s : State} {m : MethodId} {args : Array Value} {below : List Frame} {meth : Method} {c : Code} {Q : State → Prop} {cells slots : Nat}
variable {cc : ByteArray} {nL : Nat} {own : String} {Ts : List Cond} {D : va_G} {cl : List vw_C} {tys : List (ClassId × FieldType)} {A : Nat → Prop}
variable {pc : Nat} {lv : List (Nat × Value)} {st : List Value} {ws : va_W}
/-- what stays as it is along the walk of a method -/
def jC (p : Program) (s : State) (m : MethodId) (args : Array Value) (meth : Method) (c : Code) (cc : ByteArray) (nL : Nat) (own : String) (Ts : List Cond) (D : va_G) (cl : List vw_C) (tys : List (ClassId × FieldType)) (A : Nat → Prop) : Prop :=
  p.tables.exec = Jvm.exec ∧ c.code = cc ∧ c.maxLocals = nL ∧ s.vm.findClass own = some m.cls ∧ (∀ w ∈ Ts, w.before args s = true) ∧ va_K D cl tys s ∧ (∀ q, s.heap.size ≤ q → A q) ∧ jW Ts s ∧ jZ A s s.heap ∧ meth.locks = false
/-- the walk, in words of cells, locals, stack and place -/
def jJ (p : Program) (l : Launch) (e : Env) (R : Room) (s : State) (m : MethodId) (args : Array Value) (below : List Frame) (meth : Method) (c : Code) (nL : Nat) (D : va_G) (cl : List vw_C) (A : Nat → Prop) (Q : State → Prop) (cells slots : Nat) (ws : va_W) (lv : List (Nat × Value)) (st : List Value) (pc : Nat) : Prop :=
  ∀ (H : Heap) (locs : List Loc) (ls : Array Slot), va_P D cl ws H → va_D A ws → va_S A s.heap H locs → lv_has ls nL lv → W p l e R s m args below meth c H locs cells slots Q (F0 m pc ls st)
/-- a local takes a value: its row in the list is changed where it stands, or comes at the end -/
def jput : List (Nat × Value) → Nat → Value → List (Nat × Value)
  | [], i, v => [(i, v)]
  | q :: t, i, v => if q.1 = i then (i, v) :: t else q :: jput t i v
theorem jput_in {i : Nat} {v : Value} : ∀ {lv : List (Nat × Value)} {q : Nat × Value}, q ∈ jput lv i v → q = (i, v) ∨ (q ∈ lv ∧ (q.1 ≠ i ∨ ∃ w, (i, w) ∈ lv)) := by
  intro lv
  induction lv with
  | nil => intro q h; exact Or.inl (List.mem_singleton.mp h)
  | cons x t ih =>
    intro q h
    unfold jput at h
    by_cases hx : x.1 = i
    · rw [if_pos hx] at h
      rcases List.mem_cons.mp h with h | h
      · exact Or.inl h
      · exact Or.inr ⟨List.mem_cons_of_mem _ h, Or.inr ⟨x.2, by rw [← hx]; exact List.mem_cons_self⟩⟩
    · rw [if_neg hx] at h
      rcases List.mem_cons.mp h with h | h
      · subst h; exact Or.inr ⟨List.mem_cons_self, Or.inl hx⟩
      · rcases ih h with h | ⟨h1, h2⟩
        · exact Or.inl h
        · refine Or.inr ⟨List.mem_cons_of_mem _ h1, ?_⟩
          rcases h2 with h2 | ⟨w, h2⟩
          · exact Or.inl h2
          · exact Or.inr ⟨w, List.mem_cons_of_mem _ h2⟩
/-- every key once, every value of one word -/
def jok : List (Nat × Value) → Bool
  | [] => true
  | q :: t => q.2.category == 1 && t.all (fun z => !(z.1 == q.1)) && jok t
theorem jput_sub {i : Nat} {v : Value} : ∀ {lv : List (Nat × Value)}, jok lv = true → ∀ q ∈ jput lv i v, q ∈ ((i, v) :: lv.filter (fun q => !(q.1 == i) && !(q.1 + 1 == i && q.2.category == 2))) := by
  intro lv
  induction lv with
  | nil => intro _ q h; simpa [jput] using h
  | cons x t ih =>
    intro hok q h
    unfold jok at hok
    simp only [Bool.and_eq_true] at hok
    obtain ⟨⟨h1, h2⟩, h3⟩ := hok
    have hx1 : x.2.category = 1 := by simpa using h1
    unfold jput at h
    by_cases hx : x.1 = i
    · rw [if_pos hx] at h
      rcases List.mem_cons.mp h with h | h
      · subst h; exact List.mem_cons_self
      · have hq : q.1 ≠ i := by
          have := List.all_eq_true.mp h2 q h
          rw [← hx]; simpa using this
        have := ih h3 q
        refine List.mem_cons_of_mem _ (List.mem_filter.mpr ⟨List.mem_cons_of_mem _ h, ?_⟩)
        have hcat : q.2.category = 1 := by
          have hall : ∀ {l : List (Nat × Value)}, jok l = true → ∀ z ∈ l, z.2.category = 1 := by
            intro l
            induction l with
            | nil => intro _ z hz; cases hz
            | cons y r ihr =>
              intro hy z hz
              unfold jok at hy
              simp only [Bool.and_eq_true] at hy
              rcases List.mem_cons.mp hz with hz | hz
              · subst hz; simpa using hy.1.1
              · exact ihr hy.2 z hz
          exact hall h3 q h
        simp [hq, hcat]
    · rw [if_neg hx] at h
      rcases List.mem_cons.mp h with h | h
      · subst h
        refine List.mem_cons_of_mem _ (List.mem_filter.mpr ⟨List.mem_cons_self, ?_⟩)
        simp [hx, hx1]
      · rcases List.mem_cons.mp (ih h3 q h) with h | h
        · exact List.mem_cons.mpr (Or.inl h)
        · obtain ⟨h4, h5⟩ := List.mem_filter.mp h
          exact List.mem_cons_of_mem _ (List.mem_filter.mpr ⟨List.mem_cons_of_mem _ h4, h5⟩)
theorem jhas_put {ls : Array Slot} {i : Nat} {v : Value} (hok : jok lv = true) (h : lv_has ls nL ((i, v) :: lv.filter (fun q => !(q.1 == i) && !(q.1 + 1 == i && q.2.category == 2)))) {lv' : List (Nat × Value)} (e : jput lv i v = lv') : lv_has ls nL lv' := by
  subst e
  exact ⟨h.1, h.2.1, fun q hq => h.2.2 q (jput_sub hok q hq)⟩
/-- fewer locals, in any order -/
theorem j_locals {lv' : List (Nat × Value)} (ks : List Nat) (hl : lv_pick lv ks = lv') (k : jJ p l e R s m args below meth c nL D cl A Q cells slots ws (lv') (st) (pc)) : jJ p l e R s m args below meth c nL D cl A Q cells slots ws (lv) (st) (pc) :=
  fun H locs ls hP hD hS h => k H locs ls hP hD hS (lv_sub h ks hl)
theorem j_widen {cells' slots' : Nat} (h1 : cells ≤ cells') (h2 : slots ≤ slots') (k : jJ p l e R s m args below meth c nL D cl A Q cells' slots' ws lv st pc) : jJ p l e R s m args below meth c nL D cl A Q cells slots ws (lv) (st) (pc) :=
  fun H locs ls hP hD hS hl => W.widen h1 h2 (k H locs ls hP hD hS hl)
theorem j_ws {ws' : va_W} (h : ws = ws') (k : jJ p l e R s m args below meth c nL D cl A Q cells slots ws' (lv) (st) (pc)) : jJ p l e R s m args below meth c nL D cl A Q cells slots ws (lv) (st) (pc) := by subst h; exact k
theorem j_st {st' : List Value} (h : st = st') (k : jJ p l e R s m args below meth c nL D cl A Q cells slots ws (lv) (st') (pc)) : jJ p l e R s m args below meth c nL D cl A Q cells slots ws (lv) (st) (pc) := by subst h; exact k

theorem j_iconst (hC : jC p s m args meth c cc nL own Ts D cl tys A) {n : Int} {v : Int32} (hd : decode cc pc = .ok (.iconst n, 1)) (hv : Int32.ofInt n = v) (k : jJ p l e R s m args below meth c nL D cl A Q cells slots ws (lv) (.int v :: st) (pc + 1)) : jJ p l e R s m args below meth c nL D cl A Q cells slots ws (lv) (st) (pc) :=
  fun H locs ls hP hD hS hl => lv_iconst hC.1 hC.2.1 hd hv (k H locs ls hP hD hS hl)
theorem j_bipush (hC : jC p s m args meth c cc nL own Ts D cl tys A) {n : Int} {v : Int32} (hd : decode cc pc = .ok (.bipush n, 2)) (hv : (Int8.ofInt n).toInt32 = v) (k : jJ p l e R s m args below meth c nL D cl A Q cells slots ws (lv) (.int v :: st) (pc + 2)) : jJ p l e R s m args below meth c nL D cl A Q cells slots ws (lv) (st) (pc) :=
  fun H locs ls hP hD hS hl => lv_bipush hC.1 hC.2.1 hd hv (k H locs ls hP hD hS hl)
theorem j_sipush (hC : jC p s m args meth c cc nL own Ts D cl tys A) {n : Int} {v : Int32} (hd : decode cc pc = .ok (.sipush n, 3)) (hv : (Int16.ofInt n).toInt32 = v) (k : jJ p l e R s m args below meth c nL D cl A Q cells slots ws (lv) (.int v :: st) (pc + 3)) : jJ p l e R s m args below meth c nL D cl A Q cells slots ws (lv) (st) (pc) :=
  fun H locs ls hP hD hS hl => lv_sipush hC.1 hC.2.1 hd hv (k H locs ls hP hD hS hl)
theorem j_iload_n (hC : jC p s m args meth c cc nL own Ts D cl tys A) {k : Fin 4} {i : Nat} {x : Int32} (hd : decode cc pc = .ok (.iload_n k, 1)) (hi : (k : Nat) = i) (q : Nat) (hq : lv[q]? = some (i, .int x)) (k : jJ p l e R s m args below meth c nL D cl A Q cells slots ws (lv) (.int x :: st) (pc + 1)) : jJ p l e R s m args below meth c nL D cl A Q cells slots ws (lv) (st) (pc) :=
  fun H locs ls hP hD hS hl => lv_iload_n hC.1 hC.2.1 hd hi (lv_at hl q hq) (k H locs ls hP hD hS hl)
theorem j_iload (hC : jC p s m args meth c cc nL own Ts D cl tys A) {i : Nat} {x : Int32} (hd : decode cc pc = .ok (.iload i, 2)) (q : Nat) (hq : lv[q]? = some (i, .int x)) (k : jJ p l e R s m args below meth c nL D cl A Q cells slots ws (lv) (.int x :: st) (pc + 2)) : jJ p l e R s m args below meth c nL D cl A Q cells slots ws (lv) (st) (pc) :=
  fun H locs ls hP hD hS hl => lv_iload hC.1 hC.2.1 hd (lv_at hl q hq) (k H locs ls hP hD hS hl)
theorem j_istore_n (hC : jC p s m args meth c cc nL own Ts D cl tys A) {k : Fin 4} {i : Nat} {x : Int32} {lv' : List (Nat × Value)} (hd : decode cc pc = .ok (.istore_n k, 1)) (hi : (k : Nat) = i) (hn : i < nL) (hok : jok lv = true) (hp : jput lv i (.int x) = lv') (k : jJ p l e R s m args below meth c nL D cl A Q cells slots ws (lv') (st) (pc + 1)) : jJ p l e R s m args below meth c nL D cl A Q cells slots ws (lv) (.int x :: st) (pc) :=
  fun H locs ls hP hD hS hl => lv_istore_n hC.1 hC.2.1 hd hi hl hn rfl (fun ls' hl' => k H locs ls' hP hD hS (jhas_put hok hl' hp))
theorem j_istore (hC : jC p s m args meth c cc nL own Ts D cl tys A) {i : Nat} {x : Int32} {lv' : List (Nat × Value)} (hd : decode cc pc = .ok (.istore i, 2))  (hn : i < nL) (hok : jok lv = true) (hp : jput lv i (.int x) = lv') (k : jJ p l e R s m args below meth c nL D cl A Q cells slots ws (lv') (st) (pc + 2)) : jJ p l e R s m args below meth c nL D cl A Q cells slots ws (lv) (.int x :: st) (pc) :=
  fun H locs ls hP hD hS hl => lv_istore hC.1 hC.2.1 hd  hl hn rfl (fun ls' hl' => k H locs ls' hP hD hS (jhas_put hok hl' hp))
theorem j_aload_n (hC : jC p s m args meth c cc nL own Ts D cl tys A) {k : Fin 4} {i : Nat} {x : Nat} (hd : decode cc pc = .ok (.aload_n k, 1)) (hi : (k : Nat) = i) (q : Nat) (hq : lv[q]? = some (i, .ref x)) (k : jJ p l e R s m args below meth c nL D cl A Q cells slots ws (lv) (.ref x :: st) (pc + 1)) : jJ p l e R s m args below meth c nL D cl A Q cells slots ws (lv) (st) (pc) :=
  fun H locs ls hP hD hS hl => lv_aload_n hC.1 hC.2.1 hd hi (lv_at hl q hq) (k H locs ls hP hD hS hl)
theorem j_aload (hC : jC p s m args meth c cc nL own Ts D cl tys A) {i : Nat} {x : Nat} (hd : decode cc pc = .ok (.aload i, 2)) (q : Nat) (hq : lv[q]? = some (i, .ref x)) (k : jJ p l e R s m args below meth c nL D cl A Q cells slots ws (lv) (.ref x :: st) (pc + 2)) : jJ p l e R s m args below meth c nL D cl A Q cells slots ws (lv) (st) (pc) :=
  fun H locs ls hP hD hS hl => lv_aload hC.1 hC.2.1 hd (lv_at hl q hq) (k H locs ls hP hD hS hl)
theorem j_astore_n (hC : jC p s m args meth c cc nL own Ts D cl tys A) {k : Fin 4} {i : Nat} {x : Nat} {lv' : List (Nat × Value)} (hd : decode cc pc = .ok (.astore_n k, 1)) (hi : (k : Nat) = i) (hn : i < nL) (hok : jok lv = true) (hp : jput lv i (.ref x) = lv') (k : jJ p l e R s m args below meth c nL D cl A Q cells slots ws (lv') (st) (pc + 1)) : jJ p l e R s m args below meth c nL D cl A Q cells slots ws (lv) (.ref x :: st) (pc) :=
  fun H locs ls hP hD hS hl => lv_astore_n hC.1 hC.2.1 hd hi hl hn rfl (fun ls' hl' => k H locs ls' hP hD hS (jhas_put hok hl' hp))
theorem j_astore (hC : jC p s m args meth c cc nL own Ts D cl tys A) {i : Nat} {x : Nat} {lv' : List (Nat × Value)} (hd : decode cc pc = .ok (.astore i, 2))  (hn : i < nL) (hok : jok lv = true) (hp : jput lv i (.ref x) = lv') (k : jJ p l e R s m args below meth c nL D cl A Q cells slots ws (lv') (st) (pc + 2)) : jJ p l e R s m args below meth c nL D cl A Q cells slots ws (lv) (.ref x :: st) (pc) :=
  fun H locs ls hP hD hS hl => lv_astore hC.1 hC.2.1 hd  hl hn rfl (fun ls' hl' => k H locs ls' hP hD hS (jhas_put hok hl' hp))
theorem j_iinc (hC : jC p s m args meth c cc nL own Ts D cl tys A) {i : Nat} {n : Int} {x v : Int32} {lv' : List (Nat × Value)} (hd : decode cc pc = .ok (.iinc i n, 3)) (q : Nat) (hq : lv[q]? = some (i, .int x)) (hv : x + Int32.ofInt n = v) (hn : i < nL) (hok : jok lv = true) (hp : jput lv i (.int v) = lv') (k : jJ p l e R s m args below meth c nL D cl A Q cells slots ws (lv') (st) (pc + 3)) : jJ p l e R s m args below meth c nL D cl A Q cells slots ws (lv) (st) (pc) :=
  fun H locs ls hP hD hS hl => lv_iinc hC.1 hC.2.1 hd hl hq hv hn rfl (fun ls' hl' => k H locs ls' hP hD hS (jhas_put hok hl' hp))
theorem j_iadd (hC : jC p s m args meth c cc nL own Ts D cl tys A) {x y : Int32} (hd : decode cc pc = .ok (.iadd, 1)) (k : jJ p l e R s m args below meth c nL D cl A Q cells slots ws (lv) (.int (x + y) :: st) (pc + 1)) : jJ p l e R s m args below meth c nL D cl A Q cells slots ws (lv) (.int y :: .int x :: st) (pc) :=
  fun H locs ls hP hD hS hl => lv_iadd hC.1 hC.2.1 hd (k H locs ls hP hD hS hl)
theorem j_isub (hC : jC p s m args meth c cc nL own Ts D cl tys A) {x y : Int32} (hd : decode cc pc = .ok (.isub, 1)) (k : jJ p l e R s m args below meth c nL D cl A Q cells slots ws (lv) (.int (x - y) :: st) (pc + 1)) : jJ p l e R s m args below meth c nL D cl A Q cells slots ws (lv) (.int y :: .int x :: st) (pc) :=
  fun H locs ls hP hD hS hl => lv_isub hC.1 hC.2.1 hd (k H locs ls hP hD hS hl)
theorem j_imul (hC : jC p s m args meth c cc nL own Ts D cl tys A) {x y : Int32} (hd : decode cc pc = .ok (.imul, 1)) (k : jJ p l e R s m args below meth c nL D cl A Q cells slots ws (lv) (.int (x * y) :: st) (pc + 1)) : jJ p l e R s m args below meth c nL D cl A Q cells slots ws (lv) (.int y :: .int x :: st) (pc) :=
  fun H locs ls hP hD hS hl => lv_imul hC.1 hC.2.1 hd (k H locs ls hP hD hS hl)
theorem j_iand (hC : jC p s m args meth c cc nL own Ts D cl tys A) {x y : Int32} (hd : decode cc pc = .ok (.iand, 1)) (k : jJ p l e R s m args below meth c nL D cl A Q cells slots ws (lv) (.int (x &&& y) :: st) (pc + 1)) : jJ p l e R s m args below meth c nL D cl A Q cells slots ws (lv) (.int y :: .int x :: st) (pc) :=
  fun H locs ls hP hD hS hl => lv_iand hC.1 hC.2.1 hd (k H locs ls hP hD hS hl)
theorem j_ior (hC : jC p s m args meth c cc nL own Ts D cl tys A) {x y : Int32} (hd : decode cc pc = .ok (.ior, 1)) (k : jJ p l e R s m args below meth c nL D cl A Q cells slots ws (lv) (.int (x ||| y) :: st) (pc + 1)) : jJ p l e R s m args below meth c nL D cl A Q cells slots ws (lv) (.int y :: .int x :: st) (pc) :=
  fun H locs ls hP hD hS hl => lv_ior hC.1 hC.2.1 hd (k H locs ls hP hD hS hl)
theorem j_ixor (hC : jC p s m args meth c cc nL own Ts D cl tys A) {x y : Int32} (hd : decode cc pc = .ok (.ixor, 1)) (k : jJ p l e R s m args below meth c nL D cl A Q cells slots ws (lv) (.int (x ^^^ y) :: st) (pc + 1)) : jJ p l e R s m args below meth c nL D cl A Q cells slots ws (lv) (.int y :: .int x :: st) (pc) :=
  fun H locs ls hP hD hS hl => lv_ixor hC.1 hC.2.1 hd (k H locs ls hP hD hS hl)
theorem j_ishl (hC : jC p s m args meth c cc nL own Ts D cl tys A) {x y : Int32} (hd : decode cc pc = .ok (.ishl, 1)) (k : jJ p l e R s m args below meth c nL D cl A Q cells slots ws (lv) (.int (x <<< (y &&& 31)) :: st) (pc + 1)) : jJ p l e R s m args below meth c nL D cl A Q cells slots ws (lv) (.int y :: .int x :: st) (pc) :=
  fun H locs ls hP hD hS hl => lv_ishl hC.1 hC.2.1 hd (k H locs ls hP hD hS hl)
theorem j_ishr (hC : jC p s m args meth c cc nL own Ts D cl tys A) {x y : Int32} (hd : decode cc pc = .ok (.ishr, 1)) (k : jJ p l e R s m args below meth c nL D cl A Q cells slots ws (lv) (.int (x >>> (y &&& 31)) :: st) (pc + 1)) : jJ p l e R s m args below meth c nL D cl A Q cells slots ws (lv) (.int y :: .int x :: st) (pc) :=
  fun H locs ls hP hD hS hl => lv_ishr hC.1 hC.2.1 hd (k H locs ls hP hD hS hl)
theorem j_idiv (hC : jC p s m args meth c cc nL own Ts D cl tys A) {x y : Int32} (hd : decode cc pc = .ok (.idiv, 1)) (hne : ¬ y = 0) (k : jJ p l e R s m args below meth c nL D cl A Q cells slots ws (lv) (.int (x / y) :: st) (pc + 1)) : jJ p l e R s m args below meth c nL D cl A Q cells slots ws (lv) (.int y :: .int x :: st) (pc) :=
  fun H locs ls hP hD hS hl => lv_idiv hC.1 hC.2.1 hd hne (k H locs ls hP hD hS hl)
theorem j_irem (hC : jC p s m args meth c cc nL own Ts D cl tys A) {x y : Int32} (hd : decode cc pc = .ok (.irem, 1)) (hne : ¬ y = 0) (k : jJ p l e R s m args below meth c nL D cl A Q cells slots ws (lv) (.int (x - x / y * y) :: st) (pc + 1)) : jJ p l e R s m args below meth c nL D cl A Q cells slots ws (lv) (.int y :: .int x :: st) (pc) :=
  fun H locs ls hP hD hS hl => lv_irem hC.1 hC.2.1 hd hne (k H locs ls hP hD hS hl)
theorem j_ineg (hC : jC p s m args meth c cc nL own Ts D cl tys A) {x : Int32} (hd : decode cc pc = .ok (.ineg, 1)) (k : jJ p l e R s m args below meth c nL D cl A Q cells slots ws (lv) (.int (-x) :: st) (pc + 1)) : jJ p l e R s m args below meth c nL D cl A Q cells slots ws (lv) (.int x :: st) (pc) :=
  fun H locs ls hP hD hS hl => lv_ineg hC.1 hC.2.1 hd (k H locs ls hP hD hS hl)
theorem j_iushr (hC : jC p s m args meth c cc nL own Ts D cl tys A) {x y v : Int32} (hd : decode cc pc = .ok (.iushr, 1)) (hv : (x.toUInt32 >>> (y.toUInt32 &&& Int32.toUInt32 31)).toInt32 = v) (k : jJ p l e R s m args below meth c nL D cl A Q cells slots ws (lv) (.int v :: st) (pc + 1)) : jJ p l e R s m args below meth c nL D cl A Q cells slots ws (lv) (.int y :: .int x :: st) (pc) :=
  fun H locs ls hP hD hS hl => lv_iushr hC.1 hC.2.1 hd hv (k H locs ls hP hD hS hl)
theorem j_i2l (hC : jC p s m args meth c cc nL own Ts D cl tys A) {x : Int32} {v : Int64} (hd : decode cc pc = .ok (.i2l, 1)) (hv : x.toInt64 = v) (k : jJ p l e R s m args below meth c nL D cl A Q cells slots ws (lv) (.long v :: st) (pc + 1)) : jJ p l e R s m args below meth c nL D cl A Q cells slots ws (lv) (.int x :: st) (pc) :=
  fun H locs ls hP hD hS hl => lv_i2l hC.1 hC.2.1 hd hv (k H locs ls hP hD hS hl)
theorem j_dup (hC : jC p s m args meth c cc nL own Ts D cl tys A) {va : Value} (hd : decode cc pc = .ok (.dup, 1)) (h1 : va.category = 1) (k : jJ p l e R s m args below meth c nL D cl A Q cells slots ws (lv) (va :: va :: st) (pc + 1)) : jJ p l e R s m args below meth c nL D cl A Q cells slots ws (lv) (va :: st) (pc) :=
  fun H locs ls hP hD hS hl => lv_dup hC.1 hC.2.1 hd h1 (k H locs ls hP hD hS hl)
theorem j_pop (hC : jC p s m args meth c cc nL own Ts D cl tys A) {va : Value} (hd : decode cc pc = .ok (.pop, 1)) (h1 : va.category = 1) (k : jJ p l e R s m args below meth c nL D cl A Q cells slots ws (lv) (st) (pc + 1)) : jJ p l e R s m args below meth c nL D cl A Q cells slots ws (lv) (va :: st) (pc) :=
  fun H locs ls hP hD hS hl => lv_pop hC.1 hC.2.1 hd h1 (k H locs ls hP hD hS hl)
theorem j_dup_x1 (hC : jC p s m args meth c cc nL own Ts D cl tys A) {va vb : Value} (hd : decode cc pc = .ok (.dup_x1, 1)) (h1 : va.category = 1) (h2 : vb.category = 1) (k : jJ p l e R s m args below meth c nL D cl A Q cells slots ws (lv) (va :: vb :: va :: st) (pc + 1)) : jJ p l e R s m args below meth c nL D cl A Q cells slots ws (lv) (va :: vb :: st) (pc) :=
  fun H locs ls hP hD hS hl => lv_dup_x1 hC.1 hC.2.1 hd h1 h2 (k H locs ls hP hD hS hl)
theorem j_dup2_11 (hC : jC p s m args meth c cc nL own Ts D cl tys A) {va vb : Value} (hd : decode cc pc = .ok (.dup2, 1)) (h1 : va.category = 1) (h2 : vb.category = 1) (k : jJ p l e R s m args below meth c nL D cl A Q cells slots ws (lv) (va :: vb :: va :: vb :: st) (pc + 1)) : jJ p l e R s m args below meth c nL D cl A Q cells slots ws (lv) (va :: vb :: st) (pc) :=
  fun H locs ls hP hD hS hl => lv_dup2_11 hC.1 hC.2.1 hd h1 h2 (k H locs ls hP hD hS hl)
theorem j_goto (hC : jC p s m args meth c cc nL own Ts D cl tys A) {off : Int} {tgt : Nat} (hd : decode cc pc = .ok (.goto off, 3)) (ht : (pc : Int) + off = (tgt : Int)) (k : jJ p l e R s m args below meth c nL D cl A Q cells slots ws (lv) (st) (tgt)) : jJ p l e R s m args below meth c nL D cl A Q cells slots ws (lv) (st) (pc) :=
  fun H locs ls hP hD hS hl => lv_goto hC.1 hC.2.1 hd ht (k H locs ls hP hD hS hl)
theorem j_if_eq (hC : jC p s m args meth c cc nL own Ts D cl tys A) {x : Int32} {off : Int} {tgt : Nat} (hd : decode cc pc = .ok (.ifCond .eq off, 3)) (ht : (pc : Int) + off = (tgt : Int)) (kt : x = 0 → jJ p l e R s m args below meth c nL D cl A Q cells slots ws (lv) (st) (tgt)) (kf : ¬ x = 0 → jJ p l e R s m args below meth c nL D cl A Q cells slots ws (lv) (st) (pc + 3)) : jJ p l e R s m args below meth c nL D cl A Q cells slots ws (lv) (.int x :: st) (pc) :=
  fun H locs ls hP hD hS hl => lv_if_eq hC.1 hC.2.1 hd ht (fun h => kt h H locs ls hP hD hS hl) (fun h => kf h H locs ls hP hD hS hl)
theorem j_icmp_eq (hC : jC p s m args meth c cc nL own Ts D cl tys A) {x y : Int32} {off : Int} {tgt : Nat} (hd : decode cc pc = .ok (.if_icmp .eq off, 3)) (ht : (pc : Int) + off = (tgt : Int)) (kt : x = y → jJ p l e R s m args below meth c nL D cl A Q cells slots ws (lv) (st) (tgt)) (kf : ¬ x = y → jJ p l e R s m args below meth c nL D cl A Q cells slots ws (lv) (st) (pc + 3)) : jJ p l e R s m args below meth c nL D cl A Q cells slots ws (lv) (.int y :: .int x :: st) (pc) :=
  fun H locs ls hP hD hS hl => lv_icmp_eq hC.1 hC.2.1 hd ht (fun h => kt h H locs ls hP hD hS hl) (fun h => kf h H locs ls hP hD hS hl)
theorem j_if_ne (hC : jC p s m args meth c cc nL own Ts D cl tys A) {x : Int32} {off : Int} {tgt : Nat} (hd : decode cc pc = .ok (.ifCond .ne off, 3)) (ht : (pc : Int) + off = (tgt : Int)) (kt : ¬ x = 0 → jJ p l e R s m args below meth c nL D cl A Q cells slots ws (lv) (st) (tgt)) (kf : x = 0 → jJ p l e R s m args below meth c nL D cl A Q cells slots ws (lv) (st) (pc + 3)) : jJ p l e R s m args below meth c nL D cl A Q cells slots ws (lv) (.int x :: st) (pc) :=
  fun H locs ls hP hD hS hl => lv_if_ne hC.1 hC.2.1 hd ht (fun h => kt h H locs ls hP hD hS hl) (fun h => kf h H locs ls hP hD hS hl)
theorem j_icmp_ne (hC : jC p s m args meth c cc nL own Ts D cl tys A) {x y : Int32} {off : Int} {tgt : Nat} (hd : decode cc pc = .ok (.if_icmp .ne off, 3)) (ht : (pc : Int) + off = (tgt : Int)) (kt : ¬ x = y → jJ p l e R s m args below meth c nL D cl A Q cells slots ws (lv) (st) (tgt)) (kf : x = y → jJ p l e R s m args below meth c nL D cl A Q cells slots ws (lv) (st) (pc + 3)) : jJ p l e R s m args below meth c nL D cl A Q cells slots ws (lv) (.int y :: .int x :: st) (pc) :=
  fun H locs ls hP hD hS hl => lv_icmp_ne hC.1 hC.2.1 hd ht (fun h => kt h H locs ls hP hD hS hl) (fun h => kf h H locs ls hP hD hS hl)
theorem j_if_lt (hC : jC p s m args meth c cc nL own Ts D cl tys A) {x : Int32} {off : Int} {tgt : Nat} (hd : decode cc pc = .ok (.ifCond .lt off, 3)) (ht : (pc : Int) + off = (tgt : Int)) (kt : x < 0 → jJ p l e R s m args below meth c nL D cl A Q cells slots ws (lv) (st) (tgt)) (kf : ¬ x < 0 → jJ p l e R s m args below meth c nL D cl A Q cells slots ws (lv) (st) (pc + 3)) : jJ p l e R s m args below meth c nL D cl A Q cells slots ws (lv) (.int x :: st) (pc) :=
  fun H locs ls hP hD hS hl => lv_if_lt hC.1 hC.2.1 hd ht (fun h => kt h H locs ls hP hD hS hl) (fun h => kf h H locs ls hP hD hS hl)
theorem j_icmp_lt (hC : jC p s m args meth c cc nL own Ts D cl tys A) {x y : Int32} {off : Int} {tgt : Nat} (hd : decode cc pc = .ok (.if_icmp .lt off, 3)) (ht : (pc : Int) + off = (tgt : Int)) (kt : x < y → jJ p l e R s m args below meth c nL D cl A Q cells slots ws (lv) (st) (tgt)) (kf : ¬ x < y → jJ p l e R s m args below meth c nL D cl A Q cells slots ws (lv) (st) (pc + 3)) : jJ p l e R s m args below meth c nL D cl A Q cells slots ws (lv) (.int y :: .int x :: st) (pc) :=
  fun H locs ls hP hD hS hl => lv_icmp_lt hC.1 hC.2.1 hd ht (fun h => kt h H locs ls hP hD hS hl) (fun h => kf h H locs ls hP hD hS hl)
theorem j_if_ge (hC : jC p s m args meth c cc nL own Ts D cl tys A) {x : Int32} {off : Int} {tgt : Nat} (hd : decode cc pc = .ok (.ifCond .ge off, 3)) (ht : (pc : Int) + off = (tgt : Int)) (kt : 0 ≤ x → jJ p l e R s m args below meth c nL D cl A Q cells slots ws (lv) (st) (tgt)) (kf : ¬ 0 ≤ x → jJ p l e R s m args below meth c nL D cl A Q cells slots ws (lv) (st) (pc + 3)) : jJ p l e R s m args below meth c nL D cl A Q cells slots ws (lv) (.int x :: st) (pc) :=
  fun H locs ls hP hD hS hl => lv_if_ge hC.1 hC.2.1 hd ht (fun h => kt h H locs ls hP hD hS hl) (fun h => kf h H locs ls hP hD hS hl)
theorem j_icmp_ge (hC : jC p s m args meth c cc nL own Ts D cl tys A) {x y : Int32} {off : Int} {tgt : Nat} (hd : decode cc pc = .ok (.if_icmp .ge off, 3)) (ht : (pc : Int) + off = (tgt : Int)) (kt : y ≤ x → jJ p l e R s m args below meth c nL D cl A Q cells slots ws (lv) (st) (tgt)) (kf : ¬ y ≤ x → jJ p l e R s m args below meth c nL D cl A Q cells slots ws (lv) (st) (pc + 3)) : jJ p l e R s m args below meth c nL D cl A Q cells slots ws (lv) (.int y :: .int x :: st) (pc) :=
  fun H locs ls hP hD hS hl => lv_icmp_ge hC.1 hC.2.1 hd ht (fun h => kt h H locs ls hP hD hS hl) (fun h => kf h H locs ls hP hD hS hl)
theorem j_if_gt (hC : jC p s m args meth c cc nL own Ts D cl tys A) {x : Int32} {off : Int} {tgt : Nat} (hd : decode cc pc = .ok (.ifCond .gt off, 3)) (ht : (pc : Int) + off = (tgt : Int)) (kt : 0 < x → jJ p l e R s m args below meth c nL D cl A Q cells slots ws (lv) (st) (tgt)) (kf : ¬ 0 < x → jJ p l e R s m args below meth c nL D cl A Q cells slots ws (lv) (st) (pc + 3)) : jJ p l e R s m args below meth c nL D cl A Q cells slots ws (lv) (.int x :: st) (pc) :=
  fun H locs ls hP hD hS hl => lv_if_gt hC.1 hC.2.1 hd ht (fun h => kt h H locs ls hP hD hS hl) (fun h => kf h H locs ls hP hD hS hl)
theorem j_icmp_gt (hC : jC p s m args meth c cc nL own Ts D cl tys A) {x y : Int32} {off : Int} {tgt : Nat} (hd : decode cc pc = .ok (.if_icmp .gt off, 3)) (ht : (pc : Int) + off = (tgt : Int)) (kt : y < x → jJ p l e R s m args below meth c nL D cl A Q cells slots ws (lv) (st) (tgt)) (kf : ¬ y < x → jJ p l e R s m args below meth c nL D cl A Q cells slots ws (lv) (st) (pc + 3)) : jJ p l e R s m args below meth c nL D cl A Q cells slots ws (lv) (.int y :: .int x :: st) (pc) :=
  fun H locs ls hP hD hS hl => lv_icmp_gt hC.1 hC.2.1 hd ht (fun h => kt h H locs ls hP hD hS hl) (fun h => kf h H locs ls hP hD hS hl)
theorem j_if_le (hC : jC p s m args meth c cc nL own Ts D cl tys A) {x : Int32} {off : Int} {tgt : Nat} (hd : decode cc pc = .ok (.ifCond .le off, 3)) (ht : (pc : Int) + off = (tgt : Int)) (kt : x ≤ 0 → jJ p l e R s m args below meth c nL D cl A Q cells slots ws (lv) (st) (tgt)) (kf : ¬ x ≤ 0 → jJ p l e R s m args below meth c nL D cl A Q cells slots ws (lv) (st) (pc + 3)) : jJ p l e R s m args below meth c nL D cl A Q cells slots ws (lv) (.int x :: st) (pc) :=
  fun H locs ls hP hD hS hl => lv_if_le hC.1 hC.2.1 hd ht (fun h => kt h H locs ls hP hD hS hl) (fun h => kf h H locs ls hP hD hS hl)
theorem j_icmp_le (hC : jC p s m args meth c cc nL own Ts D cl tys A) {x y : Int32} {off : Int} {tgt : Nat} (hd : decode cc pc = .ok (.if_icmp .le off, 3)) (ht : (pc : Int) + off = (tgt : Int)) (kt : x ≤ y → jJ p l e R s m args below meth c nL D cl A Q cells slots ws (lv) (st) (tgt)) (kf : ¬ x ≤ y → jJ p l e R s m args below meth c nL D cl A Q cells slots ws (lv) (st) (pc + 3)) : jJ p l e R s m args below meth c nL D cl A Q cells slots ws (lv) (.int y :: .int x :: st) (pc) :=
  fun H locs ls hP hD hS hl => lv_icmp_le hC.1 hC.2.1 hd ht (fun h => kt h H locs ls hP hD hS hl) (fun h => kf h H locs ls hP hD hS hl)
theorem j_get (hC : jC p s m args meth c cc nL own Ts D cl tys A) {ref C : String} {T : u_T} {N ci index : Nat} (hin : ∀ w ∈ u_ws C T N, w ∈ Ts) {a : Nat} (q0 : Nat) {fs : List Value} (he : ws[q0]? = some (a, .inr (ci, fs))) (hc : cl[ci]? = some (C, T, N)) (k : Nat) (hk : k < N) (hlink : (Cond.fieldLink own index ref (T k).2.1 (T k).2.2.1).before args s = true) (hsame : ∀ x, s.fieldFound? (T k).1 (T k).2.1 (T k).2.2.1 = some x → s.fieldFound? ref (T k).2.1 (T k).2.2.1 = some x) {v : Value} (hv : fs[k]? = some v) (hd : decode cc pc = .ok (.getfield index, 3)) (kk : jJ p l e R s m args below meth c nL D cl A Q cells slots ws (lv) (v :: st) (pc + 3)) : jJ p l e R s m args below meth c nL D cl A Q cells slots ws (lv) (.ref a :: st) (pc) :=
  fun H locs ls hP hD hS hl => va_get hC.1 hC.2.1 hC.2.2.2.2.1 hin hC.2.2.2.1 hC.2.2.2.2.2.1 hP q0 he hc k hk hlink hsame hv hd (kk H locs ls hP hD hS hl)
theorem j_getN (hC : jC p s m args meth c cc nL own Ts D cl tys A) {host : String} {ref C : String} {T : u_T} {N ci index : Nat} (hin : ∀ w ∈ u_ws C T N, w ∈ Ts) {a : Nat} (q0 : Nat) {fs : List Value} (he : ws[q0]? = some (a, .inr (ci, fs))) (hc : cl[ci]? = some (C, T, N)) (k : Nat) (hk : k < N) (hlink : (Cond.fieldLinkNest own index ref (T k).2.1 (T k).2.2.1 host).before args s = true) (hsame : ∀ x, s.fieldFound? (T k).1 (T k).2.1 (T k).2.2.1 = some x → s.fieldFound? ref (T k).2.1 (T k).2.2.1 = some x) {v : Value} (hv : fs[k]? = some v) (hd : decode cc pc = .ok (.getfield index, 3)) (kk : jJ p l e R s m args below meth c nL D cl A Q cells slots ws (lv) (v :: st) (pc + 3)) : jJ p l e R s m args below meth c nL D cl A Q cells slots ws (lv) (.ref a :: st) (pc) :=
  fun H locs ls hP hD hS hl => va_getN hC.1 hC.2.1 hC.2.2.2.2.1 hin hC.2.2.2.1 hC.2.2.2.2.2.1 hP q0 he hc k hk hlink hsame hv hd (kk H locs ls hP hD hS hl)
theorem j_put (hC : jC p s m args meth c cc nL own Ts D cl tys A) {ref C : String} {T : u_T} {N ci index : Nat} (hin : ∀ w ∈ u_ws C T N, w ∈ Ts) (ty0 : Nat → FieldType) (hty : ∀ k, k < N → parseFieldDescriptor (T k).2.2.1 = some (ty0 k)) (hnm : ∀ a, a < N → ∀ b, b < N → a ≠ b → (T a).2.1 ≠ (T b).2.1) {a : Nat} (q0 : Nat) {fs : List Value} (he : ws[q0]? = some (a, .inr (ci, fs))) (hc : cl[ci]? = some (C, T, N)) (k : Nat) (hk : k < N) (hlink : (Cond.fieldLink own index ref (T k).2.1 (T k).2.2.1).before args s = true) (hsame : ∀ x, s.fieldFound? (T k).1 (T k).2.1 (T k).2.2.1 = some x → s.fieldFound? ref (T k).2.1 (T k).2.2.1 = some x) (hfin : (T k).2.2.2 = false) {ty : FieldType} {v : Value} (hdt : parseFieldDescriptor (T k).2.2.1 = some ty) (hn : narrow ty v = v) (hfit : fits ty v = true) (hl0 : k < fs.length) {ws' : va_W} (hw : ws.set q0 (a, .inr (ci, fs.set k v)) = ws') (hd : decode cc pc = .ok (.putfield index, 3)) (kk : jJ p l e R s m args below meth c nL D cl A Q cells slots ws' (lv) (st) (pc + 3)) : jJ p l e R s m args below meth c nL D cl A Q cells slots ws (lv) (v :: .ref a :: st) (pc) :=
  fun H locs ls hP hD hS hl => va_put hC.1 hC.2.1 hC.2.2.2.2.1 hin ty0 hty hnm hC.2.2.2.1 hC.2.2.2.2.2.1 hP hD hS q0 he hc k hk hlink hsame hfin hdt hn hfit hl0 hd (fun H1 locs1 hP1 hD1 hS1 => kk H1 locs1 ls (hw ▸ hP1) (hw ▸ hD1) hS1 hl)
theorem j_putN (hC : jC p s m args meth c cc nL own Ts D cl tys A) {host : String} {ref C : String} {T : u_T} {N ci index : Nat} (hin : ∀ w ∈ u_ws C T N, w ∈ Ts) (ty0 : Nat → FieldType) (hty : ∀ k, k < N → parseFieldDescriptor (T k).2.2.1 = some (ty0 k)) (hnm : ∀ a, a < N → ∀ b, b < N → a ≠ b → (T a).2.1 ≠ (T b).2.1) {a : Nat} (q0 : Nat) {fs : List Value} (he : ws[q0]? = some (a, .inr (ci, fs))) (hc : cl[ci]? = some (C, T, N)) (k : Nat) (hk : k < N) (hlink : (Cond.fieldLinkNest own index ref (T k).2.1 (T k).2.2.1 host).before args s = true) (hsame : ∀ x, s.fieldFound? (T k).1 (T k).2.1 (T k).2.2.1 = some x → s.fieldFound? ref (T k).2.1 (T k).2.2.1 = some x) (hfin : (T k).2.2.2 = false) {ty : FieldType} {v : Value} (hdt : parseFieldDescriptor (T k).2.2.1 = some ty) (hn : narrow ty v = v) (hfit : fits ty v = true) (hl0 : k < fs.length) {ws' : va_W} (hw : ws.set q0 (a, .inr (ci, fs.set k v)) = ws') (hd : decode cc pc = .ok (.putfield index, 3)) (kk : jJ p l e R s m args below meth c nL D cl A Q cells slots ws' (lv) (st) (pc + 3)) : jJ p l e R s m args below meth c nL D cl A Q cells slots ws (lv) (v :: .ref a :: st) (pc) :=
  fun H locs ls hP hD hS hl => va_putN hC.1 hC.2.1 hC.2.2.2.2.1 hin ty0 hty hnm hC.2.2.2.1 hC.2.2.2.2.2.1 hP hD hS q0 he hc k hk hlink hsame hfin hdt hn hfit hl0 hd (fun H1 locs1 hP1 hD1 hS1 => kk H1 locs1 ls (hw ▸ hP1) (hw ▸ hD1) hS1 hl)
theorem j_putF (hC : jC p s m args meth c cc nL own Ts D cl tys A) {ref C : String} {T : u_T} {N ci index : Nat} (hin : ∀ w ∈ u_ws C T N, w ∈ Ts) (ty0 : Nat → FieldType) (hty : ∀ k, k < N → parseFieldDescriptor (T k).2.2.1 = some (ty0 k)) (hnm : ∀ a, a < N → ∀ b, b < N → a ≠ b → (T a).2.1 ≠ (T b).2.1) {a : Nat} (q0 : Nat) {fs : List Value} (he : ws[q0]? = some (a, .inr (ci, fs))) (hc : cl[ci]? = some (C, T, N)) (k : Nat) (hk : k < N) (hlink : (Cond.fieldLink own index ref (T k).2.1 (T k).2.2.1).before args s = true) (hsame : ∀ x, s.fieldFound? (T k).1 (T k).2.1 (T k).2.2.1 = some x → s.fieldFound? ref (T k).2.1 (T k).2.2.1 = some x) (hfin : (T k).2.2.2 = true) (hin2 : meth.name = "<init>") (hdecl : (T k).1 = own) {ty : FieldType} {v : Value} (hdt : parseFieldDescriptor (T k).2.2.1 = some ty) (hn : narrow ty v = v) (hfit : fits ty v = true) (hl0 : k < fs.length) {ws' : va_W} (hw : ws.set q0 (a, .inr (ci, fs.set k v)) = ws') (hd : decode cc pc = .ok (.putfield index, 3)) (kk : jJ p l e R s m args below meth c nL D cl A Q cells slots ws' (lv) (st) (pc + 3)) : jJ p l e R s m args below meth c nL D cl A Q cells slots ws (lv) (v :: .ref a :: st) (pc) :=
  fun H locs ls hP hD hS hl => va_putF hC.1 hC.2.1 hC.2.2.2.2.1 hin ty0 hty hnm hC.2.2.2.1 hC.2.2.2.2.2.1 hP hD hS q0 he hc k hk hlink hsame hfin hin2 hdecl hdt hn hfit hl0 hd (fun H1 locs1 hP1 hD1 hS1 => kk H1 locs1 ls (hw ▸ hP1) (hw ▸ hD1) hS1 hl)
theorem j_iald (hC : jC p s m args meth c cc nL own Ts D cl tys A) {a : Nat} (q0 t0 : Nat) {cA : ClassId} {n : Nat} {f : Nat → Int32} (ha : ws[q0]? = some (a, .inl (cA, n, .inl f))) (ht : tys[t0]? = some (cA, .int)) {i : Int32} {v : Int32} (hin : vp_in i n) (hv : f i.toNatClampNeg = v) (hd : decode cc pc = .ok (.iaload, 1)) (kk : jJ p l e R s m args below meth c nL D cl A Q cells slots ws (lv) (.int v :: st) (pc + 1)) : jJ p l e R s m args below meth c nL D cl A Q cells slots ws (lv) (.int i :: .ref a :: st) (pc) :=
  fun H locs ls hP hD hS hl => va_iald hC.1 hC.2.1 hC.2.2.2.2.2.1 hP q0 t0 ha ht hin hd (by rw [hv]; exact kk H locs ls hP hD hS hl)
theorem j_zald (hC : jC p s m args meth c cc nL own Ts D cl tys A) {a : Nat} (q0 t0 : Nat) {cA : ClassId} {n : Nat} {f : Nat → Int32} (ha : ws[q0]? = some (a, .inl (cA, n, .inl f))) (ht : tys[t0]? = some (cA, .boolean)) {i : Int32} {v : Int32} (hin : vp_in i n) (hv : f i.toNatClampNeg = v) (hd : decode cc pc = .ok (.baload, 1)) (kk : jJ p l e R s m args below meth c nL D cl A Q cells slots ws (lv) (.int v :: st) (pc + 1)) : jJ p l e R s m args below meth c nL D cl A Q cells slots ws (lv) (.int i :: .ref a :: st) (pc) :=
  fun H locs ls hP hD hS hl => va_zald hC.1 hC.2.1 hC.2.2.2.2.2.1 hP q0 t0 ha ht hin hd (by rw [hv]; exact kk H locs ls hP hD hS hl)
theorem j_bald (hC : jC p s m args meth c cc nL own Ts D cl tys A) {a : Nat} (q0 t0 : Nat) {cA : ClassId} {n : Nat} {f : Nat → Int32} (ha : ws[q0]? = some (a, .inl (cA, n, .inl f))) (ht : tys[t0]? = some (cA, .byte)) {i : Int32} {v : Int32} (hin : vp_in i n) (hv : f i.toNatClampNeg = v) (hd : decode cc pc = .ok (.baload, 1)) (kk : jJ p l e R s m args below meth c nL D cl A Q cells slots ws (lv) (.int v :: st) (pc + 1)) : jJ p l e R s m args below meth c nL D cl A Q cells slots ws (lv) (.int i :: .ref a :: st) (pc) :=
  fun H locs ls hP hD hS hl => va_bald hC.1 hC.2.1 hC.2.2.2.2.2.1 hP q0 t0 ha ht hin hd (by rw [hv]; exact kk H locs ls hP hD hS hl)
theorem j_iast (hC : jC p s m args meth c cc nL own Ts D cl tys A) {a : Nat} (q0 t0 : Nat) {cA : ClassId} {n : Nat} {f : Nat → Int32} (ha : ws[q0]? = some (a, .inl (cA, n, .inl f))) (ht : tys[t0]? = some (cA, .int)) {i x : Int32} (hin : vp_in i n) {ws' : va_W} (hw : ws.set q0 (a, .inl (cA, n, .inl (upd f i.toNatClampNeg x))) = ws') (hd : decode cc pc = .ok (.iastore, 1)) (kk : jJ p l e R s m args below meth c nL D cl A Q cells slots ws' (lv) (st) (pc + 1)) : jJ p l e R s m args below meth c nL D cl A Q cells slots ws (lv) (.int x :: .int i :: .ref a :: st) (pc) :=
  fun H locs ls hP hD hS hl => va_iast hC.1 hC.2.1 hC.2.2.2.2.2.1 hP hD hS q0 t0 ha ht hin hd (fun H1 locs1 hP1 hD1 hS1 => kk H1 locs1 ls (hw ▸ hP1) (hw ▸ hD1) hS1 hl)
theorem j_aald (hC : jC p s m args meth c cc nL own Ts D cl tys A) {a : Nat} (q0 t0 : Nat) {cA : ClassId} {C : String} {n : Nat} {f : Nat → Option Nat} (ha : ws[q0]? = some (a, .inl (cA, n, .inr (.inr (.inr (.inr f)))))) (ht : tys[t0]? = some (cA, .object C)) {i : Int32} (hin : vp_in i n) {v : Nat} (hv : f i.toNatClampNeg = some v) (hd : decode cc pc = .ok (.aaload, 1)) (kk : jJ p l e R s m args below meth c nL D cl A Q cells slots ws (lv) (.ref v :: st) (pc + 1)) : jJ p l e R s m args below meth c nL D cl A Q cells slots ws (lv) (.int i :: .ref a :: st) (pc) :=
  fun H locs ls hP hD hS hl => va_aldq hC.1 hC.2.1 hC.2.2.2.2.2.1 hP q0 t0 ha ht hin hd (by rw [hv]; exact kk H locs ls hP hD hS hl)
theorem j_alen (hC : jC p s m args meth c cc nL own Ts D cl tys A) {a : Nat} (q0 t0 : Nat) {cA : ClassId} {x : vp_A} (ha : ws[q0]? = some (a, .inl (cA, x))) {ty : FieldType} (ht : tys[t0]? = some (cA, ty)) {v : Int32} (hv : Int32.ofNat x.1 = v) (hd : decode cc pc = .ok (.arraylength, 1)) (kk : jJ p l e R s m args below meth c nL D cl A Q cells slots ws (lv) (.int v :: st) (pc + 1)) : jJ p l e R s m args below meth c nL D cl A Q cells slots ws (lv) (.ref a :: st) (pc) :=
  fun H locs ls hP hD hS hl => va_alen hC.1 hC.2.1 hC.2.2.2.2.2.1 hP q0 t0 ha ht hv hd (kk H locs ls hP hD hS hl)
theorem j_ialdN (hC : jC p s m args meth c cc nL own Ts D cl tys A) {a : Nat} (q0 t0 : Nat) {cA : ClassId} {N : Nat} {f : Nat → Int32} (ha : ws[q0]? = some (a, .inl (cA, N, .inl f))) (ht : tys[t0]? = some (cA, .int)) {n : Nat} {i : Int32} (hi : i = nI n) (hn : n < N) (hN : N < 2 ^ 31) (hd : decode cc pc = .ok (.iaload, 1)) (kk : jJ p l e R s m args below meth c nL D cl A Q cells slots ws (lv) (.int (f n) :: st) (pc + 1)) : jJ p l e R s m args below meth c nL D cl A Q cells slots ws (lv) (.int i :: .ref a :: st) (pc) :=
  j_iald hC q0 t0 ha ht (by rw [hi]; exact vp_in_nI hn hN) (by rw [hi, nI_clamp (Nat.lt_trans hn hN)]) hd kk
theorem j_zaldN (hC : jC p s m args meth c cc nL own Ts D cl tys A) {a : Nat} (q0 t0 : Nat) {cA : ClassId} {N : Nat} {f : Nat → Int32} (ha : ws[q0]? = some (a, .inl (cA, N, .inl f))) (ht : tys[t0]? = some (cA, .boolean)) {n : Nat} {i : Int32} (hi : i = nI n) (hn : n < N) (hN : N < 2 ^ 31) (hd : decode cc pc = .ok (.baload, 1)) (kk : jJ p l e R s m args below meth c nL D cl A Q cells slots ws (lv) (.int (f n) :: st) (pc + 1)) : jJ p l e R s m args below meth c nL D cl A Q cells slots ws (lv) (.int i :: .ref a :: st) (pc) :=
  j_zald hC q0 t0 ha ht (by rw [hi]; exact vp_in_nI hn hN) (by rw [hi, nI_clamp (Nat.lt_trans hn hN)]) hd kk
theorem j_iastN (hC : jC p s m args meth c cc nL own Ts D cl tys A) {a : Nat} (q0 t0 : Nat) {cA : ClassId} {N : Nat} {f : Nat → Int32} (ha : ws[q0]? = some (a, .inl (cA, N, .inl f))) (ht : tys[t0]? = some (cA, .int)) {n : Nat} {i x : Int32} (hi : i = nI n) (hn : n < N) (hN : N < 2 ^ 31) {ws' : va_W} (hw : ws.set q0 (a, .inl (cA, N, .inl (upd f n x))) = ws') (hd : decode cc pc = .ok (.iastore, 1)) (kk : jJ p l e R s m args below meth c nL D cl A Q cells slots ws' (lv) (st) (pc + 1)) : jJ p l e R s m args below meth c nL D cl A Q cells slots ws (lv) (.int x :: .int i :: .ref a :: st) (pc) :=
  j_iast hC q0 t0 ha ht (by rw [hi]; exact vp_in_nI hn hN) (by rw [hi, nI_clamp (Nat.lt_trans hn hN)]; exact hw) hd kk
theorem j_aaldN (hC : jC p s m args meth c cc nL own Ts D cl tys A) {a : Nat} (q0 t0 : Nat) {cA : ClassId} {C : String} {N : Nat} {f : Nat → Option Nat} (ha : ws[q0]? = some (a, .inl (cA, N, .inr (.inr (.inr (.inr f)))))) (ht : tys[t0]? = some (cA, .object C)) {n : Nat} {i : Int32} (hi : i = nI n) (hn : n < N) (hN : N < 2 ^ 31) {v : Nat} (hv : f n = some v) (hd : decode cc pc = .ok (.aaload, 1)) (kk : jJ p l e R s m args below meth c nL D cl A Q cells slots ws (lv) (.ref v :: st) (pc + 1)) : jJ p l e R s m args below meth c nL D cl A Q cells slots ws (lv) (.int i :: .ref a :: st) (pc) :=
  j_aald hC q0 t0 ha ht (by rw [hi]; exact vp_in_nI hn hN) (by rw [hi, nI_clamp (Nat.lt_trans hn hN)]; exact hv) hd kk
end JL
end
section
-- contracts in words of cells; calls, returns, exceptions
/-- the object x is an exception of the class of that name -/
def jThrown (s : State) (cn : String) (x : Addr) (H : Heap) : Prop := ∃ cell : Cell, H[x]? = some cell ∧ cell.vm.isStatics = false ∧ s.vm.findClass cn = some cell.cls
def jO (post : Option String → Option Value → va_W → Prop) (oc : Outcome) (w : va_W) (t : State) : Prop := match oc with
  | .returned v => post none v w
  | .threw x => ∃ cn, post (some cn) none w ∧ jThrown t cn x t.heap
def jQ (D : va_G) (cl : List vw_C) (post : Option String → Option Value → va_W → Prop) (A : Nat → Prop) : Array Value → State → Outcome → State → Prop := fun _ st oc t => (∃ w, jO post oc w t ∧ va_P D cl w t.heap ∧ va_D A w) ∧ va_F A st t
def jPc (D : va_G) (cl : List vw_C) (tys : List (ClassId × FieldType)) (Ts : List Cond) (av : List Value) (ws : va_W) (sz : Nat) : Array Value → State → Prop :=
  va_Pc av (fun U => U.heap.size = sz ∧ jW Ts U ∧ jZ (va_A ws sz) U U.heap ∧ va_P D cl ws U.heap ∧ va_K D cl tys U ∧ va_D (fun _ => True) ws)
/-- the contract of a method: from arguments av and cells ws it returns or throws, 'post' says what, and which cells it leaves; it makes at most mc cells of ms slots -/
def jMet (l : Launch) (y : MethodName) (cw0 : Cond) (rm : Room) (D : va_G) (cl : List vw_C) (tys : List (ClassId × FieldType)) (Ts : List Cond) (av : List Value) (ws : va_W) (mc ms : Nat) (post : Option String → Option Value → va_W → Prop) : Prop :=
  ∀ sz : Nat, MetX l y [cw0] rm (jPc D cl tys Ts av ws sz) (jQ D cl post (va_A ws sz)) mc ms (va_A ws sz)
theorem jZ.go {A B : Nat → Prop} {u U : State} {H H1 : Heap} (h : jZ A u H) (hvm : u.vm.Alike U.vm) (hq : ∀ a : Nat, a < H.size → ¬ A a → H1[a]? = H[a]?) (hAB : ∀ q, B q → A q) : jZ B U H1 :=
  ⟨h.1.go hvm hq hAB, h.2.go hvm hq hAB⟩
theorem jW.go {Ts : List Cond} {u U : State} (h : jW Ts u) (hW : u.WarmedH U.vm) : jW Ts U := fun w hw a' U' h' => h w hw a' U' (State.WarmedH.trans hW h')
theorem jThrown.go {u U : State} {cn : String} {x : Addr} {H : Heap} (h : jThrown u cn x H) (hvm : u.vm.Alike U.vm) : jThrown U cn x H := by
  obtain ⟨cell, h1, h2, h3⟩ := h
  exact ⟨cell, h1, h2, by rw [hvm.findClass]; exact h3⟩
section JX
variable {p : Program} {l : Launch} {e : Env} {R : Room} {s : State} {m : MethodId} {args : Array Value} {below : List Frame} {meth : Method} {c : Code} {Q : State → Prop} {cells slots : Nat}
variable {cc : ByteArray} {nL : Nat} {own : String} {Ts : List Cond} {D : va_G} {cl : List vw_C} {tys : List (ClassId × FieldType)} {A : Nat → Prop}
variable {pc : Nat} {lv : List (Nat × Value)} {st : List Value} {ws : va_W} {post : Option String → Option Value → va_W → Prop}
/-- the walk with an exception of the class cn under way -/
def jT (p : Program) (l : Launch) (e : Env) (R : Room) (s : State) (m : MethodId) (args : Array Value) (below : List Frame) (meth : Method) (c : Code) (nL : Nat) (D : va_G) (cl : List vw_C) (A : Nat → Prop) (Q : State → Prop) (cells slots : Nat) (cn : String) (ws : va_W) (lv : List (Nat × Value)) (pc : Nat) : Prop :=
  ∀ (H : Heap) (locs : List Loc) (ls : Array Slot) (x : Addr) (st : List Value), va_P D cl ws H → va_D A ws → va_S A s.heap H locs → lv_has ls nL lv → jThrown s cn x H → WT p l e R s m args below meth c H locs cells slots Q x (F0 m pc ls st)
/-- a contract out of the walk of the body -/
theorem jMet.of {y : MethodName} {ret : Option FieldType} {rm : Room} {av : List Value} {mc ms : Nat} (hy : plainName y.cls = true) (hlen : (lg_sl av).length ≤ nL)
    (body : ∀ (p : Program) (e : Env) (s : State) (m : MethodId) (below : List Frame) (meth : Method) (c : Code) (A : Nat → Prop), jC p s m av.toArray meth c cc nL y.cls Ts D cl tys A → c.exceptionTable.isEmpty = true → meth.sig.returnType = ret → meth.name = y.name → e.platform.stackTraces = l.stackTraces →
      jJ p l e rm s m av.toArray below meth c nL D cl A (hxQ below (jQ D cl post A) av.toArray s mc ms A) 0 0 ws (lv_args 0 av) [] 0) : jMet l y (.code y cc nL ret) rm D cl tys Ts av ws mc ms post := by
  intro sz
  refine MetX.ofW (cc := cc) (maxL := nL) (ret := ret) hy rfl ?_
  intro p e s m args below meth c s₁ B hml hv
  obtain ⟨rfl, hsz, hw, hz, hP, hK, hD0⟩ := hv
  subst hsz
  have hcode : (Cond.code y cc nL ret).before av.toArray s = true := atoms_spec (ws := [Cond.code y cc nL ret]) B.pre _ List.mem_cons_self
  have hD := hD0.self (sz := s.heap.size)
  have hA : ∀ q : Nat, s.heap.size ≤ q → va_A ws s.heap.size q := fun q h => Or.inr h
  have hC : jC p s m av.toArray meth c cc nL y.cls Ts D cl tys (va_A ws s.heap.size) :=
    ⟨B.exec, B.bytes, hml, findClass_of_methodNamed B.named, fun w h => hw w h _ s (State.WarmedH.refl s), hK, hA, hw, hz, B.notSynchronized⟩
  have hl := lv_entry av (n := nL) hlen
  have k := body p e s m below meth c _ hC (B.noHandlers hcode) B.returns (name_of_methodNamed B.named B.method).1 (by rw [(Stand.of_body B).admits.platform])
  have k2 := k s.heap [] _ hP hD va_S.rf hl
  rw [lg_entry_eq]
  exact k2
theorem j_iret (hC : jC p s m args meth c cc nL own Ts D cl tys A) (hr : meth.sig.returnType = some .int) {v : Int32} (hp : post none (some (.int v)) ws) (hd : decode cc pc = .ok (.ireturn, 1)) :
    jJ p l e R s m args below meth c nL D cl A (hxQ below (jQ D cl post A) args s cells slots A) cells slots ws lv [.int v] pc :=
  fun H locs ls hP hD hS hl => W.mono (fun t => hxQ.of) (W.iret hC.1 hC.2.1 hr (fun t ht hW => ⟨⟨ws, hp, by rw [ht]; exact hP, hD⟩, hS.F ht⟩) hS.2.2 hd hC.2.2.2.2.2.2.2.2.2)
theorem j_zret (hC : jC p s m args meth c cc nL own Ts D cl tys A) {ty : FieldType} (hr : meth.sig.returnType = some ty) {v : Int32} (hn : narrow ty (.int v) = .int v) (hp : post none (some (.int v)) ws) (hd : decode cc pc = .ok (.ireturn, 1)) :
    jJ p l e R s m args below meth c nL D cl A (hxQ below (jQ D cl post A) args s cells slots A) cells slots ws lv [.int v] pc :=
  fun H locs ls hP hD hS hl => W.mono (fun t => hxQ.of) (W.zret hC.1 hC.2.1 hr hn (fun t ht hW => ⟨⟨ws, hp, by rw [ht]; exact hP, hD⟩, hS.F ht⟩) hS.2.2 hd hC.2.2.2.2.2.2.2.2.2)
theorem j_vret (hC : jC p s m args meth c cc nL own Ts D cl tys A) (hr : meth.sig.returnType = none) (hp : post none none ws) (hd : decode cc pc = .ok (.return_, 1)) :
    jJ p l e R s m args below meth c nL D cl A (hxQ below (jQ D cl post A) args s cells slots A) cells slots ws lv [] pc :=
  fun H locs ls hP hD hS hl => W.mono (fun t => hxQ.of) (W.vret hC.1 hC.2.1 hr (fun t ht hW => ⟨⟨ws, hp, by rw [ht]; exact hP, hD⟩, hS.F ht⟩) hS.2.2 hd hC.2.2.2.2.2.2.2.2.2)
/-- an exception goes out of a method without handlers -/
theorem j_out (hC : jC p s m args meth c cc nL own Ts D cl tys A) (hex : c.exceptionTable.isEmpty = true) {cn : String} (hp : post (some cn) none ws) :
    jT p l e R s m args below meth c nL D cl A (hxQ below (jQ D cl post A) args s cells slots A) cells slots cn ws lv pc :=
  fun H locs ls x st hP hD hS hl hx => hx_out hC.2.2.2.2.2.2.2.2.2 (covers_of_empty hex _) (fun t ht hW => ⟨⟨ws, ⟨cn, hp, by rw [ht]; exact hx.go hW.alike⟩, by rw [ht]; exact hP, hD⟩, hS.F ht⟩) hS.2.2
theorem va_A_sub {A0 : Nat → Prop} {w : va_W} {H0 H : Heap} {locs : List Loc} (hD : va_D A0 w) (hS : va_S A0 H0 H locs) (hA : ∀ q, H0.size ≤ q → A0 q) : ∀ q, va_A w H.size q → A0 q := by
  intro q h
  rcases h with ⟨k, e, h⟩ | h
  · exact hD.2 k _ h
  · exact hA q (Nat.le_trans hS.1 h)
/-- a call on the whole of the cells -/
theorem j_call {y : MethodName} {cw0 : Cond} {rm : Room} {mc ms maxL : Nat} {av st0 rest : List Value} {ig : Instr} (hC : jC p s m args meth c cc nL own Ts D cl tys A)
    (hM : jMet l y cw0 rm D cl tys Ts av ws mc ms post) (hrc : rm.cells = mc) (hrs : rm.slots = ms) (hcw : cw0 ∈ Ts) (hini : Cond.initialized y.cls ∈ Ts)
    (hlY : ∀ (U : State) (mk : MethodId) (a : Array Value), cw0.before a U = true → U.methodNamed? y = some mk → ∃ (methY : Method) (cY : Code), U.vm.method? mk = some methY ∧ methY.code = some cY ∧ cY.maxLocals = maxL)
    (inv : ∀ (H : Heap) (locs : List Loc) (ls : Array Slot), va_P D cl ws H → ls.size = c.maxLocals → ∀ T : State, T.heap = H → Stand p l e R s m args below meth c T locs cells slots → ∃ (vm₁ : Vm) (mk : MethodId), Stand p l e R s m args below meth c (T.setVm vm₁) locs cells slots ∧ (T.setVm vm₁).methodNamed? y = some mk ∧
      ∀ target, Steps p.tables e below (doInvoke e ((T.setVm vm₁).setTop (F0 m pc ls rest)) [] mk av.toArray).1 target → Steps p.tables e below (T.setTop (F0 m pc ls st0)) target)
    (hd : decode cc pc = .ok (ig, 3)) (hW : (rest.map fun v => v.category).sum ≤ 8)
    (hframes : rm.frames + 1 ≤ R.frames) (hlocals : 8 + (maxL + 11) + rm.locals ≤ R.locals) (hcells : cells + mc ≤ R.cells) (hslots : slots + ms ≤ R.slots)
    (kr : ∀ (v : Option Value) (w : va_W), post none v w → jJ p l e R s m args below meth c nL D cl A Q (cells + mc) (slots + ms) w lv (v.toList ++ rest) (pc + 3))
    (kt : ∀ (cn : String) (w : va_W), post (some cn) none w → jT p l e R s m args below meth c nL D cl A Q (cells + mc) (slots + ms) cn w lv pc) :
    jJ p l e R s m args below meth c nL D cl A Q cells slots ws lv st0 pc := by
  intro H locs ls hP hD hS hl
  obtain ⟨hx, hb, hml, hown, hts, hK, hA, hw, hz, hlocks⟩ := hC
  have hF := va_A_sub hD hS hA
  have hsz : ls.size = c.maxLocals := hl.1.trans hml.symm
  have back : ∀ (u t : State) (L : List Loc), u.heap = H → va_F (va_A ws H.size) u t → (∀ q ∈ L, va_A ws H.size q.base) → va_S A s.heap t.heap (locs ++ L) := by
    intro u t L hu hFt hL
    refine ⟨Nat.le_trans hS.1 (by have := hFt.1; rw [hu] at this; exact this), fun q h1 h2 => ?_, fun q hq => ?_⟩
    · have h3 := hFt.2 q (by rw [hu]; exact Nat.lt_of_lt_of_le h1 hS.1) (fun z => h2 (hF q z))
      rw [hu] at h3
      rw [h3]
      exact hS.2.1 q h1 h2
    · rcases List.mem_append.mp hq with h | h
      · exact hS.2.2 q h
      · exact hF _ (hL q h)
  refine hx_W (hM H.size) hrc hrs (inv H locs ls hP hsz) hsz (by rw [hb]; exact hd) hW (fun U mk hU hn => hlY U mk #[] (hw _ hcw _ _ hU) hn) (fun U hU => hw _ hini _ _ hU) (fun w0 h0 U hU => by rw [List.mem_singleton.mp h0]; exact hw _ hcw _ _ hU) hframes hlocals hcells hslots (fun U hU hWU => ?_) (fun v u t L hu hWu hq hL hWt => ?_) (fun x u t L hu hWu hq hL hWt => ?_)
  · exact ⟨rfl, by rw [hU], hw.go hWU, hz.go hWU.alike (fun a h1 h2 => by rw [hU]; exact hS.2.1 a h1 h2) hF, by rw [hU]; exact hP, va_K.moved hWU.alike hK, hD.weaken (fun _ _ _ _ => trivial)⟩
  · obtain ⟨⟨w, hp, hP1, hD1⟩, hFt⟩ := hq
    exact kr v w hp t.heap (locs ++ L) ls hP1 (hD1.weaken (fun _ _ _ h => hF _ h)) (back u t L hu hFt hL) hl
  · obtain ⟨⟨w, ⟨cn, hp, hx9⟩, hP1, hD1⟩, hFt⟩ := hq
    exact kt cn w hp t.heap (locs ++ L) ls x rest hP1 (hD1.weaken (fun _ _ _ h => hF _ h)) (back u t L hu hFt hL) hl (hx9.go hWt.alike.symm)
end JX
end
section
section JY
variable {p : Program} {l : Launch} {e : Env} {R : Room} {s : State} {m : MethodId} {args : Array Value} {below : List Frame} {meth : Method} {c : Code} {Q : State → Prop} {cells slots : Nat}
variable {cc : ByteArray} {nL : Nat} {own : String} {Ts : List Cond} {D : va_G} {cl : List vw_C} {tys : List (ClassId × FieldType)} {A : Nat → Prop}
variable {pc : Nat} {lv : List (Nat × Value)} {st : List Value} {ws : va_W} {post : Option String → Option Value → va_W → Prop}
variable {y : MethodName} {bytes : ByteArray} {maxL index mc ms : Nat} {ret : Option FieldType} {rm : Room} {As rest st0 : List Value}
theorem hx_lY : ∀ (U : State) (mk : MethodId) (a : Array Value), (Cond.code y bytes maxL ret).before a U = true → U.methodNamed? y = some mk → ∃ (methY : Method) (cY : Code), U.vm.method? mk = some methY ∧ methY.code = some cY ∧ cY.maxLocals = maxL := by
  intro U mk a h hn
  obtain ⟨methY, cY, h1, h2, -, h3, -, -, -, -⟩ := Cond.code_spec hn h
  exact ⟨methY, cY, h1, h2, h3⟩
theorem hx_sig {U : State} {a : Array Value} (h : (Cond.code y bytes maxL ret).before a U = true) : ∀ (mk : MethodId) (methM : Method), U.methodNamed? y = some mk → U.vm.method? mk = some methM → parseMethodDescriptor y.desc = some methM.sig := by
  intro mk methM hn hm
  obtain ⟨methY, cY, h1, -, -, -, -, -, -, h4⟩ := Cond.code_spec hn h
  cases hm.symm.trans h1
  exact h4
theorem hx_len {n : Nat} (h : (parseMethodDescriptor y.desc).map (fun d => d.parameters.length) = some n) {L : List Value} (hL : L.length = n) : ∀ sig, parseMethodDescriptor y.desc = some sig → L.length = sig.parameters.length := by
  intro sig hs
  rw [hs] at h
  exact hL.trans (Option.some.inj h).symm
/-- the words of a call: of a method of the receiver's own class; of a nest mate's private one; of a static one -/
def jwV (own : String) (index : Nat) (C : String) (y : MethodName) (cw0 : Cond) : List Cond := [cw0, .initialized y.cls, .methodLink own index y, .instanceMethod y, .selects C y y]
def jwN (own : String) (index : Nat) (C : String) (y : MethodName) (cw0 : Cond) (host : String) : List Cond := [cw0, .initialized y.cls, .methodLinkNest own index y host, .instanceMethod y, .selects C y y]
def jwS (own : String) (index : Nat) (y : MethodName) (cw0 : Cond) : List Cond := [cw0, .initialized y.cls, .methodLink own index y, .static y]
def jwSN (own : String) (index : Nat) (y : MethodName) (cw0 : Cond) (host : String) : List Cond := [cw0, .initialized y.cls, .methodLinkNest own index y host, .static y]
theorem j_callV (hC : jC p s m args meth c cc nL own Ts D cl tys A) {C : String} {T : u_T} {N ci b q0 : Nat} {fs : List Value}
    (hM : jMet l y (.code y bytes maxL ret) rm D cl tys Ts (.ref b :: As) ws mc ms post) (hrc : rm.cells = mc) (hrs : rm.slots = ms) (hw : ∀ w ∈ jwV own index C y (.code y bytes maxL ret), w ∈ Ts)
    (hy : y.cls ≠ "java/lang/invoke/MethodHandle" ∧ y.cls ≠ "java/lang/invoke/VarHandle" ∧ (parseMethodDescriptor y.desc).map (fun d => d.parameters.length) = some As.length)
    (he : ws[q0]? = some (b, .inr (ci, fs))) (hcl : cl[ci]? = some (C, T, N)) (hst : st0 = As.reverse ++ .ref b :: rest) (hd : decode cc pc = .ok (.invokevirtual index, 3)) (hW : (rest.map fun v => v.category).sum ≤ 8)
    (hfl : rm.frames + 1 ≤ R.frames ∧ 8 + (maxL + 11) + rm.locals ≤ R.locals) (hcs : cells + mc ≤ R.cells ∧ slots + ms ≤ R.slots)
    (kr : ∀ (v : Option Value) (w : va_W), post none v w → jJ p l e R s m args below meth c nL D cl A Q (cells + mc) (slots + ms) w lv (v.toList ++ rest) (pc + 3))
    (kt : ∀ (cn : String) (w : va_W), post (some cn) none w → jT p l e R s m args below meth c nL D cl A Q (cells + mc) (slots + ms) cn w lv pc) :
    jJ p l e R s m args below meth c nL D cl A Q cells slots ws lv st0 pc := by
  have hts := hC.2.2.2.2.1
  have h0 := hw _ (List.mem_cons_self)
  have h1 := hw _ (List.mem_of_getElem? (i := 1) rfl)
  have h2 := hw _ (List.mem_of_getElem? (i := 2) rfl)
  have h3 := hw _ (List.mem_of_getElem? (i := 3) rfl)
  have h4 := hw _ (List.mem_of_getElem? (i := 4) rfl)
  refine j_call hC hM hrc hrs h0 h1 hx_lY (fun H locs ls hP hsz T0 hT X => ?_) hd hW hfl.1 hfl.2 hcs.1 hcs.2 kr kt
  obtain ⟨cellB, g1, g2, g3⟩ := va_recv hC.2.2.2.2.2.1 hP hcl he
  exact hx_invV X hC.1 hC.2.2.2.1 (hts _ h2) (hts _ h3) (hts _ h4) (hx_sig (hts _ h0)) ⟨hy.1, hy.2.1⟩ (by rw [hT]; exact g1) g2 g3 (g := F0 m pc ls st0) rfl (argsL := As) (rest := rest) (hx_len hy.2.2 rfl) hst (by rw [hC.2.1]; exact hd)
theorem j_callN (hC : jC p s m args meth c cc nL own Ts D cl tys A) {C host : String} {T : u_T} {N ci b q0 : Nat} {fs : List Value}
    (hM : jMet l y (.code y bytes maxL ret) rm D cl tys Ts (.ref b :: As) ws mc ms post) (hrc : rm.cells = mc) (hrs : rm.slots = ms) (hw : ∀ w ∈ jwN own index C y (.code y bytes maxL ret) host, w ∈ Ts)
    (hy : y.cls ≠ "java/lang/invoke/MethodHandle" ∧ y.cls ≠ "java/lang/invoke/VarHandle" ∧ (parseMethodDescriptor y.desc).map (fun d => d.parameters.length) = some As.length)
    (he : ws[q0]? = some (b, .inr (ci, fs))) (hcl : cl[ci]? = some (C, T, N)) (hst : st0 = As.reverse ++ .ref b :: rest) (hd : decode cc pc = .ok (.invokevirtual index, 3)) (hW : (rest.map fun v => v.category).sum ≤ 8)
    (hfl : rm.frames + 1 ≤ R.frames ∧ 8 + (maxL + 11) + rm.locals ≤ R.locals) (hcs : cells + mc ≤ R.cells ∧ slots + ms ≤ R.slots)
    (kr : ∀ (v : Option Value) (w : va_W), post none v w → jJ p l e R s m args below meth c nL D cl A Q (cells + mc) (slots + ms) w lv (v.toList ++ rest) (pc + 3))
    (kt : ∀ (cn : String) (w : va_W), post (some cn) none w → jT p l e R s m args below meth c nL D cl A Q (cells + mc) (slots + ms) cn w lv pc) :
    jJ p l e R s m args below meth c nL D cl A Q cells slots ws lv st0 pc := by
  have hts := hC.2.2.2.2.1
  have h0 := hw _ (List.mem_cons_self)
  have h1 := hw _ (List.mem_of_getElem? (i := 1) rfl)
  have h2 := hw _ (List.mem_of_getElem? (i := 2) rfl)
  have h3 := hw _ (List.mem_of_getElem? (i := 3) rfl)
  have h4 := hw _ (List.mem_of_getElem? (i := 4) rfl)
  refine j_call hC hM hrc hrs h0 h1 hx_lY (fun H locs ls hP hsz T0 hT X => ?_) hd hW hfl.1 hfl.2 hcs.1 hcs.2 kr kt
  obtain ⟨cellB, g1, g2, g3⟩ := va_recv hC.2.2.2.2.2.1 hP hcl he
  exact hx_invVN X hC.1 hC.2.2.2.1 (hts _ h2) (hts _ h3) (hts _ h4) (hx_sig (hts _ h0)) ⟨hy.1, hy.2.1⟩ (by rw [hT]; exact g1) g2 g3 (g := F0 m pc ls st0) rfl (argsL := As) (rest := rest) (hx_len hy.2.2 rfl) hst (by rw [hC.2.1]; exact hd)
theorem j_callS (hC : jC p s m args meth c cc nL own Ts D cl tys A)
    (hM : jMet l y (.code y bytes maxL ret) rm D cl tys Ts As ws mc ms post) (hrc : rm.cells = mc) (hrs : rm.slots = ms) (hw : ∀ w ∈ jwS own index y (.code y bytes maxL ret), w ∈ Ts)
    (hy : y.cls ≠ "java/lang/invoke/MethodHandle" ∧ y.cls ≠ "java/lang/invoke/VarHandle" ∧ (parseMethodDescriptor y.desc).map (fun d => d.parameters.length) = some As.length)
    (hst : st0 = As.reverse ++ rest) (hd : decode cc pc = .ok (.invokestatic index, 3)) (hW : (rest.map fun v => v.category).sum ≤ 8)
    (hfl : rm.frames + 1 ≤ R.frames ∧ 8 + (maxL + 11) + rm.locals ≤ R.locals) (hcs : cells + mc ≤ R.cells ∧ slots + ms ≤ R.slots)
    (kr : ∀ (v : Option Value) (w : va_W), post none v w → jJ p l e R s m args below meth c nL D cl A Q (cells + mc) (slots + ms) w lv (v.toList ++ rest) (pc + 3))
    (kt : ∀ (cn : String) (w : va_W), post (some cn) none w → jT p l e R s m args below meth c nL D cl A Q (cells + mc) (slots + ms) cn w lv pc) :
    jJ p l e R s m args below meth c nL D cl A Q cells slots ws lv st0 pc := by
  have hts := hC.2.2.2.2.1
  have h0 := hw _ (List.mem_cons_self)
  have h1 := hw _ (List.mem_of_getElem? (i := 1) rfl)
  have h2 := hw _ (List.mem_of_getElem? (i := 2) rfl)
  have h3 := hw _ (List.mem_of_getElem? (i := 3) rfl)
  refine j_call hC hM hrc hrs h0 h1 hx_lY (fun H locs ls hP hsz T0 hT X => ?_) hd hW hfl.1 hfl.2 hcs.1 hcs.2 kr kt
  obtain ⟨mk, hnamed⟩ := Cond.code_named (hts _ h0)
  obtain ⟨methM, cM, hmethM, -, -, -, -, -, -, hsigM⟩ := Cond.code_spec hnamed (hts _ h0)
  exact hx_invS X hC.1 hC.2.2.2.1 (hts _ h2) (hts _ h3) (hts _ h1) hnamed hmethM hsigM ⟨hy.1, hy.2.1⟩ (g := F0 m pc ls st0) rfl (argsL := As) (rest := rest) (hx_len hy.2.2 rfl) hst (by rw [hC.2.1]; exact hd)
theorem j_callSN (hC : jC p s m args meth c cc nL own Ts D cl tys A) {host : String}
    (hM : jMet l y (.code y bytes maxL ret) rm D cl tys Ts As ws mc ms post) (hrc : rm.cells = mc) (hrs : rm.slots = ms) (hw : ∀ w ∈ jwSN own index y (.code y bytes maxL ret) host, w ∈ Ts)
    (hy : y.cls ≠ "java/lang/invoke/MethodHandle" ∧ y.cls ≠ "java/lang/invoke/VarHandle" ∧ (parseMethodDescriptor y.desc).map (fun d => d.parameters.length) = some As.length)
    (hst : st0 = As.reverse ++ rest) (hd : decode cc pc = .ok (.invokestatic index, 3)) (hW : (rest.map fun v => v.category).sum ≤ 8)
    (hfl : rm.frames + 1 ≤ R.frames ∧ 8 + (maxL + 11) + rm.locals ≤ R.locals) (hcs : cells + mc ≤ R.cells ∧ slots + ms ≤ R.slots)
    (kr : ∀ (v : Option Value) (w : va_W), post none v w → jJ p l e R s m args below meth c nL D cl A Q (cells + mc) (slots + ms) w lv (v.toList ++ rest) (pc + 3))
    (kt : ∀ (cn : String) (w : va_W), post (some cn) none w → jT p l e R s m args below meth c nL D cl A Q (cells + mc) (slots + ms) cn w lv pc) :
    jJ p l e R s m args below meth c nL D cl A Q cells slots ws lv st0 pc := by
  have hts := hC.2.2.2.2.1
  have h0 := hw _ (List.mem_cons_self)
  have h1 := hw _ (List.mem_of_getElem? (i := 1) rfl)
  have h2 := hw _ (List.mem_of_getElem? (i := 2) rfl)
  have h3 := hw _ (List.mem_of_getElem? (i := 3) rfl)
  refine j_call hC hM hrc hrs h0 h1 hx_lY (fun H locs ls hP hsz T0 hT X => ?_) hd hW hfl.1 hfl.2 hcs.1 hcs.2 kr kt
  obtain ⟨mk, hnamed⟩ := Cond.code_named (hts _ h0)
  obtain ⟨methM, cM, hmethM, -, -, -, -, -, -, hsigM⟩ := Cond.code_spec hnamed (hts _ h0)
  exact hx_invSN X hC.1 hC.2.2.2.1 (hts _ h2) (hts _ h3) (hts _ h1) hnamed hmethM hsigM ⟨hy.1, hy.2.1⟩ (g := F0 m pc ls st0) rfl (argsL := As) (rest := rest) (hx_len hy.2.2 rfl) hst (by rw [hC.2.1]; exact hd)
end JY
/-- a contract's end that only returns: this value, these cells -/
def jRet (v : Option Value) (w : va_W) : Option String → Option Value → va_W → Prop := fun o v' w' => o = none ∧ v' = v ∧ w' = w
section JZ
variable {p : Program} {l : Launch} {e : Env} {R : Room} {s : State} {m : MethodId} {args : Array Value} {below : List Frame} {meth : Method} {c : Code} {Q : State → Prop} {cells slots : Nat}
variable {cc : ByteArray} {nL : Nat} {own : String} {Ts : List Cond} {D : va_G} {cl : List vw_C} {tys : List (ClassId × FieldType)} {A : Nat → Prop}
variable {pc : Nat} {lv : List (Nat × Value)} {st : List Value} {ws w1 : va_W}
variable {y : MethodName} {bytes : ByteArray} {maxL index : Nat} {ret : Option FieldType} {rm : Room} {As rest st0 : List Value} {r : Option Value}
theorem j_callVr (hC : jC p s m args meth c cc nL own Ts D cl tys A) {C : String} {T : u_T} {N ci b q0 : Nat} {fs : List Value}
    (hM : jMet l y (.code y bytes maxL ret) rm D cl tys Ts (.ref b :: As) ws 0 0 (jRet r w1)) (hrc : rm.cells = 0) (hrs : rm.slots = 0) (hw : ∀ w ∈ jwV own index C y (.code y bytes maxL ret), w ∈ Ts)
    (hy : y.cls ≠ "java/lang/invoke/MethodHandle" ∧ y.cls ≠ "java/lang/invoke/VarHandle" ∧ (parseMethodDescriptor y.desc).map (fun d => d.parameters.length) = some As.length)
    (he : ws[q0]? = some (b, .inr (ci, fs))) (hcl : cl[ci]? = some (C, T, N)) (hst : st0 = As.reverse ++ .ref b :: rest) (hd : decode cc pc = .ok (.invokevirtual index, 3)) (hW : (rest.map fun v => v.category).sum ≤ 8)
    (hfl : rm.frames + 1 ≤ R.frames ∧ 8 + (maxL + 11) + rm.locals ≤ R.locals) (hcs : cells ≤ R.cells ∧ slots ≤ R.slots) {st1 : List Value} (hr : r.toList ++ rest = st1)
    (k : jJ p l e R s m args below meth c nL D cl A Q cells slots w1 lv st1 (pc + 3)) : jJ p l e R s m args below meth c nL D cl A Q cells slots ws lv st0 pc := by
  subst hr
  refine j_callV hC hM hrc hrs hw hy he hcl hst hd hW hfl hcs (fun v w h => ?_) (fun cn w h => by cases h.1)
  obtain ⟨-, rfl, rfl⟩ := h
  exact k
theorem j_callNr (hC : jC p s m args meth c cc nL own Ts D cl tys A) {C host : String} {T : u_T} {N ci b q0 : Nat} {fs : List Value}
    (hM : jMet l y (.code y bytes maxL ret) rm D cl tys Ts (.ref b :: As) ws 0 0 (jRet r w1)) (hrc : rm.cells = 0) (hrs : rm.slots = 0) (hw : ∀ w ∈ jwN own index C y (.code y bytes maxL ret) host, w ∈ Ts)
    (hy : y.cls ≠ "java/lang/invoke/MethodHandle" ∧ y.cls ≠ "java/lang/invoke/VarHandle" ∧ (parseMethodDescriptor y.desc).map (fun d => d.parameters.length) = some As.length)
    (he : ws[q0]? = some (b, .inr (ci, fs))) (hcl : cl[ci]? = some (C, T, N)) (hst : st0 = As.reverse ++ .ref b :: rest) (hd : decode cc pc = .ok (.invokevirtual index, 3)) (hW : (rest.map fun v => v.category).sum ≤ 8)
    (hfl : rm.frames + 1 ≤ R.frames ∧ 8 + (maxL + 11) + rm.locals ≤ R.locals) (hcs : cells ≤ R.cells ∧ slots ≤ R.slots) {st1 : List Value} (hr : r.toList ++ rest = st1)
    (k : jJ p l e R s m args below meth c nL D cl A Q cells slots w1 lv st1 (pc + 3)) : jJ p l e R s m args below meth c nL D cl A Q cells slots ws lv st0 pc := by
  subst hr
  refine j_callN hC hM hrc hrs hw hy he hcl hst hd hW hfl hcs (fun v w h => ?_) (fun cn w h => by cases h.1)
  obtain ⟨-, rfl, rfl⟩ := h
  exact k
theorem j_callSr (hC : jC p s m args meth c cc nL own Ts D cl tys A)
    (hM : jMet l y (.code y bytes maxL ret) rm D cl tys Ts As ws 0 0 (jRet r w1)) (hrc : rm.cells = 0) (hrs : rm.slots = 0) (hw : ∀ w ∈ jwS own index y (.code y bytes maxL ret), w ∈ Ts)
    (hy : y.cls ≠ "java/lang/invoke/MethodHandle" ∧ y.cls ≠ "java/lang/invoke/VarHandle" ∧ (parseMethodDescriptor y.desc).map (fun d => d.parameters.length) = some As.length)
    (hst : st0 = As.reverse ++ rest) (hd : decode cc pc = .ok (.invokestatic index, 3)) (hW : (rest.map fun v => v.category).sum ≤ 8)
    (hfl : rm.frames + 1 ≤ R.frames ∧ 8 + (maxL + 11) + rm.locals ≤ R.locals) (hcs : cells ≤ R.cells ∧ slots ≤ R.slots) {st1 : List Value} (hr : r.toList ++ rest = st1)
    (k : jJ p l e R s m args below meth c nL D cl A Q cells slots w1 lv st1 (pc + 3)) : jJ p l e R s m args below meth c nL D cl A Q cells slots ws lv st0 pc := by
  subst hr
  refine j_callS hC hM hrc hrs hw hy hst hd hW hfl hcs (fun v w h => ?_) (fun cn w h => by cases h.1)
  obtain ⟨-, rfl, rfl⟩ := h
  exact k
theorem j_callSNr (hC : jC p s m args meth c cc nL own Ts D cl tys A) {host : String}
    (hM : jMet l y (.code y bytes maxL ret) rm D cl tys Ts As ws 0 0 (jRet r w1)) (hrc : rm.cells = 0) (hrs : rm.slots = 0) (hw : ∀ w ∈ jwSN own index y (.code y bytes maxL ret) host, w ∈ Ts)
    (hy : y.cls ≠ "java/lang/invoke/MethodHandle" ∧ y.cls ≠ "java/lang/invoke/VarHandle" ∧ (parseMethodDescriptor y.desc).map (fun d => d.parameters.length) = some As.length)
    (hst : st0 = As.reverse ++ rest) (hd : decode cc pc = .ok (.invokestatic index, 3)) (hW : (rest.map fun v => v.category).sum ≤ 8)
    (hfl : rm.frames + 1 ≤ R.frames ∧ 8 + (maxL + 11) + rm.locals ≤ R.locals) (hcs : cells ≤ R.cells ∧ slots ≤ R.slots) {st1 : List Value} (hr : r.toList ++ rest = st1)
    (k : jJ p l e R s m args below meth c nL D cl A Q cells slots w1 lv st1 (pc + 3)) : jJ p l e R s m args below meth c nL D cl A Q cells slots ws lv st0 pc := by
  subst hr
  refine j_callSN hC hM hrc hrs hw hy hst hd hW hfl hcs (fun v w h => ?_) (fun cn w h => by cases h.1)
  obtain ⟨-, rfl, rfl⟩ := h
  exact k
end JZ
end
section
theorem wf_S_9 : Cond.fieldLink "StrataHouse$Sight" 9 "StrataHouse$Sight" "secondsByFirst" "[I" ∈ jTs := jin (jt1 (List.mem_of_getElem? (i := 39) rfl)) rfl
theorem wf_M_76 : Cond.fieldLinkNest "StrataHouse$Match" 76 "StrataHouse$Sight" "secondsByFirst" "[I" "StrataHouse" ∈ jTs := jin (jt1 (List.mem_of_getElem? (i := 40) rfl)) rfl
theorem wf_H_251 : Cond.fieldLinkNest "StrataHouse" 251 "StrataHouse$Sight" "secondsByFirst" "[I" "StrataHouse" ∈ jTs := jin (jt1 (List.mem_of_getElem? (i := 41) rfl)) rfl
theorem wf_S_15 : Cond.fieldLink "StrataHouse$Sight" 15 "StrataHouse$Sight" "firstsBySecond" "[I" ∈ jTs := jin (jt1 (List.mem_of_getElem? (i := 42) rfl)) rfl
theorem wf_M_73 : Cond.fieldLinkNest "StrataHouse$Match" 73 "StrataHouse$Sight" "firstsBySecond" "[I" "StrataHouse" ∈ jTs := jin (jt1 (List.mem_of_getElem? (i := 43) rfl)) rfl
theorem wf_S_18 : Cond.fieldLink "StrataHouse$Sight" 18 "StrataHouse$Sight" "firsts" "[I" ∈ jTs := jin (jt1 (List.mem_of_getElem? (i := 44) rfl)) rfl
theorem wf_M_79 : Cond.fieldLinkNest "StrataHouse$Match" 79 "StrataHouse$Sight" "firsts" "[I" "StrataHouse" ∈ jTs := jin (jt1 (List.mem_of_getElem? (i := 45) rfl)) rfl
theorem wf_S_21 : Cond.fieldLink "StrataHouse$Sight" 21 "StrataHouse$Sight" "seconds" "[I" ∈ jTs := jin (jt1 (List.mem_of_getElem? (i := 46) rfl)) rfl
theorem wf_M_82 : Cond.fieldLinkNest "StrataHouse$Match" 82 "StrataHouse$Sight" "seconds" "[I" "StrataHouse" ∈ jTs := jin (jt1 (List.mem_of_getElem? (i := 47) rfl)) rfl
theorem wf_S_24 : Cond.fieldLink "StrataHouse$Sight" 24 "StrataHouse$Sight" "doubles" "[I" ∈ jTs := jin (jt1 (List.mem_of_getElem? (i := 48) rfl)) rfl
theorem wf_M_70 : Cond.fieldLinkNest "StrataHouse$Match" 70 "StrataHouse$Sight" "doubles" "[I" "StrataHouse" ∈ jTs := jin (jt1 (List.mem_of_getElem? (i := 49) rfl)) rfl
theorem wf_M_12 : Cond.fieldLink "StrataHouse$Match" 12 "StrataHouse$Match" "sight" "LStrataHouse$Sight;" ∈ jTs := jin (jt1 (List.mem_of_getElem? (i := 62) rfl)) rfl
theorem wf_H_247 : Cond.fieldLinkNest "StrataHouse" 247 "StrataHouse$Match" "sight" "LStrataHouse$Sight;" "StrataHouse" ∈ jTs := jin (jt1 (List.mem_of_getElem? (i := 63) rfl)) rfl
theorem wf_M_18 : Cond.fieldLink "StrataHouse$Match" 18 "StrataHouse$Match" "values" "[I" ∈ jTs := jin (jt1 (List.mem_of_getElem? (i := 64) rfl)) rfl
theorem wf_H_151 : Cond.fieldLinkNest "StrataHouse" 151 "StrataHouse$Match" "values" "[I" "StrataHouse" ∈ jTs := jin (jt1 (List.mem_of_getElem? (i := 65) rfl)) rfl
theorem wf_A_9 : Cond.fieldLink "StrataHouse$Atom" 9 "StrataHouse$Atom" "relation" "I" ∈ jTs := jin (jt1 (List.mem_of_getElem? (i := 82) rfl)) rfl
theorem wf_M_31 : Cond.fieldLinkNest "StrataHouse$Match" 31 "StrataHouse$Atom" "relation" "I" "StrataHouse" ∈ jTs := jin (jt1 (List.mem_of_getElem? (i := 83) rfl)) rfl
theorem wf_R_46 : Cond.fieldLinkNest "StrataHouse$Rule" 46 "StrataHouse$Atom" "relation" "I" "StrataHouse" ∈ jTs := jin (jt1 (List.mem_of_getElem? (i := 84) rfl)) rfl
theorem wf_H_205 : Cond.fieldLinkNest "StrataHouse" 205 "StrataHouse$Atom" "relation" "I" "StrataHouse" ∈ jTs := jin (jt1 (List.mem_of_getElem? (i := 85) rfl)) rfl
theorem wf_A_15 : Cond.fieldLink "StrataHouse$Atom" 15 "StrataHouse$Atom" "first" "I" ∈ jTs := jin (jt1 (List.mem_of_getElem? (i := 86) rfl)) rfl
theorem wf_M_37 : Cond.fieldLinkNest "StrataHouse$Match" 37 "StrataHouse$Atom" "first" "I" "StrataHouse" ∈ jTs := jin (jt1 (List.mem_of_getElem? (i := 87) rfl)) rfl
theorem wf_H_241 : Cond.fieldLinkNest "StrataHouse" 241 "StrataHouse$Atom" "first" "I" "StrataHouse" ∈ jTs := jin (jt1 (List.mem_of_getElem? (i := 88) rfl)) rfl
theorem wf_A_18 : Cond.fieldLink "StrataHouse$Atom" 18 "StrataHouse$Atom" "second" "I" ∈ jTs := jin (jt1 (List.mem_of_getElem? (i := 89) rfl)) rfl
theorem wf_M_44 : Cond.fieldLinkNest "StrataHouse$Match" 44 "StrataHouse$Atom" "second" "I" "StrataHouse" ∈ jTs := jin (jt1 (List.mem_of_getElem? (i := 90) rfl)) rfl
theorem wf_H_259 : Cond.fieldLinkNest "StrataHouse" 259 "StrataHouse$Atom" "second" "I" "StrataHouse" ∈ jTs := jin (jt1 (List.mem_of_getElem? (i := 91) rfl)) rfl
theorem wf_A_21 : Cond.fieldLink "StrataHouse$Atom" 21 "StrataHouse$Atom" "negated" "Z" ∈ jTs := jin (jt1 (List.mem_of_getElem? (i := 92) rfl)) rfl
theorem wf_M_62 : Cond.fieldLinkNest "StrataHouse$Match" 62 "StrataHouse$Atom" "negated" "Z" "StrataHouse" ∈ jTs := jin (jt1 (List.mem_of_getElem? (i := 93) rfl)) rfl
theorem wf_R_49 : Cond.fieldLinkNest "StrataHouse$Rule" 49 "StrataHouse$Atom" "negated" "Z" "StrataHouse" ∈ jTs := jin (jt1 (List.mem_of_getElem? (i := 94) rfl)) rfl
theorem wf_R_12 : Cond.fieldLink "StrataHouse$Rule" 12 "StrataHouse$Rule" "head" "LStrataHouse$Atom;" ∈ jTs := jin (jt1 (List.mem_of_getElem? (i := 105) rfl)) rfl
theorem wf_M_25 : Cond.fieldLinkNest "StrataHouse$Match" 25 "StrataHouse$Rule" "head" "LStrataHouse$Atom;" "StrataHouse" ∈ jTs := jin (jt1 (List.mem_of_getElem? (i := 106) rfl)) rfl
theorem wf_H_201 : Cond.fieldLinkNest "StrataHouse" 201 "StrataHouse$Rule" "head" "LStrataHouse$Atom;" "StrataHouse" ∈ jTs := jin (jt1 (List.mem_of_getElem? (i := 107) rfl)) rfl
theorem wf_R_18 : Cond.fieldLink "StrataHouse$Rule" 18 "StrataHouse$Rule" "literals" "[LStrataHouse$Atom;" ∈ jTs := jin (jt1 (List.mem_of_getElem? (i := 108) rfl)) rfl
theorem wf_M_54 : Cond.fieldLinkNest "StrataHouse$Match" 54 "StrataHouse$Rule" "literals" "[LStrataHouse$Atom;" "StrataHouse" ∈ jTs := jin (jt1 (List.mem_of_getElem? (i := 109) rfl)) rfl
theorem wf_R_26 : Cond.fieldLink "StrataHouse$Rule" 26 "StrataHouse$Rule" "size" "I" ∈ jTs := jin (jt1 (List.mem_of_getElem? (i := 110) rfl)) rfl
theorem wf_M_51 : Cond.fieldLinkNest "StrataHouse$Match" 51 "StrataHouse$Rule" "size" "I" "StrataHouse" ∈ jTs := jin (jt1 (List.mem_of_getElem? (i := 111) rfl)) rfl
theorem wf_H_108 : Cond.fieldLinkNest "StrataHouse" 108 "StrataHouse$Rule" "size" "I" "StrataHouse" ∈ jTs := jin (jt1 (List.mem_of_getElem? (i := 112) rfl)) rfl
theorem wf_R_34 : Cond.fieldLink "StrataHouse$Rule" 34 "StrataHouse$Rule" "variables" "I" ∈ jTs := jin (jt1 (List.mem_of_getElem? (i := 113) rfl)) rfl
theorem wf_M_85 : Cond.fieldLinkNest "StrataHouse$Match" 85 "StrataHouse$Rule" "variables" "I" "StrataHouse" ∈ jTs := jin (jt1 (List.mem_of_getElem? (i := 114) rfl)) rfl
theorem wf_R_36 : Cond.fieldLink "StrataHouse$Rule" 36 "StrataHouse$Rule" "positiveVariables" "I" ∈ jTs := jin (jt1 (List.mem_of_getElem? (i := 115) rfl)) rfl
theorem wf_R_39 : Cond.fieldLink "StrataHouse$Rule" 39 "StrataHouse$Rule" "positiveRelations" "I" ∈ jTs := jin (jt1 (List.mem_of_getElem? (i := 116) rfl)) rfl
theorem wf_H_231 : Cond.fieldLinkNest "StrataHouse" 231 "StrataHouse$Rule" "positiveRelations" "I" "StrataHouse" ∈ jTs := jin (jt1 (List.mem_of_getElem? (i := 117) rfl)) rfl
theorem wf_H_11 : Cond.fieldLink "StrataHouse" 11 "StrataHouse" "places" "[I" ∈ jTs := jin (jt1 (List.mem_of_getElem? (i := 131) rfl)) rfl
theorem wf_H_15 : Cond.fieldLink "StrataHouse" 15 "StrataHouse" "given" "[I" ∈ jTs := jin (jt1 (List.mem_of_getElem? (i := 132) rfl)) rfl
theorem wf_H_20 : Cond.fieldLink "StrataHouse" 20 "StrataHouse" "rules" "[LStrataHouse$Rule;" ∈ jTs := jin (jt1 (List.mem_of_getElem? (i := 133) rfl)) rfl
theorem wf_H_51 : Cond.fieldLink "StrataHouse" 51 "StrataHouse" "relationCount" "I" ∈ jTs := jin (jt1 (List.mem_of_getElem? (i := 134) rfl)) rfl
theorem wf_H_54 : Cond.fieldLink "StrataHouse" 54 "StrataHouse" "ruleCount" "I" ∈ jTs := jin (jt1 (List.mem_of_getElem? (i := 135) rfl)) rfl
theorem wf_H_24 : Cond.fieldLink "StrataHouse" 24 "StrataHouse" "layers" "[I" ∈ jTs := jin (jt1 (List.mem_of_getElem? (i := 136) rfl)) rfl
theorem wf_H_27 : Cond.fieldLink "StrataHouse" 27 "StrataHouse" "ranks" "[I" ∈ jTs := jin (jt1 (List.mem_of_getElem? (i := 137) rfl)) rfl
theorem wf_H_30 : Cond.fieldLink "StrataHouse" 30 "StrataHouse" "fresh" "[I" ∈ jTs := jin (jt1 (List.mem_of_getElem? (i := 138) rfl)) rfl
theorem wf_H_36 : Cond.fieldLink "StrataHouse" 36 "StrataHouse" "match" "LStrataHouse$Match;" ∈ jTs := jin (jt1 (List.mem_of_getElem? (i := 139) rfl)) rfl
theorem wf_H_40 : Cond.fieldLink "StrataHouse" 40 "StrataHouse" "faultFound" "I" ∈ jTs := jin (jt1 (List.mem_of_getElem? (i := 140) rfl)) rfl
theorem wf_H_177 : Cond.fieldLink "StrataHouse" 177 "StrataHouse" "judged" "Z" ∈ jTs := jin (jt1 (List.mem_of_getElem? (i := 141) rfl)) rfl
theorem wf_H_181 : Cond.fieldLink "StrataHouse" 181 "StrataHouse" "settled" "Z" ∈ jTs := jin (jt1 (List.mem_of_getElem? (i := 142) rfl)) rfl
theorem wf_D_44 : Cond.fieldLink "StrataHouseModel" 44 "StrataHouseModel" "thrown" "I" ∈ jTs := jin (jt3 (List.mem_of_getElem? (i := 110) rfl)) rfl
theorem wf_D_48 : Cond.fieldLink "StrataHouseModel" 48 "StrataHouseModel" "relations" "I" ∈ jTs := jin (jt3 (List.mem_of_getElem? (i := 111) rfl)) rfl
theorem wf_D_7 : Cond.fieldLink "StrataHouseModel" 7 "StrataHouseModel" "places" "[I" ∈ jTs := jin (jt3 (List.mem_of_getElem? (i := 112) rfl)) rfl
theorem wf_D_13 : Cond.fieldLink "StrataHouseModel" 13 "StrataHouseModel" "given" "[Z" ∈ jTs := jin (jt3 (List.mem_of_getElem? (i := 113) rfl)) rfl
theorem wf_D_17 : Cond.fieldLink "StrataHouseModel" 17 "StrataHouseModel" "ranks" "[I" ∈ jTs := jin (jt3 (List.mem_of_getElem? (i := 114) rfl)) rfl
theorem wf_D_51 : Cond.fieldLink "StrataHouseModel" 51 "StrataHouseModel" "rules" "I" ∈ jTs := jin (jt3 (List.mem_of_getElem? (i := 115) rfl)) rfl
theorem wf_D_20 : Cond.fieldLink "StrataHouseModel" 20 "StrataHouseModel" "counts" "[I" ∈ jTs := jin (jt3 (List.mem_of_getElem? (i := 116) rfl)) rfl
theorem wf_D_23 : Cond.fieldLink "StrataHouseModel" 23 "StrataHouseModel" "of" "[I" ∈ jTs := jin (jt3 (List.mem_of_getElem? (i := 117) rfl)) rfl
theorem wf_D_26 : Cond.fieldLink "StrataHouseModel" 26 "StrataHouseModel" "first" "[I" ∈ jTs := jin (jt3 (List.mem_of_getElem? (i := 118) rfl)) rfl
theorem wf_D_29 : Cond.fieldLink "StrataHouseModel" 29 "StrataHouseModel" "second" "[I" ∈ jTs := jin (jt3 (List.mem_of_getElem? (i := 119) rfl)) rfl
theorem wf_D_32 : Cond.fieldLink "StrataHouseModel" 32 "StrataHouseModel" "negated" "[Z" ∈ jTs := jin (jt3 (List.mem_of_getElem? (i := 120) rfl)) rfl
theorem wf_D_35 : Cond.fieldLink "StrataHouseModel" 35 "StrataHouseModel" "layers" "[I" ∈ jTs := jin (jt3 (List.mem_of_getElem? (i := 121) rfl)) rfl
theorem wf_D_54 : Cond.fieldLink "StrataHouseModel" 54 "StrataHouseModel" "known" "Z" ∈ jTs := jin (jt3 (List.mem_of_getElem? (i := 122) rfl)) rfl
theorem wf_D_121 : Cond.fieldLink "StrataHouseModel" 121 "StrataHouseModel" "fault" "I" ∈ jTs := jin (jt3 (List.mem_of_getElem? (i := 123) rfl)) rfl
theorem wf_D_38 : Cond.fieldLink "StrataHouseModel" 38 "StrataHouseModel" "values" "[I" ∈ jTs := jin (jt3 (List.mem_of_getElem? (i := 124) rfl)) rfl
theorem wf_D_41 : Cond.fieldLink "StrataHouseModel" 41 "StrataHouseModel" "news" "[Z" ∈ jTs := jin (jt3 (List.mem_of_getElem? (i := 125) rfl)) rfl
theorem yn_H_init : y_H_init.cls ≠ "java/lang/invoke/MethodHandle" ∧ y_H_init.cls ≠ "java/lang/invoke/VarHandle" ∧ (parseMethodDescriptor y_H_init.desc).map (fun d => d.parameters.length) = some 0 := by decide +kernel
theorem yn_H_clear : y_H_clear.cls ≠ "java/lang/invoke/MethodHandle" ∧ y_H_clear.cls ≠ "java/lang/invoke/VarHandle" ∧ (parseMethodDescriptor y_H_clear.desc).map (fun d => d.parameters.length) = some 0 := by decide +kernel
theorem yn_H_relation : y_H_relation.cls ≠ "java/lang/invoke/MethodHandle" ∧ y_H_relation.cls ≠ "java/lang/invoke/VarHandle" ∧ (parseMethodDescriptor y_H_relation.desc).map (fun d => d.parameters.length) = some 1 := by decide +kernel
theorem yn_H_give : y_H_give.cls ≠ "java/lang/invoke/MethodHandle" ∧ y_H_give.cls ≠ "java/lang/invoke/VarHandle" ∧ (parseMethodDescriptor y_H_give.desc).map (fun d => d.parameters.length) = some 3 := by decide +kernel
theorem yn_H_take : y_H_take.cls ≠ "java/lang/invoke/MethodHandle" ∧ y_H_take.cls ≠ "java/lang/invoke/VarHandle" ∧ (parseMethodDescriptor y_H_take.desc).map (fun d => d.parameters.length) = some 3 := by decide +kernel
theorem yn_H_rule : y_H_rule.cls ≠ "java/lang/invoke/MethodHandle" ∧ y_H_rule.cls ≠ "java/lang/invoke/VarHandle" ∧ (parseMethodDescriptor y_H_rule.desc).map (fun d => d.parameters.length) = some 3 := by decide +kernel
theorem yn_H_literal : y_H_literal.cls ≠ "java/lang/invoke/MethodHandle" ∧ y_H_literal.cls ≠ "java/lang/invoke/VarHandle" ∧ (parseMethodDescriptor y_H_literal.desc).map (fun d => d.parameters.length) = some 4 := by decide +kernel
theorem yn_H_unrule : y_H_unrule.cls ≠ "java/lang/invoke/MethodHandle" ∧ y_H_unrule.cls ≠ "java/lang/invoke/VarHandle" ∧ (parseMethodDescriptor y_H_unrule.desc).map (fun d => d.parameters.length) = some 0 := by decide +kernel
theorem yn_H_fault : y_H_fault.cls ≠ "java/lang/invoke/MethodHandle" ∧ y_H_fault.cls ≠ "java/lang/invoke/VarHandle" ∧ (parseMethodDescriptor y_H_fault.desc).map (fun d => d.parameters.length) = some 0 := by decide +kernel
theorem yn_H_layer : y_H_layer.cls ≠ "java/lang/invoke/MethodHandle" ∧ y_H_layer.cls ≠ "java/lang/invoke/VarHandle" ∧ (parseMethodDescriptor y_H_layer.desc).map (fun d => d.parameters.length) = some 1 := by decide +kernel
theorem yn_H_count : y_H_count.cls ≠ "java/lang/invoke/MethodHandle" ∧ y_H_count.cls ≠ "java/lang/invoke/VarHandle" ∧ (parseMethodDescriptor y_H_count.desc).map (fun d => d.parameters.length) = some 1 := by decide +kernel
theorem yn_H_rank : y_H_rank.cls ≠ "java/lang/invoke/MethodHandle" ∧ y_H_rank.cls ≠ "java/lang/invoke/VarHandle" ∧ (parseMethodDescriptor y_H_rank.desc).map (fun d => d.parameters.length) = some 3 := by decide +kernel
theorem yn_H_ways : y_H_ways.cls ≠ "java/lang/invoke/MethodHandle" ∧ y_H_ways.cls ≠ "java/lang/invoke/VarHandle" ∧ (parseMethodDescriptor y_H_ways.desc).map (fun d => d.parameters.length) = some 3 := by decide +kernel
theorem yn_H_proof : y_H_proof.cls ≠ "java/lang/invoke/MethodHandle" ∧ y_H_proof.cls ≠ "java/lang/invoke/VarHandle" ∧ (parseMethodDescriptor y_H_proof.desc).map (fun d => d.parameters.length) = some 4 := by decide +kernel
theorem yn_H_checkRelation : y_H_checkRelation.cls ≠ "java/lang/invoke/MethodHandle" ∧ y_H_checkRelation.cls ≠ "java/lang/invoke/VarHandle" ∧ (parseMethodDescriptor y_H_checkRelation.desc).map (fun d => d.parameters.length) = some 1 := by decide +kernel
theorem yn_H_checkFact : y_H_checkFact.cls ≠ "java/lang/invoke/MethodHandle" ∧ y_H_checkFact.cls ≠ "java/lang/invoke/VarHandle" ∧ (parseMethodDescriptor y_H_checkFact.desc).map (fun d => d.parameters.length) = some 3 := by decide +kernel
theorem yn_H_checkTerms : y_H_checkTerms.cls ≠ "java/lang/invoke/MethodHandle" ∧ y_H_checkTerms.cls ≠ "java/lang/invoke/VarHandle" ∧ (parseMethodDescriptor y_H_checkTerms.desc).map (fun d => d.parameters.length) = some 3 := by decide +kernel
theorem yn_H_checkSomeRule : y_H_checkSomeRule.cls ≠ "java/lang/invoke/MethodHandle" ∧ y_H_checkSomeRule.cls ≠ "java/lang/invoke/VarHandle" ∧ (parseMethodDescriptor y_H_checkSomeRule.desc).map (fun d => d.parameters.length) = some 0 := by decide +kernel
theorem yn_H_checkNoFault : y_H_checkNoFault.cls ≠ "java/lang/invoke/MethodHandle" ∧ y_H_checkNoFault.cls ≠ "java/lang/invoke/VarHandle" ∧ (parseMethodDescriptor y_H_checkNoFault.desc).map (fun d => d.parameters.length) = some 0 := by decide +kernel
theorem yn_H_isConstant : y_H_isConstant.cls ≠ "java/lang/invoke/MethodHandle" ∧ y_H_isConstant.cls ≠ "java/lang/invoke/VarHandle" ∧ (parseMethodDescriptor y_H_isConstant.desc).map (fun d => d.parameters.length) = some 1 := by decide +kernel
theorem yn_H_isTerm : y_H_isTerm.cls ≠ "java/lang/invoke/MethodHandle" ∧ y_H_isTerm.cls ≠ "java/lang/invoke/VarHandle" ∧ (parseMethodDescriptor y_H_isTerm.desc).map (fun d => d.parameters.length) = some 1 := by decide +kernel
theorem yn_H_firstOf : y_H_firstOf.cls ≠ "java/lang/invoke/MethodHandle" ∧ y_H_firstOf.cls ≠ "java/lang/invoke/VarHandle" ∧ (parseMethodDescriptor y_H_firstOf.desc).map (fun d => d.parameters.length) = some 2 := by decide +kernel
theorem yn_H_secondOf : y_H_secondOf.cls ≠ "java/lang/invoke/MethodHandle" ∧ y_H_secondOf.cls ≠ "java/lang/invoke/VarHandle" ∧ (parseMethodDescriptor y_H_secondOf.desc).map (fun d => d.parameters.length) = some 2 := by decide +kernel
theorem yn_H_rowAt : y_H_rowAt.cls ≠ "java/lang/invoke/MethodHandle" ∧ y_H_rowAt.cls ≠ "java/lang/invoke/VarHandle" ∧ (parseMethodDescriptor y_H_rowAt.desc).map (fun d => d.parameters.length) = some 2 := by decide +kernel
theorem yn_H_factAt : y_H_factAt.cls ≠ "java/lang/invoke/MethodHandle" ∧ y_H_factAt.cls ≠ "java/lang/invoke/VarHandle" ∧ (parseMethodDescriptor y_H_factAt.desc).map (fun d => d.parameters.length) = some 3 := by decide +kernel
theorem yn_H_hasBit : y_H_hasBit.cls ≠ "java/lang/invoke/MethodHandle" ∧ y_H_hasBit.cls ≠ "java/lang/invoke/VarHandle" ∧ (parseMethodDescriptor y_H_hasBit.desc).map (fun d => d.parameters.length) = some 2 := by decide +kernel
theorem yn_H_rulesChanged : y_H_rulesChanged.cls ≠ "java/lang/invoke/MethodHandle" ∧ y_H_rulesChanged.cls ≠ "java/lang/invoke/VarHandle" ∧ (parseMethodDescriptor y_H_rulesChanged.desc).map (fun d => d.parameters.length) = some 0 := by decide +kernel
theorem yn_H_setGiven : y_H_setGiven.cls ≠ "java/lang/invoke/MethodHandle" ∧ y_H_setGiven.cls ≠ "java/lang/invoke/VarHandle" ∧ (parseMethodDescriptor y_H_setGiven.desc).map (fun d => d.parameters.length) = some 4 := by decide +kernel
theorem yn_H_judge : y_H_judge.cls ≠ "java/lang/invoke/MethodHandle" ∧ y_H_judge.cls ≠ "java/lang/invoke/VarHandle" ∧ (parseMethodDescriptor y_H_judge.desc).map (fun d => d.parameters.length) = some 0 := by decide +kernel
theorem yn_H_firstUnsafe : y_H_firstUnsafe.cls ≠ "java/lang/invoke/MethodHandle" ∧ y_H_firstUnsafe.cls ≠ "java/lang/invoke/VarHandle" ∧ (parseMethodDescriptor y_H_firstUnsafe.desc).map (fun d => d.parameters.length) = some 0 := by decide +kernel
theorem yn_H_findLayers : y_H_findLayers.cls ≠ "java/lang/invoke/MethodHandle" ∧ y_H_findLayers.cls ≠ "java/lang/invoke/VarHandle" ∧ (parseMethodDescriptor y_H_findLayers.desc).map (fun d => d.parameters.length) = some 0 := by decide +kernel
theorem yn_H_raiseLayers : y_H_raiseLayers.cls ≠ "java/lang/invoke/MethodHandle" ∧ y_H_raiseLayers.cls ≠ "java/lang/invoke/VarHandle" ∧ (parseMethodDescriptor y_H_raiseLayers.desc).map (fun d => d.parameters.length) = some 0 := by decide +kernel
theorem yn_H_topLayer : y_H_topLayer.cls ≠ "java/lang/invoke/MethodHandle" ∧ y_H_topLayer.cls ≠ "java/lang/invoke/VarHandle" ∧ (parseMethodDescriptor y_H_topLayer.desc).map (fun d => d.parameters.length) = some 0 := by decide +kernel
theorem yn_H_settle : y_H_settle.cls ≠ "java/lang/invoke/MethodHandle" ∧ y_H_settle.cls ≠ "java/lang/invoke/VarHandle" ∧ (parseMethodDescriptor y_H_settle.desc).map (fun d => d.parameters.length) = some 0 := by decide +kernel
theorem yn_H_rankGiven : y_H_rankGiven.cls ≠ "java/lang/invoke/MethodHandle" ∧ y_H_rankGiven.cls ≠ "java/lang/invoke/VarHandle" ∧ (parseMethodDescriptor y_H_rankGiven.desc).map (fun d => d.parameters.length) = some 0 := by decide +kernel
theorem yn_H_bringRound : y_H_bringRound.cls ≠ "java/lang/invoke/MethodHandle" ∧ y_H_bringRound.cls ≠ "java/lang/invoke/VarHandle" ∧ (parseMethodDescriptor y_H_bringRound.desc).map (fun d => d.parameters.length) = some 3 := by decide +kernel
theorem yn_H_bringByRule : y_H_bringByRule.cls ≠ "java/lang/invoke/MethodHandle" ∧ y_H_bringByRule.cls ≠ "java/lang/invoke/VarHandle" ∧ (parseMethodDescriptor y_H_bringByRule.desc).map (fun d => d.parameters.length) = some 2 := by decide +kernel
theorem yn_H_showFresh : y_H_showFresh.cls ≠ "java/lang/invoke/MethodHandle" ∧ y_H_showFresh.cls ≠ "java/lang/invoke/VarHandle" ∧ (parseMethodDescriptor y_H_showFresh.desc).map (fun d => d.parameters.length) = some 0 := by decide +kernel
theorem yn_H_look : y_H_look.cls ≠ "java/lang/invoke/MethodHandle" ∧ y_H_look.cls ≠ "java/lang/invoke/VarHandle" ∧ (parseMethodDescriptor y_H_look.desc).map (fun d => d.parameters.length) = some 2 := by decide +kernel
theorem yn_H_lookAt : y_H_lookAt.cls ≠ "java/lang/invoke/MethodHandle" ∧ y_H_lookAt.cls ≠ "java/lang/invoke/VarHandle" ∧ (parseMethodDescriptor y_H_lookAt.desc).map (fun d => d.parameters.length) = some 2 := by decide +kernel
theorem yn_H_leastRule : y_H_leastRule.cls ≠ "java/lang/invoke/MethodHandle" ∧ y_H_leastRule.cls ≠ "java/lang/invoke/VarHandle" ∧ (parseMethodDescriptor y_H_leastRule.desc).map (fun d => d.parameters.length) = some 3 := by decide +kernel
theorem yn_D_init : y_D_init.cls ≠ "java/lang/invoke/MethodHandle" ∧ y_D_init.cls ≠ "java/lang/invoke/VarHandle" ∧ (parseMethodDescriptor y_D_init.desc).map (fun d => d.parameters.length) = some 0 := by decide +kernel
theorem yn_D_thrown : y_D_thrown.cls ≠ "java/lang/invoke/MethodHandle" ∧ y_D_thrown.cls ≠ "java/lang/invoke/VarHandle" ∧ (parseMethodDescriptor y_D_thrown.desc).map (fun d => d.parameters.length) = some 0 := by decide +kernel
theorem yn_D_refuse : y_D_refuse.cls ≠ "java/lang/invoke/MethodHandle" ∧ y_D_refuse.cls ≠ "java/lang/invoke/VarHandle" ∧ (parseMethodDescriptor y_D_refuse.desc).map (fun d => d.parameters.length) = some 3 := by decide +kernel
theorem yn_D_in : y_D_in.cls ≠ "java/lang/invoke/MethodHandle" ∧ y_D_in.cls ≠ "java/lang/invoke/VarHandle" ∧ (parseMethodDescriptor y_D_in.desc).map (fun d => d.parameters.length) = some 3 := by decide +kernel
theorem yn_D_clear : y_D_clear.cls ≠ "java/lang/invoke/MethodHandle" ∧ y_D_clear.cls ≠ "java/lang/invoke/VarHandle" ∧ (parseMethodDescriptor y_D_clear.desc).map (fun d => d.parameters.length) = some 0 := by decide +kernel
theorem yn_D_relation : y_D_relation.cls ≠ "java/lang/invoke/MethodHandle" ∧ y_D_relation.cls ≠ "java/lang/invoke/VarHandle" ∧ (parseMethodDescriptor y_D_relation.desc).map (fun d => d.parameters.length) = some 1 := by decide +kernel
theorem yn_D_isFact : y_D_isFact.cls ≠ "java/lang/invoke/MethodHandle" ∧ y_D_isFact.cls ≠ "java/lang/invoke/VarHandle" ∧ (parseMethodDescriptor y_D_isFact.desc).map (fun d => d.parameters.length) = some 3 := by decide +kernel
theorem yn_D_factAt : y_D_factAt.cls ≠ "java/lang/invoke/MethodHandle" ∧ y_D_factAt.cls ≠ "java/lang/invoke/VarHandle" ∧ (parseMethodDescriptor y_D_factAt.desc).map (fun d => d.parameters.length) = some 3 := by decide +kernel
theorem yn_D_give : y_D_give.cls ≠ "java/lang/invoke/MethodHandle" ∧ y_D_give.cls ≠ "java/lang/invoke/VarHandle" ∧ (parseMethodDescriptor y_D_give.desc).map (fun d => d.parameters.length) = some 3 := by decide +kernel
theorem yn_D_take : y_D_take.cls ≠ "java/lang/invoke/MethodHandle" ∧ y_D_take.cls ≠ "java/lang/invoke/VarHandle" ∧ (parseMethodDescriptor y_D_take.desc).map (fun d => d.parameters.length) = some 3 := by decide +kernel
theorem yn_D_isTerm : y_D_isTerm.cls ≠ "java/lang/invoke/MethodHandle" ∧ y_D_isTerm.cls ≠ "java/lang/invoke/VarHandle" ∧ (parseMethodDescriptor y_D_isTerm.desc).map (fun d => d.parameters.length) = some 1 := by decide +kernel
theorem yn_D_areTerms : y_D_areTerms.cls ≠ "java/lang/invoke/MethodHandle" ∧ y_D_areTerms.cls ≠ "java/lang/invoke/VarHandle" ∧ (parseMethodDescriptor y_D_areTerms.desc).map (fun d => d.parameters.length) = some 3 := by decide +kernel
theorem yn_D_put : y_D_put.cls ≠ "java/lang/invoke/MethodHandle" ∧ y_D_put.cls ≠ "java/lang/invoke/VarHandle" ∧ (parseMethodDescriptor y_D_put.desc).map (fun d => d.parameters.length) = some 5 := by decide +kernel
theorem yn_D_rule : y_D_rule.cls ≠ "java/lang/invoke/MethodHandle" ∧ y_D_rule.cls ≠ "java/lang/invoke/VarHandle" ∧ (parseMethodDescriptor y_D_rule.desc).map (fun d => d.parameters.length) = some 3 := by decide +kernel
theorem yn_D_literal : y_D_literal.cls ≠ "java/lang/invoke/MethodHandle" ∧ y_D_literal.cls ≠ "java/lang/invoke/VarHandle" ∧ (parseMethodDescriptor y_D_literal.desc).map (fun d => d.parameters.length) = some 4 := by decide +kernel
theorem yn_D_unrule : y_D_unrule.cls ≠ "java/lang/invoke/MethodHandle" ∧ y_D_unrule.cls ≠ "java/lang/invoke/VarHandle" ∧ (parseMethodDescriptor y_D_unrule.desc).map (fun d => d.parameters.length) = some 0 := by decide +kernel
theorem yn_D_variablesOf : y_D_variablesOf.cls ≠ "java/lang/invoke/MethodHandle" ∧ y_D_variablesOf.cls ≠ "java/lang/invoke/VarHandle" ∧ (parseMethodDescriptor y_D_variablesOf.desc).map (fun d => d.parameters.length) = some 1 := by decide +kernel
theorem yn_D_variables : y_D_variables.cls ≠ "java/lang/invoke/MethodHandle" ∧ y_D_variables.cls ≠ "java/lang/invoke/VarHandle" ∧ (parseMethodDescriptor y_D_variables.desc).map (fun d => d.parameters.length) = some 1 := by decide +kernel
theorem yn_D_isSafe : y_D_isSafe.cls ≠ "java/lang/invoke/MethodHandle" ∧ y_D_isSafe.cls ≠ "java/lang/invoke/VarHandle" ∧ (parseMethodDescriptor y_D_isSafe.desc).map (fun d => d.parameters.length) = some 1 := by decide +kernel
theorem yn_D_raise : y_D_raise.cls ≠ "java/lang/invoke/MethodHandle" ∧ y_D_raise.cls ≠ "java/lang/invoke/VarHandle" ∧ (parseMethodDescriptor y_D_raise.desc).map (fun d => d.parameters.length) = some 1 := by decide +kernel
theorem yn_D_findFault : y_D_findFault.cls ≠ "java/lang/invoke/MethodHandle" ∧ y_D_findFault.cls ≠ "java/lang/invoke/VarHandle" ∧ (parseMethodDescriptor y_D_findFault.desc).map (fun d => d.parameters.length) = some 0 := by decide +kernel
theorem yn_D_termValue : y_D_termValue.cls ≠ "java/lang/invoke/MethodHandle" ∧ y_D_termValue.cls ≠ "java/lang/invoke/VarHandle" ∧ (parseMethodDescriptor y_D_termValue.desc).map (fun d => d.parameters.length) = some 1 := by decide +kernel
theorem yn_D_factOf : y_D_factOf.cls ≠ "java/lang/invoke/MethodHandle" ∧ y_D_factOf.cls ≠ "java/lang/invoke/VarHandle" ∧ (parseMethodDescriptor y_D_factOf.desc).map (fun d => d.parameters.length) = some 1 := by decide +kernel
theorem yn_D_instance : y_D_instance.cls ≠ "java/lang/invoke/MethodHandle" ∧ y_D_instance.cls ≠ "java/lang/invoke/VarHandle" ∧ (parseMethodDescriptor y_D_instance.desc).map (fun d => d.parameters.length) = some 2 := by decide +kernel
theorem yn_D_holds : y_D_holds.cls ≠ "java/lang/invoke/MethodHandle" ∧ y_D_holds.cls ≠ "java/lang/invoke/VarHandle" ∧ (parseMethodDescriptor y_D_holds.desc).map (fun d => d.parameters.length) = some 1 := by decide +kernel
theorem yn_D_isMet : y_D_isMet.cls ≠ "java/lang/invoke/MethodHandle" ∧ y_D_isMet.cls ≠ "java/lang/invoke/VarHandle" ∧ (parseMethodDescriptor y_D_isMet.desc).map (fun d => d.parameters.length) = some 1 := by decide +kernel
theorem yn_D_behind : y_D_behind.cls ≠ "java/lang/invoke/MethodHandle" ∧ y_D_behind.cls ≠ "java/lang/invoke/VarHandle" ∧ (parseMethodDescriptor y_D_behind.desc).map (fun d => d.parameters.length) = some 2 := by decide +kernel
theorem yn_D_round : y_D_round.cls ≠ "java/lang/invoke/MethodHandle" ∧ y_D_round.cls ≠ "java/lang/invoke/VarHandle" ∧ (parseMethodDescriptor y_D_round.desc).map (fun d => d.parameters.length) = some 2 := by decide +kernel
theorem yn_D_find : y_D_find.cls ≠ "java/lang/invoke/MethodHandle" ∧ y_D_find.cls ≠ "java/lang/invoke/VarHandle" ∧ (parseMethodDescriptor y_D_find.desc).map (fun d => d.parameters.length) = some 0 := by decide +kernel
theorem yn_D_fault : y_D_fault.cls ≠ "java/lang/invoke/MethodHandle" ∧ y_D_fault.cls ≠ "java/lang/invoke/VarHandle" ∧ (parseMethodDescriptor y_D_fault.desc).map (fun d => d.parameters.length) = some 0 := by decide +kernel
theorem yn_D_layer : y_D_layer.cls ≠ "java/lang/invoke/MethodHandle" ∧ y_D_layer.cls ≠ "java/lang/invoke/VarHandle" ∧ (parseMethodDescriptor y_D_layer.desc).map (fun d => d.parameters.length) = some 1 := by decide +kernel
theorem yn_D_count : y_D_count.cls ≠ "java/lang/invoke/MethodHandle" ∧ y_D_count.cls ≠ "java/lang/invoke/VarHandle" ∧ (parseMethodDescriptor y_D_count.desc).map (fun d => d.parameters.length) = some 1 := by decide +kernel
theorem yn_D_rank : y_D_rank.cls ≠ "java/lang/invoke/MethodHandle" ∧ y_D_rank.cls ≠ "java/lang/invoke/VarHandle" ∧ (parseMethodDescriptor y_D_rank.desc).map (fun d => d.parameters.length) = some 3 := by decide +kernel
theorem yn_D_ways : y_D_ways.cls ≠ "java/lang/invoke/MethodHandle" ∧ y_D_ways.cls ≠ "java/lang/invoke/VarHandle" ∧ (parseMethodDescriptor y_D_ways.desc).map (fun d => d.parameters.length) = some 3 := by decide +kernel
theorem yn_D_isLower : y_D_isLower.cls ≠ "java/lang/invoke/MethodHandle" ∧ y_D_isLower.cls ≠ "java/lang/invoke/VarHandle" ∧ (parseMethodDescriptor y_D_isLower.desc).map (fun d => d.parameters.length) = some 2 := by decide +kernel
theorem yn_D_proof : y_D_proof.cls ≠ "java/lang/invoke/MethodHandle" ∧ y_D_proof.cls ≠ "java/lang/invoke/VarHandle" ∧ (parseMethodDescriptor y_D_proof.desc).map (fun d => d.parameters.length) = some 4 := by decide +kernel
theorem yn_A_init : y_A_init.cls ≠ "java/lang/invoke/MethodHandle" ∧ y_A_init.cls ≠ "java/lang/invoke/VarHandle" ∧ (parseMethodDescriptor y_A_init.desc).map (fun d => d.parameters.length) = some 0 := by decide +kernel
theorem yn_A_become : y_A_become.cls ≠ "java/lang/invoke/MethodHandle" ∧ y_A_become.cls ≠ "java/lang/invoke/VarHandle" ∧ (parseMethodDescriptor y_A_become.desc).map (fun d => d.parameters.length) = some 4 := by decide +kernel
theorem yn_A_variables : y_A_variables.cls ≠ "java/lang/invoke/MethodHandle" ∧ y_A_variables.cls ≠ "java/lang/invoke/VarHandle" ∧ (parseMethodDescriptor y_A_variables.desc).map (fun d => d.parameters.length) = some 0 := by decide +kernel
theorem yn_M_init : y_M_init.cls ≠ "java/lang/invoke/MethodHandle" ∧ y_M_init.cls ≠ "java/lang/invoke/VarHandle" ∧ (parseMethodDescriptor y_M_init.desc).map (fun d => d.parameters.length) = some 0 := by decide +kernel
theorem yn_M_forget : y_M_forget.cls ≠ "java/lang/invoke/MethodHandle" ∧ y_M_forget.cls ≠ "java/lang/invoke/VarHandle" ∧ (parseMethodDescriptor y_M_forget.desc).map (fun d => d.parameters.length) = some 0 := by decide +kernel
theorem yn_M_bind : y_M_bind.cls ≠ "java/lang/invoke/MethodHandle" ∧ y_M_bind.cls ≠ "java/lang/invoke/VarHandle" ∧ (parseMethodDescriptor y_M_bind.desc).map (fun d => d.parameters.length) = some 2 := by decide +kernel
theorem yn_M_meets : y_M_meets.cls ≠ "java/lang/invoke/MethodHandle" ∧ y_M_meets.cls ≠ "java/lang/invoke/VarHandle" ∧ (parseMethodDescriptor y_M_meets.desc).map (fun d => d.parameters.length) = some 4 := by decide +kernel
theorem yn_M_knownAgree : y_M_knownAgree.cls ≠ "java/lang/invoke/MethodHandle" ∧ y_M_knownAgree.cls ≠ "java/lang/invoke/VarHandle" ∧ (parseMethodDescriptor y_M_knownAgree.desc).map (fun d => d.parameters.length) = some 1 := by decide +kernel
theorem yn_M_choices : y_M_choices.cls ≠ "java/lang/invoke/MethodHandle" ∧ y_M_choices.cls ≠ "java/lang/invoke/VarHandle" ∧ (parseMethodDescriptor y_M_choices.desc).map (fun d => d.parameters.length) = some 2 := by decide +kernel
theorem yn_M_choicesBy : y_M_choicesBy.cls ≠ "java/lang/invoke/MethodHandle" ∧ y_M_choicesBy.cls ≠ "java/lang/invoke/VarHandle" ∧ (parseMethodDescriptor y_M_choicesBy.desc).map (fun d => d.parameters.length) = some 2 := by decide +kernel
theorem yn_M_nextOpen : y_M_nextOpen.cls ≠ "java/lang/invoke/MethodHandle" ∧ y_M_nextOpen.cls ≠ "java/lang/invoke/VarHandle" ∧ (parseMethodDescriptor y_M_nextOpen.desc).map (fun d => d.parameters.length) = some 2 := by decide +kernel
theorem yn_M_findLeast : y_M_findLeast.cls ≠ "java/lang/invoke/MethodHandle" ∧ y_M_findLeast.cls ≠ "java/lang/invoke/VarHandle" ∧ (parseMethodDescriptor y_M_findLeast.desc).map (fun d => d.parameters.length) = some 2 := by decide +kernel
theorem yn_M_countInstances : y_M_countInstances.cls ≠ "java/lang/invoke/MethodHandle" ∧ y_M_countInstances.cls ≠ "java/lang/invoke/VarHandle" ∧ (parseMethodDescriptor y_M_countInstances.desc).map (fun d => d.parameters.length) = some 2 := by decide +kernel
theorem yn_R_init : y_R_init.cls ≠ "java/lang/invoke/MethodHandle" ∧ y_R_init.cls ≠ "java/lang/invoke/VarHandle" ∧ (parseMethodDescriptor y_R_init.desc).map (fun d => d.parameters.length) = some 0 := by decide +kernel
theorem yn_R_begin : y_R_begin.cls ≠ "java/lang/invoke/MethodHandle" ∧ y_R_begin.cls ≠ "java/lang/invoke/VarHandle" ∧ (parseMethodDescriptor y_R_begin.desc).map (fun d => d.parameters.length) = some 3 := by decide +kernel
theorem yn_R_isFull : y_R_isFull.cls ≠ "java/lang/invoke/MethodHandle" ∧ y_R_isFull.cls ≠ "java/lang/invoke/VarHandle" ∧ (parseMethodDescriptor y_R_isFull.desc).map (fun d => d.parameters.length) = some 0 := by decide +kernel
theorem yn_R_add : y_R_add.cls ≠ "java/lang/invoke/MethodHandle" ∧ y_R_add.cls ≠ "java/lang/invoke/VarHandle" ∧ (parseMethodDescriptor y_R_add.desc).map (fun d => d.parameters.length) = some 4 := by decide +kernel
theorem yn_R_isSafe : y_R_isSafe.cls ≠ "java/lang/invoke/MethodHandle" ∧ y_R_isSafe.cls ≠ "java/lang/invoke/VarHandle" ∧ (parseMethodDescriptor y_R_isSafe.desc).map (fun d => d.parameters.length) = some 0 := by decide +kernel
theorem yn_R_leastLayer : y_R_leastLayer.cls ≠ "java/lang/invoke/MethodHandle" ∧ y_R_leastLayer.cls ≠ "java/lang/invoke/VarHandle" ∧ (parseMethodDescriptor y_R_leastLayer.desc).map (fun d => d.parameters.length) = some 1 := by decide +kernel
theorem yn_S_init : y_S_init.cls ≠ "java/lang/invoke/MethodHandle" ∧ y_S_init.cls ≠ "java/lang/invoke/VarHandle" ∧ (parseMethodDescriptor y_S_init.desc).map (fun d => d.parameters.length) = some 0 := by decide +kernel
theorem yn_S_forget : y_S_forget.cls ≠ "java/lang/invoke/MethodHandle" ∧ y_S_forget.cls ≠ "java/lang/invoke/VarHandle" ∧ (parseMethodDescriptor y_S_forget.desc).map (fun d => d.parameters.length) = some 0 := by decide +kernel
theorem yn_S_show : y_S_show.cls ≠ "java/lang/invoke/MethodHandle" ∧ y_S_show.cls ≠ "java/lang/invoke/VarHandle" ∧ (parseMethodDescriptor y_S_show.desc).map (fun d => d.parameters.length) = some 3 := by decide +kernel
theorem yn_S_sees : y_S_sees.cls ≠ "java/lang/invoke/MethodHandle" ∧ y_S_sees.cls ≠ "java/lang/invoke/VarHandle" ∧ (parseMethodDescriptor y_S_sees.desc).map (fun d => d.parameters.length) = some 3 := by decide +kernel
theorem yn_Arrays_fill : y_Arrays_fill.cls ≠ "java/lang/invoke/MethodHandle" ∧ y_Arrays_fill.cls ≠ "java/lang/invoke/VarHandle" ∧ (parseMethodDescriptor y_Arrays_fill.desc).map (fun d => d.parameters.length) = some 2 := by decide +kernel
theorem yn_Math_max : y_Math_max.cls ≠ "java/lang/invoke/MethodHandle" ∧ y_Math_max.cls ≠ "java/lang/invoke/VarHandle" ∧ (parseMethodDescriptor y_Math_max.desc).map (fun d => d.parameters.length) = some 2 := by decide +kernel
theorem yn_L_relation : y_L_relation.cls ≠ "java/lang/invoke/MethodHandle" ∧ y_L_relation.cls ≠ "java/lang/invoke/VarHandle" ∧ (parseMethodDescriptor y_L_relation.desc).map (fun d => d.parameters.length) = some 3 := by decide +kernel
theorem yn_L_give : y_L_give.cls ≠ "java/lang/invoke/MethodHandle" ∧ y_L_give.cls ≠ "java/lang/invoke/VarHandle" ∧ (parseMethodDescriptor y_L_give.desc).map (fun d => d.parameters.length) = some 5 := by decide +kernel
theorem yn_L_take : y_L_take.cls ≠ "java/lang/invoke/MethodHandle" ∧ y_L_take.cls ≠ "java/lang/invoke/VarHandle" ∧ (parseMethodDescriptor y_L_take.desc).map (fun d => d.parameters.length) = some 5 := by decide +kernel
theorem yn_L_rule : y_L_rule.cls ≠ "java/lang/invoke/MethodHandle" ∧ y_L_rule.cls ≠ "java/lang/invoke/VarHandle" ∧ (parseMethodDescriptor y_L_rule.desc).map (fun d => d.parameters.length) = some 5 := by decide +kernel
theorem yn_L_literal : y_L_literal.cls ≠ "java/lang/invoke/MethodHandle" ∧ y_L_literal.cls ≠ "java/lang/invoke/VarHandle" ∧ (parseMethodDescriptor y_L_literal.desc).map (fun d => d.parameters.length) = some 6 := by decide +kernel
theorem yn_L_unrule : y_L_unrule.cls ≠ "java/lang/invoke/MethodHandle" ∧ y_L_unrule.cls ≠ "java/lang/invoke/VarHandle" ∧ (parseMethodDescriptor y_L_unrule.desc).map (fun d => d.parameters.length) = some 1 := by decide +kernel
theorem yn_L_layer : y_L_layer.cls ≠ "java/lang/invoke/MethodHandle" ∧ y_L_layer.cls ≠ "java/lang/invoke/VarHandle" ∧ (parseMethodDescriptor y_L_layer.desc).map (fun d => d.parameters.length) = some 3 := by decide +kernel
theorem yn_L_count : y_L_count.cls ≠ "java/lang/invoke/MethodHandle" ∧ y_L_count.cls ≠ "java/lang/invoke/VarHandle" ∧ (parseMethodDescriptor y_L_count.desc).map (fun d => d.parameters.length) = some 3 := by decide +kernel
theorem yn_L_rank : y_L_rank.cls ≠ "java/lang/invoke/MethodHandle" ∧ y_L_rank.cls ≠ "java/lang/invoke/VarHandle" ∧ (parseMethodDescriptor y_L_rank.desc).map (fun d => d.parameters.length) = some 5 := by decide +kernel
theorem yn_L_ways : y_L_ways.cls ≠ "java/lang/invoke/MethodHandle" ∧ y_L_ways.cls ≠ "java/lang/invoke/VarHandle" ∧ (parseMethodDescriptor y_L_ways.desc).map (fun d => d.parameters.length) = some 5 := by decide +kernel
theorem yn_Integer_bitCount : y_Integer_bitCount.cls ≠ "java/lang/invoke/MethodHandle" ∧ y_Integer_bitCount.cls ≠ "java/lang/invoke/VarHandle" ∧ (parseMethodDescriptor y_Integer_bitCount.desc).map (fun d => d.parameters.length) = some 1 := by decide +kernel
theorem yn_L_proof : y_L_proof.cls ≠ "java/lang/invoke/MethodHandle" ∧ y_L_proof.cls ≠ "java/lang/invoke/VarHandle" ∧ (parseMethodDescriptor y_L_proof.desc).map (fun d => d.parameters.length) = some 6 := by decide +kernel
theorem ww_L_59 : ∀ w ∈ jwV "StrataHouseLaw" 59 "StrataHouse" y_H_clear (.code y_H_clear c_H_clear 1 none), w ∈ jTs := List.forall_mem_cons.mpr ⟨jin (jt1 (List.mem_of_getElem? (i := 171) rfl)) rfl, List.forall_mem_cons.mpr ⟨jin (jt1 (List.mem_of_getElem? (i := 1) rfl)) rfl, List.forall_mem_cons.mpr ⟨jin (jt1 (List.mem_of_getElem? (i := 168) rfl)) rfl, List.forall_mem_cons.mpr ⟨jin (jt1 (List.mem_of_getElem? (i := 169) rfl)) rfl, List.forall_mem_cons.mpr ⟨jin (jt1 (List.mem_of_getElem? (i := 170) rfl)) rfl, fun _ h => absurd h List.not_mem_nil⟩⟩⟩⟩⟩
theorem ww_H_45 : ∀ w ∈ jwS "StrataHouse" 45 y_Arrays_fill (.code y_Arrays_fill c_Arrays_fill 4 none), w ∈ jTs := List.forall_mem_cons.mpr ⟨jin (jt1 (List.mem_of_getElem? (i := 174) rfl)) rfl, List.forall_mem_cons.mpr ⟨jin (jt1 (List.mem_of_getElem? (i := 7) rfl)) rfl, List.forall_mem_cons.mpr ⟨jin (jt1 (List.mem_of_getElem? (i := 172) rfl)) rfl, List.forall_mem_cons.mpr ⟨jin (jt1 (List.mem_of_getElem? (i := 173) rfl)) rfl, fun _ h => absurd h List.not_mem_nil⟩⟩⟩⟩
theorem ww_H_57 : ∀ w ∈ jwV "StrataHouse" 57 "StrataHouse" y_H_rulesChanged (.code y_H_rulesChanged c_H_rulesChanged 1 none), w ∈ jTs := List.forall_mem_cons.mpr ⟨jin (jt1 (List.mem_of_getElem? (i := 178) rfl)) rfl, List.forall_mem_cons.mpr ⟨jin (jt1 (List.mem_of_getElem? (i := 1) rfl)) rfl, List.forall_mem_cons.mpr ⟨jin (jt1 (List.mem_of_getElem? (i := 175) rfl)) rfl, List.forall_mem_cons.mpr ⟨jin (jt1 (List.mem_of_getElem? (i := 177) rfl)) rfl, List.forall_mem_cons.mpr ⟨jin (jts (List.mem_of_getElem? (i := 0) rfl)) rfl, fun _ h => absurd h List.not_mem_nil⟩⟩⟩⟩⟩
theorem ww_L_91 : ∀ w ∈ jwV "StrataHouseLaw" 91 "StrataHouse" y_H_fault (.code y_H_fault c_H_fault 1 (some .int)), w ∈ jTs := List.forall_mem_cons.mpr ⟨jin (jt1 (List.mem_of_getElem? (i := 182) rfl)) rfl, List.forall_mem_cons.mpr ⟨jin (jt1 (List.mem_of_getElem? (i := 1) rfl)) rfl, List.forall_mem_cons.mpr ⟨jin (jt1 (List.mem_of_getElem? (i := 179) rfl)) rfl, List.forall_mem_cons.mpr ⟨jin (jt1 (List.mem_of_getElem? (i := 180) rfl)) rfl, List.forall_mem_cons.mpr ⟨jin (jt1 (List.mem_of_getElem? (i := 181) rfl)) rfl, fun _ h => absurd h List.not_mem_nil⟩⟩⟩⟩⟩
theorem ww_H_111 : ∀ w ∈ jwV "StrataHouse" 111 "StrataHouse" y_H_judge (.code y_H_judge c_H_judge 1 none), w ∈ jTs := List.forall_mem_cons.mpr ⟨jin (jt1 (List.mem_of_getElem? (i := 186) rfl)) rfl, List.forall_mem_cons.mpr ⟨jin (jt1 (List.mem_of_getElem? (i := 1) rfl)) rfl, List.forall_mem_cons.mpr ⟨jin (jt1 (List.mem_of_getElem? (i := 183) rfl)) rfl, List.forall_mem_cons.mpr ⟨jin (jt1 (List.mem_of_getElem? (i := 185) rfl)) rfl, List.forall_mem_cons.mpr ⟨jin (jts (List.mem_of_getElem? (i := 1) rfl)) rfl, fun _ h => absurd h List.not_mem_nil⟩⟩⟩⟩⟩
theorem ww_H_188 : ∀ w ∈ jwV "StrataHouse" 188 "StrataHouse" y_H_firstUnsafe (.code y_H_firstUnsafe c_H_firstUnsafe 2 (some .int)), w ∈ jTs := List.forall_mem_cons.mpr ⟨jin (jt1 (List.mem_of_getElem? (i := 190) rfl)) rfl, List.forall_mem_cons.mpr ⟨jin (jt1 (List.mem_of_getElem? (i := 1) rfl)) rfl, List.forall_mem_cons.mpr ⟨jin (jt1 (List.mem_of_getElem? (i := 187) rfl)) rfl, List.forall_mem_cons.mpr ⟨jin (jt1 (List.mem_of_getElem? (i := 189) rfl)) rfl, List.forall_mem_cons.mpr ⟨jin (jts (List.mem_of_getElem? (i := 2) rfl)) rfl, fun _ h => absurd h List.not_mem_nil⟩⟩⟩⟩⟩
theorem ww_H_195 : ∀ w ∈ jwN "StrataHouse" 195 "StrataHouse$Rule" y_R_isSafe (.code y_R_isSafe c_R_isSafe 1 (some .boolean)) "StrataHouse", w ∈ jTs := List.forall_mem_cons.mpr ⟨jin (jt1 (List.mem_of_getElem? (i := 194) rfl)) rfl, List.forall_mem_cons.mpr ⟨jin (jt1 (List.mem_of_getElem? (i := 4) rfl)) rfl, List.forall_mem_cons.mpr ⟨jin (jt1 (List.mem_of_getElem? (i := 191) rfl)) rfl, List.forall_mem_cons.mpr ⟨jin (jt1 (List.mem_of_getElem? (i := 193) rfl)) rfl, List.forall_mem_cons.mpr ⟨jin (jts (List.mem_of_getElem? (i := 3) rfl)) rfl, fun _ h => absurd h List.not_mem_nil⟩⟩⟩⟩⟩
theorem ww_H_192 : ∀ w ∈ jwV "StrataHouse" 192 "StrataHouse" y_H_findLayers (.code y_H_findLayers c_H_findLayers 2 (some .boolean)), w ∈ jTs := List.forall_mem_cons.mpr ⟨jin (jt1 (List.mem_of_getElem? (i := 198) rfl)) rfl, List.forall_mem_cons.mpr ⟨jin (jt1 (List.mem_of_getElem? (i := 1) rfl)) rfl, List.forall_mem_cons.mpr ⟨jin (jt1 (List.mem_of_getElem? (i := 195) rfl)) rfl, List.forall_mem_cons.mpr ⟨jin (jt1 (List.mem_of_getElem? (i := 197) rfl)) rfl, List.forall_mem_cons.mpr ⟨jin (jts (List.mem_of_getElem? (i := 4) rfl)) rfl, fun _ h => absurd h List.not_mem_nil⟩⟩⟩⟩⟩
theorem ww_H_198 : ∀ w ∈ jwV "StrataHouse" 198 "StrataHouse" y_H_raiseLayers (.code y_H_raiseLayers c_H_raiseLayers 5 (some .boolean)), w ∈ jTs := List.forall_mem_cons.mpr ⟨jin (jt1 (List.mem_of_getElem? (i := 202) rfl)) rfl, List.forall_mem_cons.mpr ⟨jin (jt1 (List.mem_of_getElem? (i := 1) rfl)) rfl, List.forall_mem_cons.mpr ⟨jin (jt1 (List.mem_of_getElem? (i := 199) rfl)) rfl, List.forall_mem_cons.mpr ⟨jin (jt1 (List.mem_of_getElem? (i := 201) rfl)) rfl, List.forall_mem_cons.mpr ⟨jin (jts (List.mem_of_getElem? (i := 5) rfl)) rfl, fun _ h => absurd h List.not_mem_nil⟩⟩⟩⟩⟩
theorem ww_H_210 : ∀ w ∈ jwN "StrataHouse" 210 "StrataHouse$Rule" y_R_leastLayer (.code y_R_leastLayer c_R_leastLayer 5 (some .int)) "StrataHouse", w ∈ jTs := List.forall_mem_cons.mpr ⟨jin (jt1 (List.mem_of_getElem? (i := 206) rfl)) rfl, List.forall_mem_cons.mpr ⟨jin (jt1 (List.mem_of_getElem? (i := 4) rfl)) rfl, List.forall_mem_cons.mpr ⟨jin (jt1 (List.mem_of_getElem? (i := 203) rfl)) rfl, List.forall_mem_cons.mpr ⟨jin (jt1 (List.mem_of_getElem? (i := 205) rfl)) rfl, List.forall_mem_cons.mpr ⟨jin (jts (List.mem_of_getElem? (i := 6) rfl)) rfl, fun _ h => absurd h List.not_mem_nil⟩⟩⟩⟩⟩
theorem ww_R_53 : ∀ w ∈ jwS "StrataHouse$Rule" 53 y_Math_max (.code y_Math_max c_Math_max 2 (some .int)), w ∈ jTs := List.forall_mem_cons.mpr ⟨jin (jt1 (List.mem_of_getElem? (i := 209) rfl)) rfl, List.forall_mem_cons.mpr ⟨jin (jt1 (List.mem_of_getElem? (i := 14) rfl)) rfl, List.forall_mem_cons.mpr ⟨jin (jt1 (List.mem_of_getElem? (i := 207) rfl)) rfl, List.forall_mem_cons.mpr ⟨jin (jt1 (List.mem_of_getElem? (i := 208) rfl)) rfl, fun _ h => absurd h List.not_mem_nil⟩⟩⟩⟩
theorem ww_L_7 : ∀ w ∈ jwV "StrataHouseLaw" 7 "StrataHouse" y_H_relation (.code y_H_relation c_H_relation 2 (some .int)), w ∈ jTs := List.forall_mem_cons.mpr ⟨jin (jt1 (List.mem_of_getElem? (i := 218) rfl)) rfl, List.forall_mem_cons.mpr ⟨jin (jt1 (List.mem_of_getElem? (i := 1) rfl)) rfl, List.forall_mem_cons.mpr ⟨jin (jt1 (List.mem_of_getElem? (i := 215) rfl)) rfl, List.forall_mem_cons.mpr ⟨jin (jt1 (List.mem_of_getElem? (i := 216) rfl)) rfl, List.forall_mem_cons.mpr ⟨jin (jt1 (List.mem_of_getElem? (i := 217) rfl)) rfl, fun _ h => absurd h List.not_mem_nil⟩⟩⟩⟩⟩
theorem ww_L_17 : ∀ w ∈ jwV "StrataHouseLaw" 17 "StrataHouse" y_H_give (.code y_H_give c_H_give 4 (some .boolean)), w ∈ jTs := List.forall_mem_cons.mpr ⟨jin (jt2 (List.mem_of_getElem? (i := 70) rfl)) rfl, List.forall_mem_cons.mpr ⟨jin (jt1 (List.mem_of_getElem? (i := 1) rfl)) rfl, List.forall_mem_cons.mpr ⟨jin (jt2 (List.mem_of_getElem? (i := 67) rfl)) rfl, List.forall_mem_cons.mpr ⟨jin (jt2 (List.mem_of_getElem? (i := 68) rfl)) rfl, List.forall_mem_cons.mpr ⟨jin (jt2 (List.mem_of_getElem? (i := 69) rfl)) rfl, fun _ h => absurd h List.not_mem_nil⟩⟩⟩⟩⟩
theorem ww_H_72 : ∀ w ∈ jwV "StrataHouse" 72 "StrataHouse" y_H_checkFact (.code y_H_checkFact c_H_checkFact 4 none), w ∈ jTs := List.forall_mem_cons.mpr ⟨jin (jt2 (List.mem_of_getElem? (i := 74) rfl)) rfl, List.forall_mem_cons.mpr ⟨jin (jt1 (List.mem_of_getElem? (i := 1) rfl)) rfl, List.forall_mem_cons.mpr ⟨jin (jt2 (List.mem_of_getElem? (i := 71) rfl)) rfl, List.forall_mem_cons.mpr ⟨jin (jt2 (List.mem_of_getElem? (i := 73) rfl)) rfl, List.forall_mem_cons.mpr ⟨jin (jts (List.mem_of_getElem? (i := 8) rfl)) rfl, fun _ h => absurd h List.not_mem_nil⟩⟩⟩⟩⟩
theorem ww_H_114 : ∀ w ∈ jwV "StrataHouse" 114 "StrataHouse" y_H_checkRelation (.code y_H_checkRelation c_H_checkRelation 2 none), w ∈ jTs := List.forall_mem_cons.mpr ⟨jin (jt2 (List.mem_of_getElem? (i := 78) rfl)) rfl, List.forall_mem_cons.mpr ⟨jin (jt1 (List.mem_of_getElem? (i := 1) rfl)) rfl, List.forall_mem_cons.mpr ⟨jin (jt2 (List.mem_of_getElem? (i := 75) rfl)) rfl, List.forall_mem_cons.mpr ⟨jin (jt2 (List.mem_of_getElem? (i := 77) rfl)) rfl, List.forall_mem_cons.mpr ⟨jin (jts (List.mem_of_getElem? (i := 9) rfl)) rfl, fun _ h => absurd h List.not_mem_nil⟩⟩⟩⟩⟩
theorem ww_H_85 : ∀ w ∈ jwV "StrataHouse" 85 "StrataHouse" y_H_firstOf (.code y_H_firstOf c_H_firstOf 3 (some .int)), w ∈ jTs := List.forall_mem_cons.mpr ⟨jin (jt2 (List.mem_of_getElem? (i := 83) rfl)) rfl, List.forall_mem_cons.mpr ⟨jin (jt1 (List.mem_of_getElem? (i := 1) rfl)) rfl, List.forall_mem_cons.mpr ⟨jin (jt2 (List.mem_of_getElem? (i := 80) rfl)) rfl, List.forall_mem_cons.mpr ⟨jin (jt2 (List.mem_of_getElem? (i := 82) rfl)) rfl, List.forall_mem_cons.mpr ⟨jin (jts (List.mem_of_getElem? (i := 10) rfl)) rfl, fun _ h => absurd h List.not_mem_nil⟩⟩⟩⟩⟩
theorem ww_H_156 : ∀ w ∈ jwS "StrataHouse" 156 y_H_isConstant (.code y_H_isConstant c_H_isConstant 1 (some .boolean)), w ∈ jTs := List.forall_mem_cons.mpr ⟨jin (jt2 (List.mem_of_getElem? (i := 86) rfl)) rfl, List.forall_mem_cons.mpr ⟨jin (jt1 (List.mem_of_getElem? (i := 1) rfl)) rfl, List.forall_mem_cons.mpr ⟨jin (jt2 (List.mem_of_getElem? (i := 84) rfl)) rfl, List.forall_mem_cons.mpr ⟨jin (jt2 (List.mem_of_getElem? (i := 85) rfl)) rfl, fun _ h => absurd h List.not_mem_nil⟩⟩⟩⟩
theorem ww_H_89 : ∀ w ∈ jwV "StrataHouse" 89 "StrataHouse" y_H_secondOf (.code y_H_secondOf c_H_secondOf 3 (some .int)), w ∈ jTs := List.forall_mem_cons.mpr ⟨jin (jt2 (List.mem_of_getElem? (i := 90) rfl)) rfl, List.forall_mem_cons.mpr ⟨jin (jt1 (List.mem_of_getElem? (i := 1) rfl)) rfl, List.forall_mem_cons.mpr ⟨jin (jt2 (List.mem_of_getElem? (i := 87) rfl)) rfl, List.forall_mem_cons.mpr ⟨jin (jt2 (List.mem_of_getElem? (i := 89) rfl)) rfl, List.forall_mem_cons.mpr ⟨jin (jts (List.mem_of_getElem? (i := 11) rfl)) rfl, fun _ h => absurd h List.not_mem_nil⟩⟩⟩⟩⟩
theorem ww_H_76 : ∀ w ∈ jwV "StrataHouse" 76 "StrataHouse" y_H_setGiven (.code y_H_setGiven c_H_setGiven 7 (some .boolean)), w ∈ jTs := List.forall_mem_cons.mpr ⟨jin (jt2 (List.mem_of_getElem? (i := 95) rfl)) rfl, List.forall_mem_cons.mpr ⟨jin (jt1 (List.mem_of_getElem? (i := 1) rfl)) rfl, List.forall_mem_cons.mpr ⟨jin (jt2 (List.mem_of_getElem? (i := 92) rfl)) rfl, List.forall_mem_cons.mpr ⟨jin (jt2 (List.mem_of_getElem? (i := 94) rfl)) rfl, List.forall_mem_cons.mpr ⟨jin (jts (List.mem_of_getElem? (i := 12) rfl)) rfl, fun _ h => absurd h List.not_mem_nil⟩⟩⟩⟩⟩
theorem ww_H_174 : ∀ w ∈ jwS "StrataHouse" 174 y_H_rowAt (.code y_H_rowAt c_H_rowAt 2 (some .int)), w ∈ jTs := List.forall_mem_cons.mpr ⟨jin (jt2 (List.mem_of_getElem? (i := 98) rfl)) rfl, List.forall_mem_cons.mpr ⟨jin (jt1 (List.mem_of_getElem? (i := 1) rfl)) rfl, List.forall_mem_cons.mpr ⟨jin (jt2 (List.mem_of_getElem? (i := 96) rfl)) rfl, List.forall_mem_cons.mpr ⟨jin (jt2 (List.mem_of_getElem? (i := 97) rfl)) rfl, fun _ h => absurd h List.not_mem_nil⟩⟩⟩⟩
theorem ww_H_184 : ∀ w ∈ jwS "StrataHouse" 184 y_H_hasBit (.code y_H_hasBit c_H_hasBit 2 (some .boolean)), w ∈ jTs := List.forall_mem_cons.mpr ⟨jin (jt2 (List.mem_of_getElem? (i := 101) rfl)) rfl, List.forall_mem_cons.mpr ⟨jin (jt1 (List.mem_of_getElem? (i := 1) rfl)) rfl, List.forall_mem_cons.mpr ⟨jin (jt2 (List.mem_of_getElem? (i := 99) rfl)) rfl, List.forall_mem_cons.mpr ⟨jin (jt2 (List.mem_of_getElem? (i := 100) rfl)) rfl, fun _ h => absurd h List.not_mem_nil⟩⟩⟩⟩
theorem ww_L_21 : ∀ w ∈ jwV "StrataHouseLaw" 21 "StrataHouse" y_H_take (.code y_H_take c_H_take 4 (some .boolean)), w ∈ jTs := List.forall_mem_cons.mpr ⟨jin (jt2 (List.mem_of_getElem? (i := 108) rfl)) rfl, List.forall_mem_cons.mpr ⟨jin (jt1 (List.mem_of_getElem? (i := 1) rfl)) rfl, List.forall_mem_cons.mpr ⟨jin (jt2 (List.mem_of_getElem? (i := 105) rfl)) rfl, List.forall_mem_cons.mpr ⟨jin (jt2 (List.mem_of_getElem? (i := 106) rfl)) rfl, List.forall_mem_cons.mpr ⟨jin (jt2 (List.mem_of_getElem? (i := 107) rfl)) rfl, fun _ h => absurd h List.not_mem_nil⟩⟩⟩⟩⟩
theorem ww_L_24 : ∀ w ∈ jwV "StrataHouseLaw" 24 "StrataHouse" y_H_rule (.code y_H_rule c_H_rule 4 (some .int)), w ∈ jTs := List.forall_mem_cons.mpr ⟨jin (jt2 (List.mem_of_getElem? (i := 115) rfl)) rfl, List.forall_mem_cons.mpr ⟨jin (jt1 (List.mem_of_getElem? (i := 1) rfl)) rfl, List.forall_mem_cons.mpr ⟨jin (jt2 (List.mem_of_getElem? (i := 112) rfl)) rfl, List.forall_mem_cons.mpr ⟨jin (jt2 (List.mem_of_getElem? (i := 113) rfl)) rfl, List.forall_mem_cons.mpr ⟨jin (jt2 (List.mem_of_getElem? (i := 114) rfl)) rfl, fun _ h => absurd h List.not_mem_nil⟩⟩⟩⟩⟩
theorem ww_H_80 : ∀ w ∈ jwV "StrataHouse" 80 "StrataHouse" y_H_checkTerms (.code y_H_checkTerms c_H_checkTerms 4 none), w ∈ jTs := List.forall_mem_cons.mpr ⟨jin (jt2 (List.mem_of_getElem? (i := 119) rfl)) rfl, List.forall_mem_cons.mpr ⟨jin (jt1 (List.mem_of_getElem? (i := 1) rfl)) rfl, List.forall_mem_cons.mpr ⟨jin (jt2 (List.mem_of_getElem? (i := 116) rfl)) rfl, List.forall_mem_cons.mpr ⟨jin (jt2 (List.mem_of_getElem? (i := 118) rfl)) rfl, List.forall_mem_cons.mpr ⟨jin (jts (List.mem_of_getElem? (i := 13) rfl)) rfl, fun _ h => absurd h List.not_mem_nil⟩⟩⟩⟩⟩
theorem ww_H_162 : ∀ w ∈ jwS "StrataHouse" 162 y_H_isTerm (.code y_H_isTerm c_H_isTerm 1 (some .boolean)), w ∈ jTs := List.forall_mem_cons.mpr ⟨jin (jt2 (List.mem_of_getElem? (i := 122) rfl)) rfl, List.forall_mem_cons.mpr ⟨jin (jt1 (List.mem_of_getElem? (i := 1) rfl)) rfl, List.forall_mem_cons.mpr ⟨jin (jt2 (List.mem_of_getElem? (i := 120) rfl)) rfl, List.forall_mem_cons.mpr ⟨jin (jt2 (List.mem_of_getElem? (i := 121) rfl)) rfl, fun _ h => absurd h List.not_mem_nil⟩⟩⟩⟩
theorem ww_H_92 : ∀ w ∈ jwN "StrataHouse" 92 "StrataHouse$Rule" y_R_begin (.code y_R_begin c_R_begin 4 none) "StrataHouse", w ∈ jTs := List.forall_mem_cons.mpr ⟨jin (jt2 (List.mem_of_getElem? (i := 128) rfl)) rfl, List.forall_mem_cons.mpr ⟨jin (jt1 (List.mem_of_getElem? (i := 4) rfl)) rfl, List.forall_mem_cons.mpr ⟨jin (jt2 (List.mem_of_getElem? (i := 125) rfl)) rfl, List.forall_mem_cons.mpr ⟨jin (jt2 (List.mem_of_getElem? (i := 127) rfl)) rfl, List.forall_mem_cons.mpr ⟨jin (jts (List.mem_of_getElem? (i := 14) rfl)) rfl, fun _ h => absurd h List.not_mem_nil⟩⟩⟩⟩⟩
theorem ww_R_22 : ∀ w ∈ jwN "StrataHouse$Rule" 22 "StrataHouse$Atom" y_A_become (.code y_A_become c_A_become 5 none) "StrataHouse", w ∈ jTs := List.forall_mem_cons.mpr ⟨jin (jt2 (List.mem_of_getElem? (i := 132) rfl)) rfl, List.forall_mem_cons.mpr ⟨jin (jt1 (List.mem_of_getElem? (i := 5) rfl)) rfl, List.forall_mem_cons.mpr ⟨jin (jt2 (List.mem_of_getElem? (i := 129) rfl)) rfl, List.forall_mem_cons.mpr ⟨jin (jt2 (List.mem_of_getElem? (i := 131) rfl)) rfl, List.forall_mem_cons.mpr ⟨jin (jts (List.mem_of_getElem? (i := 15) rfl)) rfl, fun _ h => absurd h List.not_mem_nil⟩⟩⟩⟩⟩
theorem ww_R_30 : ∀ w ∈ jwN "StrataHouse$Rule" 30 "StrataHouse$Atom" y_A_variables (.code y_A_variables c_A_variables 1 (some .int)) "StrataHouse", w ∈ jTs := List.forall_mem_cons.mpr ⟨jin (jt2 (List.mem_of_getElem? (i := 136) rfl)) rfl, List.forall_mem_cons.mpr ⟨jin (jt1 (List.mem_of_getElem? (i := 5) rfl)) rfl, List.forall_mem_cons.mpr ⟨jin (jt2 (List.mem_of_getElem? (i := 133) rfl)) rfl, List.forall_mem_cons.mpr ⟨jin (jt2 (List.mem_of_getElem? (i := 135) rfl)) rfl, List.forall_mem_cons.mpr ⟨jin (jts (List.mem_of_getElem? (i := 16) rfl)) rfl, fun _ h => absurd h List.not_mem_nil⟩⟩⟩⟩⟩
theorem ww_L_28 : ∀ w ∈ jwV "StrataHouseLaw" 28 "StrataHouse" y_H_literal (.code y_H_literal c_H_literal 6 (some .int)), w ∈ jTs := List.forall_mem_cons.mpr ⟨jin (jt2 (List.mem_of_getElem? (i := 145) rfl)) rfl, List.forall_mem_cons.mpr ⟨jin (jt1 (List.mem_of_getElem? (i := 1) rfl)) rfl, List.forall_mem_cons.mpr ⟨jin (jt2 (List.mem_of_getElem? (i := 142) rfl)) rfl, List.forall_mem_cons.mpr ⟨jin (jt2 (List.mem_of_getElem? (i := 143) rfl)) rfl, List.forall_mem_cons.mpr ⟨jin (jt2 (List.mem_of_getElem? (i := 144) rfl)) rfl, fun _ h => absurd h List.not_mem_nil⟩⟩⟩⟩⟩
theorem ww_H_95 : ∀ w ∈ jwV "StrataHouse" 95 "StrataHouse" y_H_checkSomeRule (.code y_H_checkSomeRule c_H_checkSomeRule 1 none), w ∈ jTs := List.forall_mem_cons.mpr ⟨jin (jt2 (List.mem_of_getElem? (i := 149) rfl)) rfl, List.forall_mem_cons.mpr ⟨jin (jt1 (List.mem_of_getElem? (i := 1) rfl)) rfl, List.forall_mem_cons.mpr ⟨jin (jt2 (List.mem_of_getElem? (i := 146) rfl)) rfl, List.forall_mem_cons.mpr ⟨jin (jt2 (List.mem_of_getElem? (i := 148) rfl)) rfl, List.forall_mem_cons.mpr ⟨jin (jts (List.mem_of_getElem? (i := 17) rfl)) rfl, fun _ h => absurd h List.not_mem_nil⟩⟩⟩⟩⟩
theorem ww_H_98 : ∀ w ∈ jwN "StrataHouse" 98 "StrataHouse$Rule" y_R_isFull (.code y_R_isFull c_R_isFull 1 (some .boolean)) "StrataHouse", w ∈ jTs := List.forall_mem_cons.mpr ⟨jin (jt2 (List.mem_of_getElem? (i := 169) rfl)) rfl, List.forall_mem_cons.mpr ⟨jin (jt1 (List.mem_of_getElem? (i := 4) rfl)) rfl, List.forall_mem_cons.mpr ⟨jin (jt2 (List.mem_of_getElem? (i := 166) rfl)) rfl, List.forall_mem_cons.mpr ⟨jin (jt2 (List.mem_of_getElem? (i := 168) rfl)) rfl, List.forall_mem_cons.mpr ⟨jin (jts (List.mem_of_getElem? (i := 18) rfl)) rfl, fun _ h => absurd h List.not_mem_nil⟩⟩⟩⟩⟩
theorem ww_H_104 : ∀ w ∈ jwN "StrataHouse" 104 "StrataHouse$Rule" y_R_add (.code y_R_add c_R_add 6 none) "StrataHouse", w ∈ jTs := List.forall_mem_cons.mpr ⟨jin (jt2 (List.mem_of_getElem? (i := 174) rfl)) rfl, List.forall_mem_cons.mpr ⟨jin (jt1 (List.mem_of_getElem? (i := 4) rfl)) rfl, List.forall_mem_cons.mpr ⟨jin (jt2 (List.mem_of_getElem? (i := 171) rfl)) rfl, List.forall_mem_cons.mpr ⟨jin (jt2 (List.mem_of_getElem? (i := 173) rfl)) rfl, List.forall_mem_cons.mpr ⟨jin (jts (List.mem_of_getElem? (i := 19) rfl)) rfl, fun _ h => absurd h List.not_mem_nil⟩⟩⟩⟩⟩
theorem ww_R_42 : ∀ w ∈ jwV "StrataHouse$Rule" 42 "StrataHouse$Rule" y_R_isFull (.code y_R_isFull c_R_isFull 1 (some .boolean)), w ∈ jTs := List.forall_mem_cons.mpr ⟨jin (jt2 (List.mem_of_getElem? (i := 169) rfl)) rfl, List.forall_mem_cons.mpr ⟨jin (jt1 (List.mem_of_getElem? (i := 4) rfl)) rfl, List.forall_mem_cons.mpr ⟨jin (jt2 (List.mem_of_getElem? (i := 175) rfl)) rfl, List.forall_mem_cons.mpr ⟨jin (jt2 (List.mem_of_getElem? (i := 168) rfl)) rfl, List.forall_mem_cons.mpr ⟨jin (jts (List.mem_of_getElem? (i := 18) rfl)) rfl, fun _ h => absurd h List.not_mem_nil⟩⟩⟩⟩⟩
theorem ww_L_34 : ∀ w ∈ jwV "StrataHouseLaw" 34 "StrataHouse" y_H_unrule (.code y_H_unrule c_H_unrule 1 none), w ∈ jTs := List.forall_mem_cons.mpr ⟨jin (jt2 (List.mem_of_getElem? (i := 182) rfl)) rfl, List.forall_mem_cons.mpr ⟨jin (jt1 (List.mem_of_getElem? (i := 1) rfl)) rfl, List.forall_mem_cons.mpr ⟨jin (jt2 (List.mem_of_getElem? (i := 179) rfl)) rfl, List.forall_mem_cons.mpr ⟨jin (jt2 (List.mem_of_getElem? (i := 180) rfl)) rfl, List.forall_mem_cons.mpr ⟨jin (jt2 (List.mem_of_getElem? (i := 181) rfl)) rfl, fun _ h => absurd h List.not_mem_nil⟩⟩⟩⟩⟩
theorem ww_L_37 : ∀ w ∈ jwV "StrataHouseLaw" 37 "StrataHouse" y_H_layer (.code y_H_layer c_H_layer 2 (some .int)), w ∈ jTs := List.forall_mem_cons.mpr ⟨jin (jt2 (List.mem_of_getElem? (i := 189) rfl)) rfl, List.forall_mem_cons.mpr ⟨jin (jt1 (List.mem_of_getElem? (i := 1) rfl)) rfl, List.forall_mem_cons.mpr ⟨jin (jt2 (List.mem_of_getElem? (i := 186) rfl)) rfl, List.forall_mem_cons.mpr ⟨jin (jt2 (List.mem_of_getElem? (i := 187) rfl)) rfl, List.forall_mem_cons.mpr ⟨jin (jt2 (List.mem_of_getElem? (i := 188) rfl)) rfl, fun _ h => absurd h List.not_mem_nil⟩⟩⟩⟩⟩
theorem ww_H_118 : ∀ w ∈ jwV "StrataHouse" 118 "StrataHouse" y_H_checkNoFault (.code y_H_checkNoFault c_H_checkNoFault 1 none), w ∈ jTs := List.forall_mem_cons.mpr ⟨jin (jt2 (List.mem_of_getElem? (i := 193) rfl)) rfl, List.forall_mem_cons.mpr ⟨jin (jt1 (List.mem_of_getElem? (i := 1) rfl)) rfl, List.forall_mem_cons.mpr ⟨jin (jt2 (List.mem_of_getElem? (i := 190) rfl)) rfl, List.forall_mem_cons.mpr ⟨jin (jt2 (List.mem_of_getElem? (i := 192) rfl)) rfl, List.forall_mem_cons.mpr ⟨jin (jts (List.mem_of_getElem? (i := 20) rfl)) rfl, fun _ h => absurd h List.not_mem_nil⟩⟩⟩⟩⟩
theorem ww_L_40 : ∀ w ∈ jwV "StrataHouseLaw" 40 "StrataHouse" y_H_count (.code y_H_count c_H_count 5 (some .int)), w ∈ jTs := List.forall_mem_cons.mpr ⟨jin (jt2 (List.mem_of_getElem? (i := 201) rfl)) rfl, List.forall_mem_cons.mpr ⟨jin (jt1 (List.mem_of_getElem? (i := 1) rfl)) rfl, List.forall_mem_cons.mpr ⟨jin (jt2 (List.mem_of_getElem? (i := 198) rfl)) rfl, List.forall_mem_cons.mpr ⟨jin (jt2 (List.mem_of_getElem? (i := 199) rfl)) rfl, List.forall_mem_cons.mpr ⟨jin (jt2 (List.mem_of_getElem? (i := 200) rfl)) rfl, fun _ h => absurd h List.not_mem_nil⟩⟩⟩⟩⟩
theorem ww_H_121 : ∀ w ∈ jwV "StrataHouse" 121 "StrataHouse" y_H_settle (.code y_H_settle c_H_settle 5 none), w ∈ jTs := List.forall_mem_cons.mpr ⟨jin (jt2 (List.mem_of_getElem? (i := 205) rfl)) rfl, List.forall_mem_cons.mpr ⟨jin (jt1 (List.mem_of_getElem? (i := 1) rfl)) rfl, List.forall_mem_cons.mpr ⟨jin (jt2 (List.mem_of_getElem? (i := 202) rfl)) rfl, List.forall_mem_cons.mpr ⟨jin (jt2 (List.mem_of_getElem? (i := 204) rfl)) rfl, List.forall_mem_cons.mpr ⟨jin (jts (List.mem_of_getElem? (i := 21) rfl)) rfl, fun _ h => absurd h List.not_mem_nil⟩⟩⟩⟩⟩
theorem ww_H_219 : ∀ w ∈ jwV "StrataHouse" 219 "StrataHouse" y_H_rankGiven (.code y_H_rankGiven c_H_rankGiven 3 none), w ∈ jTs := List.forall_mem_cons.mpr ⟨jin (jt2 (List.mem_of_getElem? (i := 209) rfl)) rfl, List.forall_mem_cons.mpr ⟨jin (jt1 (List.mem_of_getElem? (i := 1) rfl)) rfl, List.forall_mem_cons.mpr ⟨jin (jt2 (List.mem_of_getElem? (i := 206) rfl)) rfl, List.forall_mem_cons.mpr ⟨jin (jt2 (List.mem_of_getElem? (i := 208) rfl)) rfl, List.forall_mem_cons.mpr ⟨jin (jts (List.mem_of_getElem? (i := 22) rfl)) rfl, fun _ h => absurd h List.not_mem_nil⟩⟩⟩⟩⟩
theorem ww_H_222 : ∀ w ∈ jwV "StrataHouse" 222 "StrataHouse" y_H_topLayer (.code y_H_topLayer c_H_topLayer 3 (some .int)), w ∈ jTs := List.forall_mem_cons.mpr ⟨jin (jt2 (List.mem_of_getElem? (i := 213) rfl)) rfl, List.forall_mem_cons.mpr ⟨jin (jt1 (List.mem_of_getElem? (i := 1) rfl)) rfl, List.forall_mem_cons.mpr ⟨jin (jt2 (List.mem_of_getElem? (i := 210) rfl)) rfl, List.forall_mem_cons.mpr ⟨jin (jt2 (List.mem_of_getElem? (i := 212) rfl)) rfl, List.forall_mem_cons.mpr ⟨jin (jts (List.mem_of_getElem? (i := 23) rfl)) rfl, fun _ h => absurd h List.not_mem_nil⟩⟩⟩⟩⟩
theorem ww_H_214 : ∀ w ∈ jwS "StrataHouse" 214 y_Math_max (.code y_Math_max c_Math_max 2 (some .int)), w ∈ jTs := List.forall_mem_cons.mpr ⟨jin (jt1 (List.mem_of_getElem? (i := 209) rfl)) rfl, List.forall_mem_cons.mpr ⟨jin (jt1 (List.mem_of_getElem? (i := 14) rfl)) rfl, List.forall_mem_cons.mpr ⟨jin (jt2 (List.mem_of_getElem? (i := 214) rfl)) rfl, List.forall_mem_cons.mpr ⟨jin (jt1 (List.mem_of_getElem? (i := 208) rfl)) rfl, fun _ h => absurd h List.not_mem_nil⟩⟩⟩⟩
theorem ww_H_129 : ∀ w ∈ jwV "StrataHouse" 129 "StrataHouse" y_H_look (.code y_H_look c_H_look 4 none), w ∈ jTs := List.forall_mem_cons.mpr ⟨jin (jt2 (List.mem_of_getElem? (i := 218) rfl)) rfl, List.forall_mem_cons.mpr ⟨jin (jt1 (List.mem_of_getElem? (i := 1) rfl)) rfl, List.forall_mem_cons.mpr ⟨jin (jt2 (List.mem_of_getElem? (i := 215) rfl)) rfl, List.forall_mem_cons.mpr ⟨jin (jt2 (List.mem_of_getElem? (i := 217) rfl)) rfl, List.forall_mem_cons.mpr ⟨jin (jts (List.mem_of_getElem? (i := 24) rfl)) rfl, fun _ h => absurd h List.not_mem_nil⟩⟩⟩⟩⟩
theorem ww_H_269 : ∀ w ∈ jwN "StrataHouse" 269 "StrataHouse$Sight" y_S_forget (.code y_S_forget c_S_forget 1 none) "StrataHouse", w ∈ jTs := List.forall_mem_cons.mpr ⟨jin (jt2 (List.mem_of_getElem? (i := 222) rfl)) rfl, List.forall_mem_cons.mpr ⟨jin (jt1 (List.mem_of_getElem? (i := 3) rfl)) rfl, List.forall_mem_cons.mpr ⟨jin (jt2 (List.mem_of_getElem? (i := 219) rfl)) rfl, List.forall_mem_cons.mpr ⟨jin (jt2 (List.mem_of_getElem? (i := 221) rfl)) rfl, List.forall_mem_cons.mpr ⟨jin (jts (List.mem_of_getElem? (i := 25) rfl)) rfl, fun _ h => absurd h List.not_mem_nil⟩⟩⟩⟩⟩
theorem ww_S_27 : ∀ w ∈ jwS "StrataHouse$Sight" 27 y_Arrays_fill (.code y_Arrays_fill c_Arrays_fill 4 none), w ∈ jTs := List.forall_mem_cons.mpr ⟨jin (jt1 (List.mem_of_getElem? (i := 174) rfl)) rfl, List.forall_mem_cons.mpr ⟨jin (jt1 (List.mem_of_getElem? (i := 7) rfl)) rfl, List.forall_mem_cons.mpr ⟨jin (jt2 (List.mem_of_getElem? (i := 223) rfl)) rfl, List.forall_mem_cons.mpr ⟨jin (jt1 (List.mem_of_getElem? (i := 173) rfl)) rfl, fun _ h => absurd h List.not_mem_nil⟩⟩⟩⟩
theorem ww_H_270 : ∀ w ∈ jwV "StrataHouse" 270 "StrataHouse" y_H_lookAt (.code y_H_lookAt c_H_lookAt 6 none), w ∈ jTs := List.forall_mem_cons.mpr ⟨jin (jt2 (List.mem_of_getElem? (i := 228) rfl)) rfl, List.forall_mem_cons.mpr ⟨jin (jt1 (List.mem_of_getElem? (i := 1) rfl)) rfl, List.forall_mem_cons.mpr ⟨jin (jt2 (List.mem_of_getElem? (i := 225) rfl)) rfl, List.forall_mem_cons.mpr ⟨jin (jt2 (List.mem_of_getElem? (i := 227) rfl)) rfl, List.forall_mem_cons.mpr ⟨jin (jts (List.mem_of_getElem? (i := 26) rfl)) rfl, fun _ h => absurd h List.not_mem_nil⟩⟩⟩⟩⟩
theorem ww_H_124 : ∀ w ∈ jwS "StrataHouse" 124 y_H_factAt (.code y_H_factAt c_H_factAt 3 (some .int)), w ∈ jTs := List.forall_mem_cons.mpr ⟨jin (jt2 (List.mem_of_getElem? (i := 231) rfl)) rfl, List.forall_mem_cons.mpr ⟨jin (jt1 (List.mem_of_getElem? (i := 1) rfl)) rfl, List.forall_mem_cons.mpr ⟨jin (jt2 (List.mem_of_getElem? (i := 229) rfl)) rfl, List.forall_mem_cons.mpr ⟨jin (jt2 (List.mem_of_getElem? (i := 230) rfl)) rfl, fun _ h => absurd h List.not_mem_nil⟩⟩⟩⟩
theorem ww_H_266 : ∀ w ∈ jwN "StrataHouse" 266 "StrataHouse$Sight" y_S_show (.code y_S_show c_S_show 4 none) "StrataHouse", w ∈ jTs := List.forall_mem_cons.mpr ⟨jin (jt2 (List.mem_of_getElem? (i := 235) rfl)) rfl, List.forall_mem_cons.mpr ⟨jin (jt1 (List.mem_of_getElem? (i := 3) rfl)) rfl, List.forall_mem_cons.mpr ⟨jin (jt2 (List.mem_of_getElem? (i := 232) rfl)) rfl, List.forall_mem_cons.mpr ⟨jin (jt2 (List.mem_of_getElem? (i := 234) rfl)) rfl, List.forall_mem_cons.mpr ⟨jin (jts (List.mem_of_getElem? (i := 27) rfl)) rfl, fun _ h => absurd h List.not_mem_nil⟩⟩⟩⟩⟩
theorem ww_S_33 : ∀ w ∈ jwSN "StrataHouse$Sight" 33 y_H_rowAt (.code y_H_rowAt c_H_rowAt 2 (some .int)) "StrataHouse", w ∈ jTs := List.forall_mem_cons.mpr ⟨jin (jt2 (List.mem_of_getElem? (i := 98) rfl)) rfl, List.forall_mem_cons.mpr ⟨jin (jt1 (List.mem_of_getElem? (i := 1) rfl)) rfl, List.forall_mem_cons.mpr ⟨jin (jt2 (List.mem_of_getElem? (i := 236) rfl)) rfl, List.forall_mem_cons.mpr ⟨jin (jt2 (List.mem_of_getElem? (i := 97) rfl)) rfl, fun _ h => absurd h List.not_mem_nil⟩⟩⟩⟩
theorem ww_H_225 : ∀ w ∈ jwV "StrataHouse" 225 "StrataHouse" y_H_bringRound (.code y_H_bringRound c_H_bringRound 6 none), w ∈ jTs := List.forall_mem_cons.mpr ⟨jin (jt3 (List.mem_of_getElem? (i := 0) rfl)) rfl, List.forall_mem_cons.mpr ⟨jin (jt1 (List.mem_of_getElem? (i := 1) rfl)) rfl, List.forall_mem_cons.mpr ⟨jin (jt2 (List.mem_of_getElem? (i := 237) rfl)) rfl, List.forall_mem_cons.mpr ⟨jin (jt2 (List.mem_of_getElem? (i := 239) rfl)) rfl, List.forall_mem_cons.mpr ⟨jin (jts (List.mem_of_getElem? (i := 28) rfl)) rfl, fun _ h => absurd h List.not_mem_nil⟩⟩⟩⟩⟩
theorem ww_H_234 : ∀ w ∈ jwV "StrataHouse" 234 "StrataHouse" y_H_bringByRule (.code y_H_bringByRule c_H_bringByRule 10 none), w ∈ jTs := List.forall_mem_cons.mpr ⟨jin (jt3 (List.mem_of_getElem? (i := 4) rfl)) rfl, List.forall_mem_cons.mpr ⟨jin (jt1 (List.mem_of_getElem? (i := 1) rfl)) rfl, List.forall_mem_cons.mpr ⟨jin (jt3 (List.mem_of_getElem? (i := 1) rfl)) rfl, List.forall_mem_cons.mpr ⟨jin (jt3 (List.mem_of_getElem? (i := 3) rfl)) rfl, List.forall_mem_cons.mpr ⟨jin (jts (List.mem_of_getElem? (i := 29) rfl)) rfl, fun _ h => absurd h List.not_mem_nil⟩⟩⟩⟩⟩
theorem ww_H_238 : ∀ w ∈ jwN "StrataHouse" 238 "StrataHouse$Match" y_M_forget (.code y_M_forget c_M_forget 2 none) "StrataHouse", w ∈ jTs := List.forall_mem_cons.mpr ⟨jin (jt3 (List.mem_of_getElem? (i := 8) rfl)) rfl, List.forall_mem_cons.mpr ⟨jin (jt1 (List.mem_of_getElem? (i := 2) rfl)) rfl, List.forall_mem_cons.mpr ⟨jin (jt3 (List.mem_of_getElem? (i := 5) rfl)) rfl, List.forall_mem_cons.mpr ⟨jin (jt3 (List.mem_of_getElem? (i := 7) rfl)) rfl, List.forall_mem_cons.mpr ⟨jin (jts (List.mem_of_getElem? (i := 30) rfl)) rfl, fun _ h => absurd h List.not_mem_nil⟩⟩⟩⟩⟩
theorem ww_H_244 : ∀ w ∈ jwN "StrataHouse" 244 "StrataHouse$Match" y_M_choices (.code y_M_choices c_M_choices 6 (some .int)) "StrataHouse", w ∈ jTs := List.forall_mem_cons.mpr ⟨jin (jt3 (List.mem_of_getElem? (i := 12) rfl)) rfl, List.forall_mem_cons.mpr ⟨jin (jt1 (List.mem_of_getElem? (i := 2) rfl)) rfl, List.forall_mem_cons.mpr ⟨jin (jt3 (List.mem_of_getElem? (i := 9) rfl)) rfl, List.forall_mem_cons.mpr ⟨jin (jt3 (List.mem_of_getElem? (i := 11) rfl)) rfl, List.forall_mem_cons.mpr ⟨jin (jts (List.mem_of_getElem? (i := 31) rfl)) rfl, fun _ h => absurd h List.not_mem_nil⟩⟩⟩⟩⟩
theorem ww_M_66 : ∀ w ∈ jwV "StrataHouse$Match" 66 "StrataHouse$Match" y_M_choicesBy (.code y_M_choicesBy c_M_choicesBy 8 (some .int)), w ∈ jTs := List.forall_mem_cons.mpr ⟨jin (jt3 (List.mem_of_getElem? (i := 16) rfl)) rfl, List.forall_mem_cons.mpr ⟨jin (jt1 (List.mem_of_getElem? (i := 2) rfl)) rfl, List.forall_mem_cons.mpr ⟨jin (jt3 (List.mem_of_getElem? (i := 13) rfl)) rfl, List.forall_mem_cons.mpr ⟨jin (jt3 (List.mem_of_getElem? (i := 15) rfl)) rfl, List.forall_mem_cons.mpr ⟨jin (jts (List.mem_of_getElem? (i := 32) rfl)) rfl, fun _ h => absurd h List.not_mem_nil⟩⟩⟩⟩⟩
theorem ww_H_256 : ∀ w ∈ jwN "StrataHouse" 256 "StrataHouse$Match" y_M_bind (.code y_M_bind c_M_bind 3 (some .boolean)) "StrataHouse", w ∈ jTs := List.forall_mem_cons.mpr ⟨jin (jt3 (List.mem_of_getElem? (i := 20) rfl)) rfl, List.forall_mem_cons.mpr ⟨jin (jt1 (List.mem_of_getElem? (i := 2) rfl)) rfl, List.forall_mem_cons.mpr ⟨jin (jt3 (List.mem_of_getElem? (i := 17) rfl)) rfl, List.forall_mem_cons.mpr ⟨jin (jt3 (List.mem_of_getElem? (i := 19) rfl)) rfl, List.forall_mem_cons.mpr ⟨jin (jts (List.mem_of_getElem? (i := 33) rfl)) rfl, fun _ h => absurd h List.not_mem_nil⟩⟩⟩⟩⟩
theorem ww_H_133 : ∀ w ∈ jwN "StrataHouse" 133 "StrataHouse$Match" y_M_meets (.code y_M_meets c_M_meets 5 (some .boolean)) "StrataHouse", w ∈ jTs := List.forall_mem_cons.mpr ⟨jin (jt3 (List.mem_of_getElem? (i := 24) rfl)) rfl, List.forall_mem_cons.mpr ⟨jin (jt1 (List.mem_of_getElem? (i := 2) rfl)) rfl, List.forall_mem_cons.mpr ⟨jin (jt3 (List.mem_of_getElem? (i := 21) rfl)) rfl, List.forall_mem_cons.mpr ⟨jin (jt3 (List.mem_of_getElem? (i := 23) rfl)) rfl, List.forall_mem_cons.mpr ⟨jin (jts (List.mem_of_getElem? (i := 34) rfl)) rfl, fun _ h => absurd h List.not_mem_nil⟩⟩⟩⟩⟩
theorem ww_M_22 : ∀ w ∈ jwV "StrataHouse$Match" 22 "StrataHouse$Match" y_M_forget (.code y_M_forget c_M_forget 2 none), w ∈ jTs := List.forall_mem_cons.mpr ⟨jin (jt3 (List.mem_of_getElem? (i := 8) rfl)) rfl, List.forall_mem_cons.mpr ⟨jin (jt1 (List.mem_of_getElem? (i := 2) rfl)) rfl, List.forall_mem_cons.mpr ⟨jin (jt3 (List.mem_of_getElem? (i := 25) rfl)) rfl, List.forall_mem_cons.mpr ⟨jin (jt3 (List.mem_of_getElem? (i := 7) rfl)) rfl, List.forall_mem_cons.mpr ⟨jin (jts (List.mem_of_getElem? (i := 30) rfl)) rfl, fun _ h => absurd h List.not_mem_nil⟩⟩⟩⟩⟩
theorem ww_M_40 : ∀ w ∈ jwV "StrataHouse$Match" 40 "StrataHouse$Match" y_M_bind (.code y_M_bind c_M_bind 3 (some .boolean)), w ∈ jTs := List.forall_mem_cons.mpr ⟨jin (jt3 (List.mem_of_getElem? (i := 20) rfl)) rfl, List.forall_mem_cons.mpr ⟨jin (jt1 (List.mem_of_getElem? (i := 2) rfl)) rfl, List.forall_mem_cons.mpr ⟨jin (jt3 (List.mem_of_getElem? (i := 26) rfl)) rfl, List.forall_mem_cons.mpr ⟨jin (jt3 (List.mem_of_getElem? (i := 19) rfl)) rfl, List.forall_mem_cons.mpr ⟨jin (jts (List.mem_of_getElem? (i := 33) rfl)) rfl, fun _ h => absurd h List.not_mem_nil⟩⟩⟩⟩⟩
theorem ww_M_47 : ∀ w ∈ jwV "StrataHouse$Match" 47 "StrataHouse$Match" y_M_knownAgree (.code y_M_knownAgree c_M_knownAgree 6 (some .boolean)), w ∈ jTs := List.forall_mem_cons.mpr ⟨jin (jt3 (List.mem_of_getElem? (i := 30) rfl)) rfl, List.forall_mem_cons.mpr ⟨jin (jt1 (List.mem_of_getElem? (i := 2) rfl)) rfl, List.forall_mem_cons.mpr ⟨jin (jt3 (List.mem_of_getElem? (i := 27) rfl)) rfl, List.forall_mem_cons.mpr ⟨jin (jt3 (List.mem_of_getElem? (i := 29) rfl)) rfl, List.forall_mem_cons.mpr ⟨jin (jts (List.mem_of_getElem? (i := 35) rfl)) rfl, fun _ h => absurd h List.not_mem_nil⟩⟩⟩⟩⟩
theorem ww_M_58 : ∀ w ∈ jwN "StrataHouse$Match" 58 "StrataHouse$Sight" y_S_sees (.code y_S_sees c_S_sees 4 (some .boolean)) "StrataHouse", w ∈ jTs := List.forall_mem_cons.mpr ⟨jin (jt3 (List.mem_of_getElem? (i := 34) rfl)) rfl, List.forall_mem_cons.mpr ⟨jin (jt1 (List.mem_of_getElem? (i := 3) rfl)) rfl, List.forall_mem_cons.mpr ⟨jin (jt3 (List.mem_of_getElem? (i := 31) rfl)) rfl, List.forall_mem_cons.mpr ⟨jin (jt3 (List.mem_of_getElem? (i := 33) rfl)) rfl, List.forall_mem_cons.mpr ⟨jin (jts (List.mem_of_getElem? (i := 36) rfl)) rfl, fun _ h => absurd h List.not_mem_nil⟩⟩⟩⟩⟩
theorem ww_H_262 : ∀ w ∈ jwN "StrataHouse" 262 "StrataHouse$Match" y_M_findLeast (.code y_M_findLeast c_M_findLeast 6 (some .boolean)) "StrataHouse", w ∈ jTs := List.forall_mem_cons.mpr ⟨jin (jt3 (List.mem_of_getElem? (i := 38) rfl)) rfl, List.forall_mem_cons.mpr ⟨jin (jt1 (List.mem_of_getElem? (i := 2) rfl)) rfl, List.forall_mem_cons.mpr ⟨jin (jt3 (List.mem_of_getElem? (i := 35) rfl)) rfl, List.forall_mem_cons.mpr ⟨jin (jt3 (List.mem_of_getElem? (i := 37) rfl)) rfl, List.forall_mem_cons.mpr ⟨jin (jts (List.mem_of_getElem? (i := 37) rfl)) rfl, fun _ h => absurd h List.not_mem_nil⟩⟩⟩⟩⟩
theorem ww_M_91 : ∀ w ∈ jwV "StrataHouse$Match" 91 "StrataHouse$Match" y_M_nextOpen (.code y_M_nextOpen c_M_nextOpen 4 (some .int)), w ∈ jTs := List.forall_mem_cons.mpr ⟨jin (jt3 (List.mem_of_getElem? (i := 42) rfl)) rfl, List.forall_mem_cons.mpr ⟨jin (jt1 (List.mem_of_getElem? (i := 2) rfl)) rfl, List.forall_mem_cons.mpr ⟨jin (jt3 (List.mem_of_getElem? (i := 39) rfl)) rfl, List.forall_mem_cons.mpr ⟨jin (jt3 (List.mem_of_getElem? (i := 41) rfl)) rfl, List.forall_mem_cons.mpr ⟨jin (jts (List.mem_of_getElem? (i := 38) rfl)) rfl, fun _ h => absurd h List.not_mem_nil⟩⟩⟩⟩⟩
theorem ww_M_88 : ∀ w ∈ jwSN "StrataHouse$Match" 88 y_H_hasBit (.code y_H_hasBit c_H_hasBit 2 (some .boolean)) "StrataHouse", w ∈ jTs := List.forall_mem_cons.mpr ⟨jin (jt2 (List.mem_of_getElem? (i := 101) rfl)) rfl, List.forall_mem_cons.mpr ⟨jin (jt1 (List.mem_of_getElem? (i := 1) rfl)) rfl, List.forall_mem_cons.mpr ⟨jin (jt3 (List.mem_of_getElem? (i := 43) rfl)) rfl, List.forall_mem_cons.mpr ⟨jin (jt2 (List.mem_of_getElem? (i := 100) rfl)) rfl, fun _ h => absurd h List.not_mem_nil⟩⟩⟩⟩
theorem ww_M_95 : ∀ w ∈ jwV "StrataHouse$Match" 95 "StrataHouse$Match" y_M_choices (.code y_M_choices c_M_choices 6 (some .int)), w ∈ jTs := List.forall_mem_cons.mpr ⟨jin (jt3 (List.mem_of_getElem? (i := 12) rfl)) rfl, List.forall_mem_cons.mpr ⟨jin (jt1 (List.mem_of_getElem? (i := 2) rfl)) rfl, List.forall_mem_cons.mpr ⟨jin (jt3 (List.mem_of_getElem? (i := 44) rfl)) rfl, List.forall_mem_cons.mpr ⟨jin (jt3 (List.mem_of_getElem? (i := 11) rfl)) rfl, List.forall_mem_cons.mpr ⟨jin (jts (List.mem_of_getElem? (i := 31) rfl)) rfl, fun _ h => absurd h List.not_mem_nil⟩⟩⟩⟩⟩
theorem ww_M_98 : ∀ w ∈ jwV "StrataHouse$Match" 98 "StrataHouse$Match" y_M_findLeast (.code y_M_findLeast c_M_findLeast 6 (some .boolean)), w ∈ jTs := List.forall_mem_cons.mpr ⟨jin (jt3 (List.mem_of_getElem? (i := 38) rfl)) rfl, List.forall_mem_cons.mpr ⟨jin (jt1 (List.mem_of_getElem? (i := 2) rfl)) rfl, List.forall_mem_cons.mpr ⟨jin (jt3 (List.mem_of_getElem? (i := 45) rfl)) rfl, List.forall_mem_cons.mpr ⟨jin (jt3 (List.mem_of_getElem? (i := 37) rfl)) rfl, List.forall_mem_cons.mpr ⟨jin (jts (List.mem_of_getElem? (i := 37) rfl)) rfl, fun _ h => absurd h List.not_mem_nil⟩⟩⟩⟩⟩
theorem ww_H_228 : ∀ w ∈ jwV "StrataHouse" 228 "StrataHouse" y_H_showFresh (.code y_H_showFresh c_H_showFresh 4 (some .int)), w ∈ jTs := List.forall_mem_cons.mpr ⟨jin (jt3 (List.mem_of_getElem? (i := 49) rfl)) rfl, List.forall_mem_cons.mpr ⟨jin (jt1 (List.mem_of_getElem? (i := 1) rfl)) rfl, List.forall_mem_cons.mpr ⟨jin (jt3 (List.mem_of_getElem? (i := 46) rfl)) rfl, List.forall_mem_cons.mpr ⟨jin (jt3 (List.mem_of_getElem? (i := 48) rfl)) rfl, List.forall_mem_cons.mpr ⟨jin (jts (List.mem_of_getElem? (i := 39) rfl)) rfl, fun _ h => absurd h List.not_mem_nil⟩⟩⟩⟩⟩
theorem ww_L_43 : ∀ w ∈ jwV "StrataHouseLaw" 43 "StrataHouse" y_H_rank (.code y_H_rank c_H_rank 4 (some .int)), w ∈ jTs := List.forall_mem_cons.mpr ⟨jin (jt3 (List.mem_of_getElem? (i := 56) rfl)) rfl, List.forall_mem_cons.mpr ⟨jin (jt1 (List.mem_of_getElem? (i := 1) rfl)) rfl, List.forall_mem_cons.mpr ⟨jin (jt3 (List.mem_of_getElem? (i := 53) rfl)) rfl, List.forall_mem_cons.mpr ⟨jin (jt3 (List.mem_of_getElem? (i := 54) rfl)) rfl, List.forall_mem_cons.mpr ⟨jin (jt3 (List.mem_of_getElem? (i := 55) rfl)) rfl, fun _ h => absurd h List.not_mem_nil⟩⟩⟩⟩⟩
theorem ww_L_46 : ∀ w ∈ jwV "StrataHouseLaw" 46 "StrataHouse" y_H_ways (.code y_H_ways c_H_ways 6 (some .int)), w ∈ jTs := List.forall_mem_cons.mpr ⟨jin (jt3 (List.mem_of_getElem? (i := 63) rfl)) rfl, List.forall_mem_cons.mpr ⟨jin (jt1 (List.mem_of_getElem? (i := 1) rfl)) rfl, List.forall_mem_cons.mpr ⟨jin (jt3 (List.mem_of_getElem? (i := 60) rfl)) rfl, List.forall_mem_cons.mpr ⟨jin (jt3 (List.mem_of_getElem? (i := 61) rfl)) rfl, List.forall_mem_cons.mpr ⟨jin (jt3 (List.mem_of_getElem? (i := 62) rfl)) rfl, fun _ h => absurd h List.not_mem_nil⟩⟩⟩⟩⟩
theorem ww_H_137 : ∀ w ∈ jwN "StrataHouse" 137 "StrataHouse$Match" y_M_countInstances (.code y_M_countInstances c_M_countInstances 7 (some .int)) "StrataHouse", w ∈ jTs := List.forall_mem_cons.mpr ⟨jin (jt3 (List.mem_of_getElem? (i := 67) rfl)) rfl, List.forall_mem_cons.mpr ⟨jin (jt1 (List.mem_of_getElem? (i := 2) rfl)) rfl, List.forall_mem_cons.mpr ⟨jin (jt3 (List.mem_of_getElem? (i := 64) rfl)) rfl, List.forall_mem_cons.mpr ⟨jin (jt3 (List.mem_of_getElem? (i := 66) rfl)) rfl, List.forall_mem_cons.mpr ⟨jin (jts (List.mem_of_getElem? (i := 40) rfl)) rfl, fun _ h => absurd h List.not_mem_nil⟩⟩⟩⟩⟩
theorem ww_M_102 : ∀ w ∈ jwS "StrataHouse$Match" 102 y_Integer_bitCount (.code y_Integer_bitCount c_Integer_bitCount 1 (some .int)), w ∈ jTs := List.forall_mem_cons.mpr ⟨jin (jt3 (List.mem_of_getElem? (i := 70) rfl)) rfl, List.forall_mem_cons.mpr ⟨jin (jt1 (List.mem_of_getElem? (i := 15) rfl)) rfl, List.forall_mem_cons.mpr ⟨jin (jt3 (List.mem_of_getElem? (i := 68) rfl)) rfl, List.forall_mem_cons.mpr ⟨jin (jt3 (List.mem_of_getElem? (i := 69) rfl)) rfl, fun _ h => absurd h List.not_mem_nil⟩⟩⟩⟩
theorem ww_M_108 : ∀ w ∈ jwV "StrataHouse$Match" 108 "StrataHouse$Match" y_M_countInstances (.code y_M_countInstances c_M_countInstances 7 (some .int)), w ∈ jTs := List.forall_mem_cons.mpr ⟨jin (jt3 (List.mem_of_getElem? (i := 67) rfl)) rfl, List.forall_mem_cons.mpr ⟨jin (jt1 (List.mem_of_getElem? (i := 2) rfl)) rfl, List.forall_mem_cons.mpr ⟨jin (jt3 (List.mem_of_getElem? (i := 74) rfl)) rfl, List.forall_mem_cons.mpr ⟨jin (jt3 (List.mem_of_getElem? (i := 66) rfl)) rfl, List.forall_mem_cons.mpr ⟨jin (jts (List.mem_of_getElem? (i := 40) rfl)) rfl, fun _ h => absurd h List.not_mem_nil⟩⟩⟩⟩⟩
theorem ww_L_49 : ∀ w ∈ jwV "StrataHouseLaw" 49 "StrataHouse" y_H_proof (.code y_H_proof c_H_proof 9 (some .int)), w ∈ jTs := List.forall_mem_cons.mpr ⟨jin (jt3 (List.mem_of_getElem? (i := 82) rfl)) rfl, List.forall_mem_cons.mpr ⟨jin (jt1 (List.mem_of_getElem? (i := 1) rfl)) rfl, List.forall_mem_cons.mpr ⟨jin (jt3 (List.mem_of_getElem? (i := 79) rfl)) rfl, List.forall_mem_cons.mpr ⟨jin (jt3 (List.mem_of_getElem? (i := 80) rfl)) rfl, List.forall_mem_cons.mpr ⟨jin (jt3 (List.mem_of_getElem? (i := 81) rfl)) rfl, fun _ h => absurd h List.not_mem_nil⟩⟩⟩⟩⟩
theorem ww_H_148 : ∀ w ∈ jwV "StrataHouse" 148 "StrataHouse" y_H_leastRule (.code y_H_leastRule c_H_leastRule 5 (some .int)), w ∈ jTs := List.forall_mem_cons.mpr ⟨jin (jt3 (List.mem_of_getElem? (i := 103) rfl)) rfl, List.forall_mem_cons.mpr ⟨jin (jt1 (List.mem_of_getElem? (i := 1) rfl)) rfl, List.forall_mem_cons.mpr ⟨jin (jt3 (List.mem_of_getElem? (i := 100) rfl)) rfl, List.forall_mem_cons.mpr ⟨jin (jt3 (List.mem_of_getElem? (i := 102) rfl)) rfl, List.forall_mem_cons.mpr ⟨jin (jts (List.mem_of_getElem? (i := 41) rfl)) rfl, fun _ h => absurd h List.not_mem_nil⟩⟩⟩⟩⟩
theorem ww_L_69 : ∀ w ∈ jwV "StrataHouseLaw" 69 "StrataHouseModel" y_D_thrown (.code y_D_thrown c_D_thrown 1 (some .int)), w ∈ jTs := List.forall_mem_cons.mpr ⟨jin (jt3 (List.mem_of_getElem? (i := 163) rfl)) rfl, List.forall_mem_cons.mpr ⟨jin (jt1 (List.mem_of_getElem? (i := 6) rfl)) rfl, List.forall_mem_cons.mpr ⟨jin (jt3 (List.mem_of_getElem? (i := 160) rfl)) rfl, List.forall_mem_cons.mpr ⟨jin (jt3 (List.mem_of_getElem? (i := 161) rfl)) rfl, List.forall_mem_cons.mpr ⟨jin (jt3 (List.mem_of_getElem? (i := 162) rfl)) rfl, fun _ h => absurd h List.not_mem_nil⟩⟩⟩⟩⟩
theorem ww_L_62 : ∀ w ∈ jwV "StrataHouseLaw" 62 "StrataHouseModel" y_D_clear (.code y_D_clear c_D_clear 2 none), w ∈ jTs := List.forall_mem_cons.mpr ⟨jin (jt3 (List.mem_of_getElem? (i := 167) rfl)) rfl, List.forall_mem_cons.mpr ⟨jin (jt1 (List.mem_of_getElem? (i := 6) rfl)) rfl, List.forall_mem_cons.mpr ⟨jin (jt3 (List.mem_of_getElem? (i := 164) rfl)) rfl, List.forall_mem_cons.mpr ⟨jin (jt3 (List.mem_of_getElem? (i := 165) rfl)) rfl, List.forall_mem_cons.mpr ⟨jin (jt3 (List.mem_of_getElem? (i := 166) rfl)) rfl, fun _ h => absurd h List.not_mem_nil⟩⟩⟩⟩⟩
theorem ww_L_68 : ∀ w ∈ jwV "StrataHouseLaw" 68 "StrataHouseModel" y_D_relation (.code y_D_relation c_D_relation 2 (some .int)), w ∈ jTs := List.forall_mem_cons.mpr ⟨jin (jt3 (List.mem_of_getElem? (i := 171) rfl)) rfl, List.forall_mem_cons.mpr ⟨jin (jt1 (List.mem_of_getElem? (i := 6) rfl)) rfl, List.forall_mem_cons.mpr ⟨jin (jt3 (List.mem_of_getElem? (i := 168) rfl)) rfl, List.forall_mem_cons.mpr ⟨jin (jt3 (List.mem_of_getElem? (i := 169) rfl)) rfl, List.forall_mem_cons.mpr ⟨jin (jt3 (List.mem_of_getElem? (i := 170) rfl)) rfl, fun _ h => absurd h List.not_mem_nil⟩⟩⟩⟩⟩
theorem ww_D_58 : ∀ w ∈ jwS "StrataHouseModel" 58 y_D_in (.code y_D_in c_D_in 3 (some .boolean)), w ∈ jTs := List.forall_mem_cons.mpr ⟨jin (jt3 (List.mem_of_getElem? (i := 174) rfl)) rfl, List.forall_mem_cons.mpr ⟨jin (jt1 (List.mem_of_getElem? (i := 6) rfl)) rfl, List.forall_mem_cons.mpr ⟨jin (jt3 (List.mem_of_getElem? (i := 172) rfl)) rfl, List.forall_mem_cons.mpr ⟨jin (jt3 (List.mem_of_getElem? (i := 173) rfl)) rfl, fun _ h => absurd h List.not_mem_nil⟩⟩⟩⟩
theorem ww_D_62 : ∀ w ∈ jwV "StrataHouseModel" 62 "StrataHouseModel" y_D_refuse (.code y_D_refuse c_D_refuse 4 (some .boolean)), w ∈ jTs := List.forall_mem_cons.mpr ⟨jin (jt3 (List.mem_of_getElem? (i := 178) rfl)) rfl, List.forall_mem_cons.mpr ⟨jin (jt1 (List.mem_of_getElem? (i := 6) rfl)) rfl, List.forall_mem_cons.mpr ⟨jin (jt3 (List.mem_of_getElem? (i := 175) rfl)) rfl, List.forall_mem_cons.mpr ⟨jin (jt3 (List.mem_of_getElem? (i := 177) rfl)) rfl, List.forall_mem_cons.mpr ⟨jin (jts (List.mem_of_getElem? (i := 42) rfl)) rfl, fun _ h => absurd h List.not_mem_nil⟩⟩⟩⟩⟩
theorem ww_L_76 : ∀ w ∈ jwV "StrataHouseLaw" 76 "StrataHouseModel" y_D_give (.code y_D_give c_D_give 5 (some .boolean)), w ∈ jTs := List.forall_mem_cons.mpr ⟨jin (jt3 (List.mem_of_getElem? (i := 182) rfl)) rfl, List.forall_mem_cons.mpr ⟨jin (jt1 (List.mem_of_getElem? (i := 6) rfl)) rfl, List.forall_mem_cons.mpr ⟨jin (jt3 (List.mem_of_getElem? (i := 179) rfl)) rfl, List.forall_mem_cons.mpr ⟨jin (jt3 (List.mem_of_getElem? (i := 180) rfl)) rfl, List.forall_mem_cons.mpr ⟨jin (jt3 (List.mem_of_getElem? (i := 181) rfl)) rfl, fun _ h => absurd h List.not_mem_nil⟩⟩⟩⟩⟩
theorem ww_D_66 : ∀ w ∈ jwV "StrataHouseModel" 66 "StrataHouseModel" y_D_isFact (.code y_D_isFact c_D_isFact 4 (some .boolean)), w ∈ jTs := List.forall_mem_cons.mpr ⟨jin (jt3 (List.mem_of_getElem? (i := 186) rfl)) rfl, List.forall_mem_cons.mpr ⟨jin (jt1 (List.mem_of_getElem? (i := 6) rfl)) rfl, List.forall_mem_cons.mpr ⟨jin (jt3 (List.mem_of_getElem? (i := 183) rfl)) rfl, List.forall_mem_cons.mpr ⟨jin (jt3 (List.mem_of_getElem? (i := 185) rfl)) rfl, List.forall_mem_cons.mpr ⟨jin (jts (List.mem_of_getElem? (i := 43) rfl)) rfl, fun _ h => absurd h List.not_mem_nil⟩⟩⟩⟩⟩
theorem ww_D_69 : ∀ w ∈ jwV "StrataHouseModel" 69 "StrataHouseModel" y_D_factAt (.code y_D_factAt c_D_factAt 4 (some .int)), w ∈ jTs := List.forall_mem_cons.mpr ⟨jin (jt3 (List.mem_of_getElem? (i := 190) rfl)) rfl, List.forall_mem_cons.mpr ⟨jin (jt1 (List.mem_of_getElem? (i := 6) rfl)) rfl, List.forall_mem_cons.mpr ⟨jin (jt3 (List.mem_of_getElem? (i := 187) rfl)) rfl, List.forall_mem_cons.mpr ⟨jin (jt3 (List.mem_of_getElem? (i := 189) rfl)) rfl, List.forall_mem_cons.mpr ⟨jin (jts (List.mem_of_getElem? (i := 44) rfl)) rfl, fun _ h => absurd h List.not_mem_nil⟩⟩⟩⟩⟩
theorem ww_L_79 : ∀ w ∈ jwV "StrataHouseLaw" 79 "StrataHouseModel" y_D_take (.code y_D_take c_D_take 5 (some .boolean)), w ∈ jTs := List.forall_mem_cons.mpr ⟨jin (jt3 (List.mem_of_getElem? (i := 194) rfl)) rfl, List.forall_mem_cons.mpr ⟨jin (jt1 (List.mem_of_getElem? (i := 6) rfl)) rfl, List.forall_mem_cons.mpr ⟨jin (jt3 (List.mem_of_getElem? (i := 191) rfl)) rfl, List.forall_mem_cons.mpr ⟨jin (jt3 (List.mem_of_getElem? (i := 192) rfl)) rfl, List.forall_mem_cons.mpr ⟨jin (jt3 (List.mem_of_getElem? (i := 193) rfl)) rfl, fun _ h => absurd h List.not_mem_nil⟩⟩⟩⟩⟩
theorem ww_L_82 : ∀ w ∈ jwV "StrataHouseLaw" 82 "StrataHouseModel" y_D_rule (.code y_D_rule c_D_rule 4 (some .int)), w ∈ jTs := List.forall_mem_cons.mpr ⟨jin (jt3 (List.mem_of_getElem? (i := 198) rfl)) rfl, List.forall_mem_cons.mpr ⟨jin (jt1 (List.mem_of_getElem? (i := 6) rfl)) rfl, List.forall_mem_cons.mpr ⟨jin (jt3 (List.mem_of_getElem? (i := 195) rfl)) rfl, List.forall_mem_cons.mpr ⟨jin (jt3 (List.mem_of_getElem? (i := 196) rfl)) rfl, List.forall_mem_cons.mpr ⟨jin (jt3 (List.mem_of_getElem? (i := 197) rfl)) rfl, fun _ h => absurd h List.not_mem_nil⟩⟩⟩⟩⟩
theorem ww_D_77 : ∀ w ∈ jwV "StrataHouseModel" 77 "StrataHouseModel" y_D_areTerms (.code y_D_areTerms c_D_areTerms 4 (some .boolean)), w ∈ jTs := List.forall_mem_cons.mpr ⟨jin (jt3 (List.mem_of_getElem? (i := 202) rfl)) rfl, List.forall_mem_cons.mpr ⟨jin (jt1 (List.mem_of_getElem? (i := 6) rfl)) rfl, List.forall_mem_cons.mpr ⟨jin (jt3 (List.mem_of_getElem? (i := 199) rfl)) rfl, List.forall_mem_cons.mpr ⟨jin (jt3 (List.mem_of_getElem? (i := 201) rfl)) rfl, List.forall_mem_cons.mpr ⟨jin (jts (List.mem_of_getElem? (i := 45) rfl)) rfl, fun _ h => absurd h List.not_mem_nil⟩⟩⟩⟩⟩
theorem ww_D_73 : ∀ w ∈ jwS "StrataHouseModel" 73 y_D_isTerm (.code y_D_isTerm c_D_isTerm 1 (some .boolean)), w ∈ jTs := List.forall_mem_cons.mpr ⟨jin (jt3 (List.mem_of_getElem? (i := 205) rfl)) rfl, List.forall_mem_cons.mpr ⟨jin (jt1 (List.mem_of_getElem? (i := 6) rfl)) rfl, List.forall_mem_cons.mpr ⟨jin (jt3 (List.mem_of_getElem? (i := 203) rfl)) rfl, List.forall_mem_cons.mpr ⟨jin (jt3 (List.mem_of_getElem? (i := 204) rfl)) rfl, fun _ h => absurd h List.not_mem_nil⟩⟩⟩⟩
theorem ww_D_80 : ∀ w ∈ jwV "StrataHouseModel" 80 "StrataHouseModel" y_D_put (.code y_D_put c_D_put 6 none), w ∈ jTs := List.forall_mem_cons.mpr ⟨jin (jt3 (List.mem_of_getElem? (i := 209) rfl)) rfl, List.forall_mem_cons.mpr ⟨jin (jt1 (List.mem_of_getElem? (i := 6) rfl)) rfl, List.forall_mem_cons.mpr ⟨jin (jt3 (List.mem_of_getElem? (i := 206) rfl)) rfl, List.forall_mem_cons.mpr ⟨jin (jt3 (List.mem_of_getElem? (i := 208) rfl)) rfl, List.forall_mem_cons.mpr ⟨jin (jts (List.mem_of_getElem? (i := 46) rfl)) rfl, fun _ h => absurd h List.not_mem_nil⟩⟩⟩⟩⟩
theorem ww_L_86 : ∀ w ∈ jwV "StrataHouseLaw" 86 "StrataHouseModel" y_D_literal (.code y_D_literal c_D_literal 6 (some .int)), w ∈ jTs := List.forall_mem_cons.mpr ⟨jin (jt3 (List.mem_of_getElem? (i := 213) rfl)) rfl, List.forall_mem_cons.mpr ⟨jin (jt1 (List.mem_of_getElem? (i := 6) rfl)) rfl, List.forall_mem_cons.mpr ⟨jin (jt3 (List.mem_of_getElem? (i := 210) rfl)) rfl, List.forall_mem_cons.mpr ⟨jin (jt3 (List.mem_of_getElem? (i := 211) rfl)) rfl, List.forall_mem_cons.mpr ⟨jin (jt3 (List.mem_of_getElem? (i := 212) rfl)) rfl, fun _ h => absurd h List.not_mem_nil⟩⟩⟩⟩⟩
theorem ww_L_90 : ∀ w ∈ jwV "StrataHouseLaw" 90 "StrataHouseModel" y_D_unrule (.code y_D_unrule c_D_unrule 1 none), w ∈ jTs := List.forall_mem_cons.mpr ⟨jin (jt3 (List.mem_of_getElem? (i := 217) rfl)) rfl, List.forall_mem_cons.mpr ⟨jin (jt1 (List.mem_of_getElem? (i := 6) rfl)) rfl, List.forall_mem_cons.mpr ⟨jin (jt3 (List.mem_of_getElem? (i := 214) rfl)) rfl, List.forall_mem_cons.mpr ⟨jin (jt3 (List.mem_of_getElem? (i := 215) rfl)) rfl, List.forall_mem_cons.mpr ⟨jin (jt3 (List.mem_of_getElem? (i := 216) rfl)) rfl, fun _ h => absurd h List.not_mem_nil⟩⟩⟩⟩⟩
theorem ww_L_94 : ∀ w ∈ jwV "StrataHouseLaw" 94 "StrataHouseModel" y_D_fault (.code y_D_fault c_D_fault 1 (some .int)), w ∈ jTs := List.forall_mem_cons.mpr ⟨jin (jt3 (List.mem_of_getElem? (i := 221) rfl)) rfl, List.forall_mem_cons.mpr ⟨jin (jt1 (List.mem_of_getElem? (i := 6) rfl)) rfl, List.forall_mem_cons.mpr ⟨jin (jt3 (List.mem_of_getElem? (i := 218) rfl)) rfl, List.forall_mem_cons.mpr ⟨jin (jt3 (List.mem_of_getElem? (i := 219) rfl)) rfl, List.forall_mem_cons.mpr ⟨jin (jt3 (List.mem_of_getElem? (i := 220) rfl)) rfl, fun _ h => absurd h List.not_mem_nil⟩⟩⟩⟩⟩
theorem ww_D_127 : ∀ w ∈ jwV "StrataHouseModel" 127 "StrataHouseModel" y_D_find (.code y_D_find c_D_find 3 none), w ∈ jTs := List.forall_mem_cons.mpr ⟨jin (jt3 (List.mem_of_getElem? (i := 225) rfl)) rfl, List.forall_mem_cons.mpr ⟨jin (jt1 (List.mem_of_getElem? (i := 6) rfl)) rfl, List.forall_mem_cons.mpr ⟨jin (jt3 (List.mem_of_getElem? (i := 222) rfl)) rfl, List.forall_mem_cons.mpr ⟨jin (jt3 (List.mem_of_getElem? (i := 224) rfl)) rfl, List.forall_mem_cons.mpr ⟨jin (jts (List.mem_of_getElem? (i := 47) rfl)) rfl, fun _ h => absurd h List.not_mem_nil⟩⟩⟩⟩⟩
theorem ww_D_117 : ∀ w ∈ jwV "StrataHouseModel" 117 "StrataHouseModel" y_D_findFault (.code y_D_findFault c_D_findFault 6 (some .int)), w ∈ jTs := List.forall_mem_cons.mpr ⟨jin (jt3 (List.mem_of_getElem? (i := 229) rfl)) rfl, List.forall_mem_cons.mpr ⟨jin (jt1 (List.mem_of_getElem? (i := 6) rfl)) rfl, List.forall_mem_cons.mpr ⟨jin (jt3 (List.mem_of_getElem? (i := 226) rfl)) rfl, List.forall_mem_cons.mpr ⟨jin (jt3 (List.mem_of_getElem? (i := 228) rfl)) rfl, List.forall_mem_cons.mpr ⟨jin (jts (List.mem_of_getElem? (i := 48) rfl)) rfl, fun _ h => absurd h List.not_mem_nil⟩⟩⟩⟩⟩
theorem ww_D_88 : ∀ w ∈ jwV "StrataHouseModel" 88 "StrataHouseModel" y_D_isSafe (.code y_D_isSafe c_D_isSafe 5 (some .boolean)), w ∈ jTs := List.forall_mem_cons.mpr ⟨jin (jt3 (List.mem_of_getElem? (i := 233) rfl)) rfl, List.forall_mem_cons.mpr ⟨jin (jt1 (List.mem_of_getElem? (i := 6) rfl)) rfl, List.forall_mem_cons.mpr ⟨jin (jt3 (List.mem_of_getElem? (i := 230) rfl)) rfl, List.forall_mem_cons.mpr ⟨jin (jt3 (List.mem_of_getElem? (i := 232) rfl)) rfl, List.forall_mem_cons.mpr ⟨jin (jts (List.mem_of_getElem? (i := 49) rfl)) rfl, fun _ h => absurd h List.not_mem_nil⟩⟩⟩⟩⟩
theorem ww_D_84 : ∀ w ∈ jwV "StrataHouseModel" 84 "StrataHouseModel" y_D_variablesOf (.code y_D_variablesOf c_D_variablesOf 3 (some .int)), w ∈ jTs := List.forall_mem_cons.mpr ⟨jin (jt3 (List.mem_of_getElem? (i := 237) rfl)) rfl, List.forall_mem_cons.mpr ⟨jin (jt1 (List.mem_of_getElem? (i := 6) rfl)) rfl, List.forall_mem_cons.mpr ⟨jin (jt3 (List.mem_of_getElem? (i := 234) rfl)) rfl, List.forall_mem_cons.mpr ⟨jin (jt3 (List.mem_of_getElem? (i := 236) rfl)) rfl, List.forall_mem_cons.mpr ⟨jin (jts (List.mem_of_getElem? (i := 50) rfl)) rfl, fun _ h => absurd h List.not_mem_nil⟩⟩⟩⟩⟩
theorem ww_D_91 : ∀ w ∈ jwV "StrataHouseModel" 91 "StrataHouseModel" y_D_raise (.code y_D_raise c_D_raise 7 (some .boolean)), w ∈ jTs := List.forall_mem_cons.mpr ⟨jin (jt4 (List.mem_of_getElem? (i := 1) rfl)) rfl, List.forall_mem_cons.mpr ⟨jin (jt1 (List.mem_of_getElem? (i := 6) rfl)) rfl, List.forall_mem_cons.mpr ⟨jin (jt3 (List.mem_of_getElem? (i := 238) rfl)) rfl, List.forall_mem_cons.mpr ⟨jin (jt4 (List.mem_of_getElem? (i := 0) rfl)) rfl, List.forall_mem_cons.mpr ⟨jin (jts (List.mem_of_getElem? (i := 51) rfl)) rfl, fun _ h => absurd h List.not_mem_nil⟩⟩⟩⟩⟩
theorem ww_D_124 : ∀ w ∈ jwV "StrataHouseModel" 124 "StrataHouseModel" y_D_round (.code y_D_round c_D_round 7 (some .boolean)), w ∈ jTs := List.forall_mem_cons.mpr ⟨jin (jt4 (List.mem_of_getElem? (i := 5) rfl)) rfl, List.forall_mem_cons.mpr ⟨jin (jt1 (List.mem_of_getElem? (i := 6) rfl)) rfl, List.forall_mem_cons.mpr ⟨jin (jt4 (List.mem_of_getElem? (i := 2) rfl)) rfl, List.forall_mem_cons.mpr ⟨jin (jt4 (List.mem_of_getElem? (i := 4) rfl)) rfl, List.forall_mem_cons.mpr ⟨jin (jts (List.mem_of_getElem? (i := 52) rfl)) rfl, fun _ h => absurd h List.not_mem_nil⟩⟩⟩⟩⟩
theorem ww_D_106 : ∀ w ∈ jwV "StrataHouseModel" 106 "StrataHouseModel" y_D_instance (.code y_D_instance c_D_instance 7 (some .boolean)), w ∈ jTs := List.forall_mem_cons.mpr ⟨jin (jt4 (List.mem_of_getElem? (i := 9) rfl)) rfl, List.forall_mem_cons.mpr ⟨jin (jt1 (List.mem_of_getElem? (i := 6) rfl)) rfl, List.forall_mem_cons.mpr ⟨jin (jt4 (List.mem_of_getElem? (i := 6) rfl)) rfl, List.forall_mem_cons.mpr ⟨jin (jt4 (List.mem_of_getElem? (i := 8) rfl)) rfl, List.forall_mem_cons.mpr ⟨jin (jts (List.mem_of_getElem? (i := 53) rfl)) rfl, fun _ h => absurd h List.not_mem_nil⟩⟩⟩⟩⟩
theorem ww_D_97 : ∀ w ∈ jwV "StrataHouseModel" 97 "StrataHouseModel" y_D_variables (.code y_D_variables c_D_variables 4 (some .int)), w ∈ jTs := List.forall_mem_cons.mpr ⟨jin (jt4 (List.mem_of_getElem? (i := 13) rfl)) rfl, List.forall_mem_cons.mpr ⟨jin (jt1 (List.mem_of_getElem? (i := 6) rfl)) rfl, List.forall_mem_cons.mpr ⟨jin (jt4 (List.mem_of_getElem? (i := 10) rfl)) rfl, List.forall_mem_cons.mpr ⟨jin (jt4 (List.mem_of_getElem? (i := 12) rfl)) rfl, List.forall_mem_cons.mpr ⟨jin (jts (List.mem_of_getElem? (i := 54) rfl)) rfl, fun _ h => absurd h List.not_mem_nil⟩⟩⟩⟩⟩
theorem ww_D_100 : ∀ w ∈ jwV "StrataHouseModel" 100 "StrataHouseModel" y_D_factOf (.code y_D_factOf c_D_factOf 2 (some .int)), w ∈ jTs := List.forall_mem_cons.mpr ⟨jin (jt4 (List.mem_of_getElem? (i := 17) rfl)) rfl, List.forall_mem_cons.mpr ⟨jin (jt1 (List.mem_of_getElem? (i := 6) rfl)) rfl, List.forall_mem_cons.mpr ⟨jin (jt4 (List.mem_of_getElem? (i := 14) rfl)) rfl, List.forall_mem_cons.mpr ⟨jin (jt4 (List.mem_of_getElem? (i := 16) rfl)) rfl, List.forall_mem_cons.mpr ⟨jin (jts (List.mem_of_getElem? (i := 55) rfl)) rfl, fun _ h => absurd h List.not_mem_nil⟩⟩⟩⟩⟩
theorem ww_D_94 : ∀ w ∈ jwV "StrataHouseModel" 94 "StrataHouseModel" y_D_termValue (.code y_D_termValue c_D_termValue 2 (some .int)), w ∈ jTs := List.forall_mem_cons.mpr ⟨jin (jt4 (List.mem_of_getElem? (i := 21) rfl)) rfl, List.forall_mem_cons.mpr ⟨jin (jt1 (List.mem_of_getElem? (i := 6) rfl)) rfl, List.forall_mem_cons.mpr ⟨jin (jt4 (List.mem_of_getElem? (i := 18) rfl)) rfl, List.forall_mem_cons.mpr ⟨jin (jt4 (List.mem_of_getElem? (i := 20) rfl)) rfl, List.forall_mem_cons.mpr ⟨jin (jts (List.mem_of_getElem? (i := 56) rfl)) rfl, fun _ h => absurd h List.not_mem_nil⟩⟩⟩⟩⟩
theorem ww_D_103 : ∀ w ∈ jwV "StrataHouseModel" 103 "StrataHouseModel" y_D_holds (.code y_D_holds c_D_holds 2 (some .boolean)), w ∈ jTs := List.forall_mem_cons.mpr ⟨jin (jt4 (List.mem_of_getElem? (i := 25) rfl)) rfl, List.forall_mem_cons.mpr ⟨jin (jt1 (List.mem_of_getElem? (i := 6) rfl)) rfl, List.forall_mem_cons.mpr ⟨jin (jt4 (List.mem_of_getElem? (i := 22) rfl)) rfl, List.forall_mem_cons.mpr ⟨jin (jt4 (List.mem_of_getElem? (i := 24) rfl)) rfl, List.forall_mem_cons.mpr ⟨jin (jts (List.mem_of_getElem? (i := 57) rfl)) rfl, fun _ h => absurd h List.not_mem_nil⟩⟩⟩⟩⟩
theorem ww_D_110 : ∀ w ∈ jwV "StrataHouseModel" 110 "StrataHouseModel" y_D_isMet (.code y_D_isMet c_D_isMet 5 (some .boolean)), w ∈ jTs := List.forall_mem_cons.mpr ⟨jin (jt4 (List.mem_of_getElem? (i := 29) rfl)) rfl, List.forall_mem_cons.mpr ⟨jin (jt1 (List.mem_of_getElem? (i := 6) rfl)) rfl, List.forall_mem_cons.mpr ⟨jin (jt4 (List.mem_of_getElem? (i := 26) rfl)) rfl, List.forall_mem_cons.mpr ⟨jin (jt4 (List.mem_of_getElem? (i := 28) rfl)) rfl, List.forall_mem_cons.mpr ⟨jin (jts (List.mem_of_getElem? (i := 58) rfl)) rfl, fun _ h => absurd h List.not_mem_nil⟩⟩⟩⟩⟩
theorem ww_D_113 : ∀ w ∈ jwV "StrataHouseModel" 113 "StrataHouseModel" y_D_behind (.code y_D_behind c_D_behind 9 (some .int)), w ∈ jTs := List.forall_mem_cons.mpr ⟨jin (jt4 (List.mem_of_getElem? (i := 33) rfl)) rfl, List.forall_mem_cons.mpr ⟨jin (jt1 (List.mem_of_getElem? (i := 6) rfl)) rfl, List.forall_mem_cons.mpr ⟨jin (jt4 (List.mem_of_getElem? (i := 30) rfl)) rfl, List.forall_mem_cons.mpr ⟨jin (jt4 (List.mem_of_getElem? (i := 32) rfl)) rfl, List.forall_mem_cons.mpr ⟨jin (jts (List.mem_of_getElem? (i := 59) rfl)) rfl, fun _ h => absurd h List.not_mem_nil⟩⟩⟩⟩⟩
theorem ww_L_97 : ∀ w ∈ jwV "StrataHouseLaw" 97 "StrataHouseModel" y_D_layer (.code y_D_layer c_D_layer 3 (some .int)), w ∈ jTs := List.forall_mem_cons.mpr ⟨jin (jt4 (List.mem_of_getElem? (i := 37) rfl)) rfl, List.forall_mem_cons.mpr ⟨jin (jt1 (List.mem_of_getElem? (i := 6) rfl)) rfl, List.forall_mem_cons.mpr ⟨jin (jt4 (List.mem_of_getElem? (i := 34) rfl)) rfl, List.forall_mem_cons.mpr ⟨jin (jt4 (List.mem_of_getElem? (i := 35) rfl)) rfl, List.forall_mem_cons.mpr ⟨jin (jt4 (List.mem_of_getElem? (i := 36) rfl)) rfl, fun _ h => absurd h List.not_mem_nil⟩⟩⟩⟩⟩
theorem ww_L_100 : ∀ w ∈ jwV "StrataHouseLaw" 100 "StrataHouseModel" y_D_count (.code y_D_count c_D_count 5 (some .int)), w ∈ jTs := List.forall_mem_cons.mpr ⟨jin (jt4 (List.mem_of_getElem? (i := 41) rfl)) rfl, List.forall_mem_cons.mpr ⟨jin (jt1 (List.mem_of_getElem? (i := 6) rfl)) rfl, List.forall_mem_cons.mpr ⟨jin (jt4 (List.mem_of_getElem? (i := 38) rfl)) rfl, List.forall_mem_cons.mpr ⟨jin (jt4 (List.mem_of_getElem? (i := 39) rfl)) rfl, List.forall_mem_cons.mpr ⟨jin (jt4 (List.mem_of_getElem? (i := 40) rfl)) rfl, fun _ h => absurd h List.not_mem_nil⟩⟩⟩⟩⟩
theorem ww_L_103 : ∀ w ∈ jwV "StrataHouseLaw" 103 "StrataHouseModel" y_D_rank (.code y_D_rank c_D_rank 5 (some .int)), w ∈ jTs := List.forall_mem_cons.mpr ⟨jin (jt4 (List.mem_of_getElem? (i := 45) rfl)) rfl, List.forall_mem_cons.mpr ⟨jin (jt1 (List.mem_of_getElem? (i := 6) rfl)) rfl, List.forall_mem_cons.mpr ⟨jin (jt4 (List.mem_of_getElem? (i := 42) rfl)) rfl, List.forall_mem_cons.mpr ⟨jin (jt4 (List.mem_of_getElem? (i := 43) rfl)) rfl, List.forall_mem_cons.mpr ⟨jin (jt4 (List.mem_of_getElem? (i := 44) rfl)) rfl, fun _ h => absurd h List.not_mem_nil⟩⟩⟩⟩⟩
theorem ww_L_106 : ∀ w ∈ jwV "StrataHouseLaw" 106 "StrataHouseModel" y_D_ways (.code y_D_ways c_D_ways 9 (some .int)), w ∈ jTs := List.forall_mem_cons.mpr ⟨jin (jt4 (List.mem_of_getElem? (i := 49) rfl)) rfl, List.forall_mem_cons.mpr ⟨jin (jt1 (List.mem_of_getElem? (i := 6) rfl)) rfl, List.forall_mem_cons.mpr ⟨jin (jt4 (List.mem_of_getElem? (i := 46) rfl)) rfl, List.forall_mem_cons.mpr ⟨jin (jt4 (List.mem_of_getElem? (i := 47) rfl)) rfl, List.forall_mem_cons.mpr ⟨jin (jt4 (List.mem_of_getElem? (i := 48) rfl)) rfl, fun _ h => absurd h List.not_mem_nil⟩⟩⟩⟩⟩
theorem ww_L_110 : ∀ w ∈ jwV "StrataHouseLaw" 110 "StrataHouseModel" y_D_proof (.code y_D_proof c_D_proof 10 (some .int)), w ∈ jTs := List.forall_mem_cons.mpr ⟨jin (jt4 (List.mem_of_getElem? (i := 53) rfl)) rfl, List.forall_mem_cons.mpr ⟨jin (jt1 (List.mem_of_getElem? (i := 6) rfl)) rfl, List.forall_mem_cons.mpr ⟨jin (jt4 (List.mem_of_getElem? (i := 50) rfl)) rfl, List.forall_mem_cons.mpr ⟨jin (jt4 (List.mem_of_getElem? (i := 51) rfl)) rfl, List.forall_mem_cons.mpr ⟨jin (jt4 (List.mem_of_getElem? (i := 52) rfl)) rfl, fun _ h => absurd h List.not_mem_nil⟩⟩⟩⟩⟩
theorem ww_D_130 : ∀ w ∈ jwV "StrataHouseModel" 130 "StrataHouseModel" y_D_isLower (.code y_D_isLower c_D_isLower 6 (some .boolean)), w ∈ jTs := List.forall_mem_cons.mpr ⟨jin (jt4 (List.mem_of_getElem? (i := 57) rfl)) rfl, List.forall_mem_cons.mpr ⟨jin (jt1 (List.mem_of_getElem? (i := 6) rfl)) rfl, List.forall_mem_cons.mpr ⟨jin (jt4 (List.mem_of_getElem? (i := 54) rfl)) rfl, List.forall_mem_cons.mpr ⟨jin (jt4 (List.mem_of_getElem? (i := 56) rfl)) rfl, List.forall_mem_cons.mpr ⟨jin (jts (List.mem_of_getElem? (i := 60) rfl)) rfl, fun _ h => absurd h List.not_mem_nil⟩⟩⟩⟩⟩
end
section
-- the making and throwing of an exception
section JTH
variable {p : Program} {l : Launch} {e : Env} {R : Room} {s : State} {m : MethodId} {args : Array Value} {below : List Frame} {meth : Method} {c : Code} {T : State} {locs : List Loc} {cells slots : Nat}
/-- the same walk, told from the heap as it is now -/
theorem hx_rebase (X : Stand p l e R s m args below meth c T locs cells slots) {R' : Room} (h1 : R'.frames ≤ R.frames) (h2 : R'.locals ≤ R.locals) (h3 : cells + R'.cells ≤ R.cells) (h4 : slots + R'.slots ≤ R.slots) :
    Stand p l e R' ({ s with heap := T.heap, slotsUsed := T.slotsUsed } : State) m args below meth c T [] 0 0 := by
  refine ⟨X.admits, X.cas, X.clock, X.frames, ?_, X.hears, X.method, X.code, X.here, X.tail, X.warmed, X.limits, X.bytes, ?_⟩
  · have hr := X.room
    have hb := X.book
    have hs := X.heapSize
    have hu := X.used
    simp only [State.hasRoom, Bool.and_eq_true, decide_eq_true_eq] at hr ⊢
    obtain ⟨⟨⟨⟨r1, r2, r3, r4, r5, r6⟩, r7⟩, r8⟩, r9⟩ := hr
    have e1 : ({ s with heap := T.heap, slotsUsed := T.slotsUsed } : State).localsInUse = s.localsInUse := rfl
    have e2 : ({ s with heap := T.heap, slotsUsed := T.slotsUsed } : State).frames = s.frames := rfl
    have e3 : ({ s with heap := T.heap, slotsUsed := T.slotsUsed } : State).me = s.me := rfl
    rw [e1, e2, e3]
    refine ⟨⟨⟨⟨by omega, by omega, by omega, by omega, by omega, r6⟩, ?_⟩, ?_⟩, hb⟩
    · show T.heap.size + R'.cells ≤ _
      omega
    · show T.slotsUsed + R'.slots ≤ _
      omega
  · refine ⟨X.same.1, Nat.le_refl _, Nat.le_refl _, ?_, ?_, fun a cl h => ⟨cl, h, rfl, rfl, fun i _ => rfl⟩⟩
    · show T.slotsUsed = T.slotsUsed + _
      have : (T.heap.toList.drop T.heap.size) = [] := List.drop_eq_nil_of_le (by simp)
      rw [show ((T.setVm s.vm).heap.toList.drop ({ s with heap := T.heap, slotsUsed := T.slotsUsed } : State).heap.size) = [] from this]
      rfl
    · have : (T.heap.toList.drop T.heap.size) = [] := List.drop_eq_nil_of_le (by simp)
      rw [show ((T.setVm s.vm).heap.toList.drop ({ s with heap := T.heap, slotsUsed := T.slotsUsed } : State).heap.size) = [] from this]
      exact Nat.le_refl _
/-- and back -/
theorem hx_unbase (X : Stand p l e R s m args below meth c T locs cells slots) {U : State} {k n : Nat} (h : ({ s with heap := T.heap, slotsUsed := T.slotsUsed } : State).sameButNew ({ U with vm := s.vm } : State) [] k n) :
    s.sameButNew ({ U with vm := s.vm } : State) locs (cells + k) (slots + n) := by
  have h2 : (T.setVm s.vm).sameButNew ({ U with vm := s.vm } : State) [] k n := by
    refine ⟨?_, h.2⟩
    have e1 := h.1
    have e2 : ∀ F : List Frame, (T.setVm s.vm).setFrames F = ({ s.setFrames F with heap := T.heap, slotsUsed := T.slotsUsed } : State) := by
      intro F
      have e3 := X.same.1
      generalize hZ : (T.setVm s.vm).frames = FT at e3
      have e4 : (T.setVm s.vm).setFrames F = (({ s.setFrames FT with heap := T.heap, slotsUsed := T.slotsUsed } : State)).setFrames F := congrArg (fun z : State => z.setFrames F) e3
      rw [e4]
      exact congrArg (fun z : State => ({ z with heap := T.heap, slotsUsed := T.slotsUsed } : State)) (State.setFrames_setFrames s FT F)
    rw [e2]
    exact e1
  have h3 := X.same.trans h2
  rw [List.append_nil] at h3
  exact h3
set_option maxHeartbeats 1000000 in
/-- an exception's constructor with a text, the first link of another index and other bytes, and its throw -/
theorem hx_ctor {m₀ : MethodId} {W : State} (X : Stand p l e R s m₀ args below meth c W locs cells slots) (hexec : p.tables.exec = Jvm.exec) (htr : e.platform.stackTraces = false) {own cls : String} {names : List String} {ic : Nat}
    {ix : Nat} {rx : ByteArray} (x0 : decode rx 0 = .ok (.aload_n 0, 1)) (x1 : decode rx 1 = .ok (.aload_n 1, 1)) (x2 : decode rx 2 = .ok (.invokespecial ix, 3)) (x5 : decode rx 5 = .ok (.return_, 1))
    (hown : s.vm.findClass own = some m₀.cls) (hcls : Bundle.fit cls = true) (hnames : ∀ n ∈ names, Bundle.fit n = true)
    (h : ∀ a ∈ Bundle.ownAtomsX own ic cls ix rx names, a.before args s = true)
    (hlocs : ∀ x ∈ locs, ∀ cell, s.heap[x.base]? = some cell → cell.vm.isStatics = false)
    {a : Addr} {cX : ClassId} {kX : Class} (hfoundX : s.vm.findClass cls = some cX) (hkX : s.vm.classes[cX]? = some kX) (hcell : W.heap[a]? = some (freshCell cX kX)) (hnew : s.heap.size ≤ a)
    {msg : Value} (hmsg : msg.isRef = true)
    {g : JFrame} (hg : g.method = m₀) (hsize : g.locals.size = c.maxLocals) (hlocked : g.locked = none) (hentered : g.entered = []) {rest : List Value} (hstack : g.stack = msg :: .ref a :: .ref a :: rest)
    (hd6 : decode c.code g.pc = .ok (.invokespecial ic, 3)) (hd9 : decode c.code (g.pc + 3) = .ok (.athrow, 1)) (hout : ∀ x ∈ c.exceptionTable.toList, covers x (g.pc + 3) = false)
    (hRframes : names.length + 3 < R.frames) (hRlocals : 2 * g.monitorRoom + ((Value.ref a :: rest).map fun v => v.category).sum + (13 * (names.length + 1) + 42) ≤ R.locals) (hlocks : meth.locks = false) :
    ∃ U : State, Steps p.tables e below (W.setTop g) U ∧ U.status = .running ∧ Ended U below (.threw a) ∧ s.WarmedH U.vm ∧ s.sameButNew ({ U with vm := s.vm } : State) locs cells slots ∧
      ∃ ce, U.heap[a]? = some ce ∧ ce.cls = cX ∧ ce.vm = .none := by
  have hpl : e.platform.magicAccessors = ({} : Platform).magicAccessors := by rw [X.admits.platform]
  have a' : ∀ x, x ∈ Bundle.ownAtomsX own ic cls ix rx names → x.holds args s none s [] = true := fun x hx => h x hx
  obtain ⟨T, Z0, L, LZ0, Y⟩ := ThrowableC.of_atoms (args := args) (by rw [X.admits.platform]) (by rw [X.admits.platform]) hpl (fun x hx => h x (by simp [Bundle.ownAtomsX, hx]))
  obtain ⟨Z, M, LZ, LM, hnZ⟩ := Init0T.ofS_atoms (args := args) hpl L Y (fun x hx => h x (by simp [Bundle.ownAtomsX, hx]))
  obtain ⟨P1, Ps, hlen, L1, hL, hP1m, hlink1, hlink⟩ := Bundle.chainSX (args := args) hpl hnZ x0 x1 x2 x5 names cls hcls hnames (fun x hx => h x (by simp [Bundle.ownAtomsX, hx]))
  have hfound : s.vm.findClass cls = some P1.m.cls := findClass_of_methodNamed hP1m
  cases Option.some.inj (hfoundX.symm.trans hfound)
  obtain ⟨c1, kX', hc1, hk, hord, -, -, -⟩ := Cond.instantiable_spec (a' (.instantiable cls 6) (by simp [Bundle.ownAtomsX]))
  cases Option.some.inj (hc1.symm.trans hfound)
  cases Option.some.inj (hkX.symm.trans hk)
  have hsel0 : selectMethod e.platform s.vm P1.m.cls T.fill0 = .method T.fill0 := by
    obtain ⟨c2, r2, m2, q1, q2, q3, q4, -⟩ := Cond.selects_spec (a' (.selects cls Bundle.tFill0 Bundle.tFill0) (by simp [Bundle.ownAtomsX]))
    cases Option.some.inj (q1.symm.trans hfound)
    cases Option.some.inj (q2.symm.trans (State.methodFound?_of_named Y.fill0 (by decide)))
    cases Option.some.inj (q3.symm.trans Y.fill0)
    rw [Launch.admits_selectMethod X.admits]; exact q4
  have hselF : selectMethod e.platform s.vm P1.m.cls T.fill = .method T.fill := by
    obtain ⟨c2, r2, m2, q1, q2, q3, q4, -⟩ := Cond.selects_spec (a' (.selects cls Bundle.tFill Bundle.tFill) (by simp [Bundle.ownAtomsX]))
    cases Option.some.inj (q1.symm.trans hfound)
    cases Option.some.inj (q2.symm.trans (State.methodFound?_of_named Y.fill (by decide)))
    cases Option.some.inj (q3.symm.trans Y.fill)
    rw [Launch.admits_selectMethod X.admits]; exact q4
  obtain ⟨cellS0, hcS0, hiss⟩ := Y.statics
  obtain ⟨u0, hu0⟩ := Cond.staticRefV Y.unassigned L.unassignedStatic L.statics hcS0 hiss (a' (.isRef (.static Bundle.tN "UNASSIGNED_STACK" Bundle.steD)) (by simp [Bundle.ownAtomsX]))
  obtain ⟨sen, hsen⟩ := Cond.staticRefV Y.sentinel L.sentinelStatic L.statics hcS0 hiss (a' (.isRef (.static Bundle.tN "SUPPRESSED_SENTINEL" Bundle.listD)) (by simp [Bundle.ownAtomsX]))
  obtain ⟨ci198, i198, fB, hk198, hg198, ha198, hsB, -, hnB, htB, hffB⟩ := Cond.ownField (t := .object "java/lang/Object") Y.found L.cls (by decide +kernel) (a' (.fieldLink Bundle.tN 198 Bundle.tN "backtrace" "Ljava/lang/Object;") (by simp [Bundle.ownAtomsX])) (a' (.lays Bundle.tN Bundle.tN "backtrace" "Ljava/lang/Object;") (by simp [Bundle.ownAtomsX])) e.platform hpl
  obtain ⟨cellS, hcellS, heS, -, hkeep⟩ := X.same.2.2.2.2.2 T.aS cellS0 hcS0
  have hout' : ∀ i, (⟨T.aS, i⟩ : Loc) ∉ locs := fun i hmem => by
    have := hlocs _ hmem cellS0 hcS0
    rw [hiss] at this; cases this
  have hknownS : cellS.vm ≠ .unknown := by
    rw [heS]; intro hu
    rw [show cellS0.vm = .unknown from hu] at hiss
    cases hiss
  have hneS : T.aS ≠ a := Nat.ne_of_lt (Nat.lt_of_lt_of_le (Array.getElem?_eq_some_iff.mp hcS0).1 hnew)
  obtain ⟨iM, hffM⟩ := Y.msg
  obtain ⟨tyC, dC, hdC, hdnC⟩ := Cond.laysAt hfound hk Y.cause (a' (.lays cls Bundle.tN "cause" "Ljava/lang/Throwable;") (by simp [Bundle.ownAtomsX]))
  obtain ⟨tyS, dS, hdS, hdnS⟩ := Cond.laysAt hfound hk Y.stack (a' (.lays cls Bundle.tN "stackTrace" Bundle.steD) (by simp [Bundle.ownAtomsX]))
  obtain ⟨tyP, dP, hdP, hdnP⟩ := Cond.laysAt hfound hk Y.supp (a' (.lays cls Bundle.tN "suppressedExceptions" Bundle.listD) (by simp [Bundle.ownAtomsX]))
  obtain ⟨tyM, dM, hdM, hdnM⟩ := Cond.laysAt hfound hk hffM (a' (.lays cls Bundle.tN "detailMessage" "Ljava/lang/String;") (by simp [Bundle.ownAtomsX]))
  obtain ⟨tyB, dB, hdB, hdnB⟩ := Cond.laysAt hfound hk hffB (a' (.lays cls Bundle.tN "backtrace" "Ljava/lang/Object;") (by simp [Bundle.ownAtomsX]))
  have bC := Cond.laysApart hdB hdC hdnB hdnC (by rw [hnB, Y.causeName]; decide)
  have bS := Cond.laysApart hdB hdS hdnB hdnS (by rw [hnB, Y.stackName]; decide)
  have bP := Cond.laysApart hdB hdP hdnB hdnP (by rw [hnB, Y.suppName]; decide)
  have hskip : SkipFacts T e.platform s (fun u => u) u0 ((preparedCellV T.toThrowableT (freshCell P1.m.cls kX) a u0 sen).withEntry W.cur) :=
    ⟨{ ci198 := ci198, i198 := i198, fBack := fB }, ⟨hk198, hg198, ha198, hsB⟩, by
      have := fresh_default (c := P1.m.cls) tyB
      rw [htB] at this
      simpa [preparedCellV, Cell.setSlot, Cell.withEntry, Array.getElem?_setIfInBounds, bC, bS, bP, bC.symm, bS.symm, bP.symm, defaultValue] using this, fun _ _ => rfl⟩
  obtain ⟨tm, methC, cdC, kC, vm₁, hnC, -, -, -, -, -, -, -, hW₁, st1⟩ := Steps.initColdS (tb := p.tables) (e := e) (below := below) (s := s) (U := W) X.here hexec X.warmed hpl hown (t := Bundle.initS cls) rfl rfl (Bundle.fit_spec hcls).2
    (a' (.methodLink own ic (Bundle.initS cls)) (by simp [Bundle.ownAtomsX])) (h (.instanceMethod (Bundle.initS cls)) (by cases names <;> simp [Bundle.ownAtomsX, Bundle.chainSAtomsX, Bundle.passSAtoms])) (bytes := rx) (maxL := 2) (h (.code (Bundle.initS cls) rx 2 none) (by cases names <;> simp [Bundle.ownAtomsX, Bundle.chainSAtomsX, Bundle.passSAtoms]))
    (f := g) hg (a := a) (msg := msg) (rest := .ref a :: rest) hstack hd6
  cases Option.some.inj (hnC.symm.trans hP1m)
  have X₁ := X.noted hW₁
  obtain ⟨vm₂, X₂, st2⟩ := X₁.ctorMessageOffV hexec (g := { g with stack := .ref a :: rest }) hg hsize T L Z LZ M LM (P1 :: Ps)
    (fun P hP => by rcases List.mem_cons.mp hP with rfl | hP; exact L1; exact hL P hP) ⟨hlink1, hlink⟩ (u0 := u0) (sen := sen) (self := a) hmsg (cell := freshCell P1.m.cls kX) (cellS := cellS)
    hcell (fun _ => by simp) (by simp) rfl rfl hsel0 hselF hcellS hneS hknownS (by rw [hkeep _ (hout' _)]; exact hu0) (by rw [hkeep _ (hout' _)]; exact hsen)
    (Takes.of_laid hk hord tyC (by rw [Y.causeType]; rfl)) (Takes.of_laid hk hord tyS (by rw [Y.stackType]; exact fits_refV_array _ u0)) (Takes.of_laid hk hord tyP (by rw [Y.suppType]; exact fits_refV_object _ sen))
    (Takes.of_laid hk hord tyM (by rw [Y.msgType]; exact fits_refV_object _ ⟨msg, hmsg⟩)) Y.objLocals hskip htr [] hd6
    (by simp only [List.length_cons, hlen]; omega) (by simp only [List.length_cons, hlen]; exact hRlocals)
  obtain ⟨hwalk, hrun, hended, hWU, hsame⟩ := X₂.athrowLeaves hexec (g := { g with stack := .ref a :: rest, pc := g.pc + 3 }) hg hlocked hentered hout (a := a) (rest := rest) rfl hd9
  have hlt : a < ((W.setVm vm₁).setVm vm₂).heap.size := (Array.getElem?_eq_some_iff.mp hcell).1
  have hU := heapAt_setCell_self (s := (W.setVm vm₁).setVm vm₂) (plainBareV T.toThrowableT (freshCell P1.m.cls kX) a u0 sen msg) hlt
  refine ⟨_, st1 _ (fun acts => ?_), hrun, hended, hWU, hsame.weaken (fun y hy hlt' => ?_) (Nat.le_refl _) (Nat.le_refl _), _, hU, rfl, rfl⟩
  · rw [doInvoke_state]
    exact st2 _ hwalk
  · rcases List.mem_append.mp hy with h1 | h1
    · exact h1
    · exfalso
      have hb : y.base = a := by
        simp only [List.mem_cons, List.not_mem_nil, or_false] at h1
        rcases h1 with rfl | rfl | rfl | rfl | rfl <;> rfl
      rw [hb] at hlt'
      exact Nat.not_lt.mpr hnew hlt'
end JTH
/-- the two words of Throwable's statics -/
def jA1 : Cond := .isRef (.static Bundle.tN "UNASSIGNED_STACK" Bundle.steD)
def jA2 : Cond := .isRef (.static Bundle.tN "SUPPRESSED_SENTINEL" Bundle.listD)
def jA3 : Cond := .laysStatic Bundle.tN "UNASSIGNED_STACK" Bundle.steD
def jA4 : Cond := .laysStatic Bundle.tN "SUPPRESSED_SENTINEL" Bundle.listD
theorem jZ_word {C n d : String} {A : Nat → Prop} {U : State} (h : va_Zq C n d A U U.heap) (args : Array Value) : (Cond.isRef (.static C n d)).before args U = true := by
  rcases h with ⟨cf, kf, fi, f, a, cell, h1, h2, h3, h4, h5, h6, h7, h8⟩ | ⟨t, cf, kf, fi, f, a, cell, h1, h2, h3, h4, h5, h6, h7, h8⟩
  · have := Term.static_eval (args := args) (first := U) (o := none) (idx := []) h1 h2 h4 h5 h6 h7
    simp [Cond.before, Cond.holds, Cond.value, this, Value.isRef]
  · have := Term.static_eval (args := args) (first := U) (o := none) (idx := []) h1 h2 h4 h5 h6 h7
    simp [Cond.before, Cond.holds, Cond.value, this, Value.isRef]
section JTW
variable {p : Program} {l : Launch} {e : Env} {R : Room} {s : State} {m : MethodId} {args : Array Value} {below : List Frame} {meth : Method} {c : Code} {cells slots : Nat}
variable {cc : ByteArray} {nL : Nat} {own : String} {Ts : List Cond} {D : va_G} {cl : List vw_C} {tys : List (ClassId × FieldType)} {A : Nat → Prop}
variable {pc : Nat} {lv : List (Nat × Value)} {st : List Value} {ws : va_W} {post : Option String → Option Value → va_W → Prop}
set_option maxHeartbeats 1000000 in
/-- throw new X("..") where no handler covers it: one cell of six slots comes, and the method is left -/
theorem j_throw (hC : jC p s m args meth c cc nL own Ts D cl tys A) (hex : c.exceptionTable.isEmpty = true) (htr : e.platform.stackTraces = false) {cls tx : String} {names : List String} {ia ib ic ix : Nat} {rx : ByteArray} (x0 : decode rx 0 = .ok (.aload_n 0, 1)) (x1 : decode rx 1 = .ok (.aload_n 1, 1)) (x2 : decode rx 2 = .ok (.invokespecial ix, 3)) (x5 : decode rx 5 = .ok (.return_, 1))
    (hd0 : decode cc pc = .ok (.new ia, 3)) (hd3 : decode cc (pc + 3) = .ok (.dup, 1)) (hd4 : decode cc (pc + 4) = .ok (.ldc ib, 2)) (hd6 : decode cc (pc + 6) = .ok (.invokespecial ic, 3)) (hd9 : decode cc (pc + 9) = .ok (.athrow, 1))
    (hcls : Bundle.fit cls = true) (hnames : ∀ n ∈ names, Bundle.fit n = true) (hw : ∀ w ∈ [Cond.classLink own ia cls, .initialized cls, .instantiable cls 6, .stringRef own ib tx], w ∈ Ts)
    (ho : ∀ w ∈ Bundle.ownAtomsX own ic cls ix rx names, w ∈ Ts ∨ w = jA1 ∨ w = jA2 ∨ w = jA3 ∨ w = jA4)
    (hRf : names.length + 3 < R.frames) (hRl : (st.map fun v => v.category).sum + 1 + (13 * (names.length + 1) + 42) ≤ R.locals) (hcells : cells + 1 ≤ R.cells) (hslots : slots + 6 ≤ R.slots)
    (hp : post (some cls) none ws) :
    jJ p l e R s m args below meth c nL D cl A (hxQ below (jQ D cl post A) args s (cells + 1) (slots + 6) A) cells slots ws lv st pc := by
  intro H locs ls hP hD hS hl T hT X
  obtain ⟨hx, hb, hml, hown, hts, hK, hA, hww, hz, hlocks⟩ := hC
  subst hT
  subst hb
  have X' := hx_rebase (R' := { frames := R.frames, locals := R.locals, cells := 1, slots := 6 }) X (Nat.le_refl _) (Nat.le_refl _) hcells hslots
  generalize hs' : ({ s with heap := T.heap, slotsUsed := T.slotsUsed } : State) = s' at X'
  have hvm : s'.vm = s.vm := by rw [← hs']
  have hheap : s'.heap = T.heap := by rw [← hs']
  have hWs : s.WarmedH s'.vm := by rw [hvm]; exact State.WarmedH.refl s
  have wd : ∀ w ∈ Ts, w.before args s' = true := fun w h => hww w h args s' hWs
  have hown' : s'.vm.findClass own = some m.cls := by rw [hvm]; exact hown
  have h0 := wd _ (hw _ List.mem_cons_self)
  have h1 := wd _ (hw _ (List.mem_of_getElem? (i := 1) rfl))
  have h2 := wd _ (hw _ (List.mem_of_getElem? (i := 2) rfl))
  have h3 := wd _ (hw _ (List.mem_of_getElem? (i := 3) rfl))
  have hz' : jZ A s' s'.heap := hz.go (by rw [hvm]; exact Vm.Alike.refl _) (fun a q1 q2 => by rw [hheap]; exact hS.2.1 a q1 q2) (fun _ h => h)
  have hatoms : ∀ w ∈ Bundle.ownAtomsX own ic cls ix rx names, w.before args s' = true := by
    intro w hmem
    rcases ho w hmem with h | h | h | h | h
    · exact wd w h
    · rw [h]; exact jZ_word hz'.1.1 args
    · rw [h]; exact jZ_word hz'.2.1 args
    · rw [h]; exact hz'.1.2.word
    · rw [h]; exact hz'.2.2.word
  obtain ⟨vm₁, cX, kX, hfX, hkX, -, -, X₁, st1⟩ := X'.newCold hx (own := own) (C := cls) (index := ia) (n := 6) hown' h0 h2 h1 (g := F0 m pc ls st) rfl hd0 (Nat.le_refl 1) (Nat.le_refl 6)
  obtain ⟨k9, cf9, i9, sa, hk9, hcf9, hcp9, -, hr9, hev⟩ := Cond.stringRef_spec hown' h3
  generalize hT1 : (T.setVm vm₁).pushCell { cls := cX, slots := kX.instanceTypes.map defaultValue, vm := .none } = T₁ at X₁ st1
  have hcellA : T₁.heap[T.heap.size]? = some (freshCell cX kX) := by rw [← hT1]; exact State.heap_pushCell_size _ _
  have st2 := X₁.ldcString hx (text := tx) (a := sa) hown' h3 hev (g := F0 m (pc + 4) ls (.ref T.heap.size :: .ref T.heap.size :: st)) rfl hd4
  obtain ⟨U, hsteps, hrun, hend, hW, hsame, ce, hce, K1, K2⟩ := hx_ctor X₁ hx htr x0 x1 x2 x5 (own := own) (cls := cls) (names := names) (ic := ic) hown' hcls hnames hatoms (fun y hy => by cases hy) hfX hkX hcellA (by rw [hheap]; exact Nat.le_refl _) (msg := .ref sa) rfl
    (g := F0 m (pc + 6) ls (.ref sa :: .ref T.heap.size :: .ref T.heap.size :: st)) rfl (by show ls.size = _; exact hl.1.trans hml.symm) rfl rfl (rest := st) rfl hd6 hd9 (covers_of_empty hex _) hRf (by rw [List.map_cons, List.sum_cons]; show 2 * 0 + (1 + (st.map fun v => v.category).sum) + (13 * (names.length + 1) + 42) ≤ R.locals; omega) hlocks
  have hold : ∀ q : Nat, q < T.heap.size → U.heap[q]? = T.heap[q]? := by
    intro q hq
    have hc : s'.heap[q]? = some T.heap[q] := by rw [hheap]; exact Array.getElem?_eq_getElem hq
    have := State.sameButNew.old_cell hsame hc
    rw [show U.heap[q]? = some T.heap[q] from this, Array.getElem?_eq_getElem hq]
  have hsz : T.heap.size ≤ U.heap.size := by have := hsame.2.1; rw [hheap] at this; exact this
  have hWU : s.WarmedH U.vm := by rw [← hs'] at hW; exact hW
  refine ⟨U, ?_, .threw T.heap.size, hrun, hend, ⟨⟨ws, ⟨cls, hp, ce, hce, by rw [K2]; rfl, ?_⟩, hP.kept (fun k q hk => ?_), hD⟩, ?_, ?_⟩, locs, ⟨hWU, ?_⟩, hS.2.2⟩
  · refine st1 _ ?_
    show Steps p.tables e below (T₁.setTop (F0 m (pc + 3) ls (.ref T.heap.size :: st))) _
    jvm_step X₁.here [X₁.here.top, hx, hd3, Value.category]
    exact st2 _ hsteps
  · rw [hWU.alike.findClass, ← hvm, K1]; exact hfX
  · exact hold _ (hP k q hk).lt
  · exact Nat.le_trans hS.1 hsz
  · intro q q1 q2
    rw [hold q (Nat.lt_of_lt_of_le q1 hS.1)]
    exact hS.2.1 q q1 q2
  · have := hs' ▸ hsame
    exact hx_unbase X this
end JTW
end
