section
-- ===== PART A: goes FIRST, ahead of the names: the tables' words, and 'selects' of the private methods out of them =====
/-- a private method of a class that the tables say can be made, by its rows of tables_1 -/
def lw_okq (q : MethodName × Nat) : Prop := (q.1.cls ≠ "java/lang/invoke/MethodHandle" ∧ q.1.cls ≠ "java/lang/invoke/VarHandle") ∧ Cond.instantiable q.1.cls q.2 ∈ tables_1 ∧ Cond.privateMethod q.1 ∈ tables_1 ∧ Cond.instanceMethod q.1 ∈ tables_1
theorem lw_p0 : lw_okq (⟨"StrataHouse", "rulesChanged", "()V"⟩, 12) := ⟨⟨by decide +kernel, by decide +kernel⟩, List.mem_of_getElem? (i := 18) (by decide +kernel), List.mem_of_getElem? (i := 176) (by decide +kernel), List.mem_of_getElem? (i := 177) (by decide +kernel)⟩
theorem lw_p1 : lw_okq (⟨"StrataHouse", "judge", "()V"⟩, 12) := ⟨⟨by decide +kernel, by decide +kernel⟩, List.mem_of_getElem? (i := 18) (by decide +kernel), List.mem_of_getElem? (i := 184) (by decide +kernel), List.mem_of_getElem? (i := 185) (by decide +kernel)⟩
theorem lw_p2 : lw_okq (⟨"StrataHouse", "firstUnsafe", "()I"⟩, 12) := ⟨⟨by decide +kernel, by decide +kernel⟩, List.mem_of_getElem? (i := 18) (by decide +kernel), List.mem_of_getElem? (i := 188) (by decide +kernel), List.mem_of_getElem? (i := 189) (by decide +kernel)⟩
theorem lw_p3 : lw_okq (⟨"StrataHouse$Rule", "isSafe", "()Z"⟩, 6) := ⟨⟨by decide +kernel, by decide +kernel⟩, List.mem_of_getElem? (i := 71) (by decide +kernel), List.mem_of_getElem? (i := 192) (by decide +kernel), List.mem_of_getElem? (i := 193) (by decide +kernel)⟩
theorem lw_p4 : lw_okq (⟨"StrataHouse", "findLayers", "()Z"⟩, 12) := ⟨⟨by decide +kernel, by decide +kernel⟩, List.mem_of_getElem? (i := 18) (by decide +kernel), List.mem_of_getElem? (i := 196) (by decide +kernel), List.mem_of_getElem? (i := 197) (by decide +kernel)⟩
theorem lw_p5 : lw_okq (⟨"StrataHouse", "raiseLayers", "()Z"⟩, 12) := ⟨⟨by decide +kernel, by decide +kernel⟩, List.mem_of_getElem? (i := 18) (by decide +kernel), List.mem_of_getElem? (i := 200) (by decide +kernel), List.mem_of_getElem? (i := 201) (by decide +kernel)⟩
theorem lw_p6 : lw_okq (⟨"StrataHouse$Rule", "leastLayer", "([I)I"⟩, 6) := ⟨⟨by decide +kernel, by decide +kernel⟩, List.mem_of_getElem? (i := 71) (by decide +kernel), List.mem_of_getElem? (i := 204) (by decide +kernel), List.mem_of_getElem? (i := 205) (by decide +kernel)⟩
theorem lw_p7 : lw_okq (⟨"java/lang/Throwable", "fillInStackTrace", "(I)Ljava/lang/Throwable;"⟩, 6) := ⟨⟨by decide +kernel, by decide +kernel⟩, List.mem_of_getElem? (i := 259) (by decide +kernel), List.mem_of_getElem? (i := 257) (by decide +kernel), List.mem_of_getElem? (i := 258) (by decide +kernel)⟩
theorem lw_p8 : lw_okq (⟨"StrataHouse", "checkFact", "(III)V"⟩, 12) := ⟨⟨by decide +kernel, by decide +kernel⟩, List.mem_of_getElem? (i := 18) (by decide +kernel), List.mem_of_getElem? (i := 312) (by decide +kernel), List.mem_of_getElem? (i := 313) (by decide +kernel)⟩
theorem lw_p9 : lw_okq (⟨"StrataHouse", "checkRelation", "(I)V"⟩, 12) := ⟨⟨by decide +kernel, by decide +kernel⟩, List.mem_of_getElem? (i := 18) (by decide +kernel), List.mem_of_getElem? (i := 316) (by decide +kernel), List.mem_of_getElem? (i := 317) (by decide +kernel)⟩
theorem lw_p10 : lw_okq (⟨"StrataHouse", "firstOf", "(II)I"⟩, 12) := ⟨⟨by decide +kernel, by decide +kernel⟩, List.mem_of_getElem? (i := 18) (by decide +kernel), List.mem_of_getElem? (i := 321) (by decide +kernel), List.mem_of_getElem? (i := 322) (by decide +kernel)⟩
theorem lw_p11 : lw_okq (⟨"StrataHouse", "secondOf", "(II)I"⟩, 12) := ⟨⟨by decide +kernel, by decide +kernel⟩, List.mem_of_getElem? (i := 18) (by decide +kernel), List.mem_of_getElem? (i := 328) (by decide +kernel), List.mem_of_getElem? (i := 329) (by decide +kernel)⟩
theorem lw_p12 : lw_okq (⟨"StrataHouse", "setGiven", "(IIIZ)Z"⟩, 12) := ⟨⟨by decide +kernel, by decide +kernel⟩, List.mem_of_getElem? (i := 18) (by decide +kernel), List.mem_of_getElem? (i := 333) (by decide +kernel), List.mem_of_getElem? (i := 334) (by decide +kernel)⟩
theorem lw_p13 : lw_okq (⟨"StrataHouse", "checkTerms", "(III)V"⟩, 12) := ⟨⟨by decide +kernel, by decide +kernel⟩, List.mem_of_getElem? (i := 18) (by decide +kernel), List.mem_of_getElem? (i := 357) (by decide +kernel), List.mem_of_getElem? (i := 358) (by decide +kernel)⟩
theorem lw_p14 : lw_okq (⟨"StrataHouse$Rule", "begin", "(III)V"⟩, 6) := ⟨⟨by decide +kernel, by decide +kernel⟩, List.mem_of_getElem? (i := 71) (by decide +kernel), List.mem_of_getElem? (i := 366) (by decide +kernel), List.mem_of_getElem? (i := 367) (by decide +kernel)⟩
theorem lw_p15 : lw_okq (⟨"StrataHouse$Atom", "become", "(IIIZ)V"⟩, 4) := ⟨⟨by decide +kernel, by decide +kernel⟩, List.mem_of_getElem? (i := 77) (by decide +kernel), List.mem_of_getElem? (i := 370) (by decide +kernel), List.mem_of_getElem? (i := 371) (by decide +kernel)⟩
def lw_privs_1 : List (MethodName × Nat) := [(⟨"StrataHouse", "rulesChanged", "()V"⟩, 12), (⟨"StrataHouse", "judge", "()V"⟩, 12), (⟨"StrataHouse", "firstUnsafe", "()I"⟩, 12), (⟨"StrataHouse$Rule", "isSafe", "()Z"⟩, 6), (⟨"StrataHouse", "findLayers", "()Z"⟩, 12), (⟨"StrataHouse", "raiseLayers", "()Z"⟩, 12), (⟨"StrataHouse$Rule", "leastLayer", "([I)I"⟩, 6), (⟨"java/lang/Throwable", "fillInStackTrace", "(I)Ljava/lang/Throwable;"⟩, 6), (⟨"StrataHouse", "checkFact", "(III)V"⟩, 12), (⟨"StrataHouse", "checkRelation", "(I)V"⟩, 12), (⟨"StrataHouse", "firstOf", "(II)I"⟩, 12), (⟨"StrataHouse", "secondOf", "(II)I"⟩, 12), (⟨"StrataHouse", "setGiven", "(IIIZ)Z"⟩, 12), (⟨"StrataHouse", "checkTerms", "(III)V"⟩, 12), (⟨"StrataHouse$Rule", "begin", "(III)V"⟩, 6), (⟨"StrataHouse$Atom", "become", "(IIIZ)V"⟩, 4)]
theorem lw_r1 : ∀ q ∈ lw_privs_1, lw_okq q := List.forall_mem_cons.mpr ⟨lw_p0, List.forall_mem_cons.mpr ⟨lw_p1, List.forall_mem_cons.mpr ⟨lw_p2, List.forall_mem_cons.mpr ⟨lw_p3, List.forall_mem_cons.mpr ⟨lw_p4, List.forall_mem_cons.mpr ⟨lw_p5, List.forall_mem_cons.mpr ⟨lw_p6, List.forall_mem_cons.mpr ⟨lw_p7, List.forall_mem_cons.mpr ⟨lw_p8, List.forall_mem_cons.mpr ⟨lw_p9, List.forall_mem_cons.mpr ⟨lw_p10, List.forall_mem_cons.mpr ⟨lw_p11, List.forall_mem_cons.mpr ⟨lw_p12, List.forall_mem_cons.mpr ⟨lw_p13, List.forall_mem_cons.mpr ⟨lw_p14, List.forall_mem_cons.mpr ⟨lw_p15, fun _ h => absurd h List.not_mem_nil⟩⟩⟩⟩⟩⟩⟩⟩⟩⟩⟩⟩⟩⟩⟩⟩
theorem lw_p16 : lw_okq (⟨"StrataHouse$Atom", "variables", "()I"⟩, 4) := ⟨⟨by decide +kernel, by decide +kernel⟩, List.mem_of_getElem? (i := 77) (by decide +kernel), List.mem_of_getElem? (i := 374) (by decide +kernel), List.mem_of_getElem? (i := 375) (by decide +kernel)⟩
theorem lw_p17 : lw_okq (⟨"StrataHouse", "checkSomeRule", "()V"⟩, 12) := ⟨⟨by decide +kernel, by decide +kernel⟩, List.mem_of_getElem? (i := 18) (by decide +kernel), List.mem_of_getElem? (i := 387) (by decide +kernel), List.mem_of_getElem? (i := 388) (by decide +kernel)⟩
theorem lw_p18 : lw_okq (⟨"StrataHouse$Rule", "isFull", "()Z"⟩, 6) := ⟨⟨by decide +kernel, by decide +kernel⟩, List.mem_of_getElem? (i := 71) (by decide +kernel), List.mem_of_getElem? (i := 407) (by decide +kernel), List.mem_of_getElem? (i := 408) (by decide +kernel)⟩
theorem lw_p19 : lw_okq (⟨"StrataHouse$Rule", "add", "(IIIZ)V"⟩, 6) := ⟨⟨by decide +kernel, by decide +kernel⟩, List.mem_of_getElem? (i := 71) (by decide +kernel), List.mem_of_getElem? (i := 412) (by decide +kernel), List.mem_of_getElem? (i := 413) (by decide +kernel)⟩
theorem lw_p20 : lw_okq (⟨"StrataHouse", "checkNoFault", "()V"⟩, 12) := ⟨⟨by decide +kernel, by decide +kernel⟩, List.mem_of_getElem? (i := 18) (by decide +kernel), List.mem_of_getElem? (i := 431) (by decide +kernel), List.mem_of_getElem? (i := 432) (by decide +kernel)⟩
theorem lw_p21 : lw_okq (⟨"StrataHouse", "settle", "()V"⟩, 12) := ⟨⟨by decide +kernel, by decide +kernel⟩, List.mem_of_getElem? (i := 18) (by decide +kernel), List.mem_of_getElem? (i := 443) (by decide +kernel), List.mem_of_getElem? (i := 444) (by decide +kernel)⟩
theorem lw_p22 : lw_okq (⟨"StrataHouse", "rankGiven", "()V"⟩, 12) := ⟨⟨by decide +kernel, by decide +kernel⟩, List.mem_of_getElem? (i := 18) (by decide +kernel), List.mem_of_getElem? (i := 447) (by decide +kernel), List.mem_of_getElem? (i := 448) (by decide +kernel)⟩
theorem lw_p23 : lw_okq (⟨"StrataHouse", "topLayer", "()I"⟩, 12) := ⟨⟨by decide +kernel, by decide +kernel⟩, List.mem_of_getElem? (i := 18) (by decide +kernel), List.mem_of_getElem? (i := 451) (by decide +kernel), List.mem_of_getElem? (i := 452) (by decide +kernel)⟩
theorem lw_p24 : lw_okq (⟨"StrataHouse", "look", "(II)V"⟩, 12) := ⟨⟨by decide +kernel, by decide +kernel⟩, List.mem_of_getElem? (i := 18) (by decide +kernel), List.mem_of_getElem? (i := 456) (by decide +kernel), List.mem_of_getElem? (i := 457) (by decide +kernel)⟩
theorem lw_p25 : lw_okq (⟨"StrataHouse$Sight", "forget", "()V"⟩, 5) := ⟨⟨by decide +kernel, by decide +kernel⟩, List.mem_of_getElem? (i := 34) (by decide +kernel), List.mem_of_getElem? (i := 460) (by decide +kernel), List.mem_of_getElem? (i := 461) (by decide +kernel)⟩
theorem lw_p26 : lw_okq (⟨"StrataHouse", "lookAt", "(II)V"⟩, 12) := ⟨⟨by decide +kernel, by decide +kernel⟩, List.mem_of_getElem? (i := 18) (by decide +kernel), List.mem_of_getElem? (i := 466) (by decide +kernel), List.mem_of_getElem? (i := 467) (by decide +kernel)⟩
theorem lw_p27 : lw_okq (⟨"StrataHouse$Sight", "show", "(III)V"⟩, 5) := ⟨⟨by decide +kernel, by decide +kernel⟩, List.mem_of_getElem? (i := 34) (by decide +kernel), List.mem_of_getElem? (i := 473) (by decide +kernel), List.mem_of_getElem? (i := 474) (by decide +kernel)⟩
theorem lw_p28 : lw_okq (⟨"StrataHouse", "bringRound", "(III)V"⟩, 12) := ⟨⟨by decide +kernel, by decide +kernel⟩, List.mem_of_getElem? (i := 18) (by decide +kernel), List.mem_of_getElem? (i := 478) (by decide +kernel), List.mem_of_getElem? (i := 479) (by decide +kernel)⟩
theorem lw_p29 : lw_okq (⟨"StrataHouse", "bringByRule", "(LStrataHouse$Rule;I)V"⟩, 12) := ⟨⟨by decide +kernel, by decide +kernel⟩, List.mem_of_getElem? (i := 18) (by decide +kernel), List.mem_of_getElem? (i := 482) (by decide +kernel), List.mem_of_getElem? (i := 483) (by decide +kernel)⟩
theorem lw_p30 : lw_okq (⟨"StrataHouse$Match", "forget", "()V"⟩, 2) := ⟨⟨by decide +kernel, by decide +kernel⟩, List.mem_of_getElem? (i := 28) (by decide +kernel), List.mem_of_getElem? (i := 486) (by decide +kernel), List.mem_of_getElem? (i := 487) (by decide +kernel)⟩
theorem lw_p31 : lw_okq (⟨"StrataHouse$Match", "choices", "(LStrataHouse$Rule;I)I"⟩, 2) := ⟨⟨by decide +kernel, by decide +kernel⟩, List.mem_of_getElem? (i := 28) (by decide +kernel), List.mem_of_getElem? (i := 490) (by decide +kernel), List.mem_of_getElem? (i := 491) (by decide +kernel)⟩
def lw_privs_2 : List (MethodName × Nat) := [(⟨"StrataHouse$Atom", "variables", "()I"⟩, 4), (⟨"StrataHouse", "checkSomeRule", "()V"⟩, 12), (⟨"StrataHouse$Rule", "isFull", "()Z"⟩, 6), (⟨"StrataHouse$Rule", "add", "(IIIZ)V"⟩, 6), (⟨"StrataHouse", "checkNoFault", "()V"⟩, 12), (⟨"StrataHouse", "settle", "()V"⟩, 12), (⟨"StrataHouse", "rankGiven", "()V"⟩, 12), (⟨"StrataHouse", "topLayer", "()I"⟩, 12), (⟨"StrataHouse", "look", "(II)V"⟩, 12), (⟨"StrataHouse$Sight", "forget", "()V"⟩, 5), (⟨"StrataHouse", "lookAt", "(II)V"⟩, 12), (⟨"StrataHouse$Sight", "show", "(III)V"⟩, 5), (⟨"StrataHouse", "bringRound", "(III)V"⟩, 12), (⟨"StrataHouse", "bringByRule", "(LStrataHouse$Rule;I)V"⟩, 12), (⟨"StrataHouse$Match", "forget", "()V"⟩, 2), (⟨"StrataHouse$Match", "choices", "(LStrataHouse$Rule;I)I"⟩, 2)]
theorem lw_r2 : ∀ q ∈ lw_privs_2, lw_okq q := List.forall_mem_cons.mpr ⟨lw_p16, List.forall_mem_cons.mpr ⟨lw_p17, List.forall_mem_cons.mpr ⟨lw_p18, List.forall_mem_cons.mpr ⟨lw_p19, List.forall_mem_cons.mpr ⟨lw_p20, List.forall_mem_cons.mpr ⟨lw_p21, List.forall_mem_cons.mpr ⟨lw_p22, List.forall_mem_cons.mpr ⟨lw_p23, List.forall_mem_cons.mpr ⟨lw_p24, List.forall_mem_cons.mpr ⟨lw_p25, List.forall_mem_cons.mpr ⟨lw_p26, List.forall_mem_cons.mpr ⟨lw_p27, List.forall_mem_cons.mpr ⟨lw_p28, List.forall_mem_cons.mpr ⟨lw_p29, List.forall_mem_cons.mpr ⟨lw_p30, List.forall_mem_cons.mpr ⟨lw_p31, fun _ h => absurd h List.not_mem_nil⟩⟩⟩⟩⟩⟩⟩⟩⟩⟩⟩⟩⟩⟩⟩⟩
theorem lw_p32 : lw_okq (⟨"StrataHouse$Match", "choicesBy", "(LStrataHouse$Atom;I)I"⟩, 2) := ⟨⟨by decide +kernel, by decide +kernel⟩, List.mem_of_getElem? (i := 28) (by decide +kernel), List.mem_of_getElem? (i := 494) (by decide +kernel), List.mem_of_getElem? (i := 495) (by decide +kernel)⟩
theorem lw_p33 : lw_okq (⟨"StrataHouse$Match", "bind", "(II)Z"⟩, 2) := ⟨⟨by decide +kernel, by decide +kernel⟩, List.mem_of_getElem? (i := 28) (by decide +kernel), List.mem_of_getElem? (i := 498) (by decide +kernel), List.mem_of_getElem? (i := 499) (by decide +kernel)⟩
theorem lw_p34 : lw_okq (⟨"StrataHouse$Match", "meets", "(LStrataHouse$Rule;III)Z"⟩, 2) := ⟨⟨by decide +kernel, by decide +kernel⟩, List.mem_of_getElem? (i := 28) (by decide +kernel), List.mem_of_getElem? (i := 502) (by decide +kernel), List.mem_of_getElem? (i := 503) (by decide +kernel)⟩
theorem lw_p35 : lw_okq (⟨"StrataHouse$Match", "knownAgree", "(LStrataHouse$Rule;)Z"⟩, 2) := ⟨⟨by decide +kernel, by decide +kernel⟩, List.mem_of_getElem? (i := 28) (by decide +kernel), List.mem_of_getElem? (i := 508) (by decide +kernel), List.mem_of_getElem? (i := 509) (by decide +kernel)⟩
theorem lw_p36 : lw_okq (⟨"StrataHouse$Sight", "sees", "(III)Z"⟩, 5) := ⟨⟨by decide +kernel, by decide +kernel⟩, List.mem_of_getElem? (i := 34) (by decide +kernel), List.mem_of_getElem? (i := 512) (by decide +kernel), List.mem_of_getElem? (i := 513) (by decide +kernel)⟩
theorem lw_p37 : lw_okq (⟨"StrataHouse$Match", "findLeast", "(LStrataHouse$Rule;I)Z"⟩, 2) := ⟨⟨by decide +kernel, by decide +kernel⟩, List.mem_of_getElem? (i := 28) (by decide +kernel), List.mem_of_getElem? (i := 516) (by decide +kernel), List.mem_of_getElem? (i := 517) (by decide +kernel)⟩
theorem lw_p38 : lw_okq (⟨"StrataHouse$Match", "nextOpen", "(LStrataHouse$Rule;I)I"⟩, 2) := ⟨⟨by decide +kernel, by decide +kernel⟩, List.mem_of_getElem? (i := 28) (by decide +kernel), List.mem_of_getElem? (i := 520) (by decide +kernel), List.mem_of_getElem? (i := 521) (by decide +kernel)⟩
theorem lw_p39 : lw_okq (⟨"StrataHouse", "showFresh", "()I"⟩, 12) := ⟨⟨by decide +kernel, by decide +kernel⟩, List.mem_of_getElem? (i := 18) (by decide +kernel), List.mem_of_getElem? (i := 527) (by decide +kernel), List.mem_of_getElem? (i := 528) (by decide +kernel)⟩
theorem lw_p40 : lw_okq (⟨"StrataHouse$Match", "countInstances", "(LStrataHouse$Rule;I)I"⟩, 2) := ⟨⟨by decide +kernel, by decide +kernel⟩, List.mem_of_getElem? (i := 28) (by decide +kernel), List.mem_of_getElem? (i := 545) (by decide +kernel), List.mem_of_getElem? (i := 546) (by decide +kernel)⟩
theorem lw_p41 : lw_okq (⟨"StrataHouse", "leastRule", "(III)I"⟩, 12) := ⟨⟨by decide +kernel, by decide +kernel⟩, List.mem_of_getElem? (i := 18) (by decide +kernel), List.mem_of_getElem? (i := 581) (by decide +kernel), List.mem_of_getElem? (i := 582) (by decide +kernel)⟩
theorem lw_p42 : lw_okq (⟨"StrataHouseModel", "refuse", "(ZZZ)Z"⟩, 16) := ⟨⟨by decide +kernel, by decide +kernel⟩, List.mem_of_getElem? (i := 585) (by decide +kernel), List.mem_of_getElem? (i := 656) (by decide +kernel), List.mem_of_getElem? (i := 657) (by decide +kernel)⟩
theorem lw_p43 : lw_okq (⟨"StrataHouseModel", "isFact", "(III)Z"⟩, 16) := ⟨⟨by decide +kernel, by decide +kernel⟩, List.mem_of_getElem? (i := 585) (by decide +kernel), List.mem_of_getElem? (i := 664) (by decide +kernel), List.mem_of_getElem? (i := 665) (by decide +kernel)⟩
theorem lw_p44 : lw_okq (⟨"StrataHouseModel", "factAt", "(III)I"⟩, 16) := ⟨⟨by decide +kernel, by decide +kernel⟩, List.mem_of_getElem? (i := 585) (by decide +kernel), List.mem_of_getElem? (i := 668) (by decide +kernel), List.mem_of_getElem? (i := 669) (by decide +kernel)⟩
theorem lw_p45 : lw_okq (⟨"StrataHouseModel", "areTerms", "(III)Z"⟩, 16) := ⟨⟨by decide +kernel, by decide +kernel⟩, List.mem_of_getElem? (i := 585) (by decide +kernel), List.mem_of_getElem? (i := 680) (by decide +kernel), List.mem_of_getElem? (i := 681) (by decide +kernel)⟩
theorem lw_p46 : lw_okq (⟨"StrataHouseModel", "put", "(IIIIZ)V"⟩, 16) := ⟨⟨by decide +kernel, by decide +kernel⟩, List.mem_of_getElem? (i := 585) (by decide +kernel), List.mem_of_getElem? (i := 687) (by decide +kernel), List.mem_of_getElem? (i := 688) (by decide +kernel)⟩
theorem lw_p47 : lw_okq (⟨"StrataHouseModel", "find", "()V"⟩, 16) := ⟨⟨by decide +kernel, by decide +kernel⟩, List.mem_of_getElem? (i := 585) (by decide +kernel), List.mem_of_getElem? (i := 703) (by decide +kernel), List.mem_of_getElem? (i := 704) (by decide +kernel)⟩
def lw_privs_3 : List (MethodName × Nat) := [(⟨"StrataHouse$Match", "choicesBy", "(LStrataHouse$Atom;I)I"⟩, 2), (⟨"StrataHouse$Match", "bind", "(II)Z"⟩, 2), (⟨"StrataHouse$Match", "meets", "(LStrataHouse$Rule;III)Z"⟩, 2), (⟨"StrataHouse$Match", "knownAgree", "(LStrataHouse$Rule;)Z"⟩, 2), (⟨"StrataHouse$Sight", "sees", "(III)Z"⟩, 5), (⟨"StrataHouse$Match", "findLeast", "(LStrataHouse$Rule;I)Z"⟩, 2), (⟨"StrataHouse$Match", "nextOpen", "(LStrataHouse$Rule;I)I"⟩, 2), (⟨"StrataHouse", "showFresh", "()I"⟩, 12), (⟨"StrataHouse$Match", "countInstances", "(LStrataHouse$Rule;I)I"⟩, 2), (⟨"StrataHouse", "leastRule", "(III)I"⟩, 12), (⟨"StrataHouseModel", "refuse", "(ZZZ)Z"⟩, 16), (⟨"StrataHouseModel", "isFact", "(III)Z"⟩, 16), (⟨"StrataHouseModel", "factAt", "(III)I"⟩, 16), (⟨"StrataHouseModel", "areTerms", "(III)Z"⟩, 16), (⟨"StrataHouseModel", "put", "(IIIIZ)V"⟩, 16), (⟨"StrataHouseModel", "find", "()V"⟩, 16)]
theorem lw_r3 : ∀ q ∈ lw_privs_3, lw_okq q := List.forall_mem_cons.mpr ⟨lw_p32, List.forall_mem_cons.mpr ⟨lw_p33, List.forall_mem_cons.mpr ⟨lw_p34, List.forall_mem_cons.mpr ⟨lw_p35, List.forall_mem_cons.mpr ⟨lw_p36, List.forall_mem_cons.mpr ⟨lw_p37, List.forall_mem_cons.mpr ⟨lw_p38, List.forall_mem_cons.mpr ⟨lw_p39, List.forall_mem_cons.mpr ⟨lw_p40, List.forall_mem_cons.mpr ⟨lw_p41, List.forall_mem_cons.mpr ⟨lw_p42, List.forall_mem_cons.mpr ⟨lw_p43, List.forall_mem_cons.mpr ⟨lw_p44, List.forall_mem_cons.mpr ⟨lw_p45, List.forall_mem_cons.mpr ⟨lw_p46, List.forall_mem_cons.mpr ⟨lw_p47, fun _ h => absurd h List.not_mem_nil⟩⟩⟩⟩⟩⟩⟩⟩⟩⟩⟩⟩⟩⟩⟩⟩
theorem lw_p48 : lw_okq (⟨"StrataHouseModel", "findFault", "()I"⟩, 16) := ⟨⟨by decide +kernel, by decide +kernel⟩, List.mem_of_getElem? (i := 585) (by decide +kernel), List.mem_of_getElem? (i := 707) (by decide +kernel), List.mem_of_getElem? (i := 708) (by decide +kernel)⟩
theorem lw_p49 : lw_okq (⟨"StrataHouseModel", "isSafe", "(I)Z"⟩, 16) := ⟨⟨by decide +kernel, by decide +kernel⟩, List.mem_of_getElem? (i := 585) (by decide +kernel), List.mem_of_getElem? (i := 711) (by decide +kernel), List.mem_of_getElem? (i := 712) (by decide +kernel)⟩
theorem lw_p50 : lw_okq (⟨"StrataHouseModel", "variablesOf", "(I)I"⟩, 16) := ⟨⟨by decide +kernel, by decide +kernel⟩, List.mem_of_getElem? (i := 585) (by decide +kernel), List.mem_of_getElem? (i := 715) (by decide +kernel), List.mem_of_getElem? (i := 716) (by decide +kernel)⟩
theorem lw_p51 : lw_okq (⟨"StrataHouseModel", "raise", "(I)Z"⟩, 16) := ⟨⟨by decide +kernel, by decide +kernel⟩, List.mem_of_getElem? (i := 585) (by decide +kernel), List.mem_of_getElem? (i := 719) (by decide +kernel), List.mem_of_getElem? (i := 720) (by decide +kernel)⟩
theorem lw_p52 : lw_okq (⟨"StrataHouseModel", "round", "(II)Z"⟩, 16) := ⟨⟨by decide +kernel, by decide +kernel⟩, List.mem_of_getElem? (i := 585) (by decide +kernel), List.mem_of_getElem? (i := 723) (by decide +kernel), List.mem_of_getElem? (i := 724) (by decide +kernel)⟩
theorem lw_p53 : lw_okq (⟨"StrataHouseModel", "instance", "(II)Z"⟩, 16) := ⟨⟨by decide +kernel, by decide +kernel⟩, List.mem_of_getElem? (i := 585) (by decide +kernel), List.mem_of_getElem? (i := 727) (by decide +kernel), List.mem_of_getElem? (i := 728) (by decide +kernel)⟩
theorem lw_p54 : lw_okq (⟨"StrataHouseModel", "variables", "(I)I"⟩, 16) := ⟨⟨by decide +kernel, by decide +kernel⟩, List.mem_of_getElem? (i := 585) (by decide +kernel), List.mem_of_getElem? (i := 731) (by decide +kernel), List.mem_of_getElem? (i := 732) (by decide +kernel)⟩
theorem lw_p55 : lw_okq (⟨"StrataHouseModel", "factOf", "(I)I"⟩, 16) := ⟨⟨by decide +kernel, by decide +kernel⟩, List.mem_of_getElem? (i := 585) (by decide +kernel), List.mem_of_getElem? (i := 735) (by decide +kernel), List.mem_of_getElem? (i := 736) (by decide +kernel)⟩
theorem lw_p56 : lw_okq (⟨"StrataHouseModel", "termValue", "(I)I"⟩, 16) := ⟨⟨by decide +kernel, by decide +kernel⟩, List.mem_of_getElem? (i := 585) (by decide +kernel), List.mem_of_getElem? (i := 739) (by decide +kernel), List.mem_of_getElem? (i := 740) (by decide +kernel)⟩
theorem lw_p57 : lw_okq (⟨"StrataHouseModel", "holds", "(I)Z"⟩, 16) := ⟨⟨by decide +kernel, by decide +kernel⟩, List.mem_of_getElem? (i := 585) (by decide +kernel), List.mem_of_getElem? (i := 743) (by decide +kernel), List.mem_of_getElem? (i := 744) (by decide +kernel)⟩
theorem lw_p58 : lw_okq (⟨"StrataHouseModel", "isMet", "(I)Z"⟩, 16) := ⟨⟨by decide +kernel, by decide +kernel⟩, List.mem_of_getElem? (i := 585) (by decide +kernel), List.mem_of_getElem? (i := 747) (by decide +kernel), List.mem_of_getElem? (i := 748) (by decide +kernel)⟩
theorem lw_p59 : lw_okq (⟨"StrataHouseModel", "behind", "(II)I"⟩, 16) := ⟨⟨by decide +kernel, by decide +kernel⟩, List.mem_of_getElem? (i := 585) (by decide +kernel), List.mem_of_getElem? (i := 751) (by decide +kernel), List.mem_of_getElem? (i := 752) (by decide +kernel)⟩
theorem lw_p60 : lw_okq (⟨"StrataHouseModel", "isLower", "(II)Z"⟩, 16) := ⟨⟨by decide +kernel, by decide +kernel⟩, List.mem_of_getElem? (i := 585) (by decide +kernel), List.mem_of_getElem? (i := 775) (by decide +kernel), List.mem_of_getElem? (i := 776) (by decide +kernel)⟩
def lw_privs_4 : List (MethodName × Nat) := [(⟨"StrataHouseModel", "findFault", "()I"⟩, 16), (⟨"StrataHouseModel", "isSafe", "(I)Z"⟩, 16), (⟨"StrataHouseModel", "variablesOf", "(I)I"⟩, 16), (⟨"StrataHouseModel", "raise", "(I)Z"⟩, 16), (⟨"StrataHouseModel", "round", "(II)Z"⟩, 16), (⟨"StrataHouseModel", "instance", "(II)Z"⟩, 16), (⟨"StrataHouseModel", "variables", "(I)I"⟩, 16), (⟨"StrataHouseModel", "factOf", "(I)I"⟩, 16), (⟨"StrataHouseModel", "termValue", "(I)I"⟩, 16), (⟨"StrataHouseModel", "holds", "(I)Z"⟩, 16), (⟨"StrataHouseModel", "isMet", "(I)Z"⟩, 16), (⟨"StrataHouseModel", "behind", "(II)I"⟩, 16), (⟨"StrataHouseModel", "isLower", "(II)Z"⟩, 16)]
theorem lw_r4 : ∀ q ∈ lw_privs_4, lw_okq q := List.forall_mem_cons.mpr ⟨lw_p48, List.forall_mem_cons.mpr ⟨lw_p49, List.forall_mem_cons.mpr ⟨lw_p50, List.forall_mem_cons.mpr ⟨lw_p51, List.forall_mem_cons.mpr ⟨lw_p52, List.forall_mem_cons.mpr ⟨lw_p53, List.forall_mem_cons.mpr ⟨lw_p54, List.forall_mem_cons.mpr ⟨lw_p55, List.forall_mem_cons.mpr ⟨lw_p56, List.forall_mem_cons.mpr ⟨lw_p57, List.forall_mem_cons.mpr ⟨lw_p58, List.forall_mem_cons.mpr ⟨lw_p59, List.forall_mem_cons.mpr ⟨lw_p60, fun _ h => absurd h List.not_mem_nil⟩⟩⟩⟩⟩⟩⟩⟩⟩⟩⟩⟩⟩
def lw_privs : List (MethodName × Nat) := lw_privs_1 ++ (lw_privs_2 ++ (lw_privs_3 ++ (lw_privs_4)))
def lw_tbl : List Cond := k2_sels lw_privs ++ tables_1
theorem lw_privs_ok : ∀ q ∈ lw_privs, lw_okq q := by
  show ∀ q ∈ lw_privs_1 ++ (lw_privs_2 ++ (lw_privs_3 ++ (lw_privs_4))), lw_okq q
  exact List.forall_mem_append.mpr ⟨lw_r1, List.forall_mem_append.mpr ⟨lw_r2, List.forall_mem_append.mpr ⟨lw_r3, lw_r4⟩⟩⟩
end
section
/-- the kinds of word that stay true however warm the tables get -/
def jkk : Cond → Bool
  | .fieldLinkNest .. => true
  | .methodLinkNest .. => true
  | .stringRef .. => true
  | .codeWith .. => true
  | .castable .. => true
  | .declares .. => true
  | w => goodWord w
def jTs : List Cond := lw_tbl.filter jkk
theorem jin {w : Cond} (h : w ∈ lw_tbl) (hk : jkk w = true) : w ∈ jTs := List.mem_filter.mpr ⟨h, hk⟩
theorem jt1 {w : Cond} (h : w ∈ tables_1_1) : w ∈ lw_tbl := List.mem_append_right _ (List.mem_append_left _ h)
theorem jt2 {w : Cond} (h : w ∈ tables_1_2) : w ∈ lw_tbl := List.mem_append_right _ (List.mem_append_right _ (List.mem_append_left _ h))
theorem jt3 {w : Cond} (h : w ∈ tables_1_3) : w ∈ lw_tbl := List.mem_append_right _ (List.mem_append_right _ (List.mem_append_right _ (List.mem_append_left _ h)))
theorem jt4 {w : Cond} (h : w ∈ tables_1_4) : w ∈ lw_tbl := List.mem_append_right _ (List.mem_append_right _ (List.mem_append_right _ (List.mem_append_right _ h)))
theorem jts {w : Cond} (h : w ∈ k2_sels lw_privs) : w ∈ lw_tbl := List.mem_append_left _ h
def RX0 : String := "StrataHouse$Atom"
def TX0 : u_T := fun k => match k with
  | 0 => ("StrataHouse$Atom", "relation", "I", false)
  | 1 => ("StrataHouse$Atom", "first", "I", false)
  | 2 => ("StrataHouse$Atom", "second", "I", false)
  | _ => ("StrataHouse$Atom", "negated", "Z", false)
def tyX0 : Nat → FieldType := fun k => match k with
  | 0 => .int
  | 1 => .int
  | 2 => .int
  | _ => .boolean
abbrev wsX00 : List Cond := u_ws RX0 TX0 4
theorem nmX0 : ∀ a, a < 4 → ∀ b, b < 4 → a ≠ b → (TX0 a).2.1 ≠ (TX0 b).2.1 := by decide +kernel
theorem tyX0_ok : ∀ k, k < 4 → parseFieldDescriptor (TX0 k).2.2.1 = some (tyX0 k) := by decide +kernel
def RX1 : String := "StrataHouse$Match"
def TX1 : u_T := fun k => match k with
  | 0 => ("StrataHouse$Match", "sight", "LStrataHouse$Sight;", true)
  | _ => ("StrataHouse$Match", "values", "[I", true)
def tyX1 : Nat → FieldType := fun k => match k with
  | 0 => .object "StrataHouse$Sight"
  | _ => .array .int
abbrev wsX10 : List Cond := u_ws RX1 TX1 2
theorem nmX1 : ∀ a, a < 2 → ∀ b, b < 2 → a ≠ b → (TX1 a).2.1 ≠ (TX1 b).2.1 := by decide +kernel
theorem tyX1_ok : ∀ k, k < 2 → parseFieldDescriptor (TX1 k).2.2.1 = some (tyX1 k) := by decide +kernel
def RX2 : String := "StrataHouse$Rule"
def TX2 : u_T := fun k => match k with
  | 0 => ("StrataHouse$Rule", "head", "LStrataHouse$Atom;", true)
  | 1 => ("StrataHouse$Rule", "literals", "[LStrataHouse$Atom;", true)
  | 2 => ("StrataHouse$Rule", "size", "I", false)
  | 3 => ("StrataHouse$Rule", "variables", "I", false)
  | 4 => ("StrataHouse$Rule", "positiveVariables", "I", false)
  | _ => ("StrataHouse$Rule", "positiveRelations", "I", false)
def tyX2 : Nat → FieldType := fun k => match k with
  | 0 => .object "StrataHouse$Atom"
  | 1 => .array (.object "StrataHouse$Atom")
  | 2 => .int
  | 3 => .int
  | 4 => .int
  | _ => .int
abbrev wsX20 : List Cond := u_ws RX2 TX2 6
theorem nmX2 : ∀ a, a < 6 → ∀ b, b < 6 → a ≠ b → (TX2 a).2.1 ≠ (TX2 b).2.1 := by decide +kernel
theorem tyX2_ok : ∀ k, k < 6 → parseFieldDescriptor (TX2 k).2.2.1 = some (tyX2 k) := by decide +kernel
def RX3 : String := "StrataHouse$Sight"
def TX3 : u_T := fun k => match k with
  | 0 => ("StrataHouse$Sight", "secondsByFirst", "[I", true)
  | 1 => ("StrataHouse$Sight", "firstsBySecond", "[I", true)
  | 2 => ("StrataHouse$Sight", "firsts", "[I", true)
  | 3 => ("StrataHouse$Sight", "seconds", "[I", true)
  | _ => ("StrataHouse$Sight", "doubles", "[I", true)
def tyX3 : Nat → FieldType := fun k => match k with
  | 0 => .array .int
  | 1 => .array .int
  | 2 => .array .int
  | 3 => .array .int
  | _ => .array .int
abbrev wsX30 : List Cond := u_ws RX3 TX3 5
theorem nmX3 : ∀ a, a < 5 → ∀ b, b < 5 → a ≠ b → (TX3 a).2.1 ≠ (TX3 b).2.1 := by decide +kernel
theorem tyX3_ok : ∀ k, k < 5 → parseFieldDescriptor (TX3 k).2.2.1 = some (tyX3 k) := by decide +kernel
def RX4 : String := "StrataHouse"
def TX4 : u_T := fun k => match k with
  | 0 => ("StrataHouse", "places", "[I", true)
  | 1 => ("StrataHouse", "given", "[I", true)
  | 2 => ("StrataHouse", "rules", "[LStrataHouse$Rule;", true)
  | 3 => ("StrataHouse", "relationCount", "I", false)
  | 4 => ("StrataHouse", "ruleCount", "I", false)
  | 5 => ("StrataHouse", "layers", "[I", true)
  | 6 => ("StrataHouse", "ranks", "[I", true)
  | 7 => ("StrataHouse", "fresh", "[I", true)
  | 8 => ("StrataHouse", "match", "LStrataHouse$Match;", true)
  | 9 => ("StrataHouse", "faultFound", "I", false)
  | 10 => ("StrataHouse", "judged", "Z", false)
  | _ => ("StrataHouse", "settled", "Z", false)
def tyX4 : Nat → FieldType := fun k => match k with
  | 0 => .array .int
  | 1 => .array .int
  | 2 => .array (.object "StrataHouse$Rule")
  | 3 => .int
  | 4 => .int
  | 5 => .array .int
  | 6 => .array .int
  | 7 => .array .int
  | 8 => .object "StrataHouse$Match"
  | 9 => .int
  | 10 => .boolean
  | _ => .boolean
abbrev wsX40 : List Cond := u_ws RX4 TX4 12
theorem nmX4 : ∀ a, a < 12 → ∀ b, b < 12 → a ≠ b → (TX4 a).2.1 ≠ (TX4 b).2.1 := by decide +kernel
theorem tyX4_ok : ∀ k, k < 12 → parseFieldDescriptor (TX4 k).2.2.1 = some (tyX4 k) := by decide +kernel
def RX5 : String := "StrataHouseModel"
def TX5 : u_T := fun k => match k with
  | 0 => ("StrataHouseModel", "thrown", "I", false)
  | 1 => ("StrataHouseModel", "relations", "I", false)
  | 2 => ("StrataHouseModel", "places", "[I", true)
  | 3 => ("StrataHouseModel", "given", "[Z", true)
  | 4 => ("StrataHouseModel", "ranks", "[I", true)
  | 5 => ("StrataHouseModel", "rules", "I", false)
  | 6 => ("StrataHouseModel", "counts", "[I", true)
  | 7 => ("StrataHouseModel", "of", "[I", true)
  | 8 => ("StrataHouseModel", "first", "[I", true)
  | 9 => ("StrataHouseModel", "second", "[I", true)
  | 10 => ("StrataHouseModel", "negated", "[Z", true)
  | 11 => ("StrataHouseModel", "layers", "[I", true)
  | 12 => ("StrataHouseModel", "known", "Z", false)
  | 13 => ("StrataHouseModel", "fault", "I", false)
  | 14 => ("StrataHouseModel", "values", "[I", true)
  | _ => ("StrataHouseModel", "news", "[Z", true)
def tyX5 : Nat → FieldType := fun k => match k with
  | 0 => .int
  | 1 => .int
  | 2 => .array .int
  | 3 => .array .boolean
  | 4 => .array .int
  | 5 => .int
  | 6 => .array .int
  | 7 => .array .int
  | 8 => .array .int
  | 9 => .array .int
  | 10 => .array .boolean
  | 11 => .array .int
  | 12 => .boolean
  | 13 => .int
  | 14 => .array .int
  | _ => .array .boolean
theorem nmX5 : ∀ a, a < 16 → ∀ b, b < 16 → a ≠ b → (TX5 a).2.1 ≠ (TX5 b).2.1 := by decide +kernel
theorem tyX5_ok : ∀ k, k < 16 → parseFieldDescriptor (TX5 k).2.2.1 = some (tyX5 k) := by decide +kernel
abbrev jcl : List vw_C := [(RX0, TX0, 4), (RX1, TX1, 2), (RX2, TX2, 6), (RX3, TX3, 5), (RX4, TX4, 12), (RX5, TX5, 16)]
set_option maxRecDepth 100000 in
theorem hin_A : ∀ w ∈ u_ws RX0 TX0 4, w ∈ jTs := fun w h => jin ((by decide +kernel : ∀ w ∈ u_ws RX0 TX0 4, w ∈ lw_tbl) w h) ((by decide +kernel : ∀ w ∈ u_ws RX0 TX0 4, jkk w = true) w h)
set_option maxRecDepth 100000 in
theorem hin_M : ∀ w ∈ u_ws RX1 TX1 2, w ∈ jTs := fun w h => jin ((by decide +kernel : ∀ w ∈ u_ws RX1 TX1 2, w ∈ lw_tbl) w h) ((by decide +kernel : ∀ w ∈ u_ws RX1 TX1 2, jkk w = true) w h)
set_option maxRecDepth 100000 in
theorem hin_R : ∀ w ∈ u_ws RX2 TX2 6, w ∈ jTs := fun w h => jin ((by decide +kernel : ∀ w ∈ u_ws RX2 TX2 6, w ∈ lw_tbl) w h) ((by decide +kernel : ∀ w ∈ u_ws RX2 TX2 6, jkk w = true) w h)
set_option maxRecDepth 100000 in
theorem hin_S : ∀ w ∈ u_ws RX3 TX3 5, w ∈ jTs := fun w h => jin ((by decide +kernel : ∀ w ∈ u_ws RX3 TX3 5, w ∈ lw_tbl) w h) ((by decide +kernel : ∀ w ∈ u_ws RX3 TX3 5, jkk w = true) w h)
set_option maxRecDepth 100000 in
theorem hin_H : ∀ w ∈ u_ws RX4 TX4 12, w ∈ jTs := fun w h => jin ((by decide +kernel : ∀ w ∈ u_ws RX4 TX4 12, w ∈ lw_tbl) w h) ((by decide +kernel : ∀ w ∈ u_ws RX4 TX4 12, jkk w = true) w h)
set_option maxRecDepth 100000 in
theorem hin_D : ∀ w ∈ u_ws RX5 TX5 16, w ∈ jTs := fun w h => jin ((by decide +kernel : ∀ w ∈ u_ws RX5 TX5 16, w ∈ lw_tbl) w h) ((by decide +kernel : ∀ w ∈ u_ws RX5 TX5 16, jkk w = true) w h)
abbrev c_H_init : ByteArray := prog_1_method_1_code
def y_H_init : MethodName := ⟨"StrataHouse", "<init>", "()V"⟩
abbrev c_H_clear : ByteArray := prog_1_method_2_code
def y_H_clear : MethodName := ⟨"StrataHouse", "clear", "()V"⟩
abbrev c_H_relation : ByteArray := prog_1_method_3_code
def y_H_relation : MethodName := ⟨"StrataHouse", "relation", "(I)I"⟩
abbrev c_H_give : ByteArray := prog_1_method_4_code
def y_H_give : MethodName := ⟨"StrataHouse", "give", "(III)Z"⟩
abbrev c_H_take : ByteArray := prog_1_method_5_code
def y_H_take : MethodName := ⟨"StrataHouse", "take", "(III)Z"⟩
abbrev c_H_rule : ByteArray := prog_1_method_6_code
def y_H_rule : MethodName := ⟨"StrataHouse", "rule", "(III)I"⟩
abbrev c_H_literal : ByteArray := prog_1_method_7_code
def y_H_literal : MethodName := ⟨"StrataHouse", "literal", "(IIIZ)I"⟩
abbrev c_H_unrule : ByteArray := prog_1_method_8_code
def y_H_unrule : MethodName := ⟨"StrataHouse", "unrule", "()V"⟩
abbrev c_H_fault : ByteArray := prog_1_method_9_code
def y_H_fault : MethodName := ⟨"StrataHouse", "fault", "()I"⟩
abbrev c_H_layer : ByteArray := prog_1_method_10_code
def y_H_layer : MethodName := ⟨"StrataHouse", "layer", "(I)I"⟩
abbrev c_H_count : ByteArray := prog_1_method_11_code
def y_H_count : MethodName := ⟨"StrataHouse", "count", "(I)I"⟩
abbrev c_H_rank : ByteArray := prog_1_method_12_code
def y_H_rank : MethodName := ⟨"StrataHouse", "rank", "(III)I"⟩
abbrev c_H_ways : ByteArray := prog_1_method_13_code
def y_H_ways : MethodName := ⟨"StrataHouse", "ways", "(III)I"⟩
abbrev c_H_proof : ByteArray := prog_1_method_14_code
def y_H_proof : MethodName := ⟨"StrataHouse", "proof", "(IIII)I"⟩
abbrev c_H_checkRelation : ByteArray := prog_1_method_15_code
def y_H_checkRelation : MethodName := ⟨"StrataHouse", "checkRelation", "(I)V"⟩
abbrev c_H_checkFact : ByteArray := prog_1_method_16_code
def y_H_checkFact : MethodName := ⟨"StrataHouse", "checkFact", "(III)V"⟩
abbrev c_H_checkTerms : ByteArray := prog_1_method_17_code
def y_H_checkTerms : MethodName := ⟨"StrataHouse", "checkTerms", "(III)V"⟩
abbrev c_H_checkSomeRule : ByteArray := prog_1_method_18_code
def y_H_checkSomeRule : MethodName := ⟨"StrataHouse", "checkSomeRule", "()V"⟩
abbrev c_H_checkNoFault : ByteArray := prog_1_method_19_code
def y_H_checkNoFault : MethodName := ⟨"StrataHouse", "checkNoFault", "()V"⟩
abbrev c_H_isConstant : ByteArray := prog_1_method_20_code
def y_H_isConstant : MethodName := ⟨"StrataHouse", "isConstant", "(I)Z"⟩
abbrev c_H_isTerm : ByteArray := prog_1_method_21_code
def y_H_isTerm : MethodName := ⟨"StrataHouse", "isTerm", "(I)Z"⟩
abbrev c_H_firstOf : ByteArray := prog_1_method_22_code
def y_H_firstOf : MethodName := ⟨"StrataHouse", "firstOf", "(II)I"⟩
abbrev c_H_secondOf : ByteArray := prog_1_method_23_code
def y_H_secondOf : MethodName := ⟨"StrataHouse", "secondOf", "(II)I"⟩
abbrev c_H_rowAt : ByteArray := prog_1_method_24_code
def y_H_rowAt : MethodName := ⟨"StrataHouse", "rowAt", "(II)I"⟩
abbrev c_H_factAt : ByteArray := prog_1_method_25_code
def y_H_factAt : MethodName := ⟨"StrataHouse", "factAt", "(III)I"⟩
abbrev c_H_hasBit : ByteArray := prog_1_method_26_code
def y_H_hasBit : MethodName := ⟨"StrataHouse", "hasBit", "(II)Z"⟩
abbrev c_H_rulesChanged : ByteArray := prog_1_method_27_code
def y_H_rulesChanged : MethodName := ⟨"StrataHouse", "rulesChanged", "()V"⟩
abbrev c_H_setGiven : ByteArray := prog_1_method_28_code
def y_H_setGiven : MethodName := ⟨"StrataHouse", "setGiven", "(IIIZ)Z"⟩
abbrev c_H_judge : ByteArray := prog_1_method_29_code
def y_H_judge : MethodName := ⟨"StrataHouse", "judge", "()V"⟩
abbrev c_H_firstUnsafe : ByteArray := prog_1_method_30_code
def y_H_firstUnsafe : MethodName := ⟨"StrataHouse", "firstUnsafe", "()I"⟩
abbrev c_H_findLayers : ByteArray := prog_1_method_31_code
def y_H_findLayers : MethodName := ⟨"StrataHouse", "findLayers", "()Z"⟩
abbrev c_H_raiseLayers : ByteArray := prog_1_method_32_code
def y_H_raiseLayers : MethodName := ⟨"StrataHouse", "raiseLayers", "()Z"⟩
abbrev c_H_topLayer : ByteArray := prog_1_method_33_code
def y_H_topLayer : MethodName := ⟨"StrataHouse", "topLayer", "()I"⟩
abbrev c_H_settle : ByteArray := prog_1_method_34_code
def y_H_settle : MethodName := ⟨"StrataHouse", "settle", "()V"⟩
abbrev c_H_rankGiven : ByteArray := prog_1_method_35_code
def y_H_rankGiven : MethodName := ⟨"StrataHouse", "rankGiven", "()V"⟩
abbrev c_H_bringRound : ByteArray := prog_1_method_36_code
def y_H_bringRound : MethodName := ⟨"StrataHouse", "bringRound", "(III)V"⟩
abbrev c_H_bringByRule : ByteArray := prog_1_method_37_code
def y_H_bringByRule : MethodName := ⟨"StrataHouse", "bringByRule", "(LStrataHouse$Rule;I)V"⟩
abbrev c_H_showFresh : ByteArray := prog_1_method_38_code
def y_H_showFresh : MethodName := ⟨"StrataHouse", "showFresh", "()I"⟩
abbrev c_H_look : ByteArray := prog_1_method_39_code
def y_H_look : MethodName := ⟨"StrataHouse", "look", "(II)V"⟩
abbrev c_H_lookAt : ByteArray := prog_1_method_40_code
def y_H_lookAt : MethodName := ⟨"StrataHouse", "lookAt", "(II)V"⟩
abbrev c_H_leastRule : ByteArray := prog_1_method_41_code
def y_H_leastRule : MethodName := ⟨"StrataHouse", "leastRule", "(III)I"⟩
abbrev c_D_init : ByteArray := prog_7_method_1_code
def y_D_init : MethodName := ⟨"StrataHouseModel", "<init>", "()V"⟩
abbrev c_D_thrown : ByteArray := prog_7_method_2_code
def y_D_thrown : MethodName := ⟨"StrataHouseModel", "thrown", "()I"⟩
abbrev c_D_refuse : ByteArray := prog_7_method_3_code
def y_D_refuse : MethodName := ⟨"StrataHouseModel", "refuse", "(ZZZ)Z"⟩
abbrev c_D_in : ByteArray := prog_7_method_4_code
def y_D_in : MethodName := ⟨"StrataHouseModel", "in", "(III)Z"⟩
abbrev c_D_clear : ByteArray := prog_7_method_5_code
def y_D_clear : MethodName := ⟨"StrataHouseModel", "clear", "()V"⟩
abbrev c_D_relation : ByteArray := prog_7_method_6_code
def y_D_relation : MethodName := ⟨"StrataHouseModel", "relation", "(I)I"⟩
abbrev c_D_isFact : ByteArray := prog_7_method_7_code
def y_D_isFact : MethodName := ⟨"StrataHouseModel", "isFact", "(III)Z"⟩
abbrev c_D_factAt : ByteArray := prog_7_method_8_code
def y_D_factAt : MethodName := ⟨"StrataHouseModel", "factAt", "(III)I"⟩
abbrev c_D_give : ByteArray := prog_7_method_9_code
def y_D_give : MethodName := ⟨"StrataHouseModel", "give", "(III)Z"⟩
abbrev c_D_take : ByteArray := prog_7_method_10_code
def y_D_take : MethodName := ⟨"StrataHouseModel", "take", "(III)Z"⟩
abbrev c_D_isTerm : ByteArray := prog_7_method_11_code
def y_D_isTerm : MethodName := ⟨"StrataHouseModel", "isTerm", "(I)Z"⟩
abbrev c_D_areTerms : ByteArray := prog_7_method_12_code
def y_D_areTerms : MethodName := ⟨"StrataHouseModel", "areTerms", "(III)Z"⟩
abbrev c_D_put : ByteArray := prog_7_method_13_code
def y_D_put : MethodName := ⟨"StrataHouseModel", "put", "(IIIIZ)V"⟩
abbrev c_D_rule : ByteArray := prog_7_method_14_code
def y_D_rule : MethodName := ⟨"StrataHouseModel", "rule", "(III)I"⟩
abbrev c_D_literal : ByteArray := prog_7_method_15_code
def y_D_literal : MethodName := ⟨"StrataHouseModel", "literal", "(IIIZ)I"⟩
abbrev c_D_unrule : ByteArray := prog_7_method_16_code
def y_D_unrule : MethodName := ⟨"StrataHouseModel", "unrule", "()V"⟩
abbrev c_D_variablesOf : ByteArray := prog_7_method_17_code
def y_D_variablesOf : MethodName := ⟨"StrataHouseModel", "variablesOf", "(I)I"⟩
abbrev c_D_variables : ByteArray := prog_7_method_18_code
def y_D_variables : MethodName := ⟨"StrataHouseModel", "variables", "(I)I"⟩
abbrev c_D_isSafe : ByteArray := prog_7_method_19_code
def y_D_isSafe : MethodName := ⟨"StrataHouseModel", "isSafe", "(I)Z"⟩
abbrev c_D_raise : ByteArray := prog_7_method_20_code
def y_D_raise : MethodName := ⟨"StrataHouseModel", "raise", "(I)Z"⟩
abbrev c_D_findFault : ByteArray := prog_7_method_21_code
def y_D_findFault : MethodName := ⟨"StrataHouseModel", "findFault", "()I"⟩
abbrev c_D_termValue : ByteArray := prog_7_method_22_code
def y_D_termValue : MethodName := ⟨"StrataHouseModel", "termValue", "(I)I"⟩
abbrev c_D_factOf : ByteArray := prog_7_method_23_code
def y_D_factOf : MethodName := ⟨"StrataHouseModel", "factOf", "(I)I"⟩
abbrev c_D_instance : ByteArray := prog_7_method_24_code
def y_D_instance : MethodName := ⟨"StrataHouseModel", "instance", "(II)Z"⟩
abbrev c_D_holds : ByteArray := prog_7_method_25_code
def y_D_holds : MethodName := ⟨"StrataHouseModel", "holds", "(I)Z"⟩
abbrev c_D_isMet : ByteArray := prog_7_method_26_code
def y_D_isMet : MethodName := ⟨"StrataHouseModel", "isMet", "(I)Z"⟩
abbrev c_D_behind : ByteArray := prog_7_method_27_code
def y_D_behind : MethodName := ⟨"StrataHouseModel", "behind", "(II)I"⟩
abbrev c_D_round : ByteArray := prog_7_method_28_code
def y_D_round : MethodName := ⟨"StrataHouseModel", "round", "(II)Z"⟩
abbrev c_D_find : ByteArray := prog_7_method_29_code
def y_D_find : MethodName := ⟨"StrataHouseModel", "find", "()V"⟩
abbrev c_D_fault : ByteArray := prog_7_method_30_code
def y_D_fault : MethodName := ⟨"StrataHouseModel", "fault", "()I"⟩
abbrev c_D_layer : ByteArray := prog_7_method_31_code
def y_D_layer : MethodName := ⟨"StrataHouseModel", "layer", "(I)I"⟩
abbrev c_D_count : ByteArray := prog_7_method_32_code
def y_D_count : MethodName := ⟨"StrataHouseModel", "count", "(I)I"⟩
abbrev c_D_rank : ByteArray := prog_7_method_33_code
def y_D_rank : MethodName := ⟨"StrataHouseModel", "rank", "(III)I"⟩
abbrev c_D_ways : ByteArray := prog_7_method_34_code
def y_D_ways : MethodName := ⟨"StrataHouseModel", "ways", "(III)I"⟩
abbrev c_D_isLower : ByteArray := prog_7_method_35_code
def y_D_isLower : MethodName := ⟨"StrataHouseModel", "isLower", "(II)Z"⟩
abbrev c_D_proof : ByteArray := prog_7_method_36_code
def y_D_proof : MethodName := ⟨"StrataHouseModel", "proof", "(IIII)I"⟩
abbrev c_A_init : ByteArray := prog_2_method_1_code
def y_A_init : MethodName := ⟨"StrataHouse$Atom", "<init>", "()V"⟩
abbrev c_A_become : ByteArray := prog_2_method_2_code
def y_A_become : MethodName := ⟨"StrataHouse$Atom", "become", "(IIIZ)V"⟩
abbrev c_A_variables : ByteArray := prog_2_method_3_code
def y_A_variables : MethodName := ⟨"StrataHouse$Atom", "variables", "()I"⟩
abbrev c_M_init : ByteArray := prog_3_method_1_code
def y_M_init : MethodName := ⟨"StrataHouse$Match", "<init>", "()V"⟩
abbrev c_M_forget : ByteArray := prog_3_method_2_code
def y_M_forget : MethodName := ⟨"StrataHouse$Match", "forget", "()V"⟩
abbrev c_M_bind : ByteArray := prog_3_method_3_code
def y_M_bind : MethodName := ⟨"StrataHouse$Match", "bind", "(II)Z"⟩
abbrev c_M_meets : ByteArray := prog_3_method_4_code
def y_M_meets : MethodName := ⟨"StrataHouse$Match", "meets", "(LStrataHouse$Rule;III)Z"⟩
abbrev c_M_knownAgree : ByteArray := prog_3_method_5_code
def y_M_knownAgree : MethodName := ⟨"StrataHouse$Match", "knownAgree", "(LStrataHouse$Rule;)Z"⟩
abbrev c_M_choices : ByteArray := prog_3_method_6_code
def y_M_choices : MethodName := ⟨"StrataHouse$Match", "choices", "(LStrataHouse$Rule;I)I"⟩
abbrev c_M_choicesBy : ByteArray := prog_3_method_7_code
def y_M_choicesBy : MethodName := ⟨"StrataHouse$Match", "choicesBy", "(LStrataHouse$Atom;I)I"⟩
abbrev c_M_nextOpen : ByteArray := prog_3_method_8_code
def y_M_nextOpen : MethodName := ⟨"StrataHouse$Match", "nextOpen", "(LStrataHouse$Rule;I)I"⟩
abbrev c_M_findLeast : ByteArray := prog_3_method_9_code
def y_M_findLeast : MethodName := ⟨"StrataHouse$Match", "findLeast", "(LStrataHouse$Rule;I)Z"⟩
abbrev c_M_countInstances : ByteArray := prog_3_method_10_code
def y_M_countInstances : MethodName := ⟨"StrataHouse$Match", "countInstances", "(LStrataHouse$Rule;I)I"⟩
abbrev c_R_init : ByteArray := prog_4_method_1_code
def y_R_init : MethodName := ⟨"StrataHouse$Rule", "<init>", "()V"⟩
abbrev c_R_begin : ByteArray := prog_4_method_2_code
def y_R_begin : MethodName := ⟨"StrataHouse$Rule", "begin", "(III)V"⟩
abbrev c_R_isFull : ByteArray := prog_4_method_3_code
def y_R_isFull : MethodName := ⟨"StrataHouse$Rule", "isFull", "()Z"⟩
abbrev c_R_add : ByteArray := prog_4_method_4_code
def y_R_add : MethodName := ⟨"StrataHouse$Rule", "add", "(IIIZ)V"⟩
abbrev c_R_isSafe : ByteArray := prog_4_method_5_code
def y_R_isSafe : MethodName := ⟨"StrataHouse$Rule", "isSafe", "()Z"⟩
abbrev c_R_leastLayer : ByteArray := prog_4_method_6_code
def y_R_leastLayer : MethodName := ⟨"StrataHouse$Rule", "leastLayer", "([I)I"⟩
abbrev c_S_init : ByteArray := prog_5_method_1_code
def y_S_init : MethodName := ⟨"StrataHouse$Sight", "<init>", "()V"⟩
abbrev c_S_forget : ByteArray := prog_5_method_2_code
def y_S_forget : MethodName := ⟨"StrataHouse$Sight", "forget", "()V"⟩
abbrev c_S_show : ByteArray := prog_5_method_3_code
def y_S_show : MethodName := ⟨"StrataHouse$Sight", "show", "(III)V"⟩
abbrev c_S_sees : ByteArray := prog_5_method_4_code
def y_S_sees : MethodName := ⟨"StrataHouse$Sight", "sees", "(III)Z"⟩
abbrev c_Arrays_fill : ByteArray := prog_17_method_103_code
def y_Arrays_fill : MethodName := ⟨"java/util/Arrays", "fill", "([II)V"⟩
abbrev c_Math_max : ByteArray := prog_12_method_65_code
def y_Math_max : MethodName := ⟨"java/lang/Math", "max", "(II)I"⟩
abbrev c_L_relation : ByteArray := method_3_code
def y_L_relation : MethodName := ⟨"StrataHouseLaw", "relation", "(LStrataHouse;I[J)I"⟩
abbrev c_L_give : ByteArray := method_4_code
def y_L_give : MethodName := ⟨"StrataHouseLaw", "give", "(LStrataHouse;III[J)I"⟩
abbrev c_L_take : ByteArray := method_5_code
def y_L_take : MethodName := ⟨"StrataHouseLaw", "take", "(LStrataHouse;III[J)I"⟩
abbrev c_L_rule : ByteArray := method_6_code
def y_L_rule : MethodName := ⟨"StrataHouseLaw", "rule", "(LStrataHouse;III[J)I"⟩
abbrev c_L_literal : ByteArray := method_7_code
def y_L_literal : MethodName := ⟨"StrataHouseLaw", "literal", "(LStrataHouse;IIIZ[J)I"⟩
abbrev c_L_unrule : ByteArray := method_8_code
def y_L_unrule : MethodName := ⟨"StrataHouseLaw", "unrule", "(LStrataHouse;)I"⟩
abbrev c_L_layer : ByteArray := method_9_code
def y_L_layer : MethodName := ⟨"StrataHouseLaw", "layer", "(LStrataHouse;I[J)I"⟩
abbrev c_L_count : ByteArray := method_10_code
def y_L_count : MethodName := ⟨"StrataHouseLaw", "count", "(LStrataHouse;I[J)I"⟩
abbrev c_L_rank : ByteArray := method_11_code
def y_L_rank : MethodName := ⟨"StrataHouseLaw", "rank", "(LStrataHouse;III[J)I"⟩
abbrev c_L_ways : ByteArray := method_12_code
def y_L_ways : MethodName := ⟨"StrataHouseLaw", "ways", "(LStrataHouse;III[J)I"⟩
abbrev c_Integer_bitCount : ByteArray := prog_11_method_49_code
def y_Integer_bitCount : MethodName := ⟨"java/lang/Integer", "bitCount", "(I)I"⟩
abbrev c_L_proof : ByteArray := method_13_code
def y_L_proof : MethodName := ⟨"StrataHouseLaw", "proof", "(LStrataHouse;IIII[J)I"⟩
end
section
theorem d_H_init_0 : decode c_H_init 0 = .ok (.aload_n 0, 1) := by decide +kernel
theorem d_H_init_1 : decode c_H_init 1 = .ok (.invokespecial 5, 3) := by decide +kernel
theorem d_H_init_4 : decode c_H_init 4 = .ok (.aload_n 0, 1) := by decide +kernel
theorem d_H_init_5 : decode c_H_init 5 = .ok (.bipush 8, 2) := by decide +kernel
theorem d_H_init_7 : decode c_H_init 7 = .ok (.newarray .int, 2) := by decide +kernel
theorem d_H_init_9 : decode c_H_init 9 = .ok (.putfield 11, 3) := by decide +kernel
theorem d_H_init_12 : decode c_H_init 12 = .ok (.aload_n 0, 1) := by decide +kernel
theorem d_H_init_13 : decode c_H_init 13 = .ok (.bipush 96, 2) := by decide +kernel
theorem d_H_init_15 : decode c_H_init 15 = .ok (.newarray .int, 2) := by decide +kernel
theorem d_H_init_17 : decode c_H_init 17 = .ok (.putfield 15, 3) := by decide +kernel
theorem d_H_init_20 : decode c_H_init 20 = .ok (.aload_n 0, 1) := by decide +kernel
theorem d_H_init_21 : decode c_H_init 21 = .ok (.bipush 16, 2) := by decide +kernel
theorem d_H_init_23 : decode c_H_init 23 = .ok (.anewarray 18, 3) := by decide +kernel
theorem d_H_init_26 : decode c_H_init 26 = .ok (.putfield 20, 3) := by decide +kernel
theorem d_H_init_29 : decode c_H_init 29 = .ok (.aload_n 0, 1) := by decide +kernel
theorem d_H_init_30 : decode c_H_init 30 = .ok (.bipush 8, 2) := by decide +kernel
theorem d_H_init_32 : decode c_H_init 32 = .ok (.newarray .int, 2) := by decide +kernel
theorem d_H_init_34 : decode c_H_init 34 = .ok (.putfield 24, 3) := by decide +kernel
theorem d_H_init_37 : decode c_H_init 37 = .ok (.aload_n 0, 1) := by decide +kernel
theorem d_H_init_38 : decode c_H_init 38 = .ok (.sipush 1152, 3) := by decide +kernel
theorem d_H_init_41 : decode c_H_init 41 = .ok (.newarray .int, 2) := by decide +kernel
theorem d_H_init_43 : decode c_H_init 43 = .ok (.putfield 27, 3) := by decide +kernel
theorem d_H_init_46 : decode c_H_init 46 = .ok (.aload_n 0, 1) := by decide +kernel
theorem d_H_init_47 : decode c_H_init 47 = .ok (.bipush 96, 2) := by decide +kernel
theorem d_H_init_49 : decode c_H_init 49 = .ok (.newarray .int, 2) := by decide +kernel
theorem d_H_init_51 : decode c_H_init 51 = .ok (.putfield 30, 3) := by decide +kernel
theorem d_H_init_54 : decode c_H_init 54 = .ok (.aload_n 0, 1) := by decide +kernel
theorem d_H_init_55 : decode c_H_init 55 = .ok (.new 33, 3) := by decide +kernel
theorem d_H_init_58 : decode c_H_init 58 = .ok (.dup, 1) := by decide +kernel
theorem d_H_init_59 : decode c_H_init 59 = .ok (.invokespecial 35, 3) := by decide +kernel
theorem d_H_init_62 : decode c_H_init 62 = .ok (.putfield 36, 3) := by decide +kernel
theorem d_H_init_65 : decode c_H_init 65 = .ok (.aload_n 0, 1) := by decide +kernel
theorem d_H_init_66 : decode c_H_init 66 = .ok (.iconst (-1), 1) := by decide +kernel
theorem d_H_init_67 : decode c_H_init 67 = .ok (.putfield 40, 3) := by decide +kernel
theorem d_H_init_70 : decode c_H_init 70 = .ok (.iconst 0, 1) := by decide +kernel
theorem d_H_init_71 : decode c_H_init 71 = .ok (.istore_n 1, 1) := by decide +kernel
theorem d_H_init_72 : decode c_H_init 72 = .ok (.iload_n 1, 1) := by decide +kernel
theorem d_H_init_73 : decode c_H_init 73 = .ok (.bipush 16, 2) := by decide +kernel
theorem d_H_init_75 : decode c_H_init 75 = .ok (.if_icmp .ge 22, 3) := by decide +kernel
theorem d_H_init_78 : decode c_H_init 78 = .ok (.aload_n 0, 1) := by decide +kernel
theorem d_H_init_79 : decode c_H_init 79 = .ok (.getfield 20, 3) := by decide +kernel
theorem d_H_init_82 : decode c_H_init 82 = .ok (.iload_n 1, 1) := by decide +kernel
theorem d_H_init_83 : decode c_H_init 83 = .ok (.new 18, 3) := by decide +kernel
theorem d_H_init_86 : decode c_H_init 86 = .ok (.dup, 1) := by decide +kernel
theorem d_H_init_87 : decode c_H_init 87 = .ok (.invokespecial 44, 3) := by decide +kernel
theorem d_H_init_90 : decode c_H_init 90 = .ok (.aastore, 1) := by decide +kernel
theorem d_H_init_91 : decode c_H_init 91 = .ok (.iinc 1 1, 3) := by decide +kernel
theorem d_H_init_94 : decode c_H_init 94 = .ok (.goto (-22), 3) := by decide +kernel
theorem d_H_init_97 : decode c_H_init 97 = .ok (.return_, 1) := by decide +kernel
theorem d_H_clear_0 : decode c_H_clear 0 = .ok (.aload_n 0, 1) := by decide +kernel
theorem d_H_clear_1 : decode c_H_clear 1 = .ok (.getfield 15, 3) := by decide +kernel
theorem d_H_clear_4 : decode c_H_clear 4 = .ok (.iconst 0, 1) := by decide +kernel
theorem d_H_clear_5 : decode c_H_clear 5 = .ok (.invokestatic 45, 3) := by decide +kernel
theorem d_H_clear_8 : decode c_H_clear 8 = .ok (.aload_n 0, 1) := by decide +kernel
theorem d_H_clear_9 : decode c_H_clear 9 = .ok (.iconst 0, 1) := by decide +kernel
theorem d_H_clear_10 : decode c_H_clear 10 = .ok (.putfield 51, 3) := by decide +kernel
theorem d_H_clear_13 : decode c_H_clear 13 = .ok (.aload_n 0, 1) := by decide +kernel
theorem d_H_clear_14 : decode c_H_clear 14 = .ok (.iconst 0, 1) := by decide +kernel
theorem d_H_clear_15 : decode c_H_clear 15 = .ok (.putfield 54, 3) := by decide +kernel
theorem d_H_clear_18 : decode c_H_clear 18 = .ok (.aload_n 0, 1) := by decide +kernel
theorem d_H_clear_19 : decode c_H_clear 19 = .ok (.invokevirtual 57, 3) := by decide +kernel
theorem d_H_clear_22 : decode c_H_clear 22 = .ok (.return_, 1) := by decide +kernel
theorem d_H_relation_0 : decode c_H_relation 0 = .ok (.iload_n 1, 1) := by decide +kernel
theorem d_H_relation_1 : decode c_H_relation 1 = .ok (.ifCond .lt 8, 3) := by decide +kernel
theorem d_H_relation_4 : decode c_H_relation 4 = .ok (.iload_n 1, 1) := by decide +kernel
theorem d_H_relation_5 : decode c_H_relation 5 = .ok (.iconst 2, 1) := by decide +kernel
theorem d_H_relation_6 : decode c_H_relation 6 = .ok (.if_icmp .le 13, 3) := by decide +kernel
theorem d_H_relation_9 : decode c_H_relation 9 = .ok (.new 60, 3) := by decide +kernel
theorem d_H_relation_12 : decode c_H_relation 12 = .ok (.dup, 1) := by decide +kernel
theorem d_H_relation_13 : decode c_H_relation 13 = .ok (.ldc 62, 2) := by decide +kernel
theorem d_H_relation_15 : decode c_H_relation 15 = .ok (.invokespecial 64, 3) := by decide +kernel
theorem d_H_relation_18 : decode c_H_relation 18 = .ok (.athrow, 1) := by decide +kernel
theorem d_H_relation_19 : decode c_H_relation 19 = .ok (.aload_n 0, 1) := by decide +kernel
theorem d_H_relation_20 : decode c_H_relation 20 = .ok (.getfield 51, 3) := by decide +kernel
theorem d_H_relation_23 : decode c_H_relation 23 = .ok (.bipush 8, 2) := by decide +kernel
theorem d_H_relation_25 : decode c_H_relation 25 = .ok (.if_icmp .lt 13, 3) := by decide +kernel
theorem d_H_relation_28 : decode c_H_relation 28 = .ok (.new 67, 3) := by decide +kernel
theorem d_H_relation_31 : decode c_H_relation 31 = .ok (.dup, 1) := by decide +kernel
theorem d_H_relation_32 : decode c_H_relation 32 = .ok (.ldc 69, 2) := by decide +kernel
theorem d_H_relation_34 : decode c_H_relation 34 = .ok (.invokespecial 71, 3) := by decide +kernel
theorem d_H_relation_37 : decode c_H_relation 37 = .ok (.athrow, 1) := by decide +kernel
theorem d_H_relation_38 : decode c_H_relation 38 = .ok (.aload_n 0, 1) := by decide +kernel
theorem d_H_relation_39 : decode c_H_relation 39 = .ok (.getfield 11, 3) := by decide +kernel
theorem d_H_relation_42 : decode c_H_relation 42 = .ok (.aload_n 0, 1) := by decide +kernel
theorem d_H_relation_43 : decode c_H_relation 43 = .ok (.getfield 51, 3) := by decide +kernel
theorem d_H_relation_46 : decode c_H_relation 46 = .ok (.iload_n 1, 1) := by decide +kernel
theorem d_H_relation_47 : decode c_H_relation 47 = .ok (.iastore, 1) := by decide +kernel
theorem d_H_relation_48 : decode c_H_relation 48 = .ok (.aload_n 0, 1) := by decide +kernel
theorem d_H_relation_49 : decode c_H_relation 49 = .ok (.dup, 1) := by decide +kernel
theorem d_H_relation_50 : decode c_H_relation 50 = .ok (.getfield 51, 3) := by decide +kernel
theorem d_H_relation_53 : decode c_H_relation 53 = .ok (.iconst 1, 1) := by decide +kernel
theorem d_H_relation_54 : decode c_H_relation 54 = .ok (.iadd, 1) := by decide +kernel
theorem d_H_relation_55 : decode c_H_relation 55 = .ok (.putfield 51, 3) := by decide +kernel
theorem d_H_relation_58 : decode c_H_relation 58 = .ok (.aload_n 0, 1) := by decide +kernel
theorem d_H_relation_59 : decode c_H_relation 59 = .ok (.invokevirtual 57, 3) := by decide +kernel
theorem d_H_relation_62 : decode c_H_relation 62 = .ok (.aload_n 0, 1) := by decide +kernel
theorem d_H_relation_63 : decode c_H_relation 63 = .ok (.getfield 51, 3) := by decide +kernel
theorem d_H_relation_66 : decode c_H_relation 66 = .ok (.iconst 1, 1) := by decide +kernel
theorem d_H_relation_67 : decode c_H_relation 67 = .ok (.isub, 1) := by decide +kernel
theorem d_H_relation_68 : decode c_H_relation 68 = .ok (.ireturn, 1) := by decide +kernel
theorem d_H_give_0 : decode c_H_give 0 = .ok (.aload_n 0, 1) := by decide +kernel
theorem d_H_give_1 : decode c_H_give 1 = .ok (.iload_n 1, 1) := by decide +kernel
theorem d_H_give_2 : decode c_H_give 2 = .ok (.iload_n 2, 1) := by decide +kernel
theorem d_H_give_3 : decode c_H_give 3 = .ok (.iload_n 3, 1) := by decide +kernel
theorem d_H_give_4 : decode c_H_give 4 = .ok (.invokevirtual 72, 3) := by decide +kernel
theorem d_H_give_7 : decode c_H_give 7 = .ok (.aload_n 0, 1) := by decide +kernel
theorem d_H_give_8 : decode c_H_give 8 = .ok (.iload_n 1, 1) := by decide +kernel
theorem d_H_give_9 : decode c_H_give 9 = .ok (.iload_n 2, 1) := by decide +kernel
theorem d_H_give_10 : decode c_H_give 10 = .ok (.iload_n 3, 1) := by decide +kernel
theorem d_H_give_11 : decode c_H_give 11 = .ok (.iconst 1, 1) := by decide +kernel
theorem d_H_give_12 : decode c_H_give 12 = .ok (.invokevirtual 76, 3) := by decide +kernel
theorem d_H_give_15 : decode c_H_give 15 = .ok (.ireturn, 1) := by decide +kernel
theorem d_H_take_0 : decode c_H_take 0 = .ok (.aload_n 0, 1) := by decide +kernel
theorem d_H_take_1 : decode c_H_take 1 = .ok (.iload_n 1, 1) := by decide +kernel
theorem d_H_take_2 : decode c_H_take 2 = .ok (.iload_n 2, 1) := by decide +kernel
theorem d_H_take_3 : decode c_H_take 3 = .ok (.iload_n 3, 1) := by decide +kernel
theorem d_H_take_4 : decode c_H_take 4 = .ok (.invokevirtual 72, 3) := by decide +kernel
theorem d_H_take_7 : decode c_H_take 7 = .ok (.aload_n 0, 1) := by decide +kernel
theorem d_H_take_8 : decode c_H_take 8 = .ok (.iload_n 1, 1) := by decide +kernel
theorem d_H_take_9 : decode c_H_take 9 = .ok (.iload_n 2, 1) := by decide +kernel
theorem d_H_take_10 : decode c_H_take 10 = .ok (.iload_n 3, 1) := by decide +kernel
theorem d_H_take_11 : decode c_H_take 11 = .ok (.iconst 0, 1) := by decide +kernel
theorem d_H_take_12 : decode c_H_take 12 = .ok (.invokevirtual 76, 3) := by decide +kernel
theorem d_H_take_15 : decode c_H_take 15 = .ok (.ireturn, 1) := by decide +kernel
theorem d_H_rule_0 : decode c_H_rule 0 = .ok (.aload_n 0, 1) := by decide +kernel
theorem d_H_rule_1 : decode c_H_rule 1 = .ok (.iload_n 1, 1) := by decide +kernel
theorem d_H_rule_2 : decode c_H_rule 2 = .ok (.iload_n 2, 1) := by decide +kernel
theorem d_H_rule_3 : decode c_H_rule 3 = .ok (.iload_n 3, 1) := by decide +kernel
theorem d_H_rule_4 : decode c_H_rule 4 = .ok (.invokevirtual 80, 3) := by decide +kernel
theorem d_H_rule_7 : decode c_H_rule 7 = .ok (.aload_n 0, 1) := by decide +kernel
theorem d_H_rule_8 : decode c_H_rule 8 = .ok (.getfield 54, 3) := by decide +kernel
theorem d_H_rule_11 : decode c_H_rule 11 = .ok (.bipush 16, 2) := by decide +kernel
theorem d_H_rule_13 : decode c_H_rule 13 = .ok (.if_icmp .lt 13, 3) := by decide +kernel
theorem d_H_rule_16 : decode c_H_rule 16 = .ok (.new 67, 3) := by decide +kernel
theorem d_H_rule_19 : decode c_H_rule 19 = .ok (.dup, 1) := by decide +kernel
theorem d_H_rule_20 : decode c_H_rule 20 = .ok (.ldc 83, 2) := by decide +kernel
theorem d_H_rule_22 : decode c_H_rule 22 = .ok (.invokespecial 71, 3) := by decide +kernel
theorem d_H_rule_25 : decode c_H_rule 25 = .ok (.athrow, 1) := by decide +kernel
theorem d_H_rule_26 : decode c_H_rule 26 = .ok (.aload_n 0, 1) := by decide +kernel
theorem d_H_rule_27 : decode c_H_rule 27 = .ok (.getfield 20, 3) := by decide +kernel
theorem d_H_rule_30 : decode c_H_rule 30 = .ok (.aload_n 0, 1) := by decide +kernel
theorem d_H_rule_31 : decode c_H_rule 31 = .ok (.getfield 54, 3) := by decide +kernel
theorem d_H_rule_34 : decode c_H_rule 34 = .ok (.aaload, 1) := by decide +kernel
theorem d_H_rule_35 : decode c_H_rule 35 = .ok (.iload_n 1, 1) := by decide +kernel
theorem d_H_rule_36 : decode c_H_rule 36 = .ok (.aload_n 0, 1) := by decide +kernel
theorem d_H_rule_37 : decode c_H_rule 37 = .ok (.iload_n 1, 1) := by decide +kernel
theorem d_H_rule_38 : decode c_H_rule 38 = .ok (.iload_n 2, 1) := by decide +kernel
theorem d_H_rule_39 : decode c_H_rule 39 = .ok (.invokevirtual 85, 3) := by decide +kernel
theorem d_H_rule_42 : decode c_H_rule 42 = .ok (.aload_n 0, 1) := by decide +kernel
theorem d_H_rule_43 : decode c_H_rule 43 = .ok (.iload_n 1, 1) := by decide +kernel
theorem d_H_rule_44 : decode c_H_rule 44 = .ok (.iload_n 3, 1) := by decide +kernel
theorem d_H_rule_45 : decode c_H_rule 45 = .ok (.invokevirtual 89, 3) := by decide +kernel
theorem d_H_rule_48 : decode c_H_rule 48 = .ok (.invokevirtual 92, 3) := by decide +kernel
theorem d_H_rule_51 : decode c_H_rule 51 = .ok (.aload_n 0, 1) := by decide +kernel
theorem d_H_rule_52 : decode c_H_rule 52 = .ok (.dup, 1) := by decide +kernel
theorem d_H_rule_53 : decode c_H_rule 53 = .ok (.getfield 54, 3) := by decide +kernel
theorem d_H_rule_56 : decode c_H_rule 56 = .ok (.iconst 1, 1) := by decide +kernel
theorem d_H_rule_57 : decode c_H_rule 57 = .ok (.iadd, 1) := by decide +kernel
theorem d_H_rule_58 : decode c_H_rule 58 = .ok (.putfield 54, 3) := by decide +kernel
theorem d_H_rule_61 : decode c_H_rule 61 = .ok (.aload_n 0, 1) := by decide +kernel
theorem d_H_rule_62 : decode c_H_rule 62 = .ok (.invokevirtual 57, 3) := by decide +kernel
theorem d_H_rule_65 : decode c_H_rule 65 = .ok (.aload_n 0, 1) := by decide +kernel
theorem d_H_rule_66 : decode c_H_rule 66 = .ok (.getfield 54, 3) := by decide +kernel
theorem d_H_rule_69 : decode c_H_rule 69 = .ok (.iconst 1, 1) := by decide +kernel
theorem d_H_rule_70 : decode c_H_rule 70 = .ok (.isub, 1) := by decide +kernel
theorem d_H_rule_71 : decode c_H_rule 71 = .ok (.ireturn, 1) := by decide +kernel
theorem d_H_literal_0 : decode c_H_literal 0 = .ok (.aload_n 0, 1) := by decide +kernel
theorem d_H_literal_1 : decode c_H_literal 1 = .ok (.invokevirtual 95, 3) := by decide +kernel
theorem d_H_literal_4 : decode c_H_literal 4 = .ok (.aload_n 0, 1) := by decide +kernel
theorem d_H_literal_5 : decode c_H_literal 5 = .ok (.iload_n 1, 1) := by decide +kernel
theorem d_H_literal_6 : decode c_H_literal 6 = .ok (.iload_n 2, 1) := by decide +kernel
theorem d_H_literal_7 : decode c_H_literal 7 = .ok (.iload_n 3, 1) := by decide +kernel
theorem d_H_literal_8 : decode c_H_literal 8 = .ok (.invokevirtual 80, 3) := by decide +kernel
theorem d_H_literal_11 : decode c_H_literal 11 = .ok (.aload_n 0, 1) := by decide +kernel
theorem d_H_literal_12 : decode c_H_literal 12 = .ok (.getfield 20, 3) := by decide +kernel
theorem d_H_literal_15 : decode c_H_literal 15 = .ok (.aload_n 0, 1) := by decide +kernel
theorem d_H_literal_16 : decode c_H_literal 16 = .ok (.getfield 54, 3) := by decide +kernel
theorem d_H_literal_19 : decode c_H_literal 19 = .ok (.iconst 1, 1) := by decide +kernel
theorem d_H_literal_20 : decode c_H_literal 20 = .ok (.isub, 1) := by decide +kernel
theorem d_H_literal_21 : decode c_H_literal 21 = .ok (.aaload, 1) := by decide +kernel
theorem d_H_literal_22 : decode c_H_literal 22 = .ok (.astore 5, 2) := by decide +kernel
theorem d_H_literal_24 : decode c_H_literal 24 = .ok (.aload 5, 2) := by decide +kernel
theorem d_H_literal_26 : decode c_H_literal 26 = .ok (.invokevirtual 98, 3) := by decide +kernel
theorem d_H_literal_29 : decode c_H_literal 29 = .ok (.ifCond .eq 13, 3) := by decide +kernel
theorem d_H_literal_32 : decode c_H_literal 32 = .ok (.new 67, 3) := by decide +kernel
theorem d_H_literal_35 : decode c_H_literal 35 = .ok (.dup, 1) := by decide +kernel
theorem d_H_literal_36 : decode c_H_literal 36 = .ok (.ldc 102, 2) := by decide +kernel
theorem d_H_literal_38 : decode c_H_literal 38 = .ok (.invokespecial 71, 3) := by decide +kernel
theorem d_H_literal_41 : decode c_H_literal 41 = .ok (.athrow, 1) := by decide +kernel
theorem d_H_literal_42 : decode c_H_literal 42 = .ok (.aload 5, 2) := by decide +kernel
theorem d_H_literal_44 : decode c_H_literal 44 = .ok (.iload_n 1, 1) := by decide +kernel
theorem d_H_literal_45 : decode c_H_literal 45 = .ok (.aload_n 0, 1) := by decide +kernel
theorem d_H_literal_46 : decode c_H_literal 46 = .ok (.iload_n 1, 1) := by decide +kernel
theorem d_H_literal_47 : decode c_H_literal 47 = .ok (.iload_n 2, 1) := by decide +kernel
theorem d_H_literal_48 : decode c_H_literal 48 = .ok (.invokevirtual 85, 3) := by decide +kernel
theorem d_H_literal_51 : decode c_H_literal 51 = .ok (.aload_n 0, 1) := by decide +kernel
theorem d_H_literal_52 : decode c_H_literal 52 = .ok (.iload_n 1, 1) := by decide +kernel
theorem d_H_literal_53 : decode c_H_literal 53 = .ok (.iload_n 3, 1) := by decide +kernel
theorem d_H_literal_54 : decode c_H_literal 54 = .ok (.invokevirtual 89, 3) := by decide +kernel
theorem d_H_literal_57 : decode c_H_literal 57 = .ok (.iload 4, 2) := by decide +kernel
theorem d_H_literal_59 : decode c_H_literal 59 = .ok (.invokevirtual 104, 3) := by decide +kernel
theorem d_H_literal_62 : decode c_H_literal 62 = .ok (.aload_n 0, 1) := by decide +kernel
theorem d_H_literal_63 : decode c_H_literal 63 = .ok (.invokevirtual 57, 3) := by decide +kernel
theorem d_H_literal_66 : decode c_H_literal 66 = .ok (.aload 5, 2) := by decide +kernel
theorem d_H_literal_68 : decode c_H_literal 68 = .ok (.getfield 108, 3) := by decide +kernel
theorem d_H_literal_71 : decode c_H_literal 71 = .ok (.ireturn, 1) := by decide +kernel
theorem d_H_unrule_0 : decode c_H_unrule 0 = .ok (.aload_n 0, 1) := by decide +kernel
theorem d_H_unrule_1 : decode c_H_unrule 1 = .ok (.invokevirtual 95, 3) := by decide +kernel
theorem d_H_unrule_4 : decode c_H_unrule 4 = .ok (.aload_n 0, 1) := by decide +kernel
theorem d_H_unrule_5 : decode c_H_unrule 5 = .ok (.dup, 1) := by decide +kernel
theorem d_H_unrule_6 : decode c_H_unrule 6 = .ok (.getfield 54, 3) := by decide +kernel
theorem d_H_unrule_9 : decode c_H_unrule 9 = .ok (.iconst 1, 1) := by decide +kernel
theorem d_H_unrule_10 : decode c_H_unrule 10 = .ok (.isub, 1) := by decide +kernel
theorem d_H_unrule_11 : decode c_H_unrule 11 = .ok (.putfield 54, 3) := by decide +kernel
theorem d_H_unrule_14 : decode c_H_unrule 14 = .ok (.aload_n 0, 1) := by decide +kernel
theorem d_H_unrule_15 : decode c_H_unrule 15 = .ok (.invokevirtual 57, 3) := by decide +kernel
theorem d_H_unrule_18 : decode c_H_unrule 18 = .ok (.return_, 1) := by decide +kernel
theorem d_H_fault_0 : decode c_H_fault 0 = .ok (.aload_n 0, 1) := by decide +kernel
theorem d_H_fault_1 : decode c_H_fault 1 = .ok (.invokevirtual 111, 3) := by decide +kernel
theorem d_H_fault_4 : decode c_H_fault 4 = .ok (.aload_n 0, 1) := by decide +kernel
theorem d_H_fault_5 : decode c_H_fault 5 = .ok (.getfield 40, 3) := by decide +kernel
theorem d_H_fault_8 : decode c_H_fault 8 = .ok (.ireturn, 1) := by decide +kernel
theorem d_H_layer_0 : decode c_H_layer 0 = .ok (.aload_n 0, 1) := by decide +kernel
theorem d_H_layer_1 : decode c_H_layer 1 = .ok (.iload_n 1, 1) := by decide +kernel
theorem d_H_layer_2 : decode c_H_layer 2 = .ok (.invokevirtual 114, 3) := by decide +kernel
theorem d_H_layer_5 : decode c_H_layer 5 = .ok (.aload_n 0, 1) := by decide +kernel
theorem d_H_layer_6 : decode c_H_layer 6 = .ok (.invokevirtual 118, 3) := by decide +kernel
theorem d_H_layer_9 : decode c_H_layer 9 = .ok (.aload_n 0, 1) := by decide +kernel
theorem d_H_layer_10 : decode c_H_layer 10 = .ok (.getfield 24, 3) := by decide +kernel
theorem d_H_layer_13 : decode c_H_layer 13 = .ok (.iload_n 1, 1) := by decide +kernel
theorem d_H_layer_14 : decode c_H_layer 14 = .ok (.iaload, 1) := by decide +kernel
theorem d_H_layer_15 : decode c_H_layer 15 = .ok (.ireturn, 1) := by decide +kernel
theorem d_H_count_0 : decode c_H_count 0 = .ok (.aload_n 0, 1) := by decide +kernel
theorem d_H_count_1 : decode c_H_count 1 = .ok (.iload_n 1, 1) := by decide +kernel
theorem d_H_count_2 : decode c_H_count 2 = .ok (.invokevirtual 114, 3) := by decide +kernel
theorem d_H_count_5 : decode c_H_count 5 = .ok (.aload_n 0, 1) := by decide +kernel
theorem d_H_count_6 : decode c_H_count 6 = .ok (.invokevirtual 118, 3) := by decide +kernel
theorem d_H_count_9 : decode c_H_count 9 = .ok (.aload_n 0, 1) := by decide +kernel
theorem d_H_count_10 : decode c_H_count 10 = .ok (.invokevirtual 121, 3) := by decide +kernel
theorem d_H_count_13 : decode c_H_count 13 = .ok (.iconst 0, 1) := by decide +kernel
theorem d_H_count_14 : decode c_H_count 14 = .ok (.istore_n 2, 1) := by decide +kernel
theorem d_H_count_15 : decode c_H_count 15 = .ok (.iload_n 1, 1) := by decide +kernel
theorem d_H_count_16 : decode c_H_count 16 = .ok (.bipush 12, 2) := by decide +kernel
theorem d_H_count_18 : decode c_H_count 18 = .ok (.iconst 0, 1) := by decide +kernel
theorem d_H_count_19 : decode c_H_count 19 = .ok (.invokestatic 124, 3) := by decide +kernel
theorem d_H_count_22 : decode c_H_count 22 = .ok (.istore_n 3, 1) := by decide +kernel
theorem d_H_count_23 : decode c_H_count 23 = .ok (.iload_n 1, 1) := by decide +kernel
theorem d_H_count_24 : decode c_H_count 24 = .ok (.iconst 0, 1) := by decide +kernel
theorem d_H_count_25 : decode c_H_count 25 = .ok (.iconst 0, 1) := by decide +kernel
theorem d_H_count_26 : decode c_H_count 26 = .ok (.invokestatic 124, 3) := by decide +kernel
theorem d_H_count_29 : decode c_H_count 29 = .ok (.istore 4, 2) := by decide +kernel
theorem d_H_count_31 : decode c_H_count 31 = .ok (.iload 4, 2) := by decide +kernel
theorem d_H_count_33 : decode c_H_count 33 = .ok (.iload_n 3, 1) := by decide +kernel
theorem d_H_count_34 : decode c_H_count 34 = .ok (.if_icmp .ge 23, 3) := by decide +kernel
theorem d_H_count_37 : decode c_H_count 37 = .ok (.aload_n 0, 1) := by decide +kernel
theorem d_H_count_38 : decode c_H_count 38 = .ok (.getfield 27, 3) := by decide +kernel
theorem d_H_count_41 : decode c_H_count 41 = .ok (.iload 4, 2) := by decide +kernel
theorem d_H_count_43 : decode c_H_count 43 = .ok (.iaload, 1) := by decide +kernel
theorem d_H_count_44 : decode c_H_count 44 = .ok (.iconst (-1), 1) := by decide +kernel
theorem d_H_count_45 : decode c_H_count 45 = .ok (.if_icmp .eq 6, 3) := by decide +kernel
theorem d_H_count_48 : decode c_H_count 48 = .ok (.iinc 2 1, 3) := by decide +kernel
theorem d_H_count_51 : decode c_H_count 51 = .ok (.iinc 4 1, 3) := by decide +kernel
theorem d_H_count_54 : decode c_H_count 54 = .ok (.goto (-23), 3) := by decide +kernel
theorem d_H_count_57 : decode c_H_count 57 = .ok (.iload_n 2, 1) := by decide +kernel
theorem d_H_count_58 : decode c_H_count 58 = .ok (.ireturn, 1) := by decide +kernel
theorem d_H_rank_0 : decode c_H_rank 0 = .ok (.aload_n 0, 1) := by decide +kernel
theorem d_H_rank_1 : decode c_H_rank 1 = .ok (.iload_n 1, 1) := by decide +kernel
theorem d_H_rank_2 : decode c_H_rank 2 = .ok (.iload_n 2, 1) := by decide +kernel
theorem d_H_rank_3 : decode c_H_rank 3 = .ok (.iload_n 3, 1) := by decide +kernel
theorem d_H_rank_4 : decode c_H_rank 4 = .ok (.invokevirtual 72, 3) := by decide +kernel
theorem d_H_rank_7 : decode c_H_rank 7 = .ok (.aload_n 0, 1) := by decide +kernel
theorem d_H_rank_8 : decode c_H_rank 8 = .ok (.invokevirtual 118, 3) := by decide +kernel
theorem d_H_rank_11 : decode c_H_rank 11 = .ok (.aload_n 0, 1) := by decide +kernel
theorem d_H_rank_12 : decode c_H_rank 12 = .ok (.invokevirtual 121, 3) := by decide +kernel
theorem d_H_rank_15 : decode c_H_rank 15 = .ok (.aload_n 0, 1) := by decide +kernel
theorem d_H_rank_16 : decode c_H_rank 16 = .ok (.getfield 27, 3) := by decide +kernel
theorem d_H_rank_19 : decode c_H_rank 19 = .ok (.iload_n 1, 1) := by decide +kernel
theorem d_H_rank_20 : decode c_H_rank 20 = .ok (.aload_n 0, 1) := by decide +kernel
theorem d_H_rank_21 : decode c_H_rank 21 = .ok (.iload_n 1, 1) := by decide +kernel
theorem d_H_rank_22 : decode c_H_rank 22 = .ok (.iload_n 2, 1) := by decide +kernel
theorem d_H_rank_23 : decode c_H_rank 23 = .ok (.invokevirtual 85, 3) := by decide +kernel
theorem d_H_rank_26 : decode c_H_rank 26 = .ok (.aload_n 0, 1) := by decide +kernel
theorem d_H_rank_27 : decode c_H_rank 27 = .ok (.iload_n 1, 1) := by decide +kernel
theorem d_H_rank_28 : decode c_H_rank 28 = .ok (.iload_n 3, 1) := by decide +kernel
theorem d_H_rank_29 : decode c_H_rank 29 = .ok (.invokevirtual 89, 3) := by decide +kernel
theorem d_H_rank_32 : decode c_H_rank 32 = .ok (.invokestatic 124, 3) := by decide +kernel
theorem d_H_rank_35 : decode c_H_rank 35 = .ok (.iaload, 1) := by decide +kernel
theorem d_H_rank_36 : decode c_H_rank 36 = .ok (.ireturn, 1) := by decide +kernel
theorem d_H_ways_0 : decode c_H_ways 0 = .ok (.aload_n 0, 1) := by decide +kernel
theorem d_H_ways_1 : decode c_H_ways 1 = .ok (.iload_n 1, 1) := by decide +kernel
theorem d_H_ways_2 : decode c_H_ways 2 = .ok (.iload_n 2, 1) := by decide +kernel
theorem d_H_ways_3 : decode c_H_ways 3 = .ok (.iload_n 3, 1) := by decide +kernel
theorem d_H_ways_4 : decode c_H_ways 4 = .ok (.invokevirtual 72, 3) := by decide +kernel
theorem d_H_ways_7 : decode c_H_ways 7 = .ok (.aload_n 0, 1) := by decide +kernel
theorem d_H_ways_8 : decode c_H_ways 8 = .ok (.invokevirtual 118, 3) := by decide +kernel
theorem d_H_ways_11 : decode c_H_ways 11 = .ok (.aload_n 0, 1) := by decide +kernel
theorem d_H_ways_12 : decode c_H_ways 12 = .ok (.invokevirtual 121, 3) := by decide +kernel
theorem d_H_ways_15 : decode c_H_ways 15 = .ok (.aload_n 0, 1) := by decide +kernel
theorem d_H_ways_16 : decode c_H_ways 16 = .ok (.aload_n 0, 1) := by decide +kernel
theorem d_H_ways_17 : decode c_H_ways 17 = .ok (.getfield 24, 3) := by decide +kernel
theorem d_H_ways_20 : decode c_H_ways 20 = .ok (.iload_n 1, 1) := by decide +kernel
theorem d_H_ways_21 : decode c_H_ways 21 = .ok (.iaload, 1) := by decide +kernel
theorem d_H_ways_22 : decode c_H_ways 22 = .ok (.ldc 128, 2) := by decide +kernel
theorem d_H_ways_24 : decode c_H_ways 24 = .ok (.invokevirtual 129, 3) := by decide +kernel
theorem d_H_ways_27 : decode c_H_ways 27 = .ok (.iconst 0, 1) := by decide +kernel
theorem d_H_ways_28 : decode c_H_ways 28 = .ok (.istore 4, 2) := by decide +kernel
theorem d_H_ways_30 : decode c_H_ways 30 = .ok (.iconst 0, 1) := by decide +kernel
theorem d_H_ways_31 : decode c_H_ways 31 = .ok (.istore 5, 2) := by decide +kernel
theorem d_H_ways_33 : decode c_H_ways 33 = .ok (.iload 5, 2) := by decide +kernel
theorem d_H_ways_35 : decode c_H_ways 35 = .ok (.aload_n 0, 1) := by decide +kernel
theorem d_H_ways_36 : decode c_H_ways 36 = .ok (.getfield 54, 3) := by decide +kernel
theorem d_H_ways_39 : decode c_H_ways 39 = .ok (.if_icmp .ge 60, 3) := by decide +kernel
theorem d_H_ways_42 : decode c_H_ways 42 = .ok (.aload_n 0, 1) := by decide +kernel
theorem d_H_ways_43 : decode c_H_ways 43 = .ok (.getfield 36, 3) := by decide +kernel
theorem d_H_ways_46 : decode c_H_ways 46 = .ok (.aload_n 0, 1) := by decide +kernel
theorem d_H_ways_47 : decode c_H_ways 47 = .ok (.getfield 20, 3) := by decide +kernel
theorem d_H_ways_50 : decode c_H_ways 50 = .ok (.iload 5, 2) := by decide +kernel
theorem d_H_ways_52 : decode c_H_ways 52 = .ok (.aaload, 1) := by decide +kernel
theorem d_H_ways_53 : decode c_H_ways 53 = .ok (.iload_n 1, 1) := by decide +kernel
theorem d_H_ways_54 : decode c_H_ways 54 = .ok (.aload_n 0, 1) := by decide +kernel
theorem d_H_ways_55 : decode c_H_ways 55 = .ok (.iload_n 1, 1) := by decide +kernel
theorem d_H_ways_56 : decode c_H_ways 56 = .ok (.iload_n 2, 1) := by decide +kernel
theorem d_H_ways_57 : decode c_H_ways 57 = .ok (.invokevirtual 85, 3) := by decide +kernel
theorem d_H_ways_60 : decode c_H_ways 60 = .ok (.aload_n 0, 1) := by decide +kernel
theorem d_H_ways_61 : decode c_H_ways 61 = .ok (.iload_n 1, 1) := by decide +kernel
theorem d_H_ways_62 : decode c_H_ways 62 = .ok (.iload_n 3, 1) := by decide +kernel
theorem d_H_ways_63 : decode c_H_ways 63 = .ok (.invokevirtual 89, 3) := by decide +kernel
theorem d_H_ways_66 : decode c_H_ways 66 = .ok (.invokevirtual 133, 3) := by decide +kernel
theorem d_H_ways_69 : decode c_H_ways 69 = .ok (.ifCond .eq 24, 3) := by decide +kernel
theorem d_H_ways_72 : decode c_H_ways 72 = .ok (.iload 4, 2) := by decide +kernel
theorem d_H_ways_74 : decode c_H_ways 74 = .ok (.aload_n 0, 1) := by decide +kernel
theorem d_H_ways_75 : decode c_H_ways 75 = .ok (.getfield 36, 3) := by decide +kernel
theorem d_H_ways_78 : decode c_H_ways 78 = .ok (.aload_n 0, 1) := by decide +kernel
theorem d_H_ways_79 : decode c_H_ways 79 = .ok (.getfield 20, 3) := by decide +kernel
theorem d_H_ways_82 : decode c_H_ways 82 = .ok (.iload 5, 2) := by decide +kernel
theorem d_H_ways_84 : decode c_H_ways 84 = .ok (.aaload, 1) := by decide +kernel
theorem d_H_ways_85 : decode c_H_ways 85 = .ok (.bipush 20, 2) := by decide +kernel
theorem d_H_ways_87 : decode c_H_ways 87 = .ok (.invokevirtual 137, 3) := by decide +kernel
theorem d_H_ways_90 : decode c_H_ways 90 = .ok (.iadd, 1) := by decide +kernel
theorem d_H_ways_91 : decode c_H_ways 91 = .ok (.istore 4, 2) := by decide +kernel
theorem d_H_ways_93 : decode c_H_ways 93 = .ok (.iinc 5 1, 3) := by decide +kernel
theorem d_H_ways_96 : decode c_H_ways 96 = .ok (.goto (-63), 3) := by decide +kernel
theorem d_H_ways_99 : decode c_H_ways 99 = .ok (.iload 4, 2) := by decide +kernel
theorem d_H_ways_101 : decode c_H_ways 101 = .ok (.ireturn, 1) := by decide +kernel
theorem d_H_proof_0 : decode c_H_proof 0 = .ok (.aload_n 0, 1) := by decide +kernel
theorem d_H_proof_1 : decode c_H_proof 1 = .ok (.iload_n 1, 1) := by decide +kernel
theorem d_H_proof_2 : decode c_H_proof 2 = .ok (.iload_n 2, 1) := by decide +kernel
theorem d_H_proof_3 : decode c_H_proof 3 = .ok (.iload_n 3, 1) := by decide +kernel
theorem d_H_proof_4 : decode c_H_proof 4 = .ok (.invokevirtual 72, 3) := by decide +kernel
theorem d_H_proof_7 : decode c_H_proof 7 = .ok (.iload 4, 2) := by decide +kernel
theorem d_H_proof_9 : decode c_H_proof 9 = .ok (.ifCond .lt 9, 3) := by decide +kernel
theorem d_H_proof_12 : decode c_H_proof 12 = .ok (.iload 4, 2) := by decide +kernel
theorem d_H_proof_14 : decode c_H_proof 14 = .ok (.iconst 4, 1) := by decide +kernel
theorem d_H_proof_15 : decode c_H_proof 15 = .ok (.if_icmp .le 13, 3) := by decide +kernel
theorem d_H_proof_18 : decode c_H_proof 18 = .ok (.new 60, 3) := by decide +kernel
theorem d_H_proof_21 : decode c_H_proof 21 = .ok (.dup, 1) := by decide +kernel
theorem d_H_proof_22 : decode c_H_proof 22 = .ok (.ldc 141, 2) := by decide +kernel
theorem d_H_proof_24 : decode c_H_proof 24 = .ok (.invokespecial 64, 3) := by decide +kernel
theorem d_H_proof_27 : decode c_H_proof 27 = .ok (.athrow, 1) := by decide +kernel
theorem d_H_proof_28 : decode c_H_proof 28 = .ok (.aload_n 0, 1) := by decide +kernel
theorem d_H_proof_29 : decode c_H_proof 29 = .ok (.invokevirtual 118, 3) := by decide +kernel
theorem d_H_proof_32 : decode c_H_proof 32 = .ok (.aload_n 0, 1) := by decide +kernel
theorem d_H_proof_33 : decode c_H_proof 33 = .ok (.invokevirtual 121, 3) := by decide +kernel
theorem d_H_proof_36 : decode c_H_proof 36 = .ok (.aload_n 0, 1) := by decide +kernel
theorem d_H_proof_37 : decode c_H_proof 37 = .ok (.iload_n 1, 1) := by decide +kernel
theorem d_H_proof_38 : decode c_H_proof 38 = .ok (.iload_n 2, 1) := by decide +kernel
theorem d_H_proof_39 : decode c_H_proof 39 = .ok (.invokevirtual 85, 3) := by decide +kernel
theorem d_H_proof_42 : decode c_H_proof 42 = .ok (.istore 5, 2) := by decide +kernel
theorem d_H_proof_44 : decode c_H_proof 44 = .ok (.aload_n 0, 1) := by decide +kernel
theorem d_H_proof_45 : decode c_H_proof 45 = .ok (.iload_n 1, 1) := by decide +kernel
theorem d_H_proof_46 : decode c_H_proof 46 = .ok (.iload_n 3, 1) := by decide +kernel
theorem d_H_proof_47 : decode c_H_proof 47 = .ok (.invokevirtual 89, 3) := by decide +kernel
theorem d_H_proof_50 : decode c_H_proof 50 = .ok (.istore 6, 2) := by decide +kernel
theorem d_H_proof_52 : decode c_H_proof 52 = .ok (.aload_n 0, 1) := by decide +kernel
theorem d_H_proof_53 : decode c_H_proof 53 = .ok (.getfield 27, 3) := by decide +kernel
theorem d_H_proof_56 : decode c_H_proof 56 = .ok (.iload_n 1, 1) := by decide +kernel
theorem d_H_proof_57 : decode c_H_proof 57 = .ok (.iload 5, 2) := by decide +kernel
theorem d_H_proof_59 : decode c_H_proof 59 = .ok (.iload 6, 2) := by decide +kernel
theorem d_H_proof_61 : decode c_H_proof 61 = .ok (.invokestatic 124, 3) := by decide +kernel
theorem d_H_proof_64 : decode c_H_proof 64 = .ok (.iaload, 1) := by decide +kernel
theorem d_H_proof_65 : decode c_H_proof 65 = .ok (.istore 7, 2) := by decide +kernel
theorem d_H_proof_67 : decode c_H_proof 67 = .ok (.iload 7, 2) := by decide +kernel
theorem d_H_proof_69 : decode c_H_proof 69 = .ok (.iconst (-1), 1) := by decide +kernel
theorem d_H_proof_70 : decode c_H_proof 70 = .ok (.if_icmp .eq 8, 3) := by decide +kernel
theorem d_H_proof_73 : decode c_H_proof 73 = .ok (.iload 7, 2) := by decide +kernel
theorem d_H_proof_75 : decode c_H_proof 75 = .ok (.ifCond .ne 13, 3) := by decide +kernel
theorem d_H_proof_78 : decode c_H_proof 78 = .ok (.new 143, 3) := by decide +kernel
theorem d_H_proof_81 : decode c_H_proof 81 = .ok (.dup, 1) := by decide +kernel
theorem d_H_proof_82 : decode c_H_proof 82 = .ok (.ldc 145, 2) := by decide +kernel
theorem d_H_proof_84 : decode c_H_proof 84 = .ok (.invokespecial 147, 3) := by decide +kernel
theorem d_H_proof_87 : decode c_H_proof 87 = .ok (.athrow, 1) := by decide +kernel
theorem d_H_proof_88 : decode c_H_proof 88 = .ok (.aload_n 0, 1) := by decide +kernel
theorem d_H_proof_89 : decode c_H_proof 89 = .ok (.aload_n 0, 1) := by decide +kernel
theorem d_H_proof_90 : decode c_H_proof 90 = .ok (.getfield 24, 3) := by decide +kernel
theorem d_H_proof_93 : decode c_H_proof 93 = .ok (.iload_n 1, 1) := by decide +kernel
theorem d_H_proof_94 : decode c_H_proof 94 = .ok (.iaload, 1) := by decide +kernel
theorem d_H_proof_95 : decode c_H_proof 95 = .ok (.iload 7, 2) := by decide +kernel
theorem d_H_proof_97 : decode c_H_proof 97 = .ok (.invokevirtual 129, 3) := by decide +kernel
theorem d_H_proof_100 : decode c_H_proof 100 = .ok (.aload_n 0, 1) := by decide +kernel
theorem d_H_proof_101 : decode c_H_proof 101 = .ok (.iload_n 1, 1) := by decide +kernel
theorem d_H_proof_102 : decode c_H_proof 102 = .ok (.iload 5, 2) := by decide +kernel
theorem d_H_proof_104 : decode c_H_proof 104 = .ok (.iload 6, 2) := by decide +kernel
theorem d_H_proof_106 : decode c_H_proof 106 = .ok (.invokevirtual 148, 3) := by decide +kernel
theorem d_H_proof_109 : decode c_H_proof 109 = .ok (.istore 8, 2) := by decide +kernel
theorem d_H_proof_111 : decode c_H_proof 111 = .ok (.iload 4, 2) := by decide +kernel
theorem d_H_proof_113 : decode c_H_proof 113 = .ok (.ifCond .ne 8, 3) := by decide +kernel
theorem d_H_proof_116 : decode c_H_proof 116 = .ok (.iload 8, 2) := by decide +kernel
theorem d_H_proof_118 : decode c_H_proof 118 = .ok (.goto 18, 3) := by decide +kernel
theorem d_H_proof_121 : decode c_H_proof 121 = .ok (.aload_n 0, 1) := by decide +kernel
theorem d_H_proof_122 : decode c_H_proof 122 = .ok (.getfield 36, 3) := by decide +kernel
theorem d_H_proof_125 : decode c_H_proof 125 = .ok (.getfield 151, 3) := by decide +kernel
theorem d_H_proof_128 : decode c_H_proof 128 = .ok (.bipush 20, 2) := by decide +kernel
theorem d_H_proof_130 : decode c_H_proof 130 = .ok (.iload 4, 2) := by decide +kernel
theorem d_H_proof_132 : decode c_H_proof 132 = .ok (.iadd, 1) := by decide +kernel
theorem d_H_proof_133 : decode c_H_proof 133 = .ok (.iconst 1, 1) := by decide +kernel
theorem d_H_proof_134 : decode c_H_proof 134 = .ok (.isub, 1) := by decide +kernel
theorem d_H_proof_135 : decode c_H_proof 135 = .ok (.iaload, 1) := by decide +kernel
theorem d_H_proof_136 : decode c_H_proof 136 = .ok (.ireturn, 1) := by decide +kernel
theorem d_H_checkRelation_0 : decode c_H_checkRelation 0 = .ok (.iload_n 1, 1) := by decide +kernel
theorem d_H_checkRelation_1 : decode c_H_checkRelation 1 = .ok (.ifCond .lt 11, 3) := by decide +kernel
theorem d_H_checkRelation_4 : decode c_H_checkRelation 4 = .ok (.iload_n 1, 1) := by decide +kernel
theorem d_H_checkRelation_5 : decode c_H_checkRelation 5 = .ok (.aload_n 0, 1) := by decide +kernel
theorem d_H_checkRelation_6 : decode c_H_checkRelation 6 = .ok (.getfield 51, 3) := by decide +kernel
theorem d_H_checkRelation_9 : decode c_H_checkRelation 9 = .ok (.if_icmp .lt 13, 3) := by decide +kernel
theorem d_H_checkRelation_12 : decode c_H_checkRelation 12 = .ok (.new 60, 3) := by decide +kernel
theorem d_H_checkRelation_15 : decode c_H_checkRelation 15 = .ok (.dup, 1) := by decide +kernel
theorem d_H_checkRelation_16 : decode c_H_checkRelation 16 = .ok (.ldc 154, 2) := by decide +kernel
theorem d_H_checkRelation_18 : decode c_H_checkRelation 18 = .ok (.invokespecial 64, 3) := by decide +kernel
theorem d_H_checkRelation_21 : decode c_H_checkRelation 21 = .ok (.athrow, 1) := by decide +kernel
theorem d_H_checkRelation_22 : decode c_H_checkRelation 22 = .ok (.return_, 1) := by decide +kernel
theorem d_H_checkFact_0 : decode c_H_checkFact 0 = .ok (.aload_n 0, 1) := by decide +kernel
theorem d_H_checkFact_1 : decode c_H_checkFact 1 = .ok (.iload_n 1, 1) := by decide +kernel
theorem d_H_checkFact_2 : decode c_H_checkFact 2 = .ok (.invokevirtual 114, 3) := by decide +kernel
theorem d_H_checkFact_5 : decode c_H_checkFact 5 = .ok (.aload_n 0, 1) := by decide +kernel
theorem d_H_checkFact_6 : decode c_H_checkFact 6 = .ok (.iload_n 1, 1) := by decide +kernel
theorem d_H_checkFact_7 : decode c_H_checkFact 7 = .ok (.iload_n 2, 1) := by decide +kernel
theorem d_H_checkFact_8 : decode c_H_checkFact 8 = .ok (.invokevirtual 85, 3) := by decide +kernel
theorem d_H_checkFact_11 : decode c_H_checkFact 11 = .ok (.invokestatic 156, 3) := by decide +kernel
theorem d_H_checkFact_14 : decode c_H_checkFact 14 = .ok (.ifCond .eq 15, 3) := by decide +kernel
theorem d_H_checkFact_17 : decode c_H_checkFact 17 = .ok (.aload_n 0, 1) := by decide +kernel
theorem d_H_checkFact_18 : decode c_H_checkFact 18 = .ok (.iload_n 1, 1) := by decide +kernel
theorem d_H_checkFact_19 : decode c_H_checkFact 19 = .ok (.iload_n 3, 1) := by decide +kernel
theorem d_H_checkFact_20 : decode c_H_checkFact 20 = .ok (.invokevirtual 89, 3) := by decide +kernel
theorem d_H_checkFact_23 : decode c_H_checkFact 23 = .ok (.invokestatic 156, 3) := by decide +kernel
theorem d_H_checkFact_26 : decode c_H_checkFact 26 = .ok (.ifCond .ne 13, 3) := by decide +kernel
theorem d_H_checkFact_29 : decode c_H_checkFact 29 = .ok (.new 60, 3) := by decide +kernel
theorem d_H_checkFact_32 : decode c_H_checkFact 32 = .ok (.dup, 1) := by decide +kernel
theorem d_H_checkFact_33 : decode c_H_checkFact 33 = .ok (.ldc 160, 2) := by decide +kernel
theorem d_H_checkFact_35 : decode c_H_checkFact 35 = .ok (.invokespecial 64, 3) := by decide +kernel
theorem d_H_checkFact_38 : decode c_H_checkFact 38 = .ok (.athrow, 1) := by decide +kernel
theorem d_H_checkFact_39 : decode c_H_checkFact 39 = .ok (.return_, 1) := by decide +kernel
theorem d_H_checkTerms_0 : decode c_H_checkTerms 0 = .ok (.aload_n 0, 1) := by decide +kernel
theorem d_H_checkTerms_1 : decode c_H_checkTerms 1 = .ok (.iload_n 1, 1) := by decide +kernel
theorem d_H_checkTerms_2 : decode c_H_checkTerms 2 = .ok (.invokevirtual 114, 3) := by decide +kernel
theorem d_H_checkTerms_5 : decode c_H_checkTerms 5 = .ok (.aload_n 0, 1) := by decide +kernel
theorem d_H_checkTerms_6 : decode c_H_checkTerms 6 = .ok (.iload_n 1, 1) := by decide +kernel
theorem d_H_checkTerms_7 : decode c_H_checkTerms 7 = .ok (.iload_n 2, 1) := by decide +kernel
theorem d_H_checkTerms_8 : decode c_H_checkTerms 8 = .ok (.invokevirtual 85, 3) := by decide +kernel
theorem d_H_checkTerms_11 : decode c_H_checkTerms 11 = .ok (.invokestatic 162, 3) := by decide +kernel
theorem d_H_checkTerms_14 : decode c_H_checkTerms 14 = .ok (.ifCond .eq 15, 3) := by decide +kernel
theorem d_H_checkTerms_17 : decode c_H_checkTerms 17 = .ok (.aload_n 0, 1) := by decide +kernel
theorem d_H_checkTerms_18 : decode c_H_checkTerms 18 = .ok (.iload_n 1, 1) := by decide +kernel
theorem d_H_checkTerms_19 : decode c_H_checkTerms 19 = .ok (.iload_n 3, 1) := by decide +kernel
theorem d_H_checkTerms_20 : decode c_H_checkTerms 20 = .ok (.invokevirtual 89, 3) := by decide +kernel
theorem d_H_checkTerms_23 : decode c_H_checkTerms 23 = .ok (.invokestatic 162, 3) := by decide +kernel
theorem d_H_checkTerms_26 : decode c_H_checkTerms 26 = .ok (.ifCond .ne 13, 3) := by decide +kernel
theorem d_H_checkTerms_29 : decode c_H_checkTerms 29 = .ok (.new 60, 3) := by decide +kernel
theorem d_H_checkTerms_32 : decode c_H_checkTerms 32 = .ok (.dup, 1) := by decide +kernel
theorem d_H_checkTerms_33 : decode c_H_checkTerms 33 = .ok (.ldc 165, 2) := by decide +kernel
theorem d_H_checkTerms_35 : decode c_H_checkTerms 35 = .ok (.invokespecial 64, 3) := by decide +kernel
theorem d_H_checkTerms_38 : decode c_H_checkTerms 38 = .ok (.athrow, 1) := by decide +kernel
theorem d_H_checkTerms_39 : decode c_H_checkTerms 39 = .ok (.return_, 1) := by decide +kernel
theorem d_H_checkSomeRule_0 : decode c_H_checkSomeRule 0 = .ok (.aload_n 0, 1) := by decide +kernel
theorem d_H_checkSomeRule_1 : decode c_H_checkSomeRule 1 = .ok (.getfield 54, 3) := by decide +kernel
theorem d_H_checkSomeRule_4 : decode c_H_checkSomeRule 4 = .ok (.ifCond .ne 13, 3) := by decide +kernel
theorem d_H_checkSomeRule_7 : decode c_H_checkSomeRule 7 = .ok (.new 167, 3) := by decide +kernel
theorem d_H_checkSomeRule_10 : decode c_H_checkSomeRule 10 = .ok (.dup, 1) := by decide +kernel
theorem d_H_checkSomeRule_11 : decode c_H_checkSomeRule 11 = .ok (.ldc 169, 2) := by decide +kernel
theorem d_H_checkSomeRule_13 : decode c_H_checkSomeRule 13 = .ok (.invokespecial 171, 3) := by decide +kernel
theorem d_H_checkSomeRule_16 : decode c_H_checkSomeRule 16 = .ok (.athrow, 1) := by decide +kernel
theorem d_H_checkSomeRule_17 : decode c_H_checkSomeRule 17 = .ok (.return_, 1) := by decide +kernel
theorem d_H_checkNoFault_0 : decode c_H_checkNoFault 0 = .ok (.aload_n 0, 1) := by decide +kernel
theorem d_H_checkNoFault_1 : decode c_H_checkNoFault 1 = .ok (.invokevirtual 111, 3) := by decide +kernel
theorem d_H_checkNoFault_4 : decode c_H_checkNoFault 4 = .ok (.aload_n 0, 1) := by decide +kernel
theorem d_H_checkNoFault_5 : decode c_H_checkNoFault 5 = .ok (.getfield 40, 3) := by decide +kernel
theorem d_H_checkNoFault_8 : decode c_H_checkNoFault 8 = .ok (.iconst (-1), 1) := by decide +kernel
theorem d_H_checkNoFault_9 : decode c_H_checkNoFault 9 = .ok (.if_icmp .eq 13, 3) := by decide +kernel
theorem d_H_checkNoFault_12 : decode c_H_checkNoFault 12 = .ok (.new 167, 3) := by decide +kernel
theorem d_H_checkNoFault_15 : decode c_H_checkNoFault 15 = .ok (.dup, 1) := by decide +kernel
theorem d_H_checkNoFault_16 : decode c_H_checkNoFault 16 = .ok (.ldc 172, 2) := by decide +kernel
theorem d_H_checkNoFault_18 : decode c_H_checkNoFault 18 = .ok (.invokespecial 171, 3) := by decide +kernel
theorem d_H_checkNoFault_21 : decode c_H_checkNoFault 21 = .ok (.athrow, 1) := by decide +kernel
theorem d_H_checkNoFault_22 : decode c_H_checkNoFault 22 = .ok (.return_, 1) := by decide +kernel
theorem d_H_isConstant_0 : decode c_H_isConstant 0 = .ok (.iload_n 0, 1) := by decide +kernel
theorem d_H_isConstant_1 : decode c_H_isConstant 1 = .ok (.ifCond .lt 13, 3) := by decide +kernel
theorem d_H_isConstant_4 : decode c_H_isConstant 4 = .ok (.iload_n 0, 1) := by decide +kernel
theorem d_H_isConstant_5 : decode c_H_isConstant 5 = .ok (.bipush 12, 2) := by decide +kernel
theorem d_H_isConstant_7 : decode c_H_isConstant 7 = .ok (.if_icmp .ge 7, 3) := by decide +kernel
theorem d_H_isConstant_10 : decode c_H_isConstant 10 = .ok (.iconst 1, 1) := by decide +kernel
theorem d_H_isConstant_11 : decode c_H_isConstant 11 = .ok (.goto 4, 3) := by decide +kernel
theorem d_H_isConstant_14 : decode c_H_isConstant 14 = .ok (.iconst 0, 1) := by decide +kernel
theorem d_H_isConstant_15 : decode c_H_isConstant 15 = .ok (.ireturn, 1) := by decide +kernel
theorem d_H_isTerm_0 : decode c_H_isTerm 0 = .ok (.iload_n 0, 1) := by decide +kernel
theorem d_H_isTerm_1 : decode c_H_isTerm 1 = .ok (.invokestatic 156, 3) := by decide +kernel
theorem d_H_isTerm_4 : decode c_H_isTerm 4 = .ok (.ifCond .ne 15, 3) := by decide +kernel
theorem d_H_isTerm_7 : decode c_H_isTerm 7 = .ok (.iload_n 0, 1) := by decide +kernel
theorem d_H_isTerm_8 : decode c_H_isTerm 8 = .ok (.bipush 20, 2) := by decide +kernel
theorem d_H_isTerm_10 : decode c_H_isTerm 10 = .ok (.if_icmp .lt 13, 3) := by decide +kernel
theorem d_H_isTerm_13 : decode c_H_isTerm 13 = .ok (.iload_n 0, 1) := by decide +kernel
theorem d_H_isTerm_14 : decode c_H_isTerm 14 = .ok (.bipush 24, 2) := by decide +kernel
theorem d_H_isTerm_16 : decode c_H_isTerm 16 = .ok (.if_icmp .ge 7, 3) := by decide +kernel
theorem d_H_isTerm_19 : decode c_H_isTerm 19 = .ok (.iconst 1, 1) := by decide +kernel
theorem d_H_isTerm_20 : decode c_H_isTerm 20 = .ok (.goto 4, 3) := by decide +kernel
theorem d_H_isTerm_23 : decode c_H_isTerm 23 = .ok (.iconst 0, 1) := by decide +kernel
theorem d_H_isTerm_24 : decode c_H_isTerm 24 = .ok (.ireturn, 1) := by decide +kernel
theorem d_H_firstOf_0 : decode c_H_firstOf 0 = .ok (.aload_n 0, 1) := by decide +kernel
theorem d_H_firstOf_1 : decode c_H_firstOf 1 = .ok (.getfield 11, 3) := by decide +kernel
theorem d_H_firstOf_4 : decode c_H_firstOf 4 = .ok (.iload_n 1, 1) := by decide +kernel
theorem d_H_firstOf_5 : decode c_H_firstOf 5 = .ok (.iaload, 1) := by decide +kernel
theorem d_H_firstOf_6 : decode c_H_firstOf 6 = .ok (.iconst 1, 1) := by decide +kernel
theorem d_H_firstOf_7 : decode c_H_firstOf 7 = .ok (.if_icmp .lt 7, 3) := by decide +kernel
theorem d_H_firstOf_10 : decode c_H_firstOf 10 = .ok (.iload_n 2, 1) := by decide +kernel
theorem d_H_firstOf_11 : decode c_H_firstOf 11 = .ok (.goto 4, 3) := by decide +kernel
theorem d_H_firstOf_14 : decode c_H_firstOf 14 = .ok (.iconst 0, 1) := by decide +kernel
theorem d_H_firstOf_15 : decode c_H_firstOf 15 = .ok (.ireturn, 1) := by decide +kernel
theorem d_H_secondOf_0 : decode c_H_secondOf 0 = .ok (.aload_n 0, 1) := by decide +kernel
theorem d_H_secondOf_1 : decode c_H_secondOf 1 = .ok (.getfield 11, 3) := by decide +kernel
theorem d_H_secondOf_4 : decode c_H_secondOf 4 = .ok (.iload_n 1, 1) := by decide +kernel
theorem d_H_secondOf_5 : decode c_H_secondOf 5 = .ok (.iaload, 1) := by decide +kernel
theorem d_H_secondOf_6 : decode c_H_secondOf 6 = .ok (.iconst 2, 1) := by decide +kernel
theorem d_H_secondOf_7 : decode c_H_secondOf 7 = .ok (.if_icmp .lt 7, 3) := by decide +kernel
theorem d_H_secondOf_10 : decode c_H_secondOf 10 = .ok (.iload_n 2, 1) := by decide +kernel
theorem d_H_secondOf_11 : decode c_H_secondOf 11 = .ok (.goto 4, 3) := by decide +kernel
theorem d_H_secondOf_14 : decode c_H_secondOf 14 = .ok (.iconst 0, 1) := by decide +kernel
theorem d_H_secondOf_15 : decode c_H_secondOf 15 = .ok (.ireturn, 1) := by decide +kernel
theorem d_H_rowAt_0 : decode c_H_rowAt 0 = .ok (.iload_n 0, 1) := by decide +kernel
theorem d_H_rowAt_1 : decode c_H_rowAt 1 = .ok (.bipush 12, 2) := by decide +kernel
theorem d_H_rowAt_3 : decode c_H_rowAt 3 = .ok (.imul, 1) := by decide +kernel
theorem d_H_rowAt_4 : decode c_H_rowAt 4 = .ok (.iload_n 1, 1) := by decide +kernel
theorem d_H_rowAt_5 : decode c_H_rowAt 5 = .ok (.iadd, 1) := by decide +kernel
theorem d_H_rowAt_6 : decode c_H_rowAt 6 = .ok (.ireturn, 1) := by decide +kernel
theorem d_H_factAt_0 : decode c_H_factAt 0 = .ok (.iload_n 0, 1) := by decide +kernel
theorem d_H_factAt_1 : decode c_H_factAt 1 = .ok (.iload_n 1, 1) := by decide +kernel
theorem d_H_factAt_2 : decode c_H_factAt 2 = .ok (.invokestatic 174, 3) := by decide +kernel
theorem d_H_factAt_5 : decode c_H_factAt 5 = .ok (.bipush 12, 2) := by decide +kernel
theorem d_H_factAt_7 : decode c_H_factAt 7 = .ok (.imul, 1) := by decide +kernel
theorem d_H_factAt_8 : decode c_H_factAt 8 = .ok (.iload_n 2, 1) := by decide +kernel
theorem d_H_factAt_9 : decode c_H_factAt 9 = .ok (.iadd, 1) := by decide +kernel
theorem d_H_factAt_10 : decode c_H_factAt 10 = .ok (.ireturn, 1) := by decide +kernel
theorem d_H_hasBit_0 : decode c_H_hasBit 0 = .ok (.iload_n 0, 1) := by decide +kernel
theorem d_H_hasBit_1 : decode c_H_hasBit 1 = .ok (.iload_n 1, 1) := by decide +kernel
theorem d_H_hasBit_2 : decode c_H_hasBit 2 = .ok (.ishr, 1) := by decide +kernel
theorem d_H_hasBit_3 : decode c_H_hasBit 3 = .ok (.iconst 1, 1) := by decide +kernel
theorem d_H_hasBit_4 : decode c_H_hasBit 4 = .ok (.iand, 1) := by decide +kernel
theorem d_H_hasBit_5 : decode c_H_hasBit 5 = .ok (.ifCond .eq 7, 3) := by decide +kernel
theorem d_H_hasBit_8 : decode c_H_hasBit 8 = .ok (.iconst 1, 1) := by decide +kernel
theorem d_H_hasBit_9 : decode c_H_hasBit 9 = .ok (.goto 4, 3) := by decide +kernel
theorem d_H_hasBit_12 : decode c_H_hasBit 12 = .ok (.iconst 0, 1) := by decide +kernel
theorem d_H_hasBit_13 : decode c_H_hasBit 13 = .ok (.ireturn, 1) := by decide +kernel
theorem d_H_rulesChanged_0 : decode c_H_rulesChanged 0 = .ok (.aload_n 0, 1) := by decide +kernel
theorem d_H_rulesChanged_1 : decode c_H_rulesChanged 1 = .ok (.iconst 0, 1) := by decide +kernel
theorem d_H_rulesChanged_2 : decode c_H_rulesChanged 2 = .ok (.putfield 177, 3) := by decide +kernel
theorem d_H_rulesChanged_5 : decode c_H_rulesChanged 5 = .ok (.aload_n 0, 1) := by decide +kernel
theorem d_H_rulesChanged_6 : decode c_H_rulesChanged 6 = .ok (.iconst 0, 1) := by decide +kernel
theorem d_H_rulesChanged_7 : decode c_H_rulesChanged 7 = .ok (.putfield 181, 3) := by decide +kernel
theorem d_H_rulesChanged_10 : decode c_H_rulesChanged 10 = .ok (.return_, 1) := by decide +kernel
theorem d_H_setGiven_0 : decode c_H_setGiven 0 = .ok (.iload_n 1, 1) := by decide +kernel
theorem d_H_setGiven_1 : decode c_H_setGiven 1 = .ok (.aload_n 0, 1) := by decide +kernel
theorem d_H_setGiven_2 : decode c_H_setGiven 2 = .ok (.iload_n 1, 1) := by decide +kernel
theorem d_H_setGiven_3 : decode c_H_setGiven 3 = .ok (.iload_n 2, 1) := by decide +kernel
theorem d_H_setGiven_4 : decode c_H_setGiven 4 = .ok (.invokevirtual 85, 3) := by decide +kernel
theorem d_H_setGiven_7 : decode c_H_setGiven 7 = .ok (.invokestatic 174, 3) := by decide +kernel
theorem d_H_setGiven_10 : decode c_H_setGiven 10 = .ok (.istore 5, 2) := by decide +kernel
theorem d_H_setGiven_12 : decode c_H_setGiven 12 = .ok (.aload_n 0, 1) := by decide +kernel
theorem d_H_setGiven_13 : decode c_H_setGiven 13 = .ok (.iload_n 1, 1) := by decide +kernel
theorem d_H_setGiven_14 : decode c_H_setGiven 14 = .ok (.iload_n 3, 1) := by decide +kernel
theorem d_H_setGiven_15 : decode c_H_setGiven 15 = .ok (.invokevirtual 89, 3) := by decide +kernel
theorem d_H_setGiven_18 : decode c_H_setGiven 18 = .ok (.istore 6, 2) := by decide +kernel
theorem d_H_setGiven_20 : decode c_H_setGiven 20 = .ok (.aload_n 0, 1) := by decide +kernel
theorem d_H_setGiven_21 : decode c_H_setGiven 21 = .ok (.getfield 15, 3) := by decide +kernel
theorem d_H_setGiven_24 : decode c_H_setGiven 24 = .ok (.iload 5, 2) := by decide +kernel
theorem d_H_setGiven_26 : decode c_H_setGiven 26 = .ok (.iaload, 1) := by decide +kernel
theorem d_H_setGiven_27 : decode c_H_setGiven 27 = .ok (.iload 6, 2) := by decide +kernel
theorem d_H_setGiven_29 : decode c_H_setGiven 29 = .ok (.invokestatic 184, 3) := by decide +kernel
theorem d_H_setGiven_32 : decode c_H_setGiven 32 = .ok (.iload 4, 2) := by decide +kernel
theorem d_H_setGiven_34 : decode c_H_setGiven 34 = .ok (.if_icmp .ne 5, 3) := by decide +kernel
theorem d_H_setGiven_37 : decode c_H_setGiven 37 = .ok (.iconst 0, 1) := by decide +kernel
theorem d_H_setGiven_38 : decode c_H_setGiven 38 = .ok (.ireturn, 1) := by decide +kernel
theorem d_H_setGiven_39 : decode c_H_setGiven 39 = .ok (.aload_n 0, 1) := by decide +kernel
theorem d_H_setGiven_40 : decode c_H_setGiven 40 = .ok (.getfield 15, 3) := by decide +kernel
theorem d_H_setGiven_43 : decode c_H_setGiven 43 = .ok (.iload 5, 2) := by decide +kernel
theorem d_H_setGiven_45 : decode c_H_setGiven 45 = .ok (.dup2, 1) := by decide +kernel
theorem d_H_setGiven_46 : decode c_H_setGiven 46 = .ok (.iaload, 1) := by decide +kernel
theorem d_H_setGiven_47 : decode c_H_setGiven 47 = .ok (.iconst 1, 1) := by decide +kernel
theorem d_H_setGiven_48 : decode c_H_setGiven 48 = .ok (.iload 6, 2) := by decide +kernel
theorem d_H_setGiven_50 : decode c_H_setGiven 50 = .ok (.ishl, 1) := by decide +kernel
theorem d_H_setGiven_51 : decode c_H_setGiven 51 = .ok (.ixor, 1) := by decide +kernel
theorem d_H_setGiven_52 : decode c_H_setGiven 52 = .ok (.iastore, 1) := by decide +kernel
theorem d_H_setGiven_53 : decode c_H_setGiven 53 = .ok (.aload_n 0, 1) := by decide +kernel
theorem d_H_setGiven_54 : decode c_H_setGiven 54 = .ok (.iconst 0, 1) := by decide +kernel
end
section
theorem d_H_setGiven_55 : decode c_H_setGiven 55 = .ok (.putfield 181, 3) := by decide +kernel
theorem d_H_setGiven_58 : decode c_H_setGiven 58 = .ok (.iconst 1, 1) := by decide +kernel
theorem d_H_setGiven_59 : decode c_H_setGiven 59 = .ok (.ireturn, 1) := by decide +kernel
theorem d_H_judge_0 : decode c_H_judge 0 = .ok (.aload_n 0, 1) := by decide +kernel
theorem d_H_judge_1 : decode c_H_judge 1 = .ok (.getfield 177, 3) := by decide +kernel
theorem d_H_judge_4 : decode c_H_judge 4 = .ok (.ifCond .eq 4, 3) := by decide +kernel
theorem d_H_judge_7 : decode c_H_judge 7 = .ok (.return_, 1) := by decide +kernel
theorem d_H_judge_8 : decode c_H_judge 8 = .ok (.aload_n 0, 1) := by decide +kernel
theorem d_H_judge_9 : decode c_H_judge 9 = .ok (.aload_n 0, 1) := by decide +kernel
theorem d_H_judge_10 : decode c_H_judge 10 = .ok (.invokevirtual 188, 3) := by decide +kernel
theorem d_H_judge_13 : decode c_H_judge 13 = .ok (.putfield 40, 3) := by decide +kernel
theorem d_H_judge_16 : decode c_H_judge 16 = .ok (.aload_n 0, 1) := by decide +kernel
theorem d_H_judge_17 : decode c_H_judge 17 = .ok (.getfield 40, 3) := by decide +kernel
theorem d_H_judge_20 : decode c_H_judge 20 = .ok (.iconst (-1), 1) := by decide +kernel
theorem d_H_judge_21 : decode c_H_judge 21 = .ok (.if_icmp .ne 16, 3) := by decide +kernel
theorem d_H_judge_24 : decode c_H_judge 24 = .ok (.aload_n 0, 1) := by decide +kernel
theorem d_H_judge_25 : decode c_H_judge 25 = .ok (.invokevirtual 192, 3) := by decide +kernel
theorem d_H_judge_28 : decode c_H_judge 28 = .ok (.ifCond .ne 9, 3) := by decide +kernel
theorem d_H_judge_31 : decode c_H_judge 31 = .ok (.aload_n 0, 1) := by decide +kernel
theorem d_H_judge_32 : decode c_H_judge 32 = .ok (.bipush 100, 2) := by decide +kernel
theorem d_H_judge_34 : decode c_H_judge 34 = .ok (.putfield 40, 3) := by decide +kernel
theorem d_H_judge_37 : decode c_H_judge 37 = .ok (.aload_n 0, 1) := by decide +kernel
theorem d_H_judge_38 : decode c_H_judge 38 = .ok (.iconst 1, 1) := by decide +kernel
theorem d_H_judge_39 : decode c_H_judge 39 = .ok (.putfield 177, 3) := by decide +kernel
theorem d_H_judge_42 : decode c_H_judge 42 = .ok (.return_, 1) := by decide +kernel
theorem d_H_firstUnsafe_0 : decode c_H_firstUnsafe 0 = .ok (.iconst 0, 1) := by decide +kernel
theorem d_H_firstUnsafe_1 : decode c_H_firstUnsafe 1 = .ok (.istore_n 1, 1) := by decide +kernel
theorem d_H_firstUnsafe_2 : decode c_H_firstUnsafe 2 = .ok (.iload_n 1, 1) := by decide +kernel
theorem d_H_firstUnsafe_3 : decode c_H_firstUnsafe 3 = .ok (.aload_n 0, 1) := by decide +kernel
theorem d_H_firstUnsafe_4 : decode c_H_firstUnsafe 4 = .ok (.getfield 54, 3) := by decide +kernel
theorem d_H_firstUnsafe_7 : decode c_H_firstUnsafe 7 = .ok (.if_icmp .ge 23, 3) := by decide +kernel
theorem d_H_firstUnsafe_10 : decode c_H_firstUnsafe 10 = .ok (.aload_n 0, 1) := by decide +kernel
theorem d_H_firstUnsafe_11 : decode c_H_firstUnsafe 11 = .ok (.getfield 20, 3) := by decide +kernel
theorem d_H_firstUnsafe_14 : decode c_H_firstUnsafe 14 = .ok (.iload_n 1, 1) := by decide +kernel
theorem d_H_firstUnsafe_15 : decode c_H_firstUnsafe 15 = .ok (.aaload, 1) := by decide +kernel
theorem d_H_firstUnsafe_16 : decode c_H_firstUnsafe 16 = .ok (.invokevirtual 195, 3) := by decide +kernel
theorem d_H_firstUnsafe_19 : decode c_H_firstUnsafe 19 = .ok (.ifCond .ne 5, 3) := by decide +kernel
theorem d_H_firstUnsafe_22 : decode c_H_firstUnsafe 22 = .ok (.iload_n 1, 1) := by decide +kernel
theorem d_H_firstUnsafe_23 : decode c_H_firstUnsafe 23 = .ok (.ireturn, 1) := by decide +kernel
theorem d_H_firstUnsafe_24 : decode c_H_firstUnsafe 24 = .ok (.iinc 1 1, 3) := by decide +kernel
theorem d_H_firstUnsafe_27 : decode c_H_firstUnsafe 27 = .ok (.goto (-25), 3) := by decide +kernel
theorem d_H_firstUnsafe_30 : decode c_H_firstUnsafe 30 = .ok (.iconst (-1), 1) := by decide +kernel
theorem d_H_firstUnsafe_31 : decode c_H_firstUnsafe 31 = .ok (.ireturn, 1) := by decide +kernel
theorem d_H_findLayers_0 : decode c_H_findLayers 0 = .ok (.aload_n 0, 1) := by decide +kernel
theorem d_H_findLayers_1 : decode c_H_findLayers 1 = .ok (.getfield 24, 3) := by decide +kernel
theorem d_H_findLayers_4 : decode c_H_findLayers 4 = .ok (.iconst 0, 1) := by decide +kernel
theorem d_H_findLayers_5 : decode c_H_findLayers 5 = .ok (.invokestatic 45, 3) := by decide +kernel
theorem d_H_findLayers_8 : decode c_H_findLayers 8 = .ok (.iconst 0, 1) := by decide +kernel
theorem d_H_findLayers_9 : decode c_H_findLayers 9 = .ok (.istore_n 1, 1) := by decide +kernel
theorem d_H_findLayers_10 : decode c_H_findLayers 10 = .ok (.iload_n 1, 1) := by decide +kernel
theorem d_H_findLayers_11 : decode c_H_findLayers 11 = .ok (.bipush 8, 2) := by decide +kernel
theorem d_H_findLayers_13 : decode c_H_findLayers 13 = .ok (.if_icmp .ge 18, 3) := by decide +kernel
theorem d_H_findLayers_16 : decode c_H_findLayers 16 = .ok (.aload_n 0, 1) := by decide +kernel
theorem d_H_findLayers_17 : decode c_H_findLayers 17 = .ok (.invokevirtual 198, 3) := by decide +kernel
theorem d_H_findLayers_20 : decode c_H_findLayers 20 = .ok (.ifCond .ne 5, 3) := by decide +kernel
theorem d_H_findLayers_23 : decode c_H_findLayers 23 = .ok (.iconst 1, 1) := by decide +kernel
theorem d_H_findLayers_24 : decode c_H_findLayers 24 = .ok (.ireturn, 1) := by decide +kernel
theorem d_H_findLayers_25 : decode c_H_findLayers 25 = .ok (.iinc 1 1, 3) := by decide +kernel
theorem d_H_findLayers_28 : decode c_H_findLayers 28 = .ok (.goto (-18), 3) := by decide +kernel
theorem d_H_findLayers_31 : decode c_H_findLayers 31 = .ok (.iconst 0, 1) := by decide +kernel
theorem d_H_findLayers_32 : decode c_H_findLayers 32 = .ok (.ireturn, 1) := by decide +kernel
theorem d_H_raiseLayers_0 : decode c_H_raiseLayers 0 = .ok (.iconst 0, 1) := by decide +kernel
theorem d_H_raiseLayers_1 : decode c_H_raiseLayers 1 = .ok (.istore_n 1, 1) := by decide +kernel
theorem d_H_raiseLayers_2 : decode c_H_raiseLayers 2 = .ok (.iconst 0, 1) := by decide +kernel
theorem d_H_raiseLayers_3 : decode c_H_raiseLayers 3 = .ok (.istore_n 2, 1) := by decide +kernel
theorem d_H_raiseLayers_4 : decode c_H_raiseLayers 4 = .ok (.iload_n 2, 1) := by decide +kernel
theorem d_H_raiseLayers_5 : decode c_H_raiseLayers 5 = .ok (.aload_n 0, 1) := by decide +kernel
theorem d_H_raiseLayers_6 : decode c_H_raiseLayers 6 = .ok (.getfield 54, 3) := by decide +kernel
theorem d_H_raiseLayers_9 : decode c_H_raiseLayers 9 = .ok (.if_icmp .ge 58, 3) := by decide +kernel
theorem d_H_raiseLayers_12 : decode c_H_raiseLayers 12 = .ok (.aload_n 0, 1) := by decide +kernel
theorem d_H_raiseLayers_13 : decode c_H_raiseLayers 13 = .ok (.getfield 20, 3) := by decide +kernel
theorem d_H_raiseLayers_16 : decode c_H_raiseLayers 16 = .ok (.iload_n 2, 1) := by decide +kernel
theorem d_H_raiseLayers_17 : decode c_H_raiseLayers 17 = .ok (.aaload, 1) := by decide +kernel
theorem d_H_raiseLayers_18 : decode c_H_raiseLayers 18 = .ok (.getfield 201, 3) := by decide +kernel
theorem d_H_raiseLayers_21 : decode c_H_raiseLayers 21 = .ok (.getfield 205, 3) := by decide +kernel
theorem d_H_raiseLayers_24 : decode c_H_raiseLayers 24 = .ok (.istore_n 3, 1) := by decide +kernel
theorem d_H_raiseLayers_25 : decode c_H_raiseLayers 25 = .ok (.aload_n 0, 1) := by decide +kernel
theorem d_H_raiseLayers_26 : decode c_H_raiseLayers 26 = .ok (.getfield 20, 3) := by decide +kernel
theorem d_H_raiseLayers_29 : decode c_H_raiseLayers 29 = .ok (.iload_n 2, 1) := by decide +kernel
theorem d_H_raiseLayers_30 : decode c_H_raiseLayers 30 = .ok (.aaload, 1) := by decide +kernel
theorem d_H_raiseLayers_31 : decode c_H_raiseLayers 31 = .ok (.aload_n 0, 1) := by decide +kernel
theorem d_H_raiseLayers_32 : decode c_H_raiseLayers 32 = .ok (.getfield 24, 3) := by decide +kernel
theorem d_H_raiseLayers_35 : decode c_H_raiseLayers 35 = .ok (.invokevirtual 210, 3) := by decide +kernel
theorem d_H_raiseLayers_38 : decode c_H_raiseLayers 38 = .ok (.istore 4, 2) := by decide +kernel
theorem d_H_raiseLayers_40 : decode c_H_raiseLayers 40 = .ok (.aload_n 0, 1) := by decide +kernel
theorem d_H_raiseLayers_41 : decode c_H_raiseLayers 41 = .ok (.getfield 24, 3) := by decide +kernel
theorem d_H_raiseLayers_44 : decode c_H_raiseLayers 44 = .ok (.iload_n 3, 1) := by decide +kernel
theorem d_H_raiseLayers_45 : decode c_H_raiseLayers 45 = .ok (.iaload, 1) := by decide +kernel
theorem d_H_raiseLayers_46 : decode c_H_raiseLayers 46 = .ok (.iload 4, 2) := by decide +kernel
theorem d_H_raiseLayers_48 : decode c_H_raiseLayers 48 = .ok (.if_icmp .ge 13, 3) := by decide +kernel
theorem d_H_raiseLayers_51 : decode c_H_raiseLayers 51 = .ok (.aload_n 0, 1) := by decide +kernel
theorem d_H_raiseLayers_52 : decode c_H_raiseLayers 52 = .ok (.getfield 24, 3) := by decide +kernel
theorem d_H_raiseLayers_55 : decode c_H_raiseLayers 55 = .ok (.iload_n 3, 1) := by decide +kernel
theorem d_H_raiseLayers_56 : decode c_H_raiseLayers 56 = .ok (.iload 4, 2) := by decide +kernel
theorem d_H_raiseLayers_58 : decode c_H_raiseLayers 58 = .ok (.iastore, 1) := by decide +kernel
theorem d_H_raiseLayers_59 : decode c_H_raiseLayers 59 = .ok (.iconst 1, 1) := by decide +kernel
theorem d_H_raiseLayers_60 : decode c_H_raiseLayers 60 = .ok (.istore_n 1, 1) := by decide +kernel
theorem d_H_raiseLayers_61 : decode c_H_raiseLayers 61 = .ok (.iinc 2 1, 3) := by decide +kernel
theorem d_H_raiseLayers_64 : decode c_H_raiseLayers 64 = .ok (.goto (-60), 3) := by decide +kernel
theorem d_H_raiseLayers_67 : decode c_H_raiseLayers 67 = .ok (.iload_n 1, 1) := by decide +kernel
theorem d_H_raiseLayers_68 : decode c_H_raiseLayers 68 = .ok (.ireturn, 1) := by decide +kernel
theorem d_H_topLayer_0 : decode c_H_topLayer 0 = .ok (.iconst 0, 1) := by decide +kernel
theorem d_H_topLayer_1 : decode c_H_topLayer 1 = .ok (.istore_n 1, 1) := by decide +kernel
theorem d_H_topLayer_2 : decode c_H_topLayer 2 = .ok (.iconst 0, 1) := by decide +kernel
theorem d_H_topLayer_3 : decode c_H_topLayer 3 = .ok (.istore_n 2, 1) := by decide +kernel
theorem d_H_topLayer_4 : decode c_H_topLayer 4 = .ok (.iload_n 2, 1) := by decide +kernel
theorem d_H_topLayer_5 : decode c_H_topLayer 5 = .ok (.aload_n 0, 1) := by decide +kernel
theorem d_H_topLayer_6 : decode c_H_topLayer 6 = .ok (.getfield 51, 3) := by decide +kernel
theorem d_H_topLayer_9 : decode c_H_topLayer 9 = .ok (.if_icmp .ge 20, 3) := by decide +kernel
theorem d_H_topLayer_12 : decode c_H_topLayer 12 = .ok (.iload_n 1, 1) := by decide +kernel
theorem d_H_topLayer_13 : decode c_H_topLayer 13 = .ok (.aload_n 0, 1) := by decide +kernel
theorem d_H_topLayer_14 : decode c_H_topLayer 14 = .ok (.getfield 24, 3) := by decide +kernel
theorem d_H_topLayer_17 : decode c_H_topLayer 17 = .ok (.iload_n 2, 1) := by decide +kernel
theorem d_H_topLayer_18 : decode c_H_topLayer 18 = .ok (.iaload, 1) := by decide +kernel
theorem d_H_topLayer_19 : decode c_H_topLayer 19 = .ok (.invokestatic 214, 3) := by decide +kernel
theorem d_H_topLayer_22 : decode c_H_topLayer 22 = .ok (.istore_n 1, 1) := by decide +kernel
theorem d_H_topLayer_23 : decode c_H_topLayer 23 = .ok (.iinc 2 1, 3) := by decide +kernel
theorem d_H_topLayer_26 : decode c_H_topLayer 26 = .ok (.goto (-22), 3) := by decide +kernel
theorem d_H_topLayer_29 : decode c_H_topLayer 29 = .ok (.iload_n 1, 1) := by decide +kernel
theorem d_H_topLayer_30 : decode c_H_topLayer 30 = .ok (.ireturn, 1) := by decide +kernel
theorem d_H_settle_0 : decode c_H_settle 0 = .ok (.aload_n 0, 1) := by decide +kernel
theorem d_H_settle_1 : decode c_H_settle 1 = .ok (.getfield 181, 3) := by decide +kernel
theorem d_H_settle_4 : decode c_H_settle 4 = .ok (.ifCond .eq 4, 3) := by decide +kernel
theorem d_H_settle_7 : decode c_H_settle 7 = .ok (.return_, 1) := by decide +kernel
theorem d_H_settle_8 : decode c_H_settle 8 = .ok (.aload_n 0, 1) := by decide +kernel
theorem d_H_settle_9 : decode c_H_settle 9 = .ok (.invokevirtual 219, 3) := by decide +kernel
theorem d_H_settle_12 : decode c_H_settle 12 = .ok (.aload_n 0, 1) := by decide +kernel
theorem d_H_settle_13 : decode c_H_settle 13 = .ok (.invokevirtual 222, 3) := by decide +kernel
theorem d_H_settle_16 : decode c_H_settle 16 = .ok (.istore_n 1, 1) := by decide +kernel
theorem d_H_settle_17 : decode c_H_settle 17 = .ok (.iconst 0, 1) := by decide +kernel
theorem d_H_settle_18 : decode c_H_settle 18 = .ok (.istore_n 2, 1) := by decide +kernel
theorem d_H_settle_19 : decode c_H_settle 19 = .ok (.iload_n 2, 1) := by decide +kernel
theorem d_H_settle_20 : decode c_H_settle 20 = .ok (.iload_n 1, 1) := by decide +kernel
theorem d_H_settle_21 : decode c_H_settle 21 = .ok (.if_icmp .gt 53, 3) := by decide +kernel
theorem d_H_settle_24 : decode c_H_settle 24 = .ok (.aload_n 0, 1) := by decide +kernel
theorem d_H_settle_25 : decode c_H_settle 25 = .ok (.iload_n 2, 1) := by decide +kernel
theorem d_H_settle_26 : decode c_H_settle 26 = .ok (.iconst 1, 1) := by decide +kernel
theorem d_H_settle_27 : decode c_H_settle 27 = .ok (.invokevirtual 129, 3) := by decide +kernel
theorem d_H_settle_30 : decode c_H_settle 30 = .ok (.sipush 255, 3) := by decide +kernel
theorem d_H_settle_33 : decode c_H_settle 33 = .ok (.istore_n 3, 1) := by decide +kernel
theorem d_H_settle_34 : decode c_H_settle 34 = .ok (.iconst 1, 1) := by decide +kernel
theorem d_H_settle_35 : decode c_H_settle 35 = .ok (.istore 4, 2) := by decide +kernel
theorem d_H_settle_37 : decode c_H_settle 37 = .ok (.iload_n 3, 1) := by decide +kernel
theorem d_H_settle_38 : decode c_H_settle 38 = .ok (.ifCond .eq 30, 3) := by decide +kernel
theorem d_H_settle_41 : decode c_H_settle 41 = .ok (.iload 4, 2) := by decide +kernel
theorem d_H_settle_43 : decode c_H_settle 43 = .ok (.sipush 1153, 3) := by decide +kernel
theorem d_H_settle_46 : decode c_H_settle 46 = .ok (.if_icmp .gt 22, 3) := by decide +kernel
theorem d_H_settle_49 : decode c_H_settle 49 = .ok (.aload_n 0, 1) := by decide +kernel
theorem d_H_settle_50 : decode c_H_settle 50 = .ok (.iload_n 2, 1) := by decide +kernel
theorem d_H_settle_51 : decode c_H_settle 51 = .ok (.iload 4, 2) := by decide +kernel
theorem d_H_settle_53 : decode c_H_settle 53 = .ok (.iload_n 3, 1) := by decide +kernel
theorem d_H_settle_54 : decode c_H_settle 54 = .ok (.invokevirtual 225, 3) := by decide +kernel
theorem d_H_settle_57 : decode c_H_settle 57 = .ok (.aload_n 0, 1) := by decide +kernel
theorem d_H_settle_58 : decode c_H_settle 58 = .ok (.invokevirtual 228, 3) := by decide +kernel
theorem d_H_settle_61 : decode c_H_settle 61 = .ok (.istore_n 3, 1) := by decide +kernel
theorem d_H_settle_62 : decode c_H_settle 62 = .ok (.iinc 4 1, 3) := by decide +kernel
theorem d_H_settle_65 : decode c_H_settle 65 = .ok (.goto (-28), 3) := by decide +kernel
theorem d_H_settle_68 : decode c_H_settle 68 = .ok (.iinc 2 1, 3) := by decide +kernel
theorem d_H_settle_71 : decode c_H_settle 71 = .ok (.goto (-52), 3) := by decide +kernel
theorem d_H_settle_74 : decode c_H_settle 74 = .ok (.aload_n 0, 1) := by decide +kernel
theorem d_H_settle_75 : decode c_H_settle 75 = .ok (.iconst 1, 1) := by decide +kernel
theorem d_H_settle_76 : decode c_H_settle 76 = .ok (.putfield 181, 3) := by decide +kernel
theorem d_H_settle_79 : decode c_H_settle 79 = .ok (.return_, 1) := by decide +kernel
theorem d_H_rankGiven_0 : decode c_H_rankGiven 0 = .ok (.iconst 0, 1) := by decide +kernel
theorem d_H_rankGiven_1 : decode c_H_rankGiven 1 = .ok (.istore_n 1, 1) := by decide +kernel
theorem d_H_rankGiven_2 : decode c_H_rankGiven 2 = .ok (.iload_n 1, 1) := by decide +kernel
theorem d_H_rankGiven_3 : decode c_H_rankGiven 3 = .ok (.bipush 96, 2) := by decide +kernel
theorem d_H_rankGiven_5 : decode c_H_rankGiven 5 = .ok (.if_icmp .ge 52, 3) := by decide +kernel
theorem d_H_rankGiven_8 : decode c_H_rankGiven 8 = .ok (.iconst 0, 1) := by decide +kernel
theorem d_H_rankGiven_9 : decode c_H_rankGiven 9 = .ok (.istore_n 2, 1) := by decide +kernel
theorem d_H_rankGiven_10 : decode c_H_rankGiven 10 = .ok (.iload_n 2, 1) := by decide +kernel
theorem d_H_rankGiven_11 : decode c_H_rankGiven 11 = .ok (.bipush 12, 2) := by decide +kernel
theorem d_H_rankGiven_13 : decode c_H_rankGiven 13 = .ok (.if_icmp .ge 38, 3) := by decide +kernel
theorem d_H_rankGiven_16 : decode c_H_rankGiven 16 = .ok (.aload_n 0, 1) := by decide +kernel
theorem d_H_rankGiven_17 : decode c_H_rankGiven 17 = .ok (.getfield 27, 3) := by decide +kernel
theorem d_H_rankGiven_20 : decode c_H_rankGiven 20 = .ok (.iload_n 1, 1) := by decide +kernel
theorem d_H_rankGiven_21 : decode c_H_rankGiven 21 = .ok (.bipush 12, 2) := by decide +kernel
theorem d_H_rankGiven_23 : decode c_H_rankGiven 23 = .ok (.imul, 1) := by decide +kernel
theorem d_H_rankGiven_24 : decode c_H_rankGiven 24 = .ok (.iload_n 2, 1) := by decide +kernel
theorem d_H_rankGiven_25 : decode c_H_rankGiven 25 = .ok (.iadd, 1) := by decide +kernel
theorem d_H_rankGiven_26 : decode c_H_rankGiven 26 = .ok (.aload_n 0, 1) := by decide +kernel
theorem d_H_rankGiven_27 : decode c_H_rankGiven 27 = .ok (.getfield 15, 3) := by decide +kernel
theorem d_H_rankGiven_30 : decode c_H_rankGiven 30 = .ok (.iload_n 1, 1) := by decide +kernel
theorem d_H_rankGiven_31 : decode c_H_rankGiven 31 = .ok (.iaload, 1) := by decide +kernel
theorem d_H_rankGiven_32 : decode c_H_rankGiven 32 = .ok (.iload_n 2, 1) := by decide +kernel
theorem d_H_rankGiven_33 : decode c_H_rankGiven 33 = .ok (.invokestatic 184, 3) := by decide +kernel
theorem d_H_rankGiven_36 : decode c_H_rankGiven 36 = .ok (.ifCond .eq 7, 3) := by decide +kernel
theorem d_H_rankGiven_39 : decode c_H_rankGiven 39 = .ok (.iconst 0, 1) := by decide +kernel
theorem d_H_rankGiven_40 : decode c_H_rankGiven 40 = .ok (.goto 4, 3) := by decide +kernel
theorem d_H_rankGiven_43 : decode c_H_rankGiven 43 = .ok (.iconst (-1), 1) := by decide +kernel
theorem d_H_rankGiven_44 : decode c_H_rankGiven 44 = .ok (.iastore, 1) := by decide +kernel
theorem d_H_rankGiven_45 : decode c_H_rankGiven 45 = .ok (.iinc 2 1, 3) := by decide +kernel
theorem d_H_rankGiven_48 : decode c_H_rankGiven 48 = .ok (.goto (-38), 3) := by decide +kernel
theorem d_H_rankGiven_51 : decode c_H_rankGiven 51 = .ok (.iinc 1 1, 3) := by decide +kernel
theorem d_H_rankGiven_54 : decode c_H_rankGiven 54 = .ok (.goto (-52), 3) := by decide +kernel
theorem d_H_rankGiven_57 : decode c_H_rankGiven 57 = .ok (.return_, 1) := by decide +kernel
theorem d_H_bringRound_0 : decode c_H_bringRound 0 = .ok (.iconst 0, 1) := by decide +kernel
theorem d_H_bringRound_1 : decode c_H_bringRound 1 = .ok (.istore 4, 2) := by decide +kernel
theorem d_H_bringRound_3 : decode c_H_bringRound 3 = .ok (.iload 4, 2) := by decide +kernel
theorem d_H_bringRound_5 : decode c_H_bringRound 5 = .ok (.aload_n 0, 1) := by decide +kernel
theorem d_H_bringRound_6 : decode c_H_bringRound 6 = .ok (.getfield 54, 3) := by decide +kernel
theorem d_H_bringRound_9 : decode c_H_bringRound 9 = .ok (.if_icmp .ge 57, 3) := by decide +kernel
theorem d_H_bringRound_12 : decode c_H_bringRound 12 = .ok (.aload_n 0, 1) := by decide +kernel
theorem d_H_bringRound_13 : decode c_H_bringRound 13 = .ok (.getfield 20, 3) := by decide +kernel
theorem d_H_bringRound_16 : decode c_H_bringRound 16 = .ok (.iload 4, 2) := by decide +kernel
theorem d_H_bringRound_18 : decode c_H_bringRound 18 = .ok (.aaload, 1) := by decide +kernel
theorem d_H_bringRound_19 : decode c_H_bringRound 19 = .ok (.astore 5, 2) := by decide +kernel
theorem d_H_bringRound_21 : decode c_H_bringRound 21 = .ok (.aload_n 0, 1) := by decide +kernel
theorem d_H_bringRound_22 : decode c_H_bringRound 22 = .ok (.getfield 24, 3) := by decide +kernel
theorem d_H_bringRound_25 : decode c_H_bringRound 25 = .ok (.aload 5, 2) := by decide +kernel
theorem d_H_bringRound_27 : decode c_H_bringRound 27 = .ok (.getfield 201, 3) := by decide +kernel
theorem d_H_bringRound_30 : decode c_H_bringRound 30 = .ok (.getfield 205, 3) := by decide +kernel
theorem d_H_bringRound_33 : decode c_H_bringRound 33 = .ok (.iaload, 1) := by decide +kernel
theorem d_H_bringRound_34 : decode c_H_bringRound 34 = .ok (.iload_n 1, 1) := by decide +kernel
theorem d_H_bringRound_35 : decode c_H_bringRound 35 = .ok (.if_icmp .ne 25, 3) := by decide +kernel
theorem d_H_bringRound_38 : decode c_H_bringRound 38 = .ok (.iload_n 2, 1) := by decide +kernel
theorem d_H_bringRound_39 : decode c_H_bringRound 39 = .ok (.iconst 1, 1) := by decide +kernel
theorem d_H_bringRound_40 : decode c_H_bringRound 40 = .ok (.if_icmp .eq 13, 3) := by decide +kernel
theorem d_H_bringRound_43 : decode c_H_bringRound 43 = .ok (.aload 5, 2) := by decide +kernel
theorem d_H_bringRound_45 : decode c_H_bringRound 45 = .ok (.getfield 231, 3) := by decide +kernel
theorem d_H_bringRound_48 : decode c_H_bringRound 48 = .ok (.iload_n 3, 1) := by decide +kernel
theorem d_H_bringRound_49 : decode c_H_bringRound 49 = .ok (.iand, 1) := by decide +kernel
theorem d_H_bringRound_50 : decode c_H_bringRound 50 = .ok (.ifCond .eq 10, 3) := by decide +kernel
theorem d_H_bringRound_53 : decode c_H_bringRound 53 = .ok (.aload_n 0, 1) := by decide +kernel
theorem d_H_bringRound_54 : decode c_H_bringRound 54 = .ok (.aload 5, 2) := by decide +kernel
theorem d_H_bringRound_56 : decode c_H_bringRound 56 = .ok (.iload_n 2, 1) := by decide +kernel
theorem d_H_bringRound_57 : decode c_H_bringRound 57 = .ok (.invokevirtual 234, 3) := by decide +kernel
theorem d_H_bringRound_60 : decode c_H_bringRound 60 = .ok (.iinc 4 1, 3) := by decide +kernel
theorem d_H_bringRound_63 : decode c_H_bringRound 63 = .ok (.goto (-60), 3) := by decide +kernel
theorem d_H_bringRound_66 : decode c_H_bringRound 66 = .ok (.return_, 1) := by decide +kernel
theorem d_H_bringByRule_0 : decode c_H_bringByRule 0 = .ok (.aload_n 1, 1) := by decide +kernel
theorem d_H_bringByRule_1 : decode c_H_bringByRule 1 = .ok (.getfield 201, 3) := by decide +kernel
theorem d_H_bringByRule_4 : decode c_H_bringByRule 4 = .ok (.astore_n 3, 1) := by decide +kernel
theorem d_H_bringByRule_5 : decode c_H_bringByRule 5 = .ok (.aload_n 0, 1) := by decide +kernel
theorem d_H_bringByRule_6 : decode c_H_bringByRule 6 = .ok (.getfield 36, 3) := by decide +kernel
theorem d_H_bringByRule_9 : decode c_H_bringByRule 9 = .ok (.invokevirtual 238, 3) := by decide +kernel
theorem d_H_bringByRule_12 : decode c_H_bringByRule 12 = .ok (.aload_n 0, 1) := by decide +kernel
theorem d_H_bringByRule_13 : decode c_H_bringByRule 13 = .ok (.getfield 36, 3) := by decide +kernel
theorem d_H_bringByRule_16 : decode c_H_bringByRule 16 = .ok (.aload_n 1, 1) := by decide +kernel
theorem d_H_bringByRule_17 : decode c_H_bringByRule 17 = .ok (.aload_n 3, 1) := by decide +kernel
theorem d_H_bringByRule_18 : decode c_H_bringByRule 18 = .ok (.getfield 241, 3) := by decide +kernel
theorem d_H_bringByRule_21 : decode c_H_bringByRule 21 = .ok (.invokevirtual 244, 3) := by decide +kernel
theorem d_H_bringByRule_24 : decode c_H_bringByRule 24 = .ok (.istore 4, 2) := by decide +kernel
theorem d_H_bringByRule_26 : decode c_H_bringByRule 26 = .ok (.iconst 0, 1) := by decide +kernel
theorem d_H_bringByRule_27 : decode c_H_bringByRule 27 = .ok (.istore 5, 2) := by decide +kernel
theorem d_H_bringByRule_29 : decode c_H_bringByRule 29 = .ok (.iload 5, 2) := by decide +kernel
theorem d_H_bringByRule_31 : decode c_H_bringByRule 31 = .ok (.bipush 12, 2) := by decide +kernel
theorem d_H_bringByRule_33 : decode c_H_bringByRule 33 = .ok (.if_icmp .ge 187, 3) := by decide +kernel
theorem d_H_bringByRule_36 : decode c_H_bringByRule 36 = .ok (.iload 4, 2) := by decide +kernel
theorem d_H_bringByRule_38 : decode c_H_bringByRule 38 = .ok (.iload 5, 2) := by decide +kernel
theorem d_H_bringByRule_40 : decode c_H_bringByRule 40 = .ok (.invokestatic 184, 3) := by decide +kernel
theorem d_H_bringByRule_43 : decode c_H_bringByRule 43 = .ok (.ifCond .ne 6, 3) := by decide +kernel
theorem d_H_bringByRule_46 : decode c_H_bringByRule 46 = .ok (.goto 168, 3) := by decide +kernel
theorem d_H_bringByRule_49 : decode c_H_bringByRule 49 = .ok (.aload_n 3, 1) := by decide +kernel
theorem d_H_bringByRule_50 : decode c_H_bringByRule 50 = .ok (.getfield 205, 3) := by decide +kernel
theorem d_H_bringByRule_53 : decode c_H_bringByRule 53 = .ok (.iload 5, 2) := by decide +kernel
theorem d_H_bringByRule_55 : decode c_H_bringByRule 55 = .ok (.invokestatic 174, 3) := by decide +kernel
theorem d_H_bringByRule_58 : decode c_H_bringByRule 58 = .ok (.istore 6, 2) := by decide +kernel
theorem d_H_bringByRule_60 : decode c_H_bringByRule 60 = .ok (.aload_n 0, 1) := by decide +kernel
theorem d_H_bringByRule_61 : decode c_H_bringByRule 61 = .ok (.getfield 36, 3) := by decide +kernel
theorem d_H_bringByRule_64 : decode c_H_bringByRule 64 = .ok (.getfield 247, 3) := by decide +kernel
theorem d_H_bringByRule_67 : decode c_H_bringByRule 67 = .ok (.getfield 251, 3) := by decide +kernel
theorem d_H_bringByRule_70 : decode c_H_bringByRule 70 = .ok (.iload 6, 2) := by decide +kernel
theorem d_H_bringByRule_72 : decode c_H_bringByRule 72 = .ok (.iaload, 1) := by decide +kernel
theorem d_H_bringByRule_73 : decode c_H_bringByRule 73 = .ok (.aload_n 0, 1) := by decide +kernel
theorem d_H_bringByRule_74 : decode c_H_bringByRule 74 = .ok (.getfield 30, 3) := by decide +kernel
theorem d_H_bringByRule_77 : decode c_H_bringByRule 77 = .ok (.iload 6, 2) := by decide +kernel
theorem d_H_bringByRule_79 : decode c_H_bringByRule 79 = .ok (.iaload, 1) := by decide +kernel
theorem d_H_bringByRule_80 : decode c_H_bringByRule 80 = .ok (.ior, 1) := by decide +kernel
theorem d_H_bringByRule_81 : decode c_H_bringByRule 81 = .ok (.istore 7, 2) := by decide +kernel
theorem d_H_bringByRule_83 : decode c_H_bringByRule 83 = .ok (.aload_n 0, 1) := by decide +kernel
theorem d_H_bringByRule_84 : decode c_H_bringByRule 84 = .ok (.getfield 36, 3) := by decide +kernel
theorem d_H_bringByRule_87 : decode c_H_bringByRule 87 = .ok (.invokevirtual 238, 3) := by decide +kernel
theorem d_H_bringByRule_90 : decode c_H_bringByRule 90 = .ok (.aload_n 0, 1) := by decide +kernel
theorem d_H_bringByRule_91 : decode c_H_bringByRule 91 = .ok (.getfield 36, 3) := by decide +kernel
theorem d_H_bringByRule_94 : decode c_H_bringByRule 94 = .ok (.aload_n 3, 1) := by decide +kernel
theorem d_H_bringByRule_95 : decode c_H_bringByRule 95 = .ok (.getfield 241, 3) := by decide +kernel
theorem d_H_bringByRule_98 : decode c_H_bringByRule 98 = .ok (.iload 5, 2) := by decide +kernel
theorem d_H_bringByRule_100 : decode c_H_bringByRule 100 = .ok (.invokevirtual 256, 3) := by decide +kernel
theorem d_H_bringByRule_103 : decode c_H_bringByRule 103 = .ok (.pop, 1) := by decide +kernel
theorem d_H_bringByRule_104 : decode c_H_bringByRule 104 = .ok (.aload_n 0, 1) := by decide +kernel
theorem d_H_bringByRule_105 : decode c_H_bringByRule 105 = .ok (.getfield 36, 3) := by decide +kernel
theorem d_H_bringByRule_108 : decode c_H_bringByRule 108 = .ok (.aload_n 1, 1) := by decide +kernel
theorem d_H_bringByRule_109 : decode c_H_bringByRule 109 = .ok (.aload_n 3, 1) := by decide +kernel
theorem d_H_bringByRule_110 : decode c_H_bringByRule 110 = .ok (.getfield 259, 3) := by decide +kernel
theorem d_H_bringByRule_113 : decode c_H_bringByRule 113 = .ok (.invokevirtual 244, 3) := by decide +kernel
theorem d_H_bringByRule_116 : decode c_H_bringByRule 116 = .ok (.iload 7, 2) := by decide +kernel
theorem d_H_bringByRule_118 : decode c_H_bringByRule 118 = .ok (.iconst (-1), 1) := by decide +kernel
theorem d_H_bringByRule_119 : decode c_H_bringByRule 119 = .ok (.ixor, 1) := by decide +kernel
theorem d_H_bringByRule_120 : decode c_H_bringByRule 120 = .ok (.iand, 1) := by decide +kernel
theorem d_H_bringByRule_121 : decode c_H_bringByRule 121 = .ok (.istore 8, 2) := by decide +kernel
theorem d_H_bringByRule_123 : decode c_H_bringByRule 123 = .ok (.iconst 0, 1) := by decide +kernel
theorem d_H_bringByRule_124 : decode c_H_bringByRule 124 = .ok (.istore 9, 2) := by decide +kernel
theorem d_H_bringByRule_126 : decode c_H_bringByRule 126 = .ok (.iload 8, 2) := by decide +kernel
theorem d_H_bringByRule_128 : decode c_H_bringByRule 128 = .ok (.ifCond .eq 86, 3) := by decide +kernel
theorem d_H_bringByRule_131 : decode c_H_bringByRule 131 = .ok (.iload 9, 2) := by decide +kernel
theorem d_H_bringByRule_133 : decode c_H_bringByRule 133 = .ok (.bipush 12, 2) := by decide +kernel
theorem d_H_bringByRule_135 : decode c_H_bringByRule 135 = .ok (.if_icmp .ge 79, 3) := by decide +kernel
theorem d_H_bringByRule_138 : decode c_H_bringByRule 138 = .ok (.iload 8, 2) := by decide +kernel
theorem d_H_bringByRule_140 : decode c_H_bringByRule 140 = .ok (.iload 9, 2) := by decide +kernel
theorem d_H_bringByRule_142 : decode c_H_bringByRule 142 = .ok (.invokestatic 184, 3) := by decide +kernel
theorem d_H_bringByRule_145 : decode c_H_bringByRule 145 = .ok (.ifCond .eq 63, 3) := by decide +kernel
theorem d_H_bringByRule_148 : decode c_H_bringByRule 148 = .ok (.aload_n 0, 1) := by decide +kernel
theorem d_H_bringByRule_149 : decode c_H_bringByRule 149 = .ok (.getfield 36, 3) := by decide +kernel
theorem d_H_bringByRule_152 : decode c_H_bringByRule 152 = .ok (.aload_n 1, 1) := by decide +kernel
theorem d_H_bringByRule_153 : decode c_H_bringByRule 153 = .ok (.aload_n 3, 1) := by decide +kernel
theorem d_H_bringByRule_154 : decode c_H_bringByRule 154 = .ok (.getfield 205, 3) := by decide +kernel
theorem d_H_bringByRule_157 : decode c_H_bringByRule 157 = .ok (.iload 5, 2) := by decide +kernel
theorem d_H_bringByRule_159 : decode c_H_bringByRule 159 = .ok (.iload 9, 2) := by decide +kernel
theorem d_H_bringByRule_161 : decode c_H_bringByRule 161 = .ok (.invokevirtual 133, 3) := by decide +kernel
theorem d_H_bringByRule_164 : decode c_H_bringByRule 164 = .ok (.ifCond .eq 44, 3) := by decide +kernel
theorem d_H_bringByRule_167 : decode c_H_bringByRule 167 = .ok (.aload_n 0, 1) := by decide +kernel
theorem d_H_bringByRule_168 : decode c_H_bringByRule 168 = .ok (.getfield 36, 3) := by decide +kernel
theorem d_H_bringByRule_171 : decode c_H_bringByRule 171 = .ok (.aload_n 1, 1) := by decide +kernel
theorem d_H_bringByRule_172 : decode c_H_bringByRule 172 = .ok (.bipush 20, 2) := by decide +kernel
theorem d_H_bringByRule_174 : decode c_H_bringByRule 174 = .ok (.invokevirtual 262, 3) := by decide +kernel
theorem d_H_bringByRule_177 : decode c_H_bringByRule 177 = .ok (.ifCond .eq 31, 3) := by decide +kernel
theorem d_H_bringByRule_180 : decode c_H_bringByRule 180 = .ok (.aload_n 0, 1) := by decide +kernel
theorem d_H_bringByRule_181 : decode c_H_bringByRule 181 = .ok (.getfield 27, 3) := by decide +kernel
theorem d_H_bringByRule_184 : decode c_H_bringByRule 184 = .ok (.iload 6, 2) := by decide +kernel
theorem d_H_bringByRule_186 : decode c_H_bringByRule 186 = .ok (.bipush 12, 2) := by decide +kernel
theorem d_H_bringByRule_188 : decode c_H_bringByRule 188 = .ok (.imul, 1) := by decide +kernel
theorem d_H_bringByRule_189 : decode c_H_bringByRule 189 = .ok (.iload 9, 2) := by decide +kernel
theorem d_H_bringByRule_191 : decode c_H_bringByRule 191 = .ok (.iadd, 1) := by decide +kernel
theorem d_H_bringByRule_192 : decode c_H_bringByRule 192 = .ok (.iload_n 2, 1) := by decide +kernel
theorem d_H_bringByRule_193 : decode c_H_bringByRule 193 = .ok (.iastore, 1) := by decide +kernel
theorem d_H_bringByRule_194 : decode c_H_bringByRule 194 = .ok (.aload_n 0, 1) := by decide +kernel
theorem d_H_bringByRule_195 : decode c_H_bringByRule 195 = .ok (.getfield 30, 3) := by decide +kernel
theorem d_H_bringByRule_198 : decode c_H_bringByRule 198 = .ok (.iload 6, 2) := by decide +kernel
theorem d_H_bringByRule_200 : decode c_H_bringByRule 200 = .ok (.dup2, 1) := by decide +kernel
theorem d_H_bringByRule_201 : decode c_H_bringByRule 201 = .ok (.iaload, 1) := by decide +kernel
theorem d_H_bringByRule_202 : decode c_H_bringByRule 202 = .ok (.iconst 1, 1) := by decide +kernel
theorem d_H_bringByRule_203 : decode c_H_bringByRule 203 = .ok (.iload 9, 2) := by decide +kernel
theorem d_H_bringByRule_205 : decode c_H_bringByRule 205 = .ok (.ishl, 1) := by decide +kernel
theorem d_H_bringByRule_206 : decode c_H_bringByRule 206 = .ok (.ior, 1) := by decide +kernel
theorem d_H_bringByRule_207 : decode c_H_bringByRule 207 = .ok (.iastore, 1) := by decide +kernel
theorem d_H_bringByRule_208 : decode c_H_bringByRule 208 = .ok (.iinc 9 1, 3) := by decide +kernel
theorem d_H_bringByRule_211 : decode c_H_bringByRule 211 = .ok (.goto (-85), 3) := by decide +kernel
theorem d_H_bringByRule_214 : decode c_H_bringByRule 214 = .ok (.iinc 5 1, 3) := by decide +kernel
theorem d_H_bringByRule_217 : decode c_H_bringByRule 217 = .ok (.goto (-188), 3) := by decide +kernel
theorem d_H_bringByRule_220 : decode c_H_bringByRule 220 = .ok (.return_, 1) := by decide +kernel
theorem d_H_showFresh_0 : decode c_H_showFresh 0 = .ok (.iconst 0, 1) := by decide +kernel
theorem d_H_showFresh_1 : decode c_H_showFresh 1 = .ok (.istore_n 1, 1) := by decide +kernel
theorem d_H_showFresh_2 : decode c_H_showFresh 2 = .ok (.iconst 0, 1) := by decide +kernel
theorem d_H_showFresh_3 : decode c_H_showFresh 3 = .ok (.istore_n 2, 1) := by decide +kernel
theorem d_H_showFresh_4 : decode c_H_showFresh 4 = .ok (.iload_n 2, 1) := by decide +kernel
theorem d_H_showFresh_5 : decode c_H_showFresh 5 = .ok (.bipush 96, 2) := by decide +kernel
theorem d_H_showFresh_7 : decode c_H_showFresh 7 = .ok (.if_icmp .ge 80, 3) := by decide +kernel
theorem d_H_showFresh_10 : decode c_H_showFresh 10 = .ok (.iconst 0, 1) := by decide +kernel
theorem d_H_showFresh_11 : decode c_H_showFresh 11 = .ok (.istore_n 3, 1) := by decide +kernel
theorem d_H_showFresh_12 : decode c_H_showFresh 12 = .ok (.aload_n 0, 1) := by decide +kernel
theorem d_H_showFresh_13 : decode c_H_showFresh 13 = .ok (.getfield 30, 3) := by decide +kernel
theorem d_H_showFresh_16 : decode c_H_showFresh 16 = .ok (.iload_n 2, 1) := by decide +kernel
theorem d_H_showFresh_17 : decode c_H_showFresh 17 = .ok (.iaload, 1) := by decide +kernel
theorem d_H_showFresh_18 : decode c_H_showFresh 18 = .ok (.ifCond .eq 56, 3) := by decide +kernel
theorem d_H_showFresh_21 : decode c_H_showFresh 21 = .ok (.iload_n 3, 1) := by decide +kernel
theorem d_H_showFresh_22 : decode c_H_showFresh 22 = .ok (.bipush 12, 2) := by decide +kernel
theorem d_H_showFresh_24 : decode c_H_showFresh 24 = .ok (.if_icmp .ge 50, 3) := by decide +kernel
theorem d_H_showFresh_27 : decode c_H_showFresh 27 = .ok (.aload_n 0, 1) := by decide +kernel
theorem d_H_showFresh_28 : decode c_H_showFresh 28 = .ok (.getfield 30, 3) := by decide +kernel
theorem d_H_showFresh_31 : decode c_H_showFresh 31 = .ok (.iload_n 2, 1) := by decide +kernel
theorem d_H_showFresh_32 : decode c_H_showFresh 32 = .ok (.iaload, 1) := by decide +kernel
theorem d_H_showFresh_33 : decode c_H_showFresh 33 = .ok (.iload_n 3, 1) := by decide +kernel
theorem d_H_showFresh_34 : decode c_H_showFresh 34 = .ok (.invokestatic 184, 3) := by decide +kernel
theorem d_H_showFresh_37 : decode c_H_showFresh 37 = .ok (.ifCond .eq 31, 3) := by decide +kernel
theorem d_H_showFresh_40 : decode c_H_showFresh 40 = .ok (.aload_n 0, 1) := by decide +kernel
theorem d_H_showFresh_41 : decode c_H_showFresh 41 = .ok (.getfield 36, 3) := by decide +kernel
theorem d_H_showFresh_44 : decode c_H_showFresh 44 = .ok (.getfield 247, 3) := by decide +kernel
theorem d_H_showFresh_47 : decode c_H_showFresh 47 = .ok (.iload_n 2, 1) := by decide +kernel
theorem d_H_showFresh_48 : decode c_H_showFresh 48 = .ok (.bipush 12, 2) := by decide +kernel
theorem d_H_showFresh_50 : decode c_H_showFresh 50 = .ok (.idiv, 1) := by decide +kernel
theorem d_H_showFresh_51 : decode c_H_showFresh 51 = .ok (.iload_n 2, 1) := by decide +kernel
theorem d_H_showFresh_52 : decode c_H_showFresh 52 = .ok (.bipush 12, 2) := by decide +kernel
theorem d_H_showFresh_54 : decode c_H_showFresh 54 = .ok (.irem, 1) := by decide +kernel
theorem d_H_showFresh_55 : decode c_H_showFresh 55 = .ok (.iload_n 3, 1) := by decide +kernel
theorem d_H_showFresh_56 : decode c_H_showFresh 56 = .ok (.invokevirtual 266, 3) := by decide +kernel
theorem d_H_showFresh_59 : decode c_H_showFresh 59 = .ok (.iload_n 1, 1) := by decide +kernel
theorem d_H_showFresh_60 : decode c_H_showFresh 60 = .ok (.iconst 1, 1) := by decide +kernel
theorem d_H_showFresh_61 : decode c_H_showFresh 61 = .ok (.iload_n 2, 1) := by decide +kernel
theorem d_H_showFresh_62 : decode c_H_showFresh 62 = .ok (.bipush 12, 2) := by decide +kernel
theorem d_H_showFresh_64 : decode c_H_showFresh 64 = .ok (.idiv, 1) := by decide +kernel
theorem d_H_showFresh_65 : decode c_H_showFresh 65 = .ok (.ishl, 1) := by decide +kernel
theorem d_H_showFresh_66 : decode c_H_showFresh 66 = .ok (.ior, 1) := by decide +kernel
theorem d_H_showFresh_67 : decode c_H_showFresh 67 = .ok (.istore_n 1, 1) := by decide +kernel
theorem d_H_showFresh_68 : decode c_H_showFresh 68 = .ok (.iinc 3 1, 3) := by decide +kernel
theorem d_H_showFresh_71 : decode c_H_showFresh 71 = .ok (.goto (-59), 3) := by decide +kernel
theorem d_H_showFresh_74 : decode c_H_showFresh 74 = .ok (.aload_n 0, 1) := by decide +kernel
theorem d_H_showFresh_75 : decode c_H_showFresh 75 = .ok (.getfield 30, 3) := by decide +kernel
theorem d_H_showFresh_78 : decode c_H_showFresh 78 = .ok (.iload_n 2, 1) := by decide +kernel
theorem d_H_showFresh_79 : decode c_H_showFresh 79 = .ok (.iconst 0, 1) := by decide +kernel
theorem d_H_showFresh_80 : decode c_H_showFresh 80 = .ok (.iastore, 1) := by decide +kernel
theorem d_H_showFresh_81 : decode c_H_showFresh 81 = .ok (.iinc 2 1, 3) := by decide +kernel
theorem d_H_showFresh_84 : decode c_H_showFresh 84 = .ok (.goto (-80), 3) := by decide +kernel
theorem d_H_showFresh_87 : decode c_H_showFresh 87 = .ok (.iload_n 1, 1) := by decide +kernel
theorem d_H_showFresh_88 : decode c_H_showFresh 88 = .ok (.ireturn, 1) := by decide +kernel
theorem d_H_look_0 : decode c_H_look 0 = .ok (.aload_n 0, 1) := by decide +kernel
theorem d_H_look_1 : decode c_H_look 1 = .ok (.getfield 36, 3) := by decide +kernel
theorem d_H_look_4 : decode c_H_look 4 = .ok (.getfield 247, 3) := by decide +kernel
theorem d_H_look_7 : decode c_H_look 7 = .ok (.invokevirtual 269, 3) := by decide +kernel
theorem d_H_look_10 : decode c_H_look 10 = .ok (.iconst 0, 1) := by decide +kernel
theorem d_H_look_11 : decode c_H_look 11 = .ok (.istore_n 3, 1) := by decide +kernel
theorem d_H_look_12 : decode c_H_look 12 = .ok (.iload_n 3, 1) := by decide +kernel
theorem d_H_look_13 : decode c_H_look 13 = .ok (.aload_n 0, 1) := by decide +kernel
theorem d_H_look_14 : decode c_H_look 14 = .ok (.getfield 51, 3) := by decide +kernel
theorem d_H_look_17 : decode c_H_look 17 = .ok (.if_icmp .ge 40, 3) := by decide +kernel
theorem d_H_look_20 : decode c_H_look 20 = .ok (.aload_n 0, 1) := by decide +kernel
theorem d_H_look_21 : decode c_H_look 21 = .ok (.getfield 24, 3) := by decide +kernel
theorem d_H_look_24 : decode c_H_look 24 = .ok (.iload_n 3, 1) := by decide +kernel
theorem d_H_look_25 : decode c_H_look 25 = .ok (.iaload, 1) := by decide +kernel
theorem d_H_look_26 : decode c_H_look 26 = .ok (.iload_n 1, 1) := by decide +kernel
theorem d_H_look_27 : decode c_H_look 27 = .ok (.if_icmp .gt 24, 3) := by decide +kernel
theorem d_H_look_30 : decode c_H_look 30 = .ok (.aload_n 0, 1) := by decide +kernel
theorem d_H_look_31 : decode c_H_look 31 = .ok (.iload_n 3, 1) := by decide +kernel
theorem d_H_look_32 : decode c_H_look 32 = .ok (.aload_n 0, 1) := by decide +kernel
theorem d_H_look_33 : decode c_H_look 33 = .ok (.getfield 24, 3) := by decide +kernel
theorem d_H_look_36 : decode c_H_look 36 = .ok (.iload_n 3, 1) := by decide +kernel
theorem d_H_look_37 : decode c_H_look 37 = .ok (.iaload, 1) := by decide +kernel
theorem d_H_look_38 : decode c_H_look 38 = .ok (.iload_n 1, 1) := by decide +kernel
theorem d_H_look_39 : decode c_H_look 39 = .ok (.if_icmp .ge 8, 3) := by decide +kernel
theorem d_H_look_42 : decode c_H_look 42 = .ok (.ldc 128, 2) := by decide +kernel
theorem d_H_look_44 : decode c_H_look 44 = .ok (.goto 4, 3) := by decide +kernel
theorem d_H_look_47 : decode c_H_look 47 = .ok (.iload_n 2, 1) := by decide +kernel
theorem d_H_look_48 : decode c_H_look 48 = .ok (.invokevirtual 270, 3) := by decide +kernel
theorem d_H_look_51 : decode c_H_look 51 = .ok (.iinc 3 1, 3) := by decide +kernel
theorem d_H_look_54 : decode c_H_look 54 = .ok (.goto (-42), 3) := by decide +kernel
theorem d_H_look_57 : decode c_H_look 57 = .ok (.return_, 1) := by decide +kernel
theorem d_H_lookAt_0 : decode c_H_lookAt 0 = .ok (.iconst 0, 1) := by decide +kernel
theorem d_H_lookAt_1 : decode c_H_lookAt 1 = .ok (.istore_n 3, 1) := by decide +kernel
theorem d_H_lookAt_2 : decode c_H_lookAt 2 = .ok (.iload_n 3, 1) := by decide +kernel
theorem d_H_lookAt_3 : decode c_H_lookAt 3 = .ok (.bipush 12, 2) := by decide +kernel
theorem d_H_lookAt_5 : decode c_H_lookAt 5 = .ok (.if_icmp .ge 65, 3) := by decide +kernel
theorem d_H_lookAt_8 : decode c_H_lookAt 8 = .ok (.iconst 0, 1) := by decide +kernel
theorem d_H_lookAt_9 : decode c_H_lookAt 9 = .ok (.istore 4, 2) := by decide +kernel
theorem d_H_lookAt_11 : decode c_H_lookAt 11 = .ok (.iload 4, 2) := by decide +kernel
theorem d_H_lookAt_13 : decode c_H_lookAt 13 = .ok (.bipush 12, 2) := by decide +kernel
theorem d_H_lookAt_15 : decode c_H_lookAt 15 = .ok (.if_icmp .ge 49, 3) := by decide +kernel
theorem d_H_lookAt_18 : decode c_H_lookAt 18 = .ok (.aload_n 0, 1) := by decide +kernel
theorem d_H_lookAt_19 : decode c_H_lookAt 19 = .ok (.getfield 27, 3) := by decide +kernel
theorem d_H_lookAt_22 : decode c_H_lookAt 22 = .ok (.iload_n 1, 1) := by decide +kernel
theorem d_H_lookAt_23 : decode c_H_lookAt 23 = .ok (.iload_n 3, 1) := by decide +kernel
theorem d_H_lookAt_24 : decode c_H_lookAt 24 = .ok (.iload 4, 2) := by decide +kernel
theorem d_H_lookAt_26 : decode c_H_lookAt 26 = .ok (.invokestatic 124, 3) := by decide +kernel
theorem d_H_lookAt_29 : decode c_H_lookAt 29 = .ok (.iaload, 1) := by decide +kernel
theorem d_H_lookAt_30 : decode c_H_lookAt 30 = .ok (.istore 5, 2) := by decide +kernel
theorem d_H_lookAt_32 : decode c_H_lookAt 32 = .ok (.iload 5, 2) := by decide +kernel
theorem d_H_lookAt_34 : decode c_H_lookAt 34 = .ok (.iconst (-1), 1) := by decide +kernel
theorem d_H_lookAt_35 : decode c_H_lookAt 35 = .ok (.if_icmp .eq 23, 3) := by decide +kernel
theorem d_H_lookAt_38 : decode c_H_lookAt 38 = .ok (.iload 5, 2) := by decide +kernel
theorem d_H_lookAt_40 : decode c_H_lookAt 40 = .ok (.iload_n 2, 1) := by decide +kernel
theorem d_H_lookAt_41 : decode c_H_lookAt 41 = .ok (.if_icmp .ge 17, 3) := by decide +kernel
theorem d_H_lookAt_44 : decode c_H_lookAt 44 = .ok (.aload_n 0, 1) := by decide +kernel
theorem d_H_lookAt_45 : decode c_H_lookAt 45 = .ok (.getfield 36, 3) := by decide +kernel
theorem d_H_lookAt_48 : decode c_H_lookAt 48 = .ok (.getfield 247, 3) := by decide +kernel
theorem d_H_lookAt_51 : decode c_H_lookAt 51 = .ok (.iload_n 1, 1) := by decide +kernel
theorem d_H_lookAt_52 : decode c_H_lookAt 52 = .ok (.iload_n 3, 1) := by decide +kernel
theorem d_H_lookAt_53 : decode c_H_lookAt 53 = .ok (.iload 4, 2) := by decide +kernel
theorem d_H_lookAt_55 : decode c_H_lookAt 55 = .ok (.invokevirtual 266, 3) := by decide +kernel
theorem d_H_lookAt_58 : decode c_H_lookAt 58 = .ok (.iinc 4 1, 3) := by decide +kernel
theorem d_H_lookAt_61 : decode c_H_lookAt 61 = .ok (.goto (-50), 3) := by decide +kernel
theorem d_H_lookAt_64 : decode c_H_lookAt 64 = .ok (.iinc 3 1, 3) := by decide +kernel
theorem d_H_lookAt_67 : decode c_H_lookAt 67 = .ok (.goto (-65), 3) := by decide +kernel
theorem d_H_lookAt_70 : decode c_H_lookAt 70 = .ok (.return_, 1) := by decide +kernel
theorem d_H_leastRule_0 : decode c_H_leastRule 0 = .ok (.iconst 0, 1) := by decide +kernel
theorem d_H_leastRule_1 : decode c_H_leastRule 1 = .ok (.istore 4, 2) := by decide +kernel
theorem d_H_leastRule_3 : decode c_H_leastRule 3 = .ok (.iload 4, 2) := by decide +kernel
theorem d_H_leastRule_5 : decode c_H_leastRule 5 = .ok (.aload_n 0, 1) := by decide +kernel
theorem d_H_leastRule_6 : decode c_H_leastRule 6 = .ok (.getfield 54, 3) := by decide +kernel
theorem d_H_leastRule_9 : decode c_H_leastRule 9 = .ok (.if_icmp .ge 51, 3) := by decide +kernel
theorem d_H_leastRule_12 : decode c_H_leastRule 12 = .ok (.aload_n 0, 1) := by decide +kernel
theorem d_H_leastRule_13 : decode c_H_leastRule 13 = .ok (.getfield 36, 3) := by decide +kernel
theorem d_H_leastRule_16 : decode c_H_leastRule 16 = .ok (.aload_n 0, 1) := by decide +kernel
theorem d_H_leastRule_17 : decode c_H_leastRule 17 = .ok (.getfield 20, 3) := by decide +kernel
theorem d_H_leastRule_20 : decode c_H_leastRule 20 = .ok (.iload 4, 2) := by decide +kernel
theorem d_H_leastRule_22 : decode c_H_leastRule 22 = .ok (.aaload, 1) := by decide +kernel
theorem d_H_leastRule_23 : decode c_H_leastRule 23 = .ok (.iload_n 1, 1) := by decide +kernel
theorem d_H_leastRule_24 : decode c_H_leastRule 24 = .ok (.iload_n 2, 1) := by decide +kernel
theorem d_H_leastRule_25 : decode c_H_leastRule 25 = .ok (.iload_n 3, 1) := by decide +kernel
theorem d_H_leastRule_26 : decode c_H_leastRule 26 = .ok (.invokevirtual 133, 3) := by decide +kernel
theorem d_H_leastRule_29 : decode c_H_leastRule 29 = .ok (.ifCond .eq 25, 3) := by decide +kernel
theorem d_H_leastRule_32 : decode c_H_leastRule 32 = .ok (.aload_n 0, 1) := by decide +kernel
theorem d_H_leastRule_33 : decode c_H_leastRule 33 = .ok (.getfield 36, 3) := by decide +kernel
theorem d_H_leastRule_36 : decode c_H_leastRule 36 = .ok (.aload_n 0, 1) := by decide +kernel
theorem d_H_leastRule_37 : decode c_H_leastRule 37 = .ok (.getfield 20, 3) := by decide +kernel
theorem d_H_leastRule_40 : decode c_H_leastRule 40 = .ok (.iload 4, 2) := by decide +kernel
theorem d_H_leastRule_42 : decode c_H_leastRule 42 = .ok (.aaload, 1) := by decide +kernel
theorem d_H_leastRule_43 : decode c_H_leastRule 43 = .ok (.bipush 20, 2) := by decide +kernel
theorem d_H_leastRule_45 : decode c_H_leastRule 45 = .ok (.invokevirtual 262, 3) := by decide +kernel
theorem d_H_leastRule_48 : decode c_H_leastRule 48 = .ok (.ifCond .eq 6, 3) := by decide +kernel
theorem d_H_leastRule_51 : decode c_H_leastRule 51 = .ok (.iload 4, 2) := by decide +kernel
theorem d_H_leastRule_53 : decode c_H_leastRule 53 = .ok (.ireturn, 1) := by decide +kernel
theorem d_H_leastRule_54 : decode c_H_leastRule 54 = .ok (.iinc 4 1, 3) := by decide +kernel
theorem d_H_leastRule_57 : decode c_H_leastRule 57 = .ok (.goto (-54), 3) := by decide +kernel
theorem d_H_leastRule_60 : decode c_H_leastRule 60 = .ok (.iconst (-1), 1) := by decide +kernel
theorem d_H_leastRule_61 : decode c_H_leastRule 61 = .ok (.ireturn, 1) := by decide +kernel
theorem d_A_init_0 : decode c_A_init 0 = .ok (.aload_n 0, 1) := by decide +kernel
theorem d_A_init_1 : decode c_A_init 1 = .ok (.invokespecial 3, 3) := by decide +kernel
theorem d_A_init_4 : decode c_A_init 4 = .ok (.return_, 1) := by decide +kernel
theorem d_A_become_0 : decode c_A_become 0 = .ok (.aload_n 0, 1) := by decide +kernel
theorem d_A_become_1 : decode c_A_become 1 = .ok (.iload_n 1, 1) := by decide +kernel
theorem d_A_become_2 : decode c_A_become 2 = .ok (.putfield 9, 3) := by decide +kernel
theorem d_A_become_5 : decode c_A_become 5 = .ok (.aload_n 0, 1) := by decide +kernel
theorem d_A_become_6 : decode c_A_become 6 = .ok (.iload_n 2, 1) := by decide +kernel
theorem d_A_become_7 : decode c_A_become 7 = .ok (.putfield 15, 3) := by decide +kernel
theorem d_A_become_10 : decode c_A_become 10 = .ok (.aload_n 0, 1) := by decide +kernel
theorem d_A_become_11 : decode c_A_become 11 = .ok (.iload_n 3, 1) := by decide +kernel
theorem d_A_become_12 : decode c_A_become 12 = .ok (.putfield 18, 3) := by decide +kernel
theorem d_A_become_15 : decode c_A_become 15 = .ok (.aload_n 0, 1) := by decide +kernel
theorem d_A_become_16 : decode c_A_become 16 = .ok (.iload 4, 2) := by decide +kernel
theorem d_A_become_18 : decode c_A_become 18 = .ok (.putfield 21, 3) := by decide +kernel
theorem d_A_become_21 : decode c_A_become 21 = .ok (.return_, 1) := by decide +kernel
theorem d_A_variables_0 : decode c_A_variables 0 = .ok (.iconst 1, 1) := by decide +kernel
theorem d_A_variables_1 : decode c_A_variables 1 = .ok (.aload_n 0, 1) := by decide +kernel
theorem d_A_variables_2 : decode c_A_variables 2 = .ok (.getfield 15, 3) := by decide +kernel
theorem d_A_variables_5 : decode c_A_variables 5 = .ok (.ishl, 1) := by decide +kernel
theorem d_A_variables_6 : decode c_A_variables 6 = .ok (.iconst 1, 1) := by decide +kernel
theorem d_A_variables_7 : decode c_A_variables 7 = .ok (.aload_n 0, 1) := by decide +kernel
theorem d_A_variables_8 : decode c_A_variables 8 = .ok (.getfield 18, 3) := by decide +kernel
theorem d_A_variables_11 : decode c_A_variables 11 = .ok (.ishl, 1) := by decide +kernel
theorem d_A_variables_12 : decode c_A_variables 12 = .ok (.ior, 1) := by decide +kernel
theorem d_A_variables_13 : decode c_A_variables 13 = .ok (.ldc 25, 2) := by decide +kernel
theorem d_A_variables_15 : decode c_A_variables 15 = .ok (.iand, 1) := by decide +kernel
theorem d_A_variables_16 : decode c_A_variables 16 = .ok (.ireturn, 1) := by decide +kernel
theorem d_M_init_0 : decode c_M_init 0 = .ok (.aload_n 0, 1) := by decide +kernel
theorem d_M_init_1 : decode c_M_init 1 = .ok (.invokespecial 3, 3) := by decide +kernel
theorem d_M_init_4 : decode c_M_init 4 = .ok (.aload_n 0, 1) := by decide +kernel
theorem d_M_init_5 : decode c_M_init 5 = .ok (.new 9, 3) := by decide +kernel
theorem d_M_init_8 : decode c_M_init 8 = .ok (.dup, 1) := by decide +kernel
theorem d_M_init_9 : decode c_M_init 9 = .ok (.invokespecial 11, 3) := by decide +kernel
theorem d_M_init_12 : decode c_M_init 12 = .ok (.putfield 12, 3) := by decide +kernel
theorem d_M_init_15 : decode c_M_init 15 = .ok (.aload_n 0, 1) := by decide +kernel
theorem d_M_init_16 : decode c_M_init 16 = .ok (.bipush 24, 2) := by decide +kernel
theorem d_M_init_18 : decode c_M_init 18 = .ok (.newarray .int, 2) := by decide +kernel
theorem d_M_init_20 : decode c_M_init 20 = .ok (.putfield 18, 3) := by decide +kernel
theorem d_M_init_23 : decode c_M_init 23 = .ok (.iconst 0, 1) := by decide +kernel
theorem d_M_init_24 : decode c_M_init 24 = .ok (.istore_n 1, 1) := by decide +kernel
theorem d_M_init_25 : decode c_M_init 25 = .ok (.iload_n 1, 1) := by decide +kernel
theorem d_M_init_26 : decode c_M_init 26 = .ok (.bipush 12, 2) := by decide +kernel
theorem d_M_init_28 : decode c_M_init 28 = .ok (.if_icmp .ge 16, 3) := by decide +kernel
theorem d_M_init_31 : decode c_M_init 31 = .ok (.aload_n 0, 1) := by decide +kernel
theorem d_M_init_32 : decode c_M_init 32 = .ok (.getfield 18, 3) := by decide +kernel
theorem d_M_init_35 : decode c_M_init 35 = .ok (.iload_n 1, 1) := by decide +kernel
theorem d_M_init_36 : decode c_M_init 36 = .ok (.iload_n 1, 1) := by decide +kernel
theorem d_M_init_37 : decode c_M_init 37 = .ok (.iastore, 1) := by decide +kernel
theorem d_M_init_38 : decode c_M_init 38 = .ok (.iinc 1 1, 3) := by decide +kernel
theorem d_M_init_41 : decode c_M_init 41 = .ok (.goto (-16), 3) := by decide +kernel
theorem d_M_init_44 : decode c_M_init 44 = .ok (.return_, 1) := by decide +kernel
theorem d_M_forget_0 : decode c_M_forget 0 = .ok (.bipush 20, 2) := by decide +kernel
theorem d_M_forget_2 : decode c_M_forget 2 = .ok (.istore_n 1, 1) := by decide +kernel
theorem d_M_forget_3 : decode c_M_forget 3 = .ok (.iload_n 1, 1) := by decide +kernel
theorem d_M_forget_4 : decode c_M_forget 4 = .ok (.bipush 24, 2) := by decide +kernel
theorem d_M_forget_6 : decode c_M_forget 6 = .ok (.if_icmp .ge 16, 3) := by decide +kernel
theorem d_M_forget_9 : decode c_M_forget 9 = .ok (.aload_n 0, 1) := by decide +kernel
theorem d_M_forget_10 : decode c_M_forget 10 = .ok (.getfield 18, 3) := by decide +kernel
theorem d_M_forget_13 : decode c_M_forget 13 = .ok (.iload_n 1, 1) := by decide +kernel
theorem d_M_forget_14 : decode c_M_forget 14 = .ok (.iconst (-1), 1) := by decide +kernel
theorem d_M_forget_15 : decode c_M_forget 15 = .ok (.iastore, 1) := by decide +kernel
theorem d_M_forget_16 : decode c_M_forget 16 = .ok (.iinc 1 1, 3) := by decide +kernel
theorem d_M_forget_19 : decode c_M_forget 19 = .ok (.goto (-16), 3) := by decide +kernel
theorem d_M_forget_22 : decode c_M_forget 22 = .ok (.return_, 1) := by decide +kernel
theorem d_M_bind_0 : decode c_M_bind 0 = .ok (.aload_n 0, 1) := by decide +kernel
theorem d_M_bind_1 : decode c_M_bind 1 = .ok (.getfield 18, 3) := by decide +kernel
theorem d_M_bind_4 : decode c_M_bind 4 = .ok (.iload_n 1, 1) := by decide +kernel
theorem d_M_bind_5 : decode c_M_bind 5 = .ok (.iaload, 1) := by decide +kernel
theorem d_M_bind_6 : decode c_M_bind 6 = .ok (.iconst (-1), 1) := by decide +kernel
theorem d_M_bind_7 : decode c_M_bind 7 = .ok (.if_icmp .ne 10, 3) := by decide +kernel
theorem d_M_bind_10 : decode c_M_bind 10 = .ok (.aload_n 0, 1) := by decide +kernel
theorem d_M_bind_11 : decode c_M_bind 11 = .ok (.getfield 18, 3) := by decide +kernel
theorem d_M_bind_14 : decode c_M_bind 14 = .ok (.iload_n 1, 1) := by decide +kernel
theorem d_M_bind_15 : decode c_M_bind 15 = .ok (.iload_n 2, 1) := by decide +kernel
theorem d_M_bind_16 : decode c_M_bind 16 = .ok (.iastore, 1) := by decide +kernel
theorem d_M_bind_17 : decode c_M_bind 17 = .ok (.aload_n 0, 1) := by decide +kernel
theorem d_M_bind_18 : decode c_M_bind 18 = .ok (.getfield 18, 3) := by decide +kernel
theorem d_M_bind_21 : decode c_M_bind 21 = .ok (.iload_n 1, 1) := by decide +kernel
theorem d_M_bind_22 : decode c_M_bind 22 = .ok (.iaload, 1) := by decide +kernel
theorem d_M_bind_23 : decode c_M_bind 23 = .ok (.iload_n 2, 1) := by decide +kernel
theorem d_M_bind_24 : decode c_M_bind 24 = .ok (.if_icmp .ne 7, 3) := by decide +kernel
theorem d_M_bind_27 : decode c_M_bind 27 = .ok (.iconst 1, 1) := by decide +kernel
theorem d_M_bind_28 : decode c_M_bind 28 = .ok (.goto 4, 3) := by decide +kernel
theorem d_M_bind_31 : decode c_M_bind 31 = .ok (.iconst 0, 1) := by decide +kernel
theorem d_M_bind_32 : decode c_M_bind 32 = .ok (.ireturn, 1) := by decide +kernel
theorem d_M_meets_0 : decode c_M_meets 0 = .ok (.aload_n 0, 1) := by decide +kernel
theorem d_M_meets_1 : decode c_M_meets 1 = .ok (.invokevirtual 22, 3) := by decide +kernel
theorem d_M_meets_4 : decode c_M_meets 4 = .ok (.aload_n 1, 1) := by decide +kernel
theorem d_M_meets_5 : decode c_M_meets 5 = .ok (.getfield 25, 3) := by decide +kernel
theorem d_M_meets_8 : decode c_M_meets 8 = .ok (.getfield 31, 3) := by decide +kernel
theorem d_M_meets_11 : decode c_M_meets 11 = .ok (.iload_n 2, 1) := by decide +kernel
theorem d_M_meets_12 : decode c_M_meets 12 = .ok (.if_icmp .ne 46, 3) := by decide +kernel
theorem d_M_meets_15 : decode c_M_meets 15 = .ok (.aload_n 0, 1) := by decide +kernel
theorem d_M_meets_16 : decode c_M_meets 16 = .ok (.aload_n 1, 1) := by decide +kernel
theorem d_M_meets_17 : decode c_M_meets 17 = .ok (.getfield 25, 3) := by decide +kernel
theorem d_M_meets_20 : decode c_M_meets 20 = .ok (.getfield 37, 3) := by decide +kernel
theorem d_M_meets_23 : decode c_M_meets 23 = .ok (.iload_n 3, 1) := by decide +kernel
theorem d_M_meets_24 : decode c_M_meets 24 = .ok (.invokevirtual 40, 3) := by decide +kernel
theorem d_M_meets_27 : decode c_M_meets 27 = .ok (.ifCond .eq 31, 3) := by decide +kernel
theorem d_M_meets_30 : decode c_M_meets 30 = .ok (.aload_n 0, 1) := by decide +kernel
theorem d_M_meets_31 : decode c_M_meets 31 = .ok (.aload_n 1, 1) := by decide +kernel
theorem d_M_meets_32 : decode c_M_meets 32 = .ok (.getfield 25, 3) := by decide +kernel
theorem d_M_meets_35 : decode c_M_meets 35 = .ok (.getfield 44, 3) := by decide +kernel
theorem d_M_meets_38 : decode c_M_meets 38 = .ok (.iload 4, 2) := by decide +kernel
theorem d_M_meets_40 : decode c_M_meets 40 = .ok (.invokevirtual 40, 3) := by decide +kernel
end
section
theorem d_M_meets_43 : decode c_M_meets 43 = .ok (.ifCond .eq 15, 3) := by decide +kernel
theorem d_M_meets_46 : decode c_M_meets 46 = .ok (.aload_n 0, 1) := by decide +kernel
theorem d_M_meets_47 : decode c_M_meets 47 = .ok (.aload_n 1, 1) := by decide +kernel
theorem d_M_meets_48 : decode c_M_meets 48 = .ok (.invokevirtual 47, 3) := by decide +kernel
theorem d_M_meets_51 : decode c_M_meets 51 = .ok (.ifCond .eq 7, 3) := by decide +kernel
theorem d_M_meets_54 : decode c_M_meets 54 = .ok (.iconst 1, 1) := by decide +kernel
theorem d_M_meets_55 : decode c_M_meets 55 = .ok (.goto 4, 3) := by decide +kernel
theorem d_M_meets_58 : decode c_M_meets 58 = .ok (.iconst 0, 1) := by decide +kernel
theorem d_M_meets_59 : decode c_M_meets 59 = .ok (.ireturn, 1) := by decide +kernel
theorem d_M_knownAgree_0 : decode c_M_knownAgree 0 = .ok (.iconst 0, 1) := by decide +kernel
theorem d_M_knownAgree_1 : decode c_M_knownAgree 1 = .ok (.istore_n 2, 1) := by decide +kernel
theorem d_M_knownAgree_2 : decode c_M_knownAgree 2 = .ok (.iload_n 2, 1) := by decide +kernel
theorem d_M_knownAgree_3 : decode c_M_knownAgree 3 = .ok (.aload_n 1, 1) := by decide +kernel
theorem d_M_knownAgree_4 : decode c_M_knownAgree 4 = .ok (.getfield 51, 3) := by decide +kernel
theorem d_M_knownAgree_7 : decode c_M_knownAgree 7 = .ok (.if_icmp .ge 74, 3) := by decide +kernel
theorem d_M_knownAgree_10 : decode c_M_knownAgree 10 = .ok (.aload_n 1, 1) := by decide +kernel
theorem d_M_knownAgree_11 : decode c_M_knownAgree 11 = .ok (.getfield 54, 3) := by decide +kernel
theorem d_M_knownAgree_14 : decode c_M_knownAgree 14 = .ok (.iload_n 2, 1) := by decide +kernel
theorem d_M_knownAgree_15 : decode c_M_knownAgree 15 = .ok (.aaload, 1) := by decide +kernel
theorem d_M_knownAgree_16 : decode c_M_knownAgree 16 = .ok (.astore_n 3, 1) := by decide +kernel
theorem d_M_knownAgree_17 : decode c_M_knownAgree 17 = .ok (.aload_n 0, 1) := by decide +kernel
theorem d_M_knownAgree_18 : decode c_M_knownAgree 18 = .ok (.getfield 18, 3) := by decide +kernel
theorem d_M_knownAgree_21 : decode c_M_knownAgree 21 = .ok (.aload_n 3, 1) := by decide +kernel
theorem d_M_knownAgree_22 : decode c_M_knownAgree 22 = .ok (.getfield 37, 3) := by decide +kernel
theorem d_M_knownAgree_25 : decode c_M_knownAgree 25 = .ok (.iaload, 1) := by decide +kernel
theorem d_M_knownAgree_26 : decode c_M_knownAgree 26 = .ok (.istore 4, 2) := by decide +kernel
theorem d_M_knownAgree_28 : decode c_M_knownAgree 28 = .ok (.aload_n 0, 1) := by decide +kernel
theorem d_M_knownAgree_29 : decode c_M_knownAgree 29 = .ok (.getfield 18, 3) := by decide +kernel
theorem d_M_knownAgree_32 : decode c_M_knownAgree 32 = .ok (.aload_n 3, 1) := by decide +kernel
theorem d_M_knownAgree_33 : decode c_M_knownAgree 33 = .ok (.getfield 44, 3) := by decide +kernel
theorem d_M_knownAgree_36 : decode c_M_knownAgree 36 = .ok (.iaload, 1) := by decide +kernel
theorem d_M_knownAgree_37 : decode c_M_knownAgree 37 = .ok (.istore 5, 2) := by decide +kernel
theorem d_M_knownAgree_39 : decode c_M_knownAgree 39 = .ok (.iload 4, 2) := by decide +kernel
theorem d_M_knownAgree_41 : decode c_M_knownAgree 41 = .ok (.iconst (-1), 1) := by decide +kernel
theorem d_M_knownAgree_42 : decode c_M_knownAgree 42 = .ok (.if_icmp .eq 33, 3) := by decide +kernel
theorem d_M_knownAgree_45 : decode c_M_knownAgree 45 = .ok (.iload 5, 2) := by decide +kernel
theorem d_M_knownAgree_47 : decode c_M_knownAgree 47 = .ok (.iconst (-1), 1) := by decide +kernel
theorem d_M_knownAgree_48 : decode c_M_knownAgree 48 = .ok (.if_icmp .eq 27, 3) := by decide +kernel
theorem d_M_knownAgree_51 : decode c_M_knownAgree 51 = .ok (.aload_n 0, 1) := by decide +kernel
theorem d_M_knownAgree_52 : decode c_M_knownAgree 52 = .ok (.getfield 12, 3) := by decide +kernel
theorem d_M_knownAgree_55 : decode c_M_knownAgree 55 = .ok (.aload_n 3, 1) := by decide +kernel
theorem d_M_knownAgree_56 : decode c_M_knownAgree 56 = .ok (.getfield 31, 3) := by decide +kernel
theorem d_M_knownAgree_59 : decode c_M_knownAgree 59 = .ok (.iload 4, 2) := by decide +kernel
theorem d_M_knownAgree_61 : decode c_M_knownAgree 61 = .ok (.iload 5, 2) := by decide +kernel
theorem d_M_knownAgree_63 : decode c_M_knownAgree 63 = .ok (.invokevirtual 58, 3) := by decide +kernel
theorem d_M_knownAgree_66 : decode c_M_knownAgree 66 = .ok (.aload_n 3, 1) := by decide +kernel
theorem d_M_knownAgree_67 : decode c_M_knownAgree 67 = .ok (.getfield 62, 3) := by decide +kernel
theorem d_M_knownAgree_70 : decode c_M_knownAgree 70 = .ok (.if_icmp .ne 5, 3) := by decide +kernel
theorem d_M_knownAgree_73 : decode c_M_knownAgree 73 = .ok (.iconst 0, 1) := by decide +kernel
theorem d_M_knownAgree_74 : decode c_M_knownAgree 74 = .ok (.ireturn, 1) := by decide +kernel
theorem d_M_knownAgree_75 : decode c_M_knownAgree 75 = .ok (.iinc 2 1, 3) := by decide +kernel
theorem d_M_knownAgree_78 : decode c_M_knownAgree 78 = .ok (.goto (-76), 3) := by decide +kernel
theorem d_M_knownAgree_81 : decode c_M_knownAgree 81 = .ok (.iconst 1, 1) := by decide +kernel
theorem d_M_knownAgree_82 : decode c_M_knownAgree 82 = .ok (.ireturn, 1) := by decide +kernel
theorem d_M_choices_0 : decode c_M_choices 0 = .ok (.aload_n 0, 1) := by decide +kernel
theorem d_M_choices_1 : decode c_M_choices 1 = .ok (.getfield 18, 3) := by decide +kernel
theorem d_M_choices_4 : decode c_M_choices 4 = .ok (.iload_n 2, 1) := by decide +kernel
theorem d_M_choices_5 : decode c_M_choices 5 = .ok (.iaload, 1) := by decide +kernel
theorem d_M_choices_6 : decode c_M_choices 6 = .ok (.iconst (-1), 1) := by decide +kernel
theorem d_M_choices_7 : decode c_M_choices 7 = .ok (.if_icmp .eq 12, 3) := by decide +kernel
theorem d_M_choices_10 : decode c_M_choices 10 = .ok (.iconst 1, 1) := by decide +kernel
theorem d_M_choices_11 : decode c_M_choices 11 = .ok (.aload_n 0, 1) := by decide +kernel
theorem d_M_choices_12 : decode c_M_choices 12 = .ok (.getfield 18, 3) := by decide +kernel
theorem d_M_choices_15 : decode c_M_choices 15 = .ok (.iload_n 2, 1) := by decide +kernel
theorem d_M_choices_16 : decode c_M_choices 16 = .ok (.iaload, 1) := by decide +kernel
theorem d_M_choices_17 : decode c_M_choices 17 = .ok (.ishl, 1) := by decide +kernel
theorem d_M_choices_18 : decode c_M_choices 18 = .ok (.ireturn, 1) := by decide +kernel
theorem d_M_choices_19 : decode c_M_choices 19 = .ok (.sipush 4095, 3) := by decide +kernel
theorem d_M_choices_22 : decode c_M_choices 22 = .ok (.istore_n 3, 1) := by decide +kernel
theorem d_M_choices_23 : decode c_M_choices 23 = .ok (.iconst 0, 1) := by decide +kernel
theorem d_M_choices_24 : decode c_M_choices 24 = .ok (.istore 4, 2) := by decide +kernel
theorem d_M_choices_26 : decode c_M_choices 26 = .ok (.iload 4, 2) := by decide +kernel
theorem d_M_choices_28 : decode c_M_choices 28 = .ok (.aload_n 1, 1) := by decide +kernel
theorem d_M_choices_29 : decode c_M_choices 29 = .ok (.getfield 51, 3) := by decide +kernel
theorem d_M_choices_32 : decode c_M_choices 32 = .ok (.if_icmp .ge 46, 3) := by decide +kernel
theorem d_M_choices_35 : decode c_M_choices 35 = .ok (.aload_n 1, 1) := by decide +kernel
theorem d_M_choices_36 : decode c_M_choices 36 = .ok (.getfield 54, 3) := by decide +kernel
theorem d_M_choices_39 : decode c_M_choices 39 = .ok (.iload 4, 2) := by decide +kernel
theorem d_M_choices_41 : decode c_M_choices 41 = .ok (.aaload, 1) := by decide +kernel
theorem d_M_choices_42 : decode c_M_choices 42 = .ok (.astore 5, 2) := by decide +kernel
theorem d_M_choices_44 : decode c_M_choices 44 = .ok (.aload 5, 2) := by decide +kernel
theorem d_M_choices_46 : decode c_M_choices 46 = .ok (.getfield 37, 3) := by decide +kernel
theorem d_M_choices_49 : decode c_M_choices 49 = .ok (.iload_n 2, 1) := by decide +kernel
theorem d_M_choices_50 : decode c_M_choices 50 = .ok (.if_icmp .eq 12, 3) := by decide +kernel
theorem d_M_choices_53 : decode c_M_choices 53 = .ok (.aload 5, 2) := by decide +kernel
theorem d_M_choices_55 : decode c_M_choices 55 = .ok (.getfield 44, 3) := by decide +kernel
theorem d_M_choices_58 : decode c_M_choices 58 = .ok (.iload_n 2, 1) := by decide +kernel
theorem d_M_choices_59 : decode c_M_choices 59 = .ok (.if_icmp .ne 13, 3) := by decide +kernel
theorem d_M_choices_62 : decode c_M_choices 62 = .ok (.iload_n 3, 1) := by decide +kernel
theorem d_M_choices_63 : decode c_M_choices 63 = .ok (.aload_n 0, 1) := by decide +kernel
theorem d_M_choices_64 : decode c_M_choices 64 = .ok (.aload 5, 2) := by decide +kernel
theorem d_M_choices_66 : decode c_M_choices 66 = .ok (.iload_n 2, 1) := by decide +kernel
theorem d_M_choices_67 : decode c_M_choices 67 = .ok (.invokevirtual 66, 3) := by decide +kernel
theorem d_M_choices_70 : decode c_M_choices 70 = .ok (.iand, 1) := by decide +kernel
theorem d_M_choices_71 : decode c_M_choices 71 = .ok (.istore_n 3, 1) := by decide +kernel
theorem d_M_choices_72 : decode c_M_choices 72 = .ok (.iinc 4 1, 3) := by decide +kernel
theorem d_M_choices_75 : decode c_M_choices 75 = .ok (.goto (-49), 3) := by decide +kernel
theorem d_M_choices_78 : decode c_M_choices 78 = .ok (.iload_n 3, 1) := by decide +kernel
theorem d_M_choices_79 : decode c_M_choices 79 = .ok (.ireturn, 1) := by decide +kernel
theorem d_M_choicesBy_0 : decode c_M_choicesBy 0 = .ok (.aload_n 1, 1) := by decide +kernel
theorem d_M_choicesBy_1 : decode c_M_choicesBy 1 = .ok (.getfield 31, 3) := by decide +kernel
theorem d_M_choicesBy_4 : decode c_M_choicesBy 4 = .ok (.istore_n 3, 1) := by decide +kernel
theorem d_M_choicesBy_5 : decode c_M_choicesBy 5 = .ok (.aload_n 1, 1) := by decide +kernel
theorem d_M_choicesBy_6 : decode c_M_choicesBy 6 = .ok (.getfield 37, 3) := by decide +kernel
theorem d_M_choicesBy_9 : decode c_M_choicesBy 9 = .ok (.iload_n 2, 1) := by decide +kernel
theorem d_M_choicesBy_10 : decode c_M_choicesBy 10 = .ok (.if_icmp .ne 7, 3) := by decide +kernel
theorem d_M_choicesBy_13 : decode c_M_choicesBy 13 = .ok (.iconst 1, 1) := by decide +kernel
theorem d_M_choicesBy_14 : decode c_M_choicesBy 14 = .ok (.goto 4, 3) := by decide +kernel
theorem d_M_choicesBy_17 : decode c_M_choicesBy 17 = .ok (.iconst 0, 1) := by decide +kernel
theorem d_M_choicesBy_18 : decode c_M_choicesBy 18 = .ok (.istore 4, 2) := by decide +kernel
theorem d_M_choicesBy_20 : decode c_M_choicesBy 20 = .ok (.aload_n 0, 1) := by decide +kernel
theorem d_M_choicesBy_21 : decode c_M_choicesBy 21 = .ok (.getfield 18, 3) := by decide +kernel
theorem d_M_choicesBy_24 : decode c_M_choicesBy 24 = .ok (.iload 4, 2) := by decide +kernel
theorem d_M_choicesBy_26 : decode c_M_choicesBy 26 = .ok (.ifCond .eq 10, 3) := by decide +kernel
theorem d_M_choicesBy_29 : decode c_M_choicesBy 29 = .ok (.aload_n 1, 1) := by decide +kernel
theorem d_M_choicesBy_30 : decode c_M_choicesBy 30 = .ok (.getfield 44, 3) := by decide +kernel
theorem d_M_choicesBy_33 : decode c_M_choicesBy 33 = .ok (.goto 7, 3) := by decide +kernel
theorem d_M_choicesBy_36 : decode c_M_choicesBy 36 = .ok (.aload_n 1, 1) := by decide +kernel
theorem d_M_choicesBy_37 : decode c_M_choicesBy 37 = .ok (.getfield 37, 3) := by decide +kernel
theorem d_M_choicesBy_40 : decode c_M_choicesBy 40 = .ok (.iaload, 1) := by decide +kernel
theorem d_M_choicesBy_41 : decode c_M_choicesBy 41 = .ok (.istore 5, 2) := by decide +kernel
theorem d_M_choicesBy_43 : decode c_M_choicesBy 43 = .ok (.aload_n 1, 1) := by decide +kernel
theorem d_M_choicesBy_44 : decode c_M_choicesBy 44 = .ok (.getfield 37, 3) := by decide +kernel
theorem d_M_choicesBy_47 : decode c_M_choicesBy 47 = .ok (.aload_n 1, 1) := by decide +kernel
theorem d_M_choicesBy_48 : decode c_M_choicesBy 48 = .ok (.getfield 44, 3) := by decide +kernel
theorem d_M_choicesBy_51 : decode c_M_choicesBy 51 = .ok (.if_icmp .ne 17, 3) := by decide +kernel
theorem d_M_choicesBy_54 : decode c_M_choicesBy 54 = .ok (.aload_n 0, 1) := by decide +kernel
theorem d_M_choicesBy_55 : decode c_M_choicesBy 55 = .ok (.getfield 12, 3) := by decide +kernel
theorem d_M_choicesBy_58 : decode c_M_choicesBy 58 = .ok (.getfield 70, 3) := by decide +kernel
theorem d_M_choicesBy_61 : decode c_M_choicesBy 61 = .ok (.iload_n 3, 1) := by decide +kernel
theorem d_M_choicesBy_62 : decode c_M_choicesBy 62 = .ok (.iaload, 1) := by decide +kernel
theorem d_M_choicesBy_63 : decode c_M_choicesBy 63 = .ok (.istore 6, 2) := by decide +kernel
theorem d_M_choicesBy_65 : decode c_M_choicesBy 65 = .ok (.goto 92, 3) := by decide +kernel
theorem d_M_choicesBy_68 : decode c_M_choicesBy 68 = .ok (.iload 5, 2) := by decide +kernel
theorem d_M_choicesBy_70 : decode c_M_choicesBy 70 = .ok (.iconst (-1), 1) := by decide +kernel
theorem d_M_choicesBy_71 : decode c_M_choicesBy 71 = .ok (.if_icmp .eq 45, 3) := by decide +kernel
theorem d_M_choicesBy_74 : decode c_M_choicesBy 74 = .ok (.iload_n 3, 1) := by decide +kernel
theorem d_M_choicesBy_75 : decode c_M_choicesBy 75 = .ok (.bipush 12, 2) := by decide +kernel
theorem d_M_choicesBy_77 : decode c_M_choicesBy 77 = .ok (.imul, 1) := by decide +kernel
theorem d_M_choicesBy_78 : decode c_M_choicesBy 78 = .ok (.iload 5, 2) := by decide +kernel
theorem d_M_choicesBy_80 : decode c_M_choicesBy 80 = .ok (.iadd, 1) := by decide +kernel
theorem d_M_choicesBy_81 : decode c_M_choicesBy 81 = .ok (.istore 7, 2) := by decide +kernel
theorem d_M_choicesBy_83 : decode c_M_choicesBy 83 = .ok (.iload 4, 2) := by decide +kernel
theorem d_M_choicesBy_85 : decode c_M_choicesBy 85 = .ok (.ifCond .eq 16, 3) := by decide +kernel
theorem d_M_choicesBy_88 : decode c_M_choicesBy 88 = .ok (.aload_n 0, 1) := by decide +kernel
theorem d_M_choicesBy_89 : decode c_M_choicesBy 89 = .ok (.getfield 12, 3) := by decide +kernel
theorem d_M_choicesBy_92 : decode c_M_choicesBy 92 = .ok (.getfield 73, 3) := by decide +kernel
theorem d_M_choicesBy_95 : decode c_M_choicesBy 95 = .ok (.iload 7, 2) := by decide +kernel
theorem d_M_choicesBy_97 : decode c_M_choicesBy 97 = .ok (.iaload, 1) := by decide +kernel
theorem d_M_choicesBy_98 : decode c_M_choicesBy 98 = .ok (.goto 13, 3) := by decide +kernel
theorem d_M_choicesBy_101 : decode c_M_choicesBy 101 = .ok (.aload_n 0, 1) := by decide +kernel
theorem d_M_choicesBy_102 : decode c_M_choicesBy 102 = .ok (.getfield 12, 3) := by decide +kernel
theorem d_M_choicesBy_105 : decode c_M_choicesBy 105 = .ok (.getfield 76, 3) := by decide +kernel
theorem d_M_choicesBy_108 : decode c_M_choicesBy 108 = .ok (.iload 7, 2) := by decide +kernel
theorem d_M_choicesBy_110 : decode c_M_choicesBy 110 = .ok (.iaload, 1) := by decide +kernel
theorem d_M_choicesBy_111 : decode c_M_choicesBy 111 = .ok (.istore 6, 2) := by decide +kernel
theorem d_M_choicesBy_113 : decode c_M_choicesBy 113 = .ok (.goto 44, 3) := by decide +kernel
theorem d_M_choicesBy_116 : decode c_M_choicesBy 116 = .ok (.aload_n 1, 1) := by decide +kernel
theorem d_M_choicesBy_117 : decode c_M_choicesBy 117 = .ok (.getfield 62, 3) := by decide +kernel
theorem d_M_choicesBy_120 : decode c_M_choicesBy 120 = .ok (.ifCond .eq 9, 3) := by decide +kernel
theorem d_M_choicesBy_123 : decode c_M_choicesBy 123 = .ok (.iconst 0, 1) := by decide +kernel
theorem d_M_choicesBy_124 : decode c_M_choicesBy 124 = .ok (.istore 6, 2) := by decide +kernel
theorem d_M_choicesBy_126 : decode c_M_choicesBy 126 = .ok (.goto 31, 3) := by decide +kernel
theorem d_M_choicesBy_129 : decode c_M_choicesBy 129 = .ok (.iload 4, 2) := by decide +kernel
theorem d_M_choicesBy_131 : decode c_M_choicesBy 131 = .ok (.ifCond .eq 15, 3) := by decide +kernel
theorem d_M_choicesBy_134 : decode c_M_choicesBy 134 = .ok (.aload_n 0, 1) := by decide +kernel
theorem d_M_choicesBy_135 : decode c_M_choicesBy 135 = .ok (.getfield 12, 3) := by decide +kernel
theorem d_M_choicesBy_138 : decode c_M_choicesBy 138 = .ok (.getfield 79, 3) := by decide +kernel
theorem d_M_choicesBy_141 : decode c_M_choicesBy 141 = .ok (.iload_n 3, 1) := by decide +kernel
theorem d_M_choicesBy_142 : decode c_M_choicesBy 142 = .ok (.iaload, 1) := by decide +kernel
theorem d_M_choicesBy_143 : decode c_M_choicesBy 143 = .ok (.goto 12, 3) := by decide +kernel
theorem d_M_choicesBy_146 : decode c_M_choicesBy 146 = .ok (.aload_n 0, 1) := by decide +kernel
theorem d_M_choicesBy_147 : decode c_M_choicesBy 147 = .ok (.getfield 12, 3) := by decide +kernel
theorem d_M_choicesBy_150 : decode c_M_choicesBy 150 = .ok (.getfield 82, 3) := by decide +kernel
theorem d_M_choicesBy_153 : decode c_M_choicesBy 153 = .ok (.iload_n 3, 1) := by decide +kernel
theorem d_M_choicesBy_154 : decode c_M_choicesBy 154 = .ok (.iaload, 1) := by decide +kernel
theorem d_M_choicesBy_155 : decode c_M_choicesBy 155 = .ok (.istore 6, 2) := by decide +kernel
theorem d_M_choicesBy_157 : decode c_M_choicesBy 157 = .ok (.aload_n 1, 1) := by decide +kernel
theorem d_M_choicesBy_158 : decode c_M_choicesBy 158 = .ok (.getfield 62, 3) := by decide +kernel
theorem d_M_choicesBy_161 : decode c_M_choicesBy 161 = .ok (.ifCond .eq 10, 3) := by decide +kernel
theorem d_M_choicesBy_164 : decode c_M_choicesBy 164 = .ok (.iload 6, 2) := by decide +kernel
theorem d_M_choicesBy_166 : decode c_M_choicesBy 166 = .ok (.iconst (-1), 1) := by decide +kernel
theorem d_M_choicesBy_167 : decode c_M_choicesBy 167 = .ok (.ixor, 1) := by decide +kernel
theorem d_M_choicesBy_168 : decode c_M_choicesBy 168 = .ok (.goto 5, 3) := by decide +kernel
theorem d_M_choicesBy_171 : decode c_M_choicesBy 171 = .ok (.iload 6, 2) := by decide +kernel
theorem d_M_choicesBy_173 : decode c_M_choicesBy 173 = .ok (.ireturn, 1) := by decide +kernel
theorem d_M_nextOpen_0 : decode c_M_nextOpen 0 = .ok (.iload_n 2, 1) := by decide +kernel
theorem d_M_nextOpen_1 : decode c_M_nextOpen 1 = .ok (.istore_n 3, 1) := by decide +kernel
theorem d_M_nextOpen_2 : decode c_M_nextOpen 2 = .ok (.iload_n 3, 1) := by decide +kernel
theorem d_M_nextOpen_3 : decode c_M_nextOpen 3 = .ok (.bipush 24, 2) := by decide +kernel
theorem d_M_nextOpen_5 : decode c_M_nextOpen 5 = .ok (.if_icmp .ge 32, 3) := by decide +kernel
theorem d_M_nextOpen_8 : decode c_M_nextOpen 8 = .ok (.aload_n 1, 1) := by decide +kernel
theorem d_M_nextOpen_9 : decode c_M_nextOpen 9 = .ok (.getfield 85, 3) := by decide +kernel
theorem d_M_nextOpen_12 : decode c_M_nextOpen 12 = .ok (.iload_n 3, 1) := by decide +kernel
theorem d_M_nextOpen_13 : decode c_M_nextOpen 13 = .ok (.invokestatic 88, 3) := by decide +kernel
theorem d_M_nextOpen_16 : decode c_M_nextOpen 16 = .ok (.ifCond .eq 15, 3) := by decide +kernel
theorem d_M_nextOpen_19 : decode c_M_nextOpen 19 = .ok (.aload_n 0, 1) := by decide +kernel
theorem d_M_nextOpen_20 : decode c_M_nextOpen 20 = .ok (.getfield 18, 3) := by decide +kernel
theorem d_M_nextOpen_23 : decode c_M_nextOpen 23 = .ok (.iload_n 3, 1) := by decide +kernel
theorem d_M_nextOpen_24 : decode c_M_nextOpen 24 = .ok (.iaload, 1) := by decide +kernel
theorem d_M_nextOpen_25 : decode c_M_nextOpen 25 = .ok (.iconst (-1), 1) := by decide +kernel
theorem d_M_nextOpen_26 : decode c_M_nextOpen 26 = .ok (.if_icmp .ne 5, 3) := by decide +kernel
theorem d_M_nextOpen_29 : decode c_M_nextOpen 29 = .ok (.iload_n 3, 1) := by decide +kernel
theorem d_M_nextOpen_30 : decode c_M_nextOpen 30 = .ok (.ireturn, 1) := by decide +kernel
theorem d_M_nextOpen_31 : decode c_M_nextOpen 31 = .ok (.iinc 3 1, 3) := by decide +kernel
theorem d_M_nextOpen_34 : decode c_M_nextOpen 34 = .ok (.goto (-32), 3) := by decide +kernel
theorem d_M_nextOpen_37 : decode c_M_nextOpen 37 = .ok (.bipush 24, 2) := by decide +kernel
theorem d_M_nextOpen_39 : decode c_M_nextOpen 39 = .ok (.ireturn, 1) := by decide +kernel
theorem d_M_findLeast_0 : decode c_M_findLeast 0 = .ok (.aload_n 0, 1) := by decide +kernel
theorem d_M_findLeast_1 : decode c_M_findLeast 1 = .ok (.aload_n 1, 1) := by decide +kernel
theorem d_M_findLeast_2 : decode c_M_findLeast 2 = .ok (.iload_n 2, 1) := by decide +kernel
theorem d_M_findLeast_3 : decode c_M_findLeast 3 = .ok (.invokevirtual 91, 3) := by decide +kernel
theorem d_M_findLeast_6 : decode c_M_findLeast 6 = .ok (.istore_n 3, 1) := by decide +kernel
theorem d_M_findLeast_7 : decode c_M_findLeast 7 = .ok (.iload_n 3, 1) := by decide +kernel
theorem d_M_findLeast_8 : decode c_M_findLeast 8 = .ok (.bipush 24, 2) := by decide +kernel
theorem d_M_findLeast_10 : decode c_M_findLeast 10 = .ok (.if_icmp .lt 5, 3) := by decide +kernel
theorem d_M_findLeast_13 : decode c_M_findLeast 13 = .ok (.iconst 1, 1) := by decide +kernel
theorem d_M_findLeast_14 : decode c_M_findLeast 14 = .ok (.ireturn, 1) := by decide +kernel
theorem d_M_findLeast_15 : decode c_M_findLeast 15 = .ok (.aload_n 0, 1) := by decide +kernel
theorem d_M_findLeast_16 : decode c_M_findLeast 16 = .ok (.aload_n 1, 1) := by decide +kernel
theorem d_M_findLeast_17 : decode c_M_findLeast 17 = .ok (.iload_n 3, 1) := by decide +kernel
theorem d_M_findLeast_18 : decode c_M_findLeast 18 = .ok (.invokevirtual 95, 3) := by decide +kernel
theorem d_M_findLeast_21 : decode c_M_findLeast 21 = .ok (.istore 4, 2) := by decide +kernel
theorem d_M_findLeast_23 : decode c_M_findLeast 23 = .ok (.iconst 0, 1) := by decide +kernel
theorem d_M_findLeast_24 : decode c_M_findLeast 24 = .ok (.istore 5, 2) := by decide +kernel
theorem d_M_findLeast_26 : decode c_M_findLeast 26 = .ok (.iload 5, 2) := by decide +kernel
theorem d_M_findLeast_28 : decode c_M_findLeast 28 = .ok (.bipush 12, 2) := by decide +kernel
theorem d_M_findLeast_30 : decode c_M_findLeast 30 = .ok (.if_icmp .ge 40, 3) := by decide +kernel
theorem d_M_findLeast_33 : decode c_M_findLeast 33 = .ok (.iload 4, 2) := by decide +kernel
theorem d_M_findLeast_35 : decode c_M_findLeast 35 = .ok (.iload 5, 2) := by decide +kernel
theorem d_M_findLeast_37 : decode c_M_findLeast 37 = .ok (.invokestatic 88, 3) := by decide +kernel
theorem d_M_findLeast_40 : decode c_M_findLeast 40 = .ok (.ifCond .eq 24, 3) := by decide +kernel
theorem d_M_findLeast_43 : decode c_M_findLeast 43 = .ok (.aload_n 0, 1) := by decide +kernel
theorem d_M_findLeast_44 : decode c_M_findLeast 44 = .ok (.getfield 18, 3) := by decide +kernel
theorem d_M_findLeast_47 : decode c_M_findLeast 47 = .ok (.iload_n 3, 1) := by decide +kernel
theorem d_M_findLeast_48 : decode c_M_findLeast 48 = .ok (.iload 5, 2) := by decide +kernel
theorem d_M_findLeast_50 : decode c_M_findLeast 50 = .ok (.iastore, 1) := by decide +kernel
theorem d_M_findLeast_51 : decode c_M_findLeast 51 = .ok (.aload_n 0, 1) := by decide +kernel
theorem d_M_findLeast_52 : decode c_M_findLeast 52 = .ok (.aload_n 1, 1) := by decide +kernel
theorem d_M_findLeast_53 : decode c_M_findLeast 53 = .ok (.iload_n 3, 1) := by decide +kernel
theorem d_M_findLeast_54 : decode c_M_findLeast 54 = .ok (.iconst 1, 1) := by decide +kernel
theorem d_M_findLeast_55 : decode c_M_findLeast 55 = .ok (.iadd, 1) := by decide +kernel
theorem d_M_findLeast_56 : decode c_M_findLeast 56 = .ok (.invokevirtual 98, 3) := by decide +kernel
theorem d_M_findLeast_59 : decode c_M_findLeast 59 = .ok (.ifCond .eq 5, 3) := by decide +kernel
theorem d_M_findLeast_62 : decode c_M_findLeast 62 = .ok (.iconst 1, 1) := by decide +kernel
theorem d_M_findLeast_63 : decode c_M_findLeast 63 = .ok (.ireturn, 1) := by decide +kernel
theorem d_M_findLeast_64 : decode c_M_findLeast 64 = .ok (.iinc 5 1, 3) := by decide +kernel
theorem d_M_findLeast_67 : decode c_M_findLeast 67 = .ok (.goto (-41), 3) := by decide +kernel
theorem d_M_findLeast_70 : decode c_M_findLeast 70 = .ok (.aload_n 0, 1) := by decide +kernel
theorem d_M_findLeast_71 : decode c_M_findLeast 71 = .ok (.getfield 18, 3) := by decide +kernel
theorem d_M_findLeast_74 : decode c_M_findLeast 74 = .ok (.iload_n 3, 1) := by decide +kernel
theorem d_M_findLeast_75 : decode c_M_findLeast 75 = .ok (.iconst (-1), 1) := by decide +kernel
theorem d_M_findLeast_76 : decode c_M_findLeast 76 = .ok (.iastore, 1) := by decide +kernel
theorem d_M_findLeast_77 : decode c_M_findLeast 77 = .ok (.iconst 0, 1) := by decide +kernel
theorem d_M_findLeast_78 : decode c_M_findLeast 78 = .ok (.ireturn, 1) := by decide +kernel
theorem d_M_countInstances_0 : decode c_M_countInstances 0 = .ok (.aload_n 0, 1) := by decide +kernel
theorem d_M_countInstances_1 : decode c_M_countInstances 1 = .ok (.aload_n 1, 1) := by decide +kernel
theorem d_M_countInstances_2 : decode c_M_countInstances 2 = .ok (.iload_n 2, 1) := by decide +kernel
theorem d_M_countInstances_3 : decode c_M_countInstances 3 = .ok (.invokevirtual 91, 3) := by decide +kernel
theorem d_M_countInstances_6 : decode c_M_countInstances 6 = .ok (.istore_n 3, 1) := by decide +kernel
theorem d_M_countInstances_7 : decode c_M_countInstances 7 = .ok (.iload_n 3, 1) := by decide +kernel
theorem d_M_countInstances_8 : decode c_M_countInstances 8 = .ok (.bipush 24, 2) := by decide +kernel
theorem d_M_countInstances_10 : decode c_M_countInstances 10 = .ok (.if_icmp .lt 5, 3) := by decide +kernel
theorem d_M_countInstances_13 : decode c_M_countInstances 13 = .ok (.iconst 1, 1) := by decide +kernel
theorem d_M_countInstances_14 : decode c_M_countInstances 14 = .ok (.ireturn, 1) := by decide +kernel
theorem d_M_countInstances_15 : decode c_M_countInstances 15 = .ok (.aload_n 0, 1) := by decide +kernel
theorem d_M_countInstances_16 : decode c_M_countInstances 16 = .ok (.aload_n 1, 1) := by decide +kernel
theorem d_M_countInstances_17 : decode c_M_countInstances 17 = .ok (.iload_n 3, 1) := by decide +kernel
theorem d_M_countInstances_18 : decode c_M_countInstances 18 = .ok (.invokevirtual 95, 3) := by decide +kernel
theorem d_M_countInstances_21 : decode c_M_countInstances 21 = .ok (.istore 4, 2) := by decide +kernel
theorem d_M_countInstances_23 : decode c_M_countInstances 23 = .ok (.aload_n 0, 1) := by decide +kernel
theorem d_M_countInstances_24 : decode c_M_countInstances 24 = .ok (.aload_n 1, 1) := by decide +kernel
theorem d_M_countInstances_25 : decode c_M_countInstances 25 = .ok (.iload_n 3, 1) := by decide +kernel
theorem d_M_countInstances_26 : decode c_M_countInstances 26 = .ok (.iconst 1, 1) := by decide +kernel
theorem d_M_countInstances_27 : decode c_M_countInstances 27 = .ok (.iadd, 1) := by decide +kernel
theorem d_M_countInstances_28 : decode c_M_countInstances 28 = .ok (.invokevirtual 91, 3) := by decide +kernel
theorem d_M_countInstances_31 : decode c_M_countInstances 31 = .ok (.bipush 24, 2) := by decide +kernel
theorem d_M_countInstances_33 : decode c_M_countInstances 33 = .ok (.if_icmp .lt 9, 3) := by decide +kernel
theorem d_M_countInstances_36 : decode c_M_countInstances 36 = .ok (.iload 4, 2) := by decide +kernel
theorem d_M_countInstances_38 : decode c_M_countInstances 38 = .ok (.invokestatic 102, 3) := by decide +kernel
theorem d_M_countInstances_41 : decode c_M_countInstances 41 = .ok (.ireturn, 1) := by decide +kernel
theorem d_M_countInstances_42 : decode c_M_countInstances 42 = .ok (.iconst 0, 1) := by decide +kernel
theorem d_M_countInstances_43 : decode c_M_countInstances 43 = .ok (.istore 5, 2) := by decide +kernel
theorem d_M_countInstances_45 : decode c_M_countInstances 45 = .ok (.iconst 0, 1) := by decide +kernel
theorem d_M_countInstances_46 : decode c_M_countInstances 46 = .ok (.istore 6, 2) := by decide +kernel
theorem d_M_countInstances_48 : decode c_M_countInstances 48 = .ok (.iload 6, 2) := by decide +kernel
theorem d_M_countInstances_50 : decode c_M_countInstances 50 = .ok (.bipush 12, 2) := by decide +kernel
theorem d_M_countInstances_52 : decode c_M_countInstances 52 = .ok (.if_icmp .ge 40, 3) := by decide +kernel
theorem d_M_countInstances_55 : decode c_M_countInstances 55 = .ok (.iload 4, 2) := by decide +kernel
theorem d_M_countInstances_57 : decode c_M_countInstances 57 = .ok (.iload 6, 2) := by decide +kernel
theorem d_M_countInstances_59 : decode c_M_countInstances 59 = .ok (.invokestatic 88, 3) := by decide +kernel
theorem d_M_countInstances_62 : decode c_M_countInstances 62 = .ok (.ifCond .eq 24, 3) := by decide +kernel
theorem d_M_countInstances_65 : decode c_M_countInstances 65 = .ok (.aload_n 0, 1) := by decide +kernel
theorem d_M_countInstances_66 : decode c_M_countInstances 66 = .ok (.getfield 18, 3) := by decide +kernel
theorem d_M_countInstances_69 : decode c_M_countInstances 69 = .ok (.iload_n 3, 1) := by decide +kernel
theorem d_M_countInstances_70 : decode c_M_countInstances 70 = .ok (.iload 6, 2) := by decide +kernel
theorem d_M_countInstances_72 : decode c_M_countInstances 72 = .ok (.iastore, 1) := by decide +kernel
theorem d_M_countInstances_73 : decode c_M_countInstances 73 = .ok (.iload 5, 2) := by decide +kernel
theorem d_M_countInstances_75 : decode c_M_countInstances 75 = .ok (.aload_n 0, 1) := by decide +kernel
theorem d_M_countInstances_76 : decode c_M_countInstances 76 = .ok (.aload_n 1, 1) := by decide +kernel
theorem d_M_countInstances_77 : decode c_M_countInstances 77 = .ok (.iload_n 3, 1) := by decide +kernel
theorem d_M_countInstances_78 : decode c_M_countInstances 78 = .ok (.iconst 1, 1) := by decide +kernel
theorem d_M_countInstances_79 : decode c_M_countInstances 79 = .ok (.iadd, 1) := by decide +kernel
theorem d_M_countInstances_80 : decode c_M_countInstances 80 = .ok (.invokevirtual 108, 3) := by decide +kernel
theorem d_M_countInstances_83 : decode c_M_countInstances 83 = .ok (.iadd, 1) := by decide +kernel
theorem d_M_countInstances_84 : decode c_M_countInstances 84 = .ok (.istore 5, 2) := by decide +kernel
theorem d_M_countInstances_86 : decode c_M_countInstances 86 = .ok (.iinc 6 1, 3) := by decide +kernel
theorem d_M_countInstances_89 : decode c_M_countInstances 89 = .ok (.goto (-41), 3) := by decide +kernel
theorem d_M_countInstances_92 : decode c_M_countInstances 92 = .ok (.aload_n 0, 1) := by decide +kernel
theorem d_M_countInstances_93 : decode c_M_countInstances 93 = .ok (.getfield 18, 3) := by decide +kernel
theorem d_M_countInstances_96 : decode c_M_countInstances 96 = .ok (.iload_n 3, 1) := by decide +kernel
theorem d_M_countInstances_97 : decode c_M_countInstances 97 = .ok (.iconst (-1), 1) := by decide +kernel
theorem d_M_countInstances_98 : decode c_M_countInstances 98 = .ok (.iastore, 1) := by decide +kernel
theorem d_M_countInstances_99 : decode c_M_countInstances 99 = .ok (.iload 5, 2) := by decide +kernel
theorem d_M_countInstances_101 : decode c_M_countInstances 101 = .ok (.ireturn, 1) := by decide +kernel
theorem d_R_init_0 : decode c_R_init 0 = .ok (.aload_n 0, 1) := by decide +kernel
theorem d_R_init_1 : decode c_R_init 1 = .ok (.invokespecial 3, 3) := by decide +kernel
theorem d_R_init_4 : decode c_R_init 4 = .ok (.aload_n 0, 1) := by decide +kernel
theorem d_R_init_5 : decode c_R_init 5 = .ok (.new 9, 3) := by decide +kernel
theorem d_R_init_8 : decode c_R_init 8 = .ok (.dup, 1) := by decide +kernel
theorem d_R_init_9 : decode c_R_init 9 = .ok (.invokespecial 11, 3) := by decide +kernel
theorem d_R_init_12 : decode c_R_init 12 = .ok (.putfield 12, 3) := by decide +kernel
theorem d_R_init_15 : decode c_R_init 15 = .ok (.aload_n 0, 1) := by decide +kernel
theorem d_R_init_16 : decode c_R_init 16 = .ok (.iconst 4, 1) := by decide +kernel
theorem d_R_init_17 : decode c_R_init 17 = .ok (.anewarray 9, 3) := by decide +kernel
theorem d_R_init_20 : decode c_R_init 20 = .ok (.putfield 18, 3) := by decide +kernel
theorem d_R_init_23 : decode c_R_init 23 = .ok (.iconst 0, 1) := by decide +kernel
theorem d_R_init_24 : decode c_R_init 24 = .ok (.istore_n 1, 1) := by decide +kernel
theorem d_R_init_25 : decode c_R_init 25 = .ok (.iload_n 1, 1) := by decide +kernel
theorem d_R_init_26 : decode c_R_init 26 = .ok (.iconst 4, 1) := by decide +kernel
theorem d_R_init_27 : decode c_R_init 27 = .ok (.if_icmp .ge 22, 3) := by decide +kernel
theorem d_R_init_30 : decode c_R_init 30 = .ok (.aload_n 0, 1) := by decide +kernel
theorem d_R_init_31 : decode c_R_init 31 = .ok (.getfield 18, 3) := by decide +kernel
theorem d_R_init_34 : decode c_R_init 34 = .ok (.iload_n 1, 1) := by decide +kernel
theorem d_R_init_35 : decode c_R_init 35 = .ok (.new 9, 3) := by decide +kernel
theorem d_R_init_38 : decode c_R_init 38 = .ok (.dup, 1) := by decide +kernel
theorem d_R_init_39 : decode c_R_init 39 = .ok (.invokespecial 11, 3) := by decide +kernel
theorem d_R_init_42 : decode c_R_init 42 = .ok (.aastore, 1) := by decide +kernel
theorem d_R_init_43 : decode c_R_init 43 = .ok (.iinc 1 1, 3) := by decide +kernel
theorem d_R_init_46 : decode c_R_init 46 = .ok (.goto (-21), 3) := by decide +kernel
theorem d_R_init_49 : decode c_R_init 49 = .ok (.return_, 1) := by decide +kernel
theorem d_R_begin_0 : decode c_R_begin 0 = .ok (.aload_n 0, 1) := by decide +kernel
theorem d_R_begin_1 : decode c_R_begin 1 = .ok (.getfield 12, 3) := by decide +kernel
theorem d_R_begin_4 : decode c_R_begin 4 = .ok (.iload_n 1, 1) := by decide +kernel
theorem d_R_begin_5 : decode c_R_begin 5 = .ok (.iload_n 2, 1) := by decide +kernel
theorem d_R_begin_6 : decode c_R_begin 6 = .ok (.iload_n 3, 1) := by decide +kernel
theorem d_R_begin_7 : decode c_R_begin 7 = .ok (.iconst 0, 1) := by decide +kernel
theorem d_R_begin_8 : decode c_R_begin 8 = .ok (.invokevirtual 22, 3) := by decide +kernel
theorem d_R_begin_11 : decode c_R_begin 11 = .ok (.aload_n 0, 1) := by decide +kernel
theorem d_R_begin_12 : decode c_R_begin 12 = .ok (.iconst 0, 1) := by decide +kernel
theorem d_R_begin_13 : decode c_R_begin 13 = .ok (.putfield 26, 3) := by decide +kernel
theorem d_R_begin_16 : decode c_R_begin 16 = .ok (.aload_n 0, 1) := by decide +kernel
theorem d_R_begin_17 : decode c_R_begin 17 = .ok (.aload_n 0, 1) := by decide +kernel
theorem d_R_begin_18 : decode c_R_begin 18 = .ok (.getfield 12, 3) := by decide +kernel
theorem d_R_begin_21 : decode c_R_begin 21 = .ok (.invokevirtual 30, 3) := by decide +kernel
theorem d_R_begin_24 : decode c_R_begin 24 = .ok (.putfield 34, 3) := by decide +kernel
theorem d_R_begin_27 : decode c_R_begin 27 = .ok (.aload_n 0, 1) := by decide +kernel
theorem d_R_begin_28 : decode c_R_begin 28 = .ok (.iconst 0, 1) := by decide +kernel
theorem d_R_begin_29 : decode c_R_begin 29 = .ok (.putfield 36, 3) := by decide +kernel
theorem d_R_begin_32 : decode c_R_begin 32 = .ok (.aload_n 0, 1) := by decide +kernel
theorem d_R_begin_33 : decode c_R_begin 33 = .ok (.iconst 0, 1) := by decide +kernel
theorem d_R_begin_34 : decode c_R_begin 34 = .ok (.putfield 39, 3) := by decide +kernel
theorem d_R_begin_37 : decode c_R_begin 37 = .ok (.return_, 1) := by decide +kernel
theorem d_R_isFull_0 : decode c_R_isFull 0 = .ok (.aload_n 0, 1) := by decide +kernel
theorem d_R_isFull_1 : decode c_R_isFull 1 = .ok (.getfield 26, 3) := by decide +kernel
theorem d_R_isFull_4 : decode c_R_isFull 4 = .ok (.iconst 4, 1) := by decide +kernel
theorem d_R_isFull_5 : decode c_R_isFull 5 = .ok (.if_icmp .lt 7, 3) := by decide +kernel
theorem d_R_isFull_8 : decode c_R_isFull 8 = .ok (.iconst 1, 1) := by decide +kernel
theorem d_R_isFull_9 : decode c_R_isFull 9 = .ok (.goto 4, 3) := by decide +kernel
theorem d_R_isFull_12 : decode c_R_isFull 12 = .ok (.iconst 0, 1) := by decide +kernel
theorem d_R_isFull_13 : decode c_R_isFull 13 = .ok (.ireturn, 1) := by decide +kernel
theorem d_R_add_0 : decode c_R_add 0 = .ok (.aload_n 0, 1) := by decide +kernel
theorem d_R_add_1 : decode c_R_add 1 = .ok (.invokevirtual 42, 3) := by decide +kernel
theorem d_R_add_4 : decode c_R_add 4 = .ok (.ifCond .eq 4, 3) := by decide +kernel
theorem d_R_add_7 : decode c_R_add 7 = .ok (.return_, 1) := by decide +kernel
theorem d_R_add_8 : decode c_R_add 8 = .ok (.aload_n 0, 1) := by decide +kernel
theorem d_R_add_9 : decode c_R_add 9 = .ok (.getfield 18, 3) := by decide +kernel
theorem d_R_add_12 : decode c_R_add 12 = .ok (.aload_n 0, 1) := by decide +kernel
theorem d_R_add_13 : decode c_R_add 13 = .ok (.getfield 26, 3) := by decide +kernel
theorem d_R_add_16 : decode c_R_add 16 = .ok (.aaload, 1) := by decide +kernel
theorem d_R_add_17 : decode c_R_add 17 = .ok (.astore 5, 2) := by decide +kernel
theorem d_R_add_19 : decode c_R_add 19 = .ok (.aload 5, 2) := by decide +kernel
theorem d_R_add_21 : decode c_R_add 21 = .ok (.iload_n 1, 1) := by decide +kernel
theorem d_R_add_22 : decode c_R_add 22 = .ok (.iload_n 2, 1) := by decide +kernel
theorem d_R_add_23 : decode c_R_add 23 = .ok (.iload_n 3, 1) := by decide +kernel
theorem d_R_add_24 : decode c_R_add 24 = .ok (.iload 4, 2) := by decide +kernel
theorem d_R_add_26 : decode c_R_add 26 = .ok (.invokevirtual 22, 3) := by decide +kernel
theorem d_R_add_29 : decode c_R_add 29 = .ok (.aload_n 0, 1) := by decide +kernel
theorem d_R_add_30 : decode c_R_add 30 = .ok (.dup, 1) := by decide +kernel
theorem d_R_add_31 : decode c_R_add 31 = .ok (.getfield 26, 3) := by decide +kernel
theorem d_R_add_34 : decode c_R_add 34 = .ok (.iconst 1, 1) := by decide +kernel
theorem d_R_add_35 : decode c_R_add 35 = .ok (.iadd, 1) := by decide +kernel
theorem d_R_add_36 : decode c_R_add 36 = .ok (.putfield 26, 3) := by decide +kernel
theorem d_R_add_39 : decode c_R_add 39 = .ok (.aload_n 0, 1) := by decide +kernel
theorem d_R_add_40 : decode c_R_add 40 = .ok (.dup, 1) := by decide +kernel
theorem d_R_add_41 : decode c_R_add 41 = .ok (.getfield 34, 3) := by decide +kernel
theorem d_R_add_44 : decode c_R_add 44 = .ok (.aload 5, 2) := by decide +kernel
theorem d_R_add_46 : decode c_R_add 46 = .ok (.invokevirtual 30, 3) := by decide +kernel
theorem d_R_add_49 : decode c_R_add 49 = .ok (.ior, 1) := by decide +kernel
theorem d_R_add_50 : decode c_R_add 50 = .ok (.putfield 34, 3) := by decide +kernel
theorem d_R_add_53 : decode c_R_add 53 = .ok (.iload 4, 2) := by decide +kernel
theorem d_R_add_55 : decode c_R_add 55 = .ok (.ifCond .ne 29, 3) := by decide +kernel
theorem d_R_add_58 : decode c_R_add 58 = .ok (.aload_n 0, 1) := by decide +kernel
theorem d_R_add_59 : decode c_R_add 59 = .ok (.dup, 1) := by decide +kernel
theorem d_R_add_60 : decode c_R_add 60 = .ok (.getfield 36, 3) := by decide +kernel
theorem d_R_add_63 : decode c_R_add 63 = .ok (.aload 5, 2) := by decide +kernel
theorem d_R_add_65 : decode c_R_add 65 = .ok (.invokevirtual 30, 3) := by decide +kernel
theorem d_R_add_68 : decode c_R_add 68 = .ok (.ior, 1) := by decide +kernel
theorem d_R_add_69 : decode c_R_add 69 = .ok (.putfield 36, 3) := by decide +kernel
theorem d_R_add_72 : decode c_R_add 72 = .ok (.aload_n 0, 1) := by decide +kernel
theorem d_R_add_73 : decode c_R_add 73 = .ok (.dup, 1) := by decide +kernel
theorem d_R_add_74 : decode c_R_add 74 = .ok (.getfield 39, 3) := by decide +kernel
theorem d_R_add_77 : decode c_R_add 77 = .ok (.iconst 1, 1) := by decide +kernel
theorem d_R_add_78 : decode c_R_add 78 = .ok (.iload_n 1, 1) := by decide +kernel
theorem d_R_add_79 : decode c_R_add 79 = .ok (.ishl, 1) := by decide +kernel
theorem d_R_add_80 : decode c_R_add 80 = .ok (.ior, 1) := by decide +kernel
theorem d_R_add_81 : decode c_R_add 81 = .ok (.putfield 39, 3) := by decide +kernel
theorem d_R_add_84 : decode c_R_add 84 = .ok (.return_, 1) := by decide +kernel
theorem d_R_isSafe_0 : decode c_R_isSafe 0 = .ok (.aload_n 0, 1) := by decide +kernel
theorem d_R_isSafe_1 : decode c_R_isSafe 1 = .ok (.getfield 34, 3) := by decide +kernel
theorem d_R_isSafe_4 : decode c_R_isSafe 4 = .ok (.aload_n 0, 1) := by decide +kernel
theorem d_R_isSafe_5 : decode c_R_isSafe 5 = .ok (.getfield 36, 3) := by decide +kernel
theorem d_R_isSafe_8 : decode c_R_isSafe 8 = .ok (.if_icmp .ne 7, 3) := by decide +kernel
theorem d_R_isSafe_11 : decode c_R_isSafe 11 = .ok (.iconst 1, 1) := by decide +kernel
theorem d_R_isSafe_12 : decode c_R_isSafe 12 = .ok (.goto 4, 3) := by decide +kernel
theorem d_R_isSafe_15 : decode c_R_isSafe 15 = .ok (.iconst 0, 1) := by decide +kernel
theorem d_R_isSafe_16 : decode c_R_isSafe 16 = .ok (.ireturn, 1) := by decide +kernel
theorem d_R_leastLayer_0 : decode c_R_leastLayer 0 = .ok (.iconst 0, 1) := by decide +kernel
theorem d_R_leastLayer_1 : decode c_R_leastLayer 1 = .ok (.istore_n 2, 1) := by decide +kernel
theorem d_R_leastLayer_2 : decode c_R_leastLayer 2 = .ok (.iconst 0, 1) := by decide +kernel
theorem d_R_leastLayer_3 : decode c_R_leastLayer 3 = .ok (.istore_n 3, 1) := by decide +kernel
theorem d_R_leastLayer_4 : decode c_R_leastLayer 4 = .ok (.iload_n 3, 1) := by decide +kernel
theorem d_R_leastLayer_5 : decode c_R_leastLayer 5 = .ok (.aload_n 0, 1) := by decide +kernel
theorem d_R_leastLayer_6 : decode c_R_leastLayer 6 = .ok (.getfield 26, 3) := by decide +kernel
theorem d_R_leastLayer_9 : decode c_R_leastLayer 9 = .ok (.if_icmp .ge 43, 3) := by decide +kernel
theorem d_R_leastLayer_12 : decode c_R_leastLayer 12 = .ok (.aload_n 0, 1) := by decide +kernel
theorem d_R_leastLayer_13 : decode c_R_leastLayer 13 = .ok (.getfield 18, 3) := by decide +kernel
theorem d_R_leastLayer_16 : decode c_R_leastLayer 16 = .ok (.iload_n 3, 1) := by decide +kernel
theorem d_R_leastLayer_17 : decode c_R_leastLayer 17 = .ok (.aaload, 1) := by decide +kernel
theorem d_R_leastLayer_18 : decode c_R_leastLayer 18 = .ok (.astore 4, 2) := by decide +kernel
theorem d_R_leastLayer_20 : decode c_R_leastLayer 20 = .ok (.iload_n 2, 1) := by decide +kernel
theorem d_R_leastLayer_21 : decode c_R_leastLayer 21 = .ok (.aload_n 1, 1) := by decide +kernel
theorem d_R_leastLayer_22 : decode c_R_leastLayer 22 = .ok (.aload 4, 2) := by decide +kernel
theorem d_R_leastLayer_24 : decode c_R_leastLayer 24 = .ok (.getfield 46, 3) := by decide +kernel
theorem d_R_leastLayer_27 : decode c_R_leastLayer 27 = .ok (.iaload, 1) := by decide +kernel
theorem d_R_leastLayer_28 : decode c_R_leastLayer 28 = .ok (.aload 4, 2) := by decide +kernel
theorem d_R_leastLayer_30 : decode c_R_leastLayer 30 = .ok (.getfield 49, 3) := by decide +kernel
theorem d_R_leastLayer_33 : decode c_R_leastLayer 33 = .ok (.ifCond .eq 7, 3) := by decide +kernel
theorem d_R_leastLayer_36 : decode c_R_leastLayer 36 = .ok (.iconst 1, 1) := by decide +kernel
theorem d_R_leastLayer_37 : decode c_R_leastLayer 37 = .ok (.goto 4, 3) := by decide +kernel
theorem d_R_leastLayer_40 : decode c_R_leastLayer 40 = .ok (.iconst 0, 1) := by decide +kernel
theorem d_R_leastLayer_41 : decode c_R_leastLayer 41 = .ok (.iadd, 1) := by decide +kernel
theorem d_R_leastLayer_42 : decode c_R_leastLayer 42 = .ok (.invokestatic 53, 3) := by decide +kernel
theorem d_R_leastLayer_45 : decode c_R_leastLayer 45 = .ok (.istore_n 2, 1) := by decide +kernel
theorem d_R_leastLayer_46 : decode c_R_leastLayer 46 = .ok (.iinc 3 1, 3) := by decide +kernel
theorem d_R_leastLayer_49 : decode c_R_leastLayer 49 = .ok (.goto (-45), 3) := by decide +kernel
theorem d_R_leastLayer_52 : decode c_R_leastLayer 52 = .ok (.iload_n 2, 1) := by decide +kernel
theorem d_R_leastLayer_53 : decode c_R_leastLayer 53 = .ok (.ireturn, 1) := by decide +kernel
theorem d_S_init_0 : decode c_S_init 0 = .ok (.aload_n 0, 1) := by decide +kernel
theorem d_S_init_1 : decode c_S_init 1 = .ok (.invokespecial 3, 3) := by decide +kernel
theorem d_S_init_4 : decode c_S_init 4 = .ok (.aload_n 0, 1) := by decide +kernel
theorem d_S_init_5 : decode c_S_init 5 = .ok (.bipush 96, 2) := by decide +kernel
theorem d_S_init_7 : decode c_S_init 7 = .ok (.newarray .int, 2) := by decide +kernel
theorem d_S_init_9 : decode c_S_init 9 = .ok (.putfield 9, 3) := by decide +kernel
theorem d_S_init_12 : decode c_S_init 12 = .ok (.aload_n 0, 1) := by decide +kernel
theorem d_S_init_13 : decode c_S_init 13 = .ok (.bipush 96, 2) := by decide +kernel
theorem d_S_init_15 : decode c_S_init 15 = .ok (.newarray .int, 2) := by decide +kernel
theorem d_S_init_17 : decode c_S_init 17 = .ok (.putfield 15, 3) := by decide +kernel
theorem d_S_init_20 : decode c_S_init 20 = .ok (.aload_n 0, 1) := by decide +kernel
theorem d_S_init_21 : decode c_S_init 21 = .ok (.bipush 8, 2) := by decide +kernel
theorem d_S_init_23 : decode c_S_init 23 = .ok (.newarray .int, 2) := by decide +kernel
theorem d_S_init_25 : decode c_S_init 25 = .ok (.putfield 18, 3) := by decide +kernel
theorem d_S_init_28 : decode c_S_init 28 = .ok (.aload_n 0, 1) := by decide +kernel
theorem d_S_init_29 : decode c_S_init 29 = .ok (.bipush 8, 2) := by decide +kernel
theorem d_S_init_31 : decode c_S_init 31 = .ok (.newarray .int, 2) := by decide +kernel
theorem d_S_init_33 : decode c_S_init 33 = .ok (.putfield 21, 3) := by decide +kernel
theorem d_S_init_36 : decode c_S_init 36 = .ok (.aload_n 0, 1) := by decide +kernel
theorem d_S_init_37 : decode c_S_init 37 = .ok (.bipush 8, 2) := by decide +kernel
theorem d_S_init_39 : decode c_S_init 39 = .ok (.newarray .int, 2) := by decide +kernel
theorem d_S_init_41 : decode c_S_init 41 = .ok (.putfield 24, 3) := by decide +kernel
theorem d_S_init_44 : decode c_S_init 44 = .ok (.return_, 1) := by decide +kernel
theorem d_S_forget_0 : decode c_S_forget 0 = .ok (.aload_n 0, 1) := by decide +kernel
theorem d_S_forget_1 : decode c_S_forget 1 = .ok (.getfield 9, 3) := by decide +kernel
theorem d_S_forget_4 : decode c_S_forget 4 = .ok (.iconst 0, 1) := by decide +kernel
theorem d_S_forget_5 : decode c_S_forget 5 = .ok (.invokestatic 27, 3) := by decide +kernel
theorem d_S_forget_8 : decode c_S_forget 8 = .ok (.aload_n 0, 1) := by decide +kernel
theorem d_S_forget_9 : decode c_S_forget 9 = .ok (.getfield 15, 3) := by decide +kernel
theorem d_S_forget_12 : decode c_S_forget 12 = .ok (.iconst 0, 1) := by decide +kernel
theorem d_S_forget_13 : decode c_S_forget 13 = .ok (.invokestatic 27, 3) := by decide +kernel
theorem d_S_forget_16 : decode c_S_forget 16 = .ok (.aload_n 0, 1) := by decide +kernel
theorem d_S_forget_17 : decode c_S_forget 17 = .ok (.getfield 18, 3) := by decide +kernel
theorem d_S_forget_20 : decode c_S_forget 20 = .ok (.iconst 0, 1) := by decide +kernel
theorem d_S_forget_21 : decode c_S_forget 21 = .ok (.invokestatic 27, 3) := by decide +kernel
theorem d_S_forget_24 : decode c_S_forget 24 = .ok (.aload_n 0, 1) := by decide +kernel
theorem d_S_forget_25 : decode c_S_forget 25 = .ok (.getfield 21, 3) := by decide +kernel
theorem d_S_forget_28 : decode c_S_forget 28 = .ok (.iconst 0, 1) := by decide +kernel
theorem d_S_forget_29 : decode c_S_forget 29 = .ok (.invokestatic 27, 3) := by decide +kernel
theorem d_S_forget_32 : decode c_S_forget 32 = .ok (.aload_n 0, 1) := by decide +kernel
theorem d_S_forget_33 : decode c_S_forget 33 = .ok (.getfield 24, 3) := by decide +kernel
theorem d_S_forget_36 : decode c_S_forget 36 = .ok (.iconst 0, 1) := by decide +kernel
theorem d_S_forget_37 : decode c_S_forget 37 = .ok (.invokestatic 27, 3) := by decide +kernel
theorem d_S_forget_40 : decode c_S_forget 40 = .ok (.return_, 1) := by decide +kernel
theorem d_S_show_0 : decode c_S_show 0 = .ok (.aload_n 0, 1) := by decide +kernel
theorem d_S_show_1 : decode c_S_show 1 = .ok (.getfield 9, 3) := by decide +kernel
theorem d_S_show_4 : decode c_S_show 4 = .ok (.iload_n 1, 1) := by decide +kernel
theorem d_S_show_5 : decode c_S_show 5 = .ok (.iload_n 2, 1) := by decide +kernel
theorem d_S_show_6 : decode c_S_show 6 = .ok (.invokestatic 33, 3) := by decide +kernel
theorem d_S_show_9 : decode c_S_show 9 = .ok (.dup2, 1) := by decide +kernel
theorem d_S_show_10 : decode c_S_show 10 = .ok (.iaload, 1) := by decide +kernel
theorem d_S_show_11 : decode c_S_show 11 = .ok (.iconst 1, 1) := by decide +kernel
theorem d_S_show_12 : decode c_S_show 12 = .ok (.iload_n 3, 1) := by decide +kernel
theorem d_S_show_13 : decode c_S_show 13 = .ok (.ishl, 1) := by decide +kernel
theorem d_S_show_14 : decode c_S_show 14 = .ok (.ior, 1) := by decide +kernel
theorem d_S_show_15 : decode c_S_show 15 = .ok (.iastore, 1) := by decide +kernel
theorem d_S_show_16 : decode c_S_show 16 = .ok (.aload_n 0, 1) := by decide +kernel
theorem d_S_show_17 : decode c_S_show 17 = .ok (.getfield 15, 3) := by decide +kernel
theorem d_S_show_20 : decode c_S_show 20 = .ok (.iload_n 1, 1) := by decide +kernel
theorem d_S_show_21 : decode c_S_show 21 = .ok (.iload_n 3, 1) := by decide +kernel
theorem d_S_show_22 : decode c_S_show 22 = .ok (.invokestatic 33, 3) := by decide +kernel
theorem d_S_show_25 : decode c_S_show 25 = .ok (.dup2, 1) := by decide +kernel
theorem d_S_show_26 : decode c_S_show 26 = .ok (.iaload, 1) := by decide +kernel
theorem d_S_show_27 : decode c_S_show 27 = .ok (.iconst 1, 1) := by decide +kernel
theorem d_S_show_28 : decode c_S_show 28 = .ok (.iload_n 2, 1) := by decide +kernel
theorem d_S_show_29 : decode c_S_show 29 = .ok (.ishl, 1) := by decide +kernel
theorem d_S_show_30 : decode c_S_show 30 = .ok (.ior, 1) := by decide +kernel
theorem d_S_show_31 : decode c_S_show 31 = .ok (.iastore, 1) := by decide +kernel
theorem d_S_show_32 : decode c_S_show 32 = .ok (.aload_n 0, 1) := by decide +kernel
theorem d_S_show_33 : decode c_S_show 33 = .ok (.getfield 18, 3) := by decide +kernel
theorem d_S_show_36 : decode c_S_show 36 = .ok (.iload_n 1, 1) := by decide +kernel
theorem d_S_show_37 : decode c_S_show 37 = .ok (.dup2, 1) := by decide +kernel
theorem d_S_show_38 : decode c_S_show 38 = .ok (.iaload, 1) := by decide +kernel
theorem d_S_show_39 : decode c_S_show 39 = .ok (.iconst 1, 1) := by decide +kernel
theorem d_S_show_40 : decode c_S_show 40 = .ok (.iload_n 2, 1) := by decide +kernel
theorem d_S_show_41 : decode c_S_show 41 = .ok (.ishl, 1) := by decide +kernel
theorem d_S_show_42 : decode c_S_show 42 = .ok (.ior, 1) := by decide +kernel
theorem d_S_show_43 : decode c_S_show 43 = .ok (.iastore, 1) := by decide +kernel
theorem d_S_show_44 : decode c_S_show 44 = .ok (.aload_n 0, 1) := by decide +kernel
theorem d_S_show_45 : decode c_S_show 45 = .ok (.getfield 21, 3) := by decide +kernel
theorem d_S_show_48 : decode c_S_show 48 = .ok (.iload_n 1, 1) := by decide +kernel
theorem d_S_show_49 : decode c_S_show 49 = .ok (.dup2, 1) := by decide +kernel
theorem d_S_show_50 : decode c_S_show 50 = .ok (.iaload, 1) := by decide +kernel
theorem d_S_show_51 : decode c_S_show 51 = .ok (.iconst 1, 1) := by decide +kernel
theorem d_S_show_52 : decode c_S_show 52 = .ok (.iload_n 3, 1) := by decide +kernel
theorem d_S_show_53 : decode c_S_show 53 = .ok (.ishl, 1) := by decide +kernel
theorem d_S_show_54 : decode c_S_show 54 = .ok (.ior, 1) := by decide +kernel
theorem d_S_show_55 : decode c_S_show 55 = .ok (.iastore, 1) := by decide +kernel
theorem d_S_show_56 : decode c_S_show 56 = .ok (.iload_n 2, 1) := by decide +kernel
theorem d_S_show_57 : decode c_S_show 57 = .ok (.iload_n 3, 1) := by decide +kernel
theorem d_S_show_58 : decode c_S_show 58 = .ok (.if_icmp .ne 15, 3) := by decide +kernel
theorem d_S_show_61 : decode c_S_show 61 = .ok (.aload_n 0, 1) := by decide +kernel
theorem d_S_show_62 : decode c_S_show 62 = .ok (.getfield 24, 3) := by decide +kernel
theorem d_S_show_65 : decode c_S_show 65 = .ok (.iload_n 1, 1) := by decide +kernel
theorem d_S_show_66 : decode c_S_show 66 = .ok (.dup2, 1) := by decide +kernel
theorem d_S_show_67 : decode c_S_show 67 = .ok (.iaload, 1) := by decide +kernel
theorem d_S_show_68 : decode c_S_show 68 = .ok (.iconst 1, 1) := by decide +kernel
theorem d_S_show_69 : decode c_S_show 69 = .ok (.iload_n 2, 1) := by decide +kernel
theorem d_S_show_70 : decode c_S_show 70 = .ok (.ishl, 1) := by decide +kernel
theorem d_S_show_71 : decode c_S_show 71 = .ok (.ior, 1) := by decide +kernel
theorem d_S_show_72 : decode c_S_show 72 = .ok (.iastore, 1) := by decide +kernel
theorem d_S_show_73 : decode c_S_show 73 = .ok (.return_, 1) := by decide +kernel
theorem d_S_sees_0 : decode c_S_sees 0 = .ok (.aload_n 0, 1) := by decide +kernel
theorem d_S_sees_1 : decode c_S_sees 1 = .ok (.getfield 9, 3) := by decide +kernel
theorem d_S_sees_4 : decode c_S_sees 4 = .ok (.iload_n 1, 1) := by decide +kernel
theorem d_S_sees_5 : decode c_S_sees 5 = .ok (.bipush 12, 2) := by decide +kernel
theorem d_S_sees_7 : decode c_S_sees 7 = .ok (.imul, 1) := by decide +kernel
theorem d_S_sees_8 : decode c_S_sees 8 = .ok (.iload_n 2, 1) := by decide +kernel
theorem d_S_sees_9 : decode c_S_sees 9 = .ok (.iadd, 1) := by decide +kernel
theorem d_S_sees_10 : decode c_S_sees 10 = .ok (.iaload, 1) := by decide +kernel
theorem d_S_sees_11 : decode c_S_sees 11 = .ok (.iload_n 3, 1) := by decide +kernel
theorem d_S_sees_12 : decode c_S_sees 12 = .ok (.ishr, 1) := by decide +kernel
theorem d_S_sees_13 : decode c_S_sees 13 = .ok (.iconst 1, 1) := by decide +kernel
theorem d_S_sees_14 : decode c_S_sees 14 = .ok (.iand, 1) := by decide +kernel
theorem d_S_sees_15 : decode c_S_sees 15 = .ok (.ifCond .eq 7, 3) := by decide +kernel
theorem d_S_sees_18 : decode c_S_sees 18 = .ok (.iconst 1, 1) := by decide +kernel
theorem d_S_sees_19 : decode c_S_sees 19 = .ok (.goto 4, 3) := by decide +kernel
theorem d_S_sees_22 : decode c_S_sees 22 = .ok (.iconst 0, 1) := by decide +kernel
theorem d_S_sees_23 : decode c_S_sees 23 = .ok (.ireturn, 1) := by decide +kernel
end
section
-- contracts whose method may return or throw, the call of such a method, the throw, the way out
/-- an end, by either road: the tables warmer, nothing moved but the slots L and at most k new cells of n slots -/
def hxE (a t : State) (L : List Loc) (k n : Nat) : Prop := a.WarmedH t.vm ∧ a.sameButNew ({ t with vm := a.vm } : State) L k n
def MetX (l : Launch) (y : MethodName) (ws : List Cond) (rm : Room) (Pc : Array Value → State → Prop) (Qc : Array Value → State → Outcome → State → Prop) (mc ms : Nat) (free : Addr → Prop) : Prop :=
  MetFree l y (headSpec ws rm) Pc (fun _ _ _ _ _ => True) (fun a st o t => Qc a st o t ∧ ∃ L, hxE st t L mc ms ∧ ∀ q ∈ L, free q.base)
/-- what the walk of a body owes -/
def hxQ (below : List Frame) (Qc : Array Value → State → Outcome → State → Prop) (a : Array Value) (s : State) (mc ms : Nat) (free : Addr → Prop) : State → Prop := fun t =>
  ∃ o, t.status = .running ∧ Ended t below o ∧ Qc a s o t ∧ ∃ L, hxE s t L mc ms ∧ ∀ q ∈ L, free q.base
/-- where a call lands -/
def hxL (U : State) (g : JFrame) (len : Nat) (o : Outcome) : State := match o with
  | .returned v => U.setTop { g with pc := g.pc + len, stack := v.toList ++ g.stack }
  | .threw x => (U.setTop g).pushFrame (.throwing x)
section HX
variable {p : Program} {l : Launch} {e : Env} {R : Room} {s : State} {m : MethodId} {args : Array Value} {below : List Frame} {meth : Method} {c : Code} {H : Heap} {locs : List Loc} {cells slots : Nat} {Q : State → Prop}
/-- the walk, an exception x under way over the frame g -/
def WT (p : Program) (l : Launch) (e : Env) (R : Room) (s : State) (m : MethodId) (args : Array Value) (below : List Frame) (meth : Method) (c : Code) (H : Heap) (locs : List Loc) (cells slots : Nat) (Q : State → Prop) (x : Addr) (g : JFrame) : Prop :=
  ∀ T : State, T.heap = H → Stand p l e R s m args below meth c T locs cells slots → ∃ t, Steps p.tables e below ((T.setTop g).pushFrame (.throwing x)) t ∧ Q t
theorem W.mono {Q' : State → Prop} {g : JFrame} (h : ∀ t, Q t → Q' t) (k : W p l e R s m args below meth c H locs cells slots Q g) : W p l e R s m args below meth c H locs cells slots Q' g := by
  intro T hT X
  obtain ⟨t, a, b⟩ := k T hT X
  exact ⟨t, a, h t b⟩
theorem hxQ.of {Qc : Array Value → State → Outcome → State → Prop} {mc ms : Nat} {free : Addr → Prop} {t : State} (h : MQ below Qc args s mc ms free t) : hxQ below Qc args s mc ms free t := by
  obtain ⟨o, h1, h2, h3, L, ⟨-, h4, h5⟩, h6⟩ := h
  exact ⟨o, h1, h2, h3, L, ⟨h4, h5⟩, h6⟩
/-- a body's walk gives the contract -/
theorem MetX.ofW {y : MethodName} {ws ws' : List Cond} {rm : Room} {Pc : Array Value → State → Prop} {Qc : Array Value → State → Outcome → State → Prop} {mc ms : Nat} {free : Addr → Prop} {cc : ByteArray} {maxL : Nat} {ret : Option FieldType}
    (hy : plainName y.cls = true) (hw : ws = Cond.code y cc maxL ret :: ws')
    (body : ∀ p e s m args below meth c s₁, BodyLoose p l y (headSpec ws rm) cc maxL ret e s m args below meth c s₁ → c.maxLocals = maxL → Pc args s →
      W p l e (headSpec ws rm).room s m args below meth c s.heap [] 0 0 (hxQ below Qc args s mc ms free) (entryFrame m args maxL)) : MetX l y ws rm Pc Qc mc ms free := by
  refine MetFree.of_bodyS (code := cc) (maxLocals := maxL) (ret := ret) hy ?_ ?_
  · intro args s m h hn
    obtain ⟨meth, c, h1, h2, h3, h4, h5, h6, -, -⟩ := Cond.code_spec hn (atoms_spec (ws := ws) h _ (by rw [hw]; exact List.mem_cons_self))
    exact ⟨meth, c, h1, h2, h3, h4, h5, h6⟩
  · intro p e s m args below meth c s₁ B hml hP _
    have hh0 : s₁.heap = s.heap := by rw [B.state]; rfl
    obtain ⟨t, a1, o, b1, b2, b3⟩ := body p e s m args below meth c s₁ B hml hP s₁ hh0 (Stand.of_body B)
    exact ⟨t, o, a1, b1, b2, ⟨b3.1, b3.2⟩⟩
/-- the call itself: whatever the callee's end, the caller stands again -/
theorem hx_call {U : State} {y : MethodName} {ws : List Cond} {rm : Room} {Pc : Array Value → State → Prop} {Qc : Array Value → State → Outcome → State → Prop} {mc ms : Nat} {free : Addr → Prop}
    (hM : MetX l y ws rm Pc Qc mc ms free) (hrc : rm.cells = mc) (hrs : rm.slots = ms)
    (X : Stand p l e R s m args below meth c U locs cells slots) {g : JFrame} {ig : Instr} {len Wg maxL : Nat} {mk : MethodId} {a : Array Value}
    (hg : g.method = m) (hsize : g.locals.size = c.maxLocals) (hdg : decode c.code g.pc = .ok (ig, len)) (hW : 2 * g.monitorRoom + (g.stack.map fun v => v.category).sum ≤ Wg)
    (hn : U.methodNamed? y = some mk) (hlY : ∃ (methY : Method) (cY : Code), U.vm.method? mk = some methY ∧ methY.code = some cY ∧ cY.maxLocals = maxL)
    (hini : (Cond.initialized y.cls).before a U = true) (hws : ∀ w ∈ ws, w.before a U = true)
    (hframes : rm.frames + 1 ≤ R.frames) (hlocals : Wg + (maxL + 11) + rm.locals ≤ R.locals) (hcells : cells + mc ≤ R.cells) (hslots : slots + ms ≤ R.slots)
    (hP : Pc a (U.calling g mk a)) :
    ∃ (o : Outcome) (t : State) (L : List Loc), Qc a (U.calling g mk a) o t ∧ (∀ q ∈ L, free q.base) ∧
      Stand p l e R s m args below meth c (({ U with heap := t.heap, slotsUsed := t.slotsUsed } : State).setVm t.vm) (locs ++ L) (cells + mc) (slots + ms) ∧
      Steps p.tables e below (doInvoke e (U.setTop g) [] mk a).1 (hxL (({ U with heap := t.heap, slotsUsed := t.slotsUsed } : State).setVm t.vm) g len o) := by
  obtain ⟨methY, cY, hmY, hcY, hlY⟩ := hlY
  obtain ⟨kY, hkY, -⟩ := className_of_methodNamed hn
  have hinitY : kY.init = .initialized := Cond.initialized_spec (findClass_of_methodNamed hn) hkY hini
  have h : At U g.method c below := by rw [hg]; exact X.here
  have happ : (headSpec ws rm).appliesLoose y e.platform (U.calling g mk a) = true :=
    Spec.appliesLoose_calling (g := g) h hdg hn hkY hinitY
      (X.room_calling (g := g) (R' := (headSpec ws rm).room) hsize hmY hcY hframes (by rw [hlY]; exact Nat.le_trans (by have := hW; show _ + (maxL + 11) + rm.locals ≤ Wg + (maxL + 11) + rm.locals; omega) hlocals) (by rw [show (headSpec ws rm).room.cells = mc from hrc]; exact hcells) (by rw [show (headSpec ws rm).room.slots = ms from hrs]; exact hslots)) (atoms_intro hws)
  obtain ⟨mid, hmid⟩ := h.above
  have hfr : (U.setTop g).frames = (.java g :: mid) ++ below := by rw [State.frames_setTop' g h.top, hmid]; rfl
  obtain ⟨o, s₂, hsteps, -, hend, hq⟩ := Steps.callFree hM p X.admits X.cas X.clock (acts := []) hfr happ hP trivial
  rw [State.frames_setTop' g h.top] at hend
  have hq' : Qc a (U.calling g mk a) o s₂ ∧ ∃ L, hxE (U.calling g mk a) s₂ L mc ms ∧ ∀ q ∈ L, free q.base := hq
  obtain ⟨hq1, L, ⟨hW₂, e2, q2, q3, q4, q5, q6⟩, hL⟩ := hq'
  have e3 : s₂ = ({ (U.calling g mk a).setFrames s₂.frames with heap := s₂.heap, slotsUsed := s₂.slotsUsed } : State).setVm s₂.vm := by
    have : s₂ = ({ s₂ with vm := (U.calling g mk a).vm } : State).setVm s₂.vm := rfl
    rw [e2] at this
    exact this
  have hW' : U.WarmedH s₂.vm := hW₂
  obtain ⟨g₀, hg0⟩ := Option.isSome_iff_exists.mp h.top
  obtain ⟨r, hr⟩ := State.topJava?_eq_some.mp hg0
  have hr' : (({ U with heap := s₂.heap, slotsUsed := s₂.slotsUsed } : State).setVm s₂.vm).frames = .java g₀ :: r := hr
  have hs₂ : s₂ = hxL (({ U with heap := s₂.heap, slotsUsed := s₂.slotsUsed } : State).setVm s₂.vm) g len o := by
    cases o with
    | returned v =>
      obtain ⟨c₂, i₂, len₂, hc₂, hd₂, hf₂⟩ := hend
      have hcc : c₂ = c := by
        have h1 : s₂.code? g.method = U.code? g.method := by
          rw [State.code?_eq, State.code?_eq, hW'.alike.method?]
        exact Option.some.inj (hc₂.symm.trans (h1.trans h.code))
      subst hcc
      have hlen : len₂ = len := by rw [hdg] at hd₂; cases hd₂; rfl
      subst hlen
      refine e3.trans ?_
      show _ = State.setTop _ _
      rw [hf₂, State.calling_eq h.top, State.setFrames_setFrames, State.setTop_of_frames _ hr', hr]
      rfl
    | threw v =>
      have hf₂ : s₂.frames = .throwing v :: .java g :: U.frames.tail := hend
      refine e3.trans ?_
      show _ = State.pushFrame _ _
      rw [hf₂, State.calling_eq h.top, State.setFrames_setFrames, State.pushFrame, State.frames_setTop _ hr', State.setTop_of_frames _ hr', State.setFrames_setFrames, hr]
      rfl
  have hsame : U.sameButNew ({ U with heap := s₂.heap, slotsUsed := s₂.slotsUsed } : State) L mc ms := by
    refine ⟨?_, q2, q3, q4, q5, q6⟩
    obtain ⟨t, ht, -⟩ := State.frames_cons hr
    show ({ U with heap := s₂.heap, slotsUsed := s₂.slotsUsed } : State) = { U.setFrames U.frames with heap := s₂.heap, slotsUsed := s₂.slotsUsed }
    rw [State.setFrames_self ht]
  subst hg
  refine ⟨o, s₂, L, hq1, hL, ⟨X.admits, X.cas, X.clock, X.frames, X.room, X.hears, X.method, X.code, (X.here.setHeapUsed s₂.heap s₂.slotsUsed).setVm hW'.alike, X.tail, State.WarmedH.trans X.warmed hW', X.limits, X.bytes, X.same.trans (hsame.setVm s.vm)⟩, ?_⟩
  rw [← hs₂]
  exact hsteps
/-- out of the method, the exception with us -/
theorem hx_out {Qc : Array Value → State → Outcome → State → Prop} {free : Addr → Prop} {x : Addr} (hlocks : meth.locks = false) {pc : Nat} {ls : Array Slot} {st : List Value} (hout : ∀ y ∈ c.exceptionTable.toList, covers y pc = false)
    (hq : ∀ t : State, t.heap = H → s.WarmedH t.vm → Qc args s (.threw x) t) (hf : ∀ q ∈ locs, free q.base) : WT p l e R s m args below meth c H locs cells slots (hxQ below Qc args s cells slots free) x (F0 m pc ls st) := by
  intro T hT X
  obtain ⟨h1, h2, h3, h4, h5⟩ := X.leaveThrown x (g := F0 m pc ls st) rfl rfl rfl hout hlocks
  exact ⟨_, h1, .threw x, h2, h3, hq _ hT h4, locs, ⟨h4, h5⟩, hf⟩
/-- the call in the walk: both roads -/
theorem hx_W {pc : Nat} {ls : Array Slot} {st0 rest : List Value} {y : MethodName} {ws : List Cond} {rm : Room} {Pc : Array Value → State → Prop} {Qc : Array Value → State → Outcome → State → Prop} {mc ms : Nat} {free : Addr → Prop} {ig : Instr} {maxL : Nat} {a : Array Value}
    (hM : MetX l y ws rm Pc Qc mc ms free) (hrc : rm.cells = mc) (hrs : rm.slots = ms)
    (inv : ∀ T : State, T.heap = H → Stand p l e R s m args below meth c T locs cells slots → ∃ (vm₁ : Vm) (mk : MethodId), Stand p l e R s m args below meth c (T.setVm vm₁) locs cells slots ∧ (T.setVm vm₁).methodNamed? y = some mk ∧
      ∀ target, Steps p.tables e below (doInvoke e ((T.setVm vm₁).setTop (F0 m pc ls rest)) [] mk a).1 target → Steps p.tables e below (T.setTop (F0 m pc ls st0)) target)
    (hsize : ls.size = c.maxLocals) (hdg : decode c.code pc = .ok (ig, 3)) (hW : (rest.map fun v => v.category).sum ≤ 8)
    (hlY : ∀ (U : State) (mk : MethodId), s.WarmedH U.vm → U.methodNamed? y = some mk → ∃ (methY : Method) (cY : Code), U.vm.method? mk = some methY ∧ methY.code = some cY ∧ cY.maxLocals = maxL)
    (hini : ∀ U : State, s.WarmedH U.vm → (Cond.initialized y.cls).before a U = true) (hws : ∀ w ∈ ws, ∀ U : State, s.WarmedH U.vm → w.before a U = true)
    (hframes : rm.frames + 1 ≤ R.frames) (hlocals : 8 + (maxL + 11) + rm.locals ≤ R.locals) (hcells : cells + mc ≤ R.cells) (hslots : slots + ms ≤ R.slots)
    (hP : ∀ U : State, U.heap = H → s.WarmedH U.vm → Pc a U)
    (kr : ∀ (v : Option Value) (u t : State) (L : List Loc), u.heap = H → s.WarmedH u.vm → Qc a u (.returned v) t → (∀ q ∈ L, free q.base) → s.WarmedH t.vm → W p l e R s m args below meth c t.heap (locs ++ L) (cells + mc) (slots + ms) Q (F0 m (pc + 3) ls (v.toList ++ rest)))
    (kt : ∀ (x : Addr) (u t : State) (L : List Loc), u.heap = H → s.WarmedH u.vm → Qc a u (.threw x) t → (∀ q ∈ L, free q.base) → s.WarmedH t.vm → WT p l e R s m args below meth c t.heap (locs ++ L) (cells + mc) (slots + ms) Q x (F0 m pc ls rest)) :
    W p l e R s m args below meth c H locs cells slots Q (F0 m pc ls st0) := by
  intro T hT X
  obtain ⟨vm₁, mk, X₁, hn, st⟩ := inv T hT X
  have hW₁ : s.WarmedH (T.setVm vm₁).vm := X₁.warmed
  obtain ⟨o, t, L, hq, hL, X₂, st₂⟩ := hx_call hM hrc hrs X₁ (g := F0 m pc ls rest) (Wg := 8) (a := a) rfl hsize hdg (by show 2 * 0 + (rest.map fun v => v.category).sum ≤ 8; omega) hn (hlY _ _ hW₁ hn) (hini _ hW₁) (fun w hw => hws w hw _ hW₁) hframes hlocals hcells hslots (hP _ hT hW₁)
  have hWt : s.WarmedH t.vm := X₂.warmed
  cases o with
  | returned v =>
    obtain ⟨t2, a1, b1⟩ := kr v ((T.setVm vm₁).calling (F0 m pc ls rest) mk a) t L hT hW₁ hq hL hWt (({ T.setVm vm₁ with heap := t.heap, slotsUsed := t.slotsUsed } : State).setVm t.vm) rfl X₂
    exact ⟨t2, st _ (st₂.trans a1), b1⟩
  | threw x =>
    obtain ⟨t2, a1, b1⟩ := kt x ((T.setVm vm₁).calling (F0 m pc ls rest) mk a) t L hT hW₁ hq hL hWt (({ T.setVm vm₁ with heap := t.heap, slotsUsed := t.slotsUsed } : State).setVm t.vm) rfl X₂
    exact ⟨t2, st _ (st₂.trans a1), b1⟩
end HX
section HXI
variable {p : Program} {l : Launch} {e : Env} {R : Room} {s : State} {m : MethodId} {args : Array Value} {below : List Frame} {meth : Method} {c : Code} {T : State} {locs : List Loc} {cells slots : Nat}
variable {own C host : String} {index : Nat} {y : MethodName}
/-- a virtual call's first half, for a method of the receiver's own class -/
theorem hx_invV (X : Stand p l e R s m args below meth c T locs cells slots) (hexec : p.tables.exec = Jvm.exec)
    (hown : s.vm.findClass own = some m.cls) (hlink : (Cond.methodLink own index y).before args s = true) (hinst : (Cond.instanceMethod y).before args s = true) (hsel : (Cond.selects C y y).before args s = true)
    (hsig : ∀ mk methM, s.methodNamed? y = some mk → s.vm.method? mk = some methM → parseMethodDescriptor y.desc = some methM.sig) (hy : y.cls ≠ "java/lang/invoke/MethodHandle" ∧ y.cls ≠ "java/lang/invoke/VarHandle")
    {b : Addr} {cellB : Cell} (hcell : T.heap[b]? = some cellB) (hobj : cellB.vm.isStatics = false) (hcls : s.vm.findClass C = some cellB.cls)
    {g : JFrame} (hg : g.method = m) {argsL rest : List Value} (hlen : ∀ sig, parseMethodDescriptor y.desc = some sig → argsL.length = sig.parameters.length)
    (hstack : g.stack = argsL.reverse ++ .ref b :: rest) (hdg : decode c.code g.pc = .ok (.invokevirtual index, 3)) :
    ∃ (vm₁ : Vm) (mk : MethodId), Stand p l e R s m args below meth c (T.setVm vm₁) locs cells slots ∧ (T.setVm vm₁).methodNamed? y = some mk ∧
      ∀ target, Steps p.tables e below (doInvoke e ((T.setVm vm₁).setTop { g with stack := rest }) [] mk (Value.ref b :: argsL).toArray).1 target → Steps p.tables e below (T.setTop g) target := by
  obtain ⟨mk, methM, hnamed, hmethM, hstM, habM⟩ := Cond.instanceMethod_spec hinst
  have hsigM := hsig mk methM hnamed hmethM
  obtain ⟨c2, r2, m2, q1, q2, q3, q4, kP, hkP, hkPi⟩ := Cond.selects_spec hsel
  cases hcls.symm.trans q1
  cases (State.methodFound?_of_named hnamed hy).symm.trans q2
  cases hnamed.symm.trans q3
  have hselP : selectMethod e.platform s.vm cellB.cls mk = .method mk := by rw [Launch.admits_selectMethod X.admits]; exact q4
  obtain ⟨vm₁, X₁, hstep₁⟩ := X.invokevirtual hexec hown hlink hnamed hmethM hstM hkP hkPi hy (a := b) (cell := cellB) hcell
    (fun z h => by rw [h] at hobj; cases hobj) hselP hmethM habM hkP hkPi (g := g) hg (argsL := argsL) (rest := rest) (hlen _ hsigM) hstack hdg
  exact ⟨vm₁, mk, X₁, X₁.named hnamed, fun target h => hstep₁ _ fun acts => by rw [doInvoke_state]; exact h⟩
/-- the same, the method private in a nest mate -/
theorem hx_invVN (X : Stand p l e R s m args below meth c T locs cells slots) (hexec : p.tables.exec = Jvm.exec)
    (hown : s.vm.findClass own = some m.cls) (hlink : (Cond.methodLinkNest own index y host).before args s = true) (hinst : (Cond.instanceMethod y).before args s = true) (hsel : (Cond.selects C y y).before args s = true)
    (hsig : ∀ mk methM, s.methodNamed? y = some mk → s.vm.method? mk = some methM → parseMethodDescriptor y.desc = some methM.sig) (hy : y.cls ≠ "java/lang/invoke/MethodHandle" ∧ y.cls ≠ "java/lang/invoke/VarHandle")
    {b : Addr} {cellB : Cell} (hcell : T.heap[b]? = some cellB) (hobj : cellB.vm.isStatics = false) (hcls : s.vm.findClass C = some cellB.cls)
    {g : JFrame} (hg : g.method = m) {argsL rest : List Value} (hlen : ∀ sig, parseMethodDescriptor y.desc = some sig → argsL.length = sig.parameters.length)
    (hstack : g.stack = argsL.reverse ++ .ref b :: rest) (hdg : decode c.code g.pc = .ok (.invokevirtual index, 3)) :
    ∃ (vm₁ : Vm) (mk : MethodId), Stand p l e R s m args below meth c (T.setVm vm₁) locs cells slots ∧ (T.setVm vm₁).methodNamed? y = some mk ∧
      ∀ target, Steps p.tables e below (doInvoke e ((T.setVm vm₁).setTop { g with stack := rest }) [] mk (Value.ref b :: argsL).toArray).1 target → Steps p.tables e below (T.setTop g) target := by
  obtain ⟨mk, methM, hnamed, hmethM, hstM, habM⟩ := Cond.instanceMethod_spec hinst
  have hsigM := hsig mk methM hnamed hmethM
  obtain ⟨c2, r2, m2, q1, q2, q3, q4, kP, hkP, hkPi⟩ := Cond.selects_spec hsel
  cases hcls.symm.trans q1
  cases (State.methodFound?_of_named hnamed hy).symm.trans q2
  cases hnamed.symm.trans q3
  have hselP : selectMethod e.platform s.vm cellB.cls mk = .method mk := by rw [Launch.admits_selectMethod X.admits]; exact q4
  obtain ⟨vm₁, X₁, hstep₁⟩ := X.invokevirtualNest hexec hown hlink hnamed hmethM hstM hkP hkPi hy (a := b) (cell := cellB) hcell
    (fun z h => by rw [h] at hobj; cases hobj) hselP hmethM habM hkP hkPi (g := g) hg (argsL := argsL) (rest := rest) (hlen _ hsigM) hstack hdg
  exact ⟨vm₁, mk, X₁, X₁.named hnamed, fun target h => hstep₁ _ fun acts => by rw [doInvoke_state]; exact h⟩
/-- a static call's first half -/
theorem hx_invS (X : Stand p l e R s m args below meth c T locs cells slots) (hexec : p.tables.exec = Jvm.exec)
    (hown : s.vm.findClass own = some m.cls) (hlink : (Cond.methodLink own index y).before args s = true) (hstat : (Cond.static y).before args s = true) (hinit : (Cond.initialized y.cls).before args s = true)
    {mk : MethodId} {methM : Method} (hnamed : s.methodNamed? y = some mk) (hmethM : s.vm.method? mk = some methM) (hsigM : parseMethodDescriptor y.desc = some methM.sig) (hy : y.cls ≠ "java/lang/invoke/MethodHandle" ∧ y.cls ≠ "java/lang/invoke/VarHandle")
    {g : JFrame} (hg : g.method = m) {argsL rest : List Value} (hlen : ∀ sig, parseMethodDescriptor y.desc = some sig → argsL.length = sig.parameters.length)
    (hstack : g.stack = argsL.reverse ++ rest) (hdg : decode c.code g.pc = .ok (.invokestatic index, 3)) :
    ∃ (vm₁ : Vm) (mk : MethodId), Stand p l e R s m args below meth c (T.setVm vm₁) locs cells slots ∧ (T.setVm vm₁).methodNamed? y = some mk ∧
      ∀ target, Steps p.tables e below (doInvoke e ((T.setVm vm₁).setTop { g with stack := rest }) [] mk argsL.toArray).1 target → Steps p.tables e below (T.setTop g) target := by
  have hstatic : methM.isStatic = true := Cond.static_spec hnamed hmethM hstat
  obtain ⟨kP, hkP, -⟩ := className_of_methodNamed hnamed
  have hinitP : kP.init = .initialized := Cond.initialized_spec (findClass_of_methodNamed hnamed) hkP hinit
  obtain ⟨vm₁, X₁, hstep₁⟩ := X.invokestatic hexec hown hlink hnamed hmethM hstatic hkP hinitP hy (g := g) hg (argsL := argsL) (rest := rest) (hlen _ hsigM) hstack hdg
  exact ⟨vm₁, mk, X₁, X₁.named hnamed, fun target h => hstep₁ _ fun acts => by rw [doInvoke_state]; exact h⟩
/-- the same, the method private in a nest mate -/
theorem hx_invSN (X : Stand p l e R s m args below meth c T locs cells slots) (hexec : p.tables.exec = Jvm.exec)
    (hown : s.vm.findClass own = some m.cls) (hlink : (Cond.methodLinkNest own index y host).before args s = true) (hstat : (Cond.static y).before args s = true) (hinit : (Cond.initialized y.cls).before args s = true)
    {mk : MethodId} {methM : Method} (hnamed : s.methodNamed? y = some mk) (hmethM : s.vm.method? mk = some methM) (hsigM : parseMethodDescriptor y.desc = some methM.sig) (hy : y.cls ≠ "java/lang/invoke/MethodHandle" ∧ y.cls ≠ "java/lang/invoke/VarHandle")
    {g : JFrame} (hg : g.method = m) {argsL rest : List Value} (hlen : ∀ sig, parseMethodDescriptor y.desc = some sig → argsL.length = sig.parameters.length)
    (hstack : g.stack = argsL.reverse ++ rest) (hdg : decode c.code g.pc = .ok (.invokestatic index, 3)) :
    ∃ (vm₁ : Vm) (mk : MethodId), Stand p l e R s m args below meth c (T.setVm vm₁) locs cells slots ∧ (T.setVm vm₁).methodNamed? y = some mk ∧
      ∀ target, Steps p.tables e below (doInvoke e ((T.setVm vm₁).setTop { g with stack := rest }) [] mk argsL.toArray).1 target → Steps p.tables e below (T.setTop g) target := by
  have hstatic : methM.isStatic = true := Cond.static_spec hnamed hmethM hstat
  obtain ⟨kP, hkP, -⟩ := className_of_methodNamed hnamed
  have hinitP : kP.init = .initialized := Cond.initialized_spec (findClass_of_methodNamed hnamed) hkP hinit
  obtain ⟨vm₁, X₁, hstep₁⟩ := X.invokestaticNest hexec hown hlink hnamed hmethM hstatic hkP hinitP hy (g := g) hg (argsL := argsL) (rest := rest) (hlen _ hsigM) hstack hdg
  exact ⟨vm₁, mk, X₁, X₁.named hnamed, fun target h => hstep₁ _ fun acts => by rw [doInvoke_state]; exact h⟩
end HXI
end
section
/-- words that stay true however warm the tables get -/
def jW (Ts : List Cond) (U : State) : Prop := ∀ w ∈ Ts, ∀ (a' : Array Value) (U' : State), U.WarmedH U'.vm → w.before a' U' = true
/-- the two statics of Throwable that an exception's making reads, outside the cells A -/
def jL (C n d : String) (A : Nat → Prop) (U : State) (H : Heap) : Prop := ∃ (c : ClassId) (k : Class) (i : Nat) (f : Field) (a : Nat) (cell : Cell), U.vm.findClass C = some c ∧ U.fieldFound? C n d = some (c, k, i, f) ∧ f.isStatic = true ∧ k.statics = some a ∧ H[a]? = some cell ∧ cell.vm.isStatics = true ∧ cell.cls = c ∧ f.slot < cell.slots.size ∧ k.staticTypes[f.slot]? = some f.type ∧ ¬ A a
theorem jL.go {C n d : String} {A B : Nat → Prop} {u U : State} {H H1 : Heap} (h : jL C n d A u H) (hvm : u.vm.Alike U.vm) (hq : ∀ a : Nat, a < H.size → ¬ A a → H1[a]? = H[a]?) (hAB : ∀ q, B q → A q) : jL C n d B U H1 := by
  obtain ⟨c, k, i, f, a, cell, h1, h2, h3, h4, h5, h6, h7, h8, h9, h10⟩ := h
  obtain ⟨k', hi', he⟩ := State.fieldFound?_setVm hvm h2
  exact ⟨c, k', i, f, a, cell, by rw [hvm.findClass]; exact h1, hi', h3, by rw [he]; exact h4, by rw [hq a (Array.getElem?_eq_some_iff.mp h5).1 h10]; exact h5, h6, h7, h8, by rw [he]; exact h9, fun z => h10 (hAB _ z)⟩
theorem jL.word {C n d : String} {A : Nat → Prop} {s : State} {args : Array Value} (h : jL C n d A s s.heap) : (Cond.laysStatic C n d).before args s = true := by
  obtain ⟨c, k, i, f, a, cell, h1, h2, h3, h4, h5, h6, h7, h8, h9, -⟩ := h
  show (Cond.laysStatic C n d).holds args s none s [] = true
  exact Cond.laysStatic_of h1 h2 h3 h4 h5 h6 h7 h8 h9
def jZ1 (C n d : String) (A : Nat → Prop) (U : State) (H : Heap) : Prop := va_Zq C n d A U H ∧ jL C n d A U H
theorem jZ1.go {C n d : String} {A B : Nat → Prop} {u U : State} {H H1 : Heap} (h : jZ1 C n d A u H) (hvm : u.vm.Alike U.vm) (hq : ∀ a : Nat, a < H.size → ¬ A a → H1[a]? = H[a]?) (hAB : ∀ q, B q → A q) : jZ1 C n d B U H1 :=
  ⟨((h.1.moved hvm).kept hq).narrow hAB, h.2.go hvm hq hAB⟩
def jZ (A : Nat → Prop) (U : State) (H : Heap) : Prop := jZ1 Bundle.tN "UNASSIGNED_STACK" Bundle.steD A U H ∧ jZ1 Bundle.tN "SUPPRESSED_SENTINEL" Bundle.listD A U H
section JL
variable {p : Program} {l : Launch} {e : Env} {R : Room} {s : State} {m : MethodId} {args : Array Value} {below : List Frame} {meth : Method} {c : Code} {Q : State → Prop} {cells slots : Nat}
variable {cc : ByteArray} {nL : Nat} {own : String} {Ts : List Cond} {D : va_G} {cl : List vw_C} {tys : List (ClassId × FieldType)} {A : Nat → Prop}
variable {pc : Nat} {lv : List (Nat × Value)} {st : List Value} {ws : va_W}
/-- what stays as it is along the walk of a method -/
def jC (p : Program) (s : State) (m : MethodId) (args : Array Value) (meth : Method) (c : Code) (cc : ByteArray) (nL : Nat) (own : String) (Ts : List Cond) (D : va_G) (cl : List vw_C) (tys : List (ClassId × FieldType)) (A : Nat → Prop) : Prop :=
  p.tables.exec = Jvm.exec ∧ c.code = cc ∧ c.maxLocals = nL ∧ s.vm.findClass own = some m.cls ∧ (∀ w ∈ Ts, w.before args s = true) ∧ va_K D cl tys s ∧ (∀ q, s.heap.size ≤ q → A q) ∧ jW Ts s ∧ jZ A s s.heap ∧ meth.locks = false
/-- the walk, in words of cells, locals, stack and place -/
def jJ (p : Program) (l : Launch) (e : Env) (R : Room) (s : State) (m : MethodId) (args : Array Value) (below : List Frame) (meth : Method) (c : Code) (nL : Nat) (D : va_G) (cl : List vw_C) (A : Nat → Prop) (Q : State → Prop) (cells slots : Nat) (ws : va_W) (lv : List (Nat × Value)) (st : List Value) (pc : Nat) : Prop :=
  ∀ (H : Heap) (locs : List Loc) (ls : Array Slot), va_P D cl ws H → va_D A ws → va_S A s.heap H locs → lv_has ls nL lv → W p l e R s m args below meth c H locs cells slots Q (F0 m pc ls st)
/-- a local takes a value: its row in the list is changed where it stands, or comes at the end -/
def jput : List (Nat × Value) → Nat → Value → List (Nat × Value)
  | [], i, v => [(i, v)]
  | q :: t, i, v => if q.1 = i then (i, v) :: t else q :: jput t i v
theorem jput_in {i : Nat} {v : Value} : ∀ {lv : List (Nat × Value)} {q : Nat × Value}, q ∈ jput lv i v → q = (i, v) ∨ (q ∈ lv ∧ (q.1 ≠ i ∨ ∃ w, (i, w) ∈ lv)) := by
  intro lv
  induction lv with
  | nil => intro q h; exact Or.inl (List.mem_singleton.mp h)
  | cons x t ih =>
    intro q h
    unfold jput at h
    by_cases hx : x.1 = i
    · rw [if_pos hx] at h
      rcases List.mem_cons.mp h with h | h
      · exact Or.inl h
      · exact Or.inr ⟨List.mem_cons_of_mem _ h, Or.inr ⟨x.2, by rw [← hx]; exact List.mem_cons_self⟩⟩
    · rw [if_neg hx] at h
      rcases List.mem_cons.mp h with h | h
      · subst h; exact Or.inr ⟨List.mem_cons_self, Or.inl hx⟩
      · rcases ih h with h | ⟨h1, h2⟩
        · exact Or.inl h
        · refine Or.inr ⟨List.mem_cons_of_mem _ h1, ?_⟩
          rcases h2 with h2 | ⟨w, h2⟩
          · exact Or.inl h2
          · exact Or.inr ⟨w, List.mem_cons_of_mem _ h2⟩
/-- every key once, every value of one word -/
def jok : List (Nat × Value) → Bool
  | [] => true
  | q :: t => q.2.category == 1 && t.all (fun z => !(z.1 == q.1)) && jok t
theorem jput_sub {i : Nat} {v : Value} : ∀ {lv : List (Nat × Value)}, jok lv = true → ∀ q ∈ jput lv i v, q ∈ ((i, v) :: lv.filter (fun q => !(q.1 == i) && !(q.1 + 1 == i && q.2.category == 2))) := by
  intro lv
  induction lv with
  | nil => intro _ q h; simpa [jput] using h
  | cons x t ih =>
    intro hok q h
    unfold jok at hok
    simp only [Bool.and_eq_true] at hok
    obtain ⟨⟨h1, h2⟩, h3⟩ := hok
    have hx1 : x.2.category = 1 := by simpa using h1
    unfold jput at h
    by_cases hx : x.1 = i
    · rw [if_pos hx] at h
      rcases List.mem_cons.mp h with h | h
      · subst h; exact List.mem_cons_self
      · have hq : q.1 ≠ i := by
          have := List.all_eq_true.mp h2 q h
          rw [← hx]; simpa using this
        have := ih h3 q
        refine List.mem_cons_of_mem _ (List.mem_filter.mpr ⟨List.mem_cons_of_mem _ h, ?_⟩)
        have hcat : q.2.category = 1 := by
          have hall : ∀ {l : List (Nat × Value)}, jok l = true → ∀ z ∈ l, z.2.category = 1 := by
            intro l
            induction l with
            | nil => intro _ z hz; cases hz
            | cons y r ihr =>
              intro hy z hz
              unfold jok at hy
              simp only [Bool.and_eq_true] at hy
              rcases List.mem_cons.mp hz with hz | hz
              · subst hz; simpa using hy.1.1
              · exact ihr hy.2 z hz
          exact hall h3 q h
        simp [hq, hcat]
    · rw [if_neg hx] at h
      rcases List.mem_cons.mp h with h | h
      · subst h
        refine List.mem_cons_of_mem _ (List.mem_filter.mpr ⟨List.mem_cons_self, ?_⟩)
        simp [hx, hx1]
      · rcases List.mem_cons.mp (ih h3 q h) with h | h
        · exact List.mem_cons.mpr (Or.inl h)
        · obtain ⟨h4, h5⟩ := List.mem_filter.mp h
          exact List.mem_cons_of_mem _ (List.mem_filter.mpr ⟨List.mem_cons_of_mem _ h4, h5⟩)
theorem jhas_put {ls : Array Slot} {i : Nat} {v : Value} (hok : jok lv = true) (h : lv_has ls nL ((i, v) :: lv.filter (fun q => !(q.1 == i) && !(q.1 + 1 == i && q.2.category == 2)))) {lv' : List (Nat × Value)} (e : jput lv i v = lv') : lv_has ls nL lv' := by
  subst e
  exact ⟨h.1, h.2.1, fun q hq => h.2.2 q (jput_sub hok q hq)⟩
/-- fewer locals, in any order -/
theorem j_locals {lv' : List (Nat × Value)} (ks : List Nat) (hl : lv_pick lv ks = lv') (k : jJ p l e R s m args below meth c nL D cl A Q cells slots ws (lv') (st) (pc)) : jJ p l e R s m args below meth c nL D cl A Q cells slots ws (lv) (st) (pc) :=
  fun H locs ls hP hD hS h => k H locs ls hP hD hS (lv_sub h ks hl)
theorem j_widen {cells' slots' : Nat} (h1 : cells ≤ cells') (h2 : slots ≤ slots') (k : jJ p l e R s m args below meth c nL D cl A Q cells' slots' ws lv st pc) : jJ p l e R s m args below meth c nL D cl A Q cells slots ws (lv) (st) (pc) :=
  fun H locs ls hP hD hS hl => W.widen h1 h2 (k H locs ls hP hD hS hl)
theorem j_ws {ws' : va_W} (h : ws = ws') (k : jJ p l e R s m args below meth c nL D cl A Q cells slots ws' (lv) (st) (pc)) : jJ p l e R s m args below meth c nL D cl A Q cells slots ws (lv) (st) (pc) := by subst h; exact k
theorem j_st {st' : List Value} (h : st = st') (k : jJ p l e R s m args below meth c nL D cl A Q cells slots ws (lv) (st') (pc)) : jJ p l e R s m args below meth c nL D cl A Q cells slots ws (lv) (st) (pc) := by subst h; exact k

theorem j_iconst (hC : jC p s m args meth c cc nL own Ts D cl tys A) {n : Int} {v : Int32} (hd : decode cc pc = .ok (.iconst n, 1)) (hv : Int32.ofInt n = v) (k : jJ p l e R s m args below meth c nL D cl A Q cells slots ws (lv) (.int v :: st) (pc + 1)) : jJ p l e R s m args below meth c nL D cl A Q cells slots ws (lv) (st) (pc) :=
  fun H locs ls hP hD hS hl => lv_iconst hC.1 hC.2.1 hd hv (k H locs ls hP hD hS hl)
theorem j_bipush (hC : jC p s m args meth c cc nL own Ts D cl tys A) {n : Int} {v : Int32} (hd : decode cc pc = .ok (.bipush n, 2)) (hv : (Int8.ofInt n).toInt32 = v) (k : jJ p l e R s m args below meth c nL D cl A Q cells slots ws (lv) (.int v :: st) (pc + 2)) : jJ p l e R s m args below meth c nL D cl A Q cells slots ws (lv) (st) (pc) :=
  fun H locs ls hP hD hS hl => lv_bipush hC.1 hC.2.1 hd hv (k H locs ls hP hD hS hl)
theorem j_sipush (hC : jC p s m args meth c cc nL own Ts D cl tys A) {n : Int} {v : Int32} (hd : decode cc pc = .ok (.sipush n, 3)) (hv : (Int16.ofInt n).toInt32 = v) (k : jJ p l e R s m args below meth c nL D cl A Q cells slots ws (lv) (.int v :: st) (pc + 3)) : jJ p l e R s m args below meth c nL D cl A Q cells slots ws (lv) (st) (pc) :=
  fun H locs ls hP hD hS hl => lv_sipush hC.1 hC.2.1 hd hv (k H locs ls hP hD hS hl)
theorem j_iload_n (hC : jC p s m args meth c cc nL own Ts D cl tys A) {k : Fin 4} {i : Nat} {x : Int32} (hd : decode cc pc = .ok (.iload_n k, 1)) (hi : (k : Nat) = i) (q : Nat) (hq : lv[q]? = some (i, .int x)) (k : jJ p l e R s m args below meth c nL D cl A Q cells slots ws (lv) (.int x :: st) (pc + 1)) : jJ p l e R s m args below meth c nL D cl A Q cells slots ws (lv) (st) (pc) :=
  fun H locs ls hP hD hS hl => lv_iload_n hC.1 hC.2.1 hd hi (lv_at hl q hq) (k H locs ls hP hD hS hl)
theorem j_iload (hC : jC p s m args meth c cc nL own Ts D cl tys A) {i : Nat} {x : Int32} (hd : decode cc pc = .ok (.iload i, 2)) (q : Nat) (hq : lv[q]? = some (i, .int x)) (k : jJ p l e R s m args below meth c nL D cl A Q cells slots ws (lv) (.int x :: st) (pc + 2)) : jJ p l e R s m args below meth c nL D cl A Q cells slots ws (lv) (st) (pc) :=
  fun H locs ls hP hD hS hl => lv_iload hC.1 hC.2.1 hd (lv_at hl q hq) (k H locs ls hP hD hS hl)
theorem j_istore_n (hC : jC p s m args meth c cc nL own Ts D cl tys A) {k : Fin 4} {i : Nat} {x : Int32} {lv' : List (Nat × Value)} (hd : decode cc pc = .ok (.istore_n k, 1)) (hi : (k : Nat) = i) (hn : i < nL) (hok : jok lv = true) (hp : jput lv i (.int x) = lv') (k : jJ p l e R s m args below meth c nL D cl A Q cells slots ws (lv') (st) (pc + 1)) : jJ p l e R s m args below meth c nL D cl A Q cells slots ws (lv) (.int x :: st) (pc) :=
  fun H locs ls hP hD hS hl => lv_istore_n hC.1 hC.2.1 hd hi hl hn rfl (fun ls' hl' => k H locs ls' hP hD hS (jhas_put hok hl' hp))
theorem j_istore (hC : jC p s m args meth c cc nL own Ts D cl tys A) {i : Nat} {x : Int32} {lv' : List (Nat × Value)} (hd : decode cc pc = .ok (.istore i, 2))  (hn : i < nL) (hok : jok lv = true) (hp : jput lv i (.int x) = lv') (k : jJ p l e R s m args below meth c nL D cl A Q cells slots ws (lv') (st) (pc + 2)) : jJ p l e R s m args below meth c nL D cl A Q cells slots ws (lv) (.int x :: st) (pc) :=
  fun H locs ls hP hD hS hl => lv_istore hC.1 hC.2.1 hd  hl hn rfl (fun ls' hl' => k H locs ls' hP hD hS (jhas_put hok hl' hp))
theorem j_aload_n (hC : jC p s m args meth c cc nL own Ts D cl tys A) {k : Fin 4} {i : Nat} {x : Nat} (hd : decode cc pc = .ok (.aload_n k, 1)) (hi : (k : Nat) = i) (q : Nat) (hq : lv[q]? = some (i, .ref x)) (k : jJ p l e R s m args below meth c nL D cl A Q cells slots ws (lv) (.ref x :: st) (pc + 1)) : jJ p l e R s m args below meth c nL D cl A Q cells slots ws (lv) (st) (pc) :=
  fun H locs ls hP hD hS hl => lv_aload_n hC.1 hC.2.1 hd hi (lv_at hl q hq) (k H locs ls hP hD hS hl)
theorem j_aload (hC : jC p s m args meth c cc nL own Ts D cl tys A) {i : Nat} {x : Nat} (hd : decode cc pc = .ok (.aload i, 2)) (q : Nat) (hq : lv[q]? = some (i, .ref x)) (k : jJ p l e R s m args below meth c nL D cl A Q cells slots ws (lv) (.ref x :: st) (pc + 2)) : jJ p l e R s m args below meth c nL D cl A Q cells slots ws (lv) (st) (pc) :=
  fun H locs ls hP hD hS hl => lv_aload hC.1 hC.2.1 hd (lv_at hl q hq) (k H locs ls hP hD hS hl)
theorem j_astore_n (hC : jC p s m args meth c cc nL own Ts D cl tys A) {k : Fin 4} {i : Nat} {x : Nat} {lv' : List (Nat × Value)} (hd : decode cc pc = .ok (.astore_n k, 1)) (hi : (k : Nat) = i) (hn : i < nL) (hok : jok lv = true) (hp : jput lv i (.ref x) = lv') (k : jJ p l e R s m args below meth c nL D cl A Q cells slots ws (lv') (st) (pc + 1)) : jJ p l e R s m args below meth c nL D cl A Q cells slots ws (lv) (.ref x :: st) (pc) :=
  fun H locs ls hP hD hS hl => lv_astore_n hC.1 hC.2.1 hd hi hl hn rfl (fun ls' hl' => k H locs ls' hP hD hS (jhas_put hok hl' hp))
theorem j_astore (hC : jC p s m args meth c cc nL own Ts D cl tys A) {i : Nat} {x : Nat} {lv' : List (Nat × Value)} (hd : decode cc pc = .ok (.astore i, 2))  (hn : i < nL) (hok : jok lv = true) (hp : jput lv i (.ref x) = lv') (k : jJ p l e R s m args below meth c nL D cl A Q cells slots ws (lv') (st) (pc + 2)) : jJ p l e R s m args below meth c nL D cl A Q cells slots ws (lv) (.ref x :: st) (pc) :=
  fun H locs ls hP hD hS hl => lv_astore hC.1 hC.2.1 hd  hl hn rfl (fun ls' hl' => k H locs ls' hP hD hS (jhas_put hok hl' hp))
theorem j_iinc (hC : jC p s m args meth c cc nL own Ts D cl tys A) {i : Nat} {n : Int} {x v : Int32} {lv' : List (Nat × Value)} (hd : decode cc pc = .ok (.iinc i n, 3)) (q : Nat) (hq : lv[q]? = some (i, .int x)) (hv : x + Int32.ofInt n = v) (hn : i < nL) (hok : jok lv = true) (hp : jput lv i (.int v) = lv') (k : jJ p l e R s m args below meth c nL D cl A Q cells slots ws (lv') (st) (pc + 3)) : jJ p l e R s m args below meth c nL D cl A Q cells slots ws (lv) (st) (pc) :=
  fun H locs ls hP hD hS hl => lv_iinc hC.1 hC.2.1 hd hl hq hv hn rfl (fun ls' hl' => k H locs ls' hP hD hS (jhas_put hok hl' hp))
theorem j_iadd (hC : jC p s m args meth c cc nL own Ts D cl tys A) {x y : Int32} (hd : decode cc pc = .ok (.iadd, 1)) (k : jJ p l e R s m args below meth c nL D cl A Q cells slots ws (lv) (.int (x + y) :: st) (pc + 1)) : jJ p l e R s m args below meth c nL D cl A Q cells slots ws (lv) (.int y :: .int x :: st) (pc) :=
  fun H locs ls hP hD hS hl => lv_iadd hC.1 hC.2.1 hd (k H locs ls hP hD hS hl)
theorem j_isub (hC : jC p s m args meth c cc nL own Ts D cl tys A) {x y : Int32} (hd : decode cc pc = .ok (.isub, 1)) (k : jJ p l e R s m args below meth c nL D cl A Q cells slots ws (lv) (.int (x - y) :: st) (pc + 1)) : jJ p l e R s m args below meth c nL D cl A Q cells slots ws (lv) (.int y :: .int x :: st) (pc) :=
  fun H locs ls hP hD hS hl => lv_isub hC.1 hC.2.1 hd (k H locs ls hP hD hS hl)
theorem j_imul (hC : jC p s m args meth c cc nL own Ts D cl tys A) {x y : Int32} (hd : decode cc pc = .ok (.imul, 1)) (k : jJ p l e R s m args below meth c nL D cl A Q cells slots ws (lv) (.int (x * y) :: st) (pc + 1)) : jJ p l e R s m args below meth c nL D cl A Q cells slots ws (lv) (.int y :: .int x :: st) (pc) :=
  fun H locs ls hP hD hS hl => lv_imul hC.1 hC.2.1 hd (k H locs ls hP hD hS hl)
theorem j_iand (hC : jC p s m args meth c cc nL own Ts D cl tys A) {x y : Int32} (hd : decode cc pc = .ok (.iand, 1)) (k : jJ p l e R s m args below meth c nL D cl A Q cells slots ws (lv) (.int (x &&& y) :: st) (pc + 1)) : jJ p l e R s m args below meth c nL D cl A Q cells slots ws (lv) (.int y :: .int x :: st) (pc) :=
  fun H locs ls hP hD hS hl => lv_iand hC.1 hC.2.1 hd (k H locs ls hP hD hS hl)
theorem j_ior (hC : jC p s m args meth c cc nL own Ts D cl tys A) {x y : Int32} (hd : decode cc pc = .ok (.ior, 1)) (k : jJ p l e R s m args below meth c nL D cl A Q cells slots ws (lv) (.int (x ||| y) :: st) (pc + 1)) : jJ p l e R s m args below meth c nL D cl A Q cells slots ws (lv) (.int y :: .int x :: st) (pc) :=
  fun H locs ls hP hD hS hl => lv_ior hC.1 hC.2.1 hd (k H locs ls hP hD hS hl)
theorem j_ixor (hC : jC p s m args meth c cc nL own Ts D cl tys A) {x y : Int32} (hd : decode cc pc = .ok (.ixor, 1)) (k : jJ p l e R s m args below meth c nL D cl A Q cells slots ws (lv) (.int (x ^^^ y) :: st) (pc + 1)) : jJ p l e R s m args below meth c nL D cl A Q cells slots ws (lv) (.int y :: .int x :: st) (pc) :=
  fun H locs ls hP hD hS hl => lv_ixor hC.1 hC.2.1 hd (k H locs ls hP hD hS hl)
theorem j_ishl (hC : jC p s m args meth c cc nL own Ts D cl tys A) {x y : Int32} (hd : decode cc pc = .ok (.ishl, 1)) (k : jJ p l e R s m args below meth c nL D cl A Q cells slots ws (lv) (.int (x <<< (y &&& 31)) :: st) (pc + 1)) : jJ p l e R s m args below meth c nL D cl A Q cells slots ws (lv) (.int y :: .int x :: st) (pc) :=
  fun H locs ls hP hD hS hl => lv_ishl hC.1 hC.2.1 hd (k H locs ls hP hD hS hl)
theorem j_ishr (hC : jC p s m args meth c cc nL own Ts D cl tys A) {x y : Int32} (hd : decode cc pc = .ok (.ishr, 1)) (k : jJ p l e R s m args below meth c nL D cl A Q cells slots ws (lv) (.int (x >>> (y &&& 31)) :: st) (pc + 1)) : jJ p l e R s m args below meth c nL D cl A Q cells slots ws (lv) (.int y :: .int x :: st) (pc) :=
  fun H locs ls hP hD hS hl => lv_ishr hC.1 hC.2.1 hd (k H locs ls hP hD hS hl)
theorem j_idiv (hC : jC p s m args meth c cc nL own Ts D cl tys A) {x y : Int32} (hd : decode cc pc = .ok (.idiv, 1)) (hne : ¬ y = 0) (k : jJ p l e R s m args below meth c nL D cl A Q cells slots ws (lv) (.int (x / y) :: st) (pc + 1)) : jJ p l e R s m args below meth c nL D cl A Q cells slots ws (lv) (.int y :: .int x :: st) (pc) :=
  fun H locs ls hP hD hS hl => lv_idiv hC.1 hC.2.1 hd hne (k H locs ls hP hD hS hl)
theorem j_irem (hC : jC p s m args meth c cc nL own Ts D cl tys A) {x y : Int32} (hd : decode cc pc = .ok (.irem, 1)) (hne : ¬ y = 0) (k : jJ p l e R s m args below meth c nL D cl A Q cells slots ws (lv) (.int (x - x / y * y) :: st) (pc + 1)) : jJ p l e R s m args below meth c nL D cl A Q cells slots ws (lv) (.int y :: .int x :: st) (pc) :=
  fun H locs ls hP hD hS hl => lv_irem hC.1 hC.2.1 hd hne (k H locs ls hP hD hS hl)
theorem j_ineg (hC : jC p s m args meth c cc nL own Ts D cl tys A) {x : Int32} (hd : decode cc pc = .ok (.ineg, 1)) (k : jJ p l e R s m args below meth c nL D cl A Q cells slots ws (lv) (.int (-x) :: st) (pc + 1)) : jJ p l e R s m args below meth c nL D cl A Q cells slots ws (lv) (.int x :: st) (pc) :=
  fun H locs ls hP hD hS hl => lv_ineg hC.1 hC.2.1 hd (k H locs ls hP hD hS hl)
theorem j_iushr (hC : jC p s m args meth c cc nL own Ts D cl tys A) {x y v : Int32} (hd : decode cc pc = .ok (.iushr, 1)) (hv : (x.toUInt32 >>> (y.toUInt32 &&& Int32.toUInt32 31)).toInt32 = v) (k : jJ p l e R s m args below meth c nL D cl A Q cells slots ws (lv) (.int v :: st) (pc + 1)) : jJ p l e R s m args below meth c nL D cl A Q cells slots ws (lv) (.int y :: .int x :: st) (pc) :=
  fun H locs ls hP hD hS hl => lv_iushr hC.1 hC.2.1 hd hv (k H locs ls hP hD hS hl)
theorem j_i2l (hC : jC p s m args meth c cc nL own Ts D cl tys A) {x : Int32} {v : Int64} (hd : decode cc pc = .ok (.i2l, 1)) (hv : x.toInt64 = v) (k : jJ p l e R s m args below meth c nL D cl A Q cells slots ws (lv) (.long v :: st) (pc + 1)) : jJ p l e R s m args below meth c nL D cl A Q cells slots ws (lv) (.int x :: st) (pc) :=
  fun H locs ls hP hD hS hl => lv_i2l hC.1 hC.2.1 hd hv (k H locs ls hP hD hS hl)
theorem j_dup (hC : jC p s m args meth c cc nL own Ts D cl tys A) {va : Value} (hd : decode cc pc = .ok (.dup, 1)) (h1 : va.category = 1) (k : jJ p l e R s m args below meth c nL D cl A Q cells slots ws (lv) (va :: va :: st) (pc + 1)) : jJ p l e R s m args below meth c nL D cl A Q cells slots ws (lv) (va :: st) (pc) :=
  fun H locs ls hP hD hS hl => lv_dup hC.1 hC.2.1 hd h1 (k H locs ls hP hD hS hl)
theorem j_pop (hC : jC p s m args meth c cc nL own Ts D cl tys A) {va : Value} (hd : decode cc pc = .ok (.pop, 1)) (h1 : va.category = 1) (k : jJ p l e R s m args below meth c nL D cl A Q cells slots ws (lv) (st) (pc + 1)) : jJ p l e R s m args below meth c nL D cl A Q cells slots ws (lv) (va :: st) (pc) :=
  fun H locs ls hP hD hS hl => lv_pop hC.1 hC.2.1 hd h1 (k H locs ls hP hD hS hl)
theorem j_dup_x1 (hC : jC p s m args meth c cc nL own Ts D cl tys A) {va vb : Value} (hd : decode cc pc = .ok (.dup_x1, 1)) (h1 : va.category = 1) (h2 : vb.category = 1) (k : jJ p l e R s m args below meth c nL D cl A Q cells slots ws (lv) (va :: vb :: va :: st) (pc + 1)) : jJ p l e R s m args below meth c nL D cl A Q cells slots ws (lv) (va :: vb :: st) (pc) :=
  fun H locs ls hP hD hS hl => lv_dup_x1 hC.1 hC.2.1 hd h1 h2 (k H locs ls hP hD hS hl)
theorem j_dup2_11 (hC : jC p s m args meth c cc nL own Ts D cl tys A) {va vb : Value} (hd : decode cc pc = .ok (.dup2, 1)) (h1 : va.category = 1) (h2 : vb.category = 1) (k : jJ p l e R s m args below meth c nL D cl A Q cells slots ws (lv) (va :: vb :: va :: vb :: st) (pc + 1)) : jJ p l e R s m args below meth c nL D cl A Q cells slots ws (lv) (va :: vb :: st) (pc) :=
  fun H locs ls hP hD hS hl => lv_dup2_11 hC.1 hC.2.1 hd h1 h2 (k H locs ls hP hD hS hl)
theorem j_goto (hC : jC p s m args meth c cc nL own Ts D cl tys A) {off : Int} {tgt : Nat} (hd : decode cc pc = .ok (.goto off, 3)) (ht : (pc : Int) + off = (tgt : Int)) (k : jJ p l e R s m args below meth c nL D cl A Q cells slots ws (lv) (st) (tgt)) : jJ p l e R s m args below meth c nL D cl A Q cells slots ws (lv) (st) (pc) :=
  fun H locs ls hP hD hS hl => lv_goto hC.1 hC.2.1 hd ht (k H locs ls hP hD hS hl)
theorem j_if_eq (hC : jC p s m args meth c cc nL own Ts D cl tys A) {x : Int32} {off : Int} {tgt : Nat} (hd : decode cc pc = .ok (.ifCond .eq off, 3)) (ht : (pc : Int) + off = (tgt : Int)) (kt : x = 0 → jJ p l e R s m args below meth c nL D cl A Q cells slots ws (lv) (st) (tgt)) (kf : ¬ x = 0 → jJ p l e R s m args below meth c nL D cl A Q cells slots ws (lv) (st) (pc + 3)) : jJ p l e R s m args below meth c nL D cl A Q cells slots ws (lv) (.int x :: st) (pc) :=
  fun H locs ls hP hD hS hl => lv_if_eq hC.1 hC.2.1 hd ht (fun h => kt h H locs ls hP hD hS hl) (fun h => kf h H locs ls hP hD hS hl)
theorem j_icmp_eq (hC : jC p s m args meth c cc nL own Ts D cl tys A) {x y : Int32} {off : Int} {tgt : Nat} (hd : decode cc pc = .ok (.if_icmp .eq off, 3)) (ht : (pc : Int) + off = (tgt : Int)) (kt : x = y → jJ p l e R s m args below meth c nL D cl A Q cells slots ws (lv) (st) (tgt)) (kf : ¬ x = y → jJ p l e R s m args below meth c nL D cl A Q cells slots ws (lv) (st) (pc + 3)) : jJ p l e R s m args below meth c nL D cl A Q cells slots ws (lv) (.int y :: .int x :: st) (pc) :=
  fun H locs ls hP hD hS hl => lv_icmp_eq hC.1 hC.2.1 hd ht (fun h => kt h H locs ls hP hD hS hl) (fun h => kf h H locs ls hP hD hS hl)
theorem j_if_ne (hC : jC p s m args meth c cc nL own Ts D cl tys A) {x : Int32} {off : Int} {tgt : Nat} (hd : decode cc pc = .ok (.ifCond .ne off, 3)) (ht : (pc : Int) + off = (tgt : Int)) (kt : ¬ x = 0 → jJ p l e R s m args below meth c nL D cl A Q cells slots ws (lv) (st) (tgt)) (kf : x = 0 → jJ p l e R s m args below meth c nL D cl A Q cells slots ws (lv) (st) (pc + 3)) : jJ p l e R s m args below meth c nL D cl A Q cells slots ws (lv) (.int x :: st) (pc) :=
  fun H locs ls hP hD hS hl => lv_if_ne hC.1 hC.2.1 hd ht (fun h => kt h H locs ls hP hD hS hl) (fun h => kf h H locs ls hP hD hS hl)
theorem j_icmp_ne (hC : jC p s m args meth c cc nL own Ts D cl tys A) {x y : Int32} {off : Int} {tgt : Nat} (hd : decode cc pc = .ok (.if_icmp .ne off, 3)) (ht : (pc : Int) + off = (tgt : Int)) (kt : ¬ x = y → jJ p l e R s m args below meth c nL D cl A Q cells slots ws (lv) (st) (tgt)) (kf : x = y → jJ p l e R s m args below meth c nL D cl A Q cells slots ws (lv) (st) (pc + 3)) : jJ p l e R s m args below meth c nL D cl A Q cells slots ws (lv) (.int y :: .int x :: st) (pc) :=
  fun H locs ls hP hD hS hl => lv_icmp_ne hC.1 hC.2.1 hd ht (fun h => kt h H locs ls hP hD hS hl) (fun h => kf h H locs ls hP hD hS hl)
theorem j_if_lt (hC : jC p s m args meth c cc nL own Ts D cl tys A) {x : Int32} {off : Int} {tgt : Nat} (hd : decode cc pc = .ok (.ifCond .lt off, 3)) (ht : (pc : Int) + off = (tgt : Int)) (kt : x < 0 → jJ p l e R s m args below meth c nL D cl A Q cells slots ws (lv) (st) (tgt)) (kf : ¬ x < 0 → jJ p l e R s m args below meth c nL D cl A Q cells slots ws (lv) (st) (pc + 3)) : jJ p l e R s m args below meth c nL D cl A Q cells slots ws (lv) (.int x :: st) (pc) :=
  fun H locs ls hP hD hS hl => lv_if_lt hC.1 hC.2.1 hd ht (fun h => kt h H locs ls hP hD hS hl) (fun h => kf h H locs ls hP hD hS hl)
theorem j_icmp_lt (hC : jC p s m args meth c cc nL own Ts D cl tys A) {x y : Int32} {off : Int} {tgt : Nat} (hd : decode cc pc = .ok (.if_icmp .lt off, 3)) (ht : (pc : Int) + off = (tgt : Int)) (kt : x < y → jJ p l e R s m args below meth c nL D cl A Q cells slots ws (lv) (st) (tgt)) (kf : ¬ x < y → jJ p l e R s m args below meth c nL D cl A Q cells slots ws (lv) (st) (pc + 3)) : jJ p l e R s m args below meth c nL D cl A Q cells slots ws (lv) (.int y :: .int x :: st) (pc) :=
  fun H locs ls hP hD hS hl => lv_icmp_lt hC.1 hC.2.1 hd ht (fun h => kt h H locs ls hP hD hS hl) (fun h => kf h H locs ls hP hD hS hl)
theorem j_if_ge (hC : jC p s m args meth c cc nL own Ts D cl tys A) {x : Int32} {off : Int} {tgt : Nat} (hd : decode cc pc = .ok (.ifCond .ge off, 3)) (ht : (pc : Int) + off = (tgt : Int)) (kt : 0 ≤ x → jJ p l e R s m args below meth c nL D cl A Q cells slots ws (lv) (st) (tgt)) (kf : ¬ 0 ≤ x → jJ p l e R s m args below meth c nL D cl A Q cells slots ws (lv) (st) (pc + 3)) : jJ p l e R s m args below meth c nL D cl A Q cells slots ws (lv) (.int x :: st) (pc) :=
  fun H locs ls hP hD hS hl => lv_if_ge hC.1 hC.2.1 hd ht (fun h => kt h H locs ls hP hD hS hl) (fun h => kf h H locs ls hP hD hS hl)
theorem j_icmp_ge (hC : jC p s m args meth c cc nL own Ts D cl tys A) {x y : Int32} {off : Int} {tgt : Nat} (hd : decode cc pc = .ok (.if_icmp .ge off, 3)) (ht : (pc : Int) + off = (tgt : Int)) (kt : y ≤ x → jJ p l e R s m args below meth c nL D cl A Q cells slots ws (lv) (st) (tgt)) (kf : ¬ y ≤ x → jJ p l e R s m args below meth c nL D cl A Q cells slots ws (lv) (st) (pc + 3)) : jJ p l e R s m args below meth c nL D cl A Q cells slots ws (lv) (.int y :: .int x :: st) (pc) :=
  fun H locs ls hP hD hS hl => lv_icmp_ge hC.1 hC.2.1 hd ht (fun h => kt h H locs ls hP hD hS hl) (fun h => kf h H locs ls hP hD hS hl)
theorem j_if_gt (hC : jC p s m args meth c cc nL own Ts D cl tys A) {x : Int32} {off : Int} {tgt : Nat} (hd : decode cc pc = .ok (.ifCond .gt off, 3)) (ht : (pc : Int) + off = (tgt : Int)) (kt : 0 < x → jJ p l e R s m args below meth c nL D cl A Q cells slots ws (lv) (st) (tgt)) (kf : ¬ 0 < x → jJ p l e R s m args below meth c nL D cl A Q cells slots ws (lv) (st) (pc + 3)) : jJ p l e R s m args below meth c nL D cl A Q cells slots ws (lv) (.int x :: st) (pc) :=
  fun H locs ls hP hD hS hl => lv_if_gt hC.1 hC.2.1 hd ht (fun h => kt h H locs ls hP hD hS hl) (fun h => kf h H locs ls hP hD hS hl)
theorem j_icmp_gt (hC : jC p s m args meth c cc nL own Ts D cl tys A) {x y : Int32} {off : Int} {tgt : Nat} (hd : decode cc pc = .ok (.if_icmp .gt off, 3)) (ht : (pc : Int) + off = (tgt : Int)) (kt : y < x → jJ p l e R s m args below meth c nL D cl A Q cells slots ws (lv) (st) (tgt)) (kf : ¬ y < x → jJ p l e R s m args below meth c nL D cl A Q cells slots ws (lv) (st) (pc + 3)) : jJ p l e R s m args below meth c nL D cl A Q cells slots ws (lv) (.int y :: .int x :: st) (pc) :=
  fun H locs ls hP hD hS hl => lv_icmp_gt hC.1 hC.2.1 hd ht (fun h => kt h H locs ls hP hD hS hl) (fun h => kf h H locs ls hP hD hS hl)
theorem j_if_le (hC : jC p s m args meth c cc nL own Ts D cl tys A) {x : Int32} {off : Int} {tgt : Nat} (hd : decode cc pc = .ok (.ifCond .le off, 3)) (ht : (pc : Int) + off = (tgt : Int)) (kt : x ≤ 0 → jJ p l e R s m args below meth c nL D cl A Q cells slots ws (lv) (st) (tgt)) (kf : ¬ x ≤ 0 → jJ p l e R s m args below meth c nL D cl A Q cells slots ws (lv) (st) (pc + 3)) : jJ p l e R s m args below meth c nL D cl A Q cells slots ws (lv) (.int x :: st) (pc) :=
  fun H locs ls hP hD hS hl => lv_if_le hC.1 hC.2.1 hd ht (fun h => kt h H locs ls hP hD hS hl) (fun h => kf h H locs ls hP hD hS hl)
theorem j_icmp_le (hC : jC p s m args meth c cc nL own Ts D cl tys A) {x y : Int32} {off : Int} {tgt : Nat} (hd : decode cc pc = .ok (.if_icmp .le off, 3)) (ht : (pc : Int) + off = (tgt : Int)) (kt : x ≤ y → jJ p l e R s m args below meth c nL D cl A Q cells slots ws (lv) (st) (tgt)) (kf : ¬ x ≤ y → jJ p l e R s m args below meth c nL D cl A Q cells slots ws (lv) (st) (pc + 3)) : jJ p l e R s m args below meth c nL D cl A Q cells slots ws (lv) (.int y :: .int x :: st) (pc) :=
  fun H locs ls hP hD hS hl => lv_icmp_le hC.1 hC.2.1 hd ht (fun h => kt h H locs ls hP hD hS hl) (fun h => kf h H locs ls hP hD hS hl)
theorem j_get (hC : jC p s m args meth c cc nL own Ts D cl tys A) {ref C : String} {T : u_T} {N ci index : Nat} (hin : ∀ w ∈ u_ws C T N, w ∈ Ts) {a : Nat} (q0 : Nat) {fs : List Value} (he : ws[q0]? = some (a, .inr (ci, fs))) (hc : cl[ci]? = some (C, T, N)) (k : Nat) (hk : k < N) (hlink : (Cond.fieldLink own index ref (T k).2.1 (T k).2.2.1).before args s = true) (hsame : ∀ x, s.fieldFound? (T k).1 (T k).2.1 (T k).2.2.1 = some x → s.fieldFound? ref (T k).2.1 (T k).2.2.1 = some x) {v : Value} (hv : fs[k]? = some v) (hd : decode cc pc = .ok (.getfield index, 3)) (kk : jJ p l e R s m args below meth c nL D cl A Q cells slots ws (lv) (v :: st) (pc + 3)) : jJ p l e R s m args below meth c nL D cl A Q cells slots ws (lv) (.ref a :: st) (pc) :=
  fun H locs ls hP hD hS hl => va_get hC.1 hC.2.1 hC.2.2.2.2.1 hin hC.2.2.2.1 hC.2.2.2.2.2.1 hP q0 he hc k hk hlink hsame hv hd (kk H locs ls hP hD hS hl)
theorem j_getN (hC : jC p s m args meth c cc nL own Ts D cl tys A) {host : String} {ref C : String} {T : u_T} {N ci index : Nat} (hin : ∀ w ∈ u_ws C T N, w ∈ Ts) {a : Nat} (q0 : Nat) {fs : List Value} (he : ws[q0]? = some (a, .inr (ci, fs))) (hc : cl[ci]? = some (C, T, N)) (k : Nat) (hk : k < N) (hlink : (Cond.fieldLinkNest own index ref (T k).2.1 (T k).2.2.1 host).before args s = true) (hsame : ∀ x, s.fieldFound? (T k).1 (T k).2.1 (T k).2.2.1 = some x → s.fieldFound? ref (T k).2.1 (T k).2.2.1 = some x) {v : Value} (hv : fs[k]? = some v) (hd : decode cc pc = .ok (.getfield index, 3)) (kk : jJ p l e R s m args below meth c nL D cl A Q cells slots ws (lv) (v :: st) (pc + 3)) : jJ p l e R s m args below meth c nL D cl A Q cells slots ws (lv) (.ref a :: st) (pc) :=
  fun H locs ls hP hD hS hl => va_getN hC.1 hC.2.1 hC.2.2.2.2.1 hin hC.2.2.2.1 hC.2.2.2.2.2.1 hP q0 he hc k hk hlink hsame hv hd (kk H locs ls hP hD hS hl)
theorem j_put (hC : jC p s m args meth c cc nL own Ts D cl tys A) {ref C : String} {T : u_T} {N ci index : Nat} (hin : ∀ w ∈ u_ws C T N, w ∈ Ts) (ty0 : Nat → FieldType) (hty : ∀ k, k < N → parseFieldDescriptor (T k).2.2.1 = some (ty0 k)) (hnm : ∀ a, a < N → ∀ b, b < N → a ≠ b → (T a).2.1 ≠ (T b).2.1) {a : Nat} (q0 : Nat) {fs : List Value} (he : ws[q0]? = some (a, .inr (ci, fs))) (hc : cl[ci]? = some (C, T, N)) (k : Nat) (hk : k < N) (hlink : (Cond.fieldLink own index ref (T k).2.1 (T k).2.2.1).before args s = true) (hsame : ∀ x, s.fieldFound? (T k).1 (T k).2.1 (T k).2.2.1 = some x → s.fieldFound? ref (T k).2.1 (T k).2.2.1 = some x) (hfin : (T k).2.2.2 = false) {ty : FieldType} {v : Value} (hdt : parseFieldDescriptor (T k).2.2.1 = some ty) (hn : narrow ty v = v) (hfit : fits ty v = true) (hl0 : k < fs.length) {ws' : va_W} (hw : ws.set q0 (a, .inr (ci, fs.set k v)) = ws') (hd : decode cc pc = .ok (.putfield index, 3)) (kk : jJ p l e R s m args below meth c nL D cl A Q cells slots ws' (lv) (st) (pc + 3)) : jJ p l e R s m args below meth c nL D cl A Q cells slots ws (lv) (v :: .ref a :: st) (pc) :=
  fun H locs ls hP hD hS hl => va_put hC.1 hC.2.1 hC.2.2.2.2.1 hin ty0 hty hnm hC.2.2.2.1 hC.2.2.2.2.2.1 hP hD hS q0 he hc k hk hlink hsame hfin hdt hn hfit hl0 hd (fun H1 locs1 hP1 hD1 hS1 => kk H1 locs1 ls (hw ▸ hP1) (hw ▸ hD1) hS1 hl)
theorem j_putN (hC : jC p s m args meth c cc nL own Ts D cl tys A) {host : String} {ref C : String} {T : u_T} {N ci index : Nat} (hin : ∀ w ∈ u_ws C T N, w ∈ Ts) (ty0 : Nat → FieldType) (hty : ∀ k, k < N → parseFieldDescriptor (T k).2.2.1 = some (ty0 k)) (hnm : ∀ a, a < N → ∀ b, b < N → a ≠ b → (T a).2.1 ≠ (T b).2.1) {a : Nat} (q0 : Nat) {fs : List Value} (he : ws[q0]? = some (a, .inr (ci, fs))) (hc : cl[ci]? = some (C, T, N)) (k : Nat) (hk : k < N) (hlink : (Cond.fieldLinkNest own index ref (T k).2.1 (T k).2.2.1 host).before args s = true) (hsame : ∀ x, s.fieldFound? (T k).1 (T k).2.1 (T k).2.2.1 = some x → s.fieldFound? ref (T k).2.1 (T k).2.2.1 = some x) (hfin : (T k).2.2.2 = false) {ty : FieldType} {v : Value} (hdt : parseFieldDescriptor (T k).2.2.1 = some ty) (hn : narrow ty v = v) (hfit : fits ty v = true) (hl0 : k < fs.length) {ws' : va_W} (hw : ws.set q0 (a, .inr (ci, fs.set k v)) = ws') (hd : decode cc pc = .ok (.putfield index, 3)) (kk : jJ p l e R s m args below meth c nL D cl A Q cells slots ws' (lv) (st) (pc + 3)) : jJ p l e R s m args below meth c nL D cl A Q cells slots ws (lv) (v :: .ref a :: st) (pc) :=
  fun H locs ls hP hD hS hl => va_putN hC.1 hC.2.1 hC.2.2.2.2.1 hin ty0 hty hnm hC.2.2.2.1 hC.2.2.2.2.2.1 hP hD hS q0 he hc k hk hlink hsame hfin hdt hn hfit hl0 hd (fun H1 locs1 hP1 hD1 hS1 => kk H1 locs1 ls (hw ▸ hP1) (hw ▸ hD1) hS1 hl)
theorem j_putF (hC : jC p s m args meth c cc nL own Ts D cl tys A) {ref C : String} {T : u_T} {N ci index : Nat} (hin : ∀ w ∈ u_ws C T N, w ∈ Ts) (ty0 : Nat → FieldType) (hty : ∀ k, k < N → parseFieldDescriptor (T k).2.2.1 = some (ty0 k)) (hnm : ∀ a, a < N → ∀ b, b < N → a ≠ b → (T a).2.1 ≠ (T b).2.1) {a : Nat} (q0 : Nat) {fs : List Value} (he : ws[q0]? = some (a, .inr (ci, fs))) (hc : cl[ci]? = some (C, T, N)) (k : Nat) (hk : k < N) (hlink : (Cond.fieldLink own index ref (T k).2.1 (T k).2.2.1).before args s = true) (hsame : ∀ x, s.fieldFound? (T k).1 (T k).2.1 (T k).2.2.1 = some x → s.fieldFound? ref (T k).2.1 (T k).2.2.1 = some x) (hfin : (T k).2.2.2 = true) (hin2 : meth.name = "<init>") (hdecl : (T k).1 = own) {ty : FieldType} {v : Value} (hdt : parseFieldDescriptor (T k).2.2.1 = some ty) (hn : narrow ty v = v) (hfit : fits ty v = true) (hl0 : k < fs.length) {ws' : va_W} (hw : ws.set q0 (a, .inr (ci, fs.set k v)) = ws') (hd : decode cc pc = .ok (.putfield index, 3)) (kk : jJ p l e R s m args below meth c nL D cl A Q cells slots ws' (lv) (st) (pc + 3)) : jJ p l e R s m args below meth c nL D cl A Q cells slots ws (lv) (v :: .ref a :: st) (pc) :=
  fun H locs ls hP hD hS hl => va_putF hC.1 hC.2.1 hC.2.2.2.2.1 hin ty0 hty hnm hC.2.2.2.1 hC.2.2.2.2.2.1 hP hD hS q0 he hc k hk hlink hsame hfin hin2 hdecl hdt hn hfit hl0 hd (fun H1 locs1 hP1 hD1 hS1 => kk H1 locs1 ls (hw ▸ hP1) (hw ▸ hD1) hS1 hl)
theorem j_iald (hC : jC p s m args meth c cc nL own Ts D cl tys A) {a : Nat} (q0 t0 : Nat) {cA : ClassId} {n : Nat} {f : Nat → Int32} (ha : ws[q0]? = some (a, .inl (cA, n, .inl f))) (ht : tys[t0]? = some (cA, .int)) {i : Int32} {v : Int32} (hin : vp_in i n) (hv : f i.toNatClampNeg = v) (hd : decode cc pc = .ok (.iaload, 1)) (kk : jJ p l e R s m args below meth c nL D cl A Q cells slots ws (lv) (.int v :: st) (pc + 1)) : jJ p l e R s m args below meth c nL D cl A Q cells slots ws (lv) (.int i :: .ref a :: st) (pc) :=
  fun H locs ls hP hD hS hl => va_iald hC.1 hC.2.1 hC.2.2.2.2.2.1 hP q0 t0 ha ht hin hd (by rw [hv]; exact kk H locs ls hP hD hS hl)
theorem j_zald (hC : jC p s m args meth c cc nL own Ts D cl tys A) {a : Nat} (q0 t0 : Nat) {cA : ClassId} {n : Nat} {f : Nat → Int32} (ha : ws[q0]? = some (a, .inl (cA, n, .inl f))) (ht : tys[t0]? = some (cA, .boolean)) {i : Int32} {v : Int32} (hin : vp_in i n) (hv : f i.toNatClampNeg = v) (hd : decode cc pc = .ok (.baload, 1)) (kk : jJ p l e R s m args below meth c nL D cl A Q cells slots ws (lv) (.int v :: st) (pc + 1)) : jJ p l e R s m args below meth c nL D cl A Q cells slots ws (lv) (.int i :: .ref a :: st) (pc) :=
  fun H locs ls hP hD hS hl => va_zald hC.1 hC.2.1 hC.2.2.2.2.2.1 hP q0 t0 ha ht hin hd (by rw [hv]; exact kk H locs ls hP hD hS hl)
theorem j_bald (hC : jC p s m args meth c cc nL own Ts D cl tys A) {a : Nat} (q0 t0 : Nat) {cA : ClassId} {n : Nat} {f : Nat → Int32} (ha : ws[q0]? = some (a, .inl (cA, n, .inl f))) (ht : tys[t0]? = some (cA, .byte)) {i : Int32} {v : Int32} (hin : vp_in i n) (hv : f i.toNatClampNeg = v) (hd : decode cc pc = .ok (.baload, 1)) (kk : jJ p l e R s m args below meth c nL D cl A Q cells slots ws (lv) (.int v :: st) (pc + 1)) : jJ p l e R s m args below meth c nL D cl A Q cells slots ws (lv) (.int i :: .ref a :: st) (pc) :=
  fun H locs ls hP hD hS hl => va_bald hC.1 hC.2.1 hC.2.2.2.2.2.1 hP q0 t0 ha ht hin hd (by rw [hv]; exact kk H locs ls hP hD hS hl)
theorem j_iast (hC : jC p s m args meth c cc nL own Ts D cl tys A) {a : Nat} (q0 t0 : Nat) {cA : ClassId} {n : Nat} {f : Nat → Int32} (ha : ws[q0]? = some (a, .inl (cA, n, .inl f))) (ht : tys[t0]? = some (cA, .int)) {i x : Int32} (hin : vp_in i n) {ws' : va_W} (hw : ws.set q0 (a, .inl (cA, n, .inl (upd f i.toNatClampNeg x))) = ws') (hd : decode cc pc = .ok (.iastore, 1)) (kk : jJ p l e R s m args below meth c nL D cl A Q cells slots ws' (lv) (st) (pc + 1)) : jJ p l e R s m args below meth c nL D cl A Q cells slots ws (lv) (.int x :: .int i :: .ref a :: st) (pc) :=
  fun H locs ls hP hD hS hl => va_iast hC.1 hC.2.1 hC.2.2.2.2.2.1 hP hD hS q0 t0 ha ht hin hd (fun H1 locs1 hP1 hD1 hS1 => kk H1 locs1 ls (hw ▸ hP1) (hw ▸ hD1) hS1 hl)
theorem j_aald (hC : jC p s m args meth c cc nL own Ts D cl tys A) {a : Nat} (q0 t0 : Nat) {cA : ClassId} {C : String} {n : Nat} {f : Nat → Option Nat} (ha : ws[q0]? = some (a, .inl (cA, n, .inr (.inr (.inr (.inr f)))))) (ht : tys[t0]? = some (cA, .object C)) {i : Int32} (hin : vp_in i n) {v : Nat} (hv : f i.toNatClampNeg = some v) (hd : decode cc pc = .ok (.aaload, 1)) (kk : jJ p l e R s m args below meth c nL D cl A Q cells slots ws (lv) (.ref v :: st) (pc + 1)) : jJ p l e R s m args below meth c nL D cl A Q cells slots ws (lv) (.int i :: .ref a :: st) (pc) :=
  fun H locs ls hP hD hS hl => va_aldq hC.1 hC.2.1 hC.2.2.2.2.2.1 hP q0 t0 ha ht hin hd (by rw [hv]; exact kk H locs ls hP hD hS hl)
theorem j_alen (hC : jC p s m args meth c cc nL own Ts D cl tys A) {a : Nat} (q0 t0 : Nat) {cA : ClassId} {x : vp_A} (ha : ws[q0]? = some (a, .inl (cA, x))) {ty : FieldType} (ht : tys[t0]? = some (cA, ty)) {v : Int32} (hv : Int32.ofNat x.1 = v) (hd : decode cc pc = .ok (.arraylength, 1)) (kk : jJ p l e R s m args below meth c nL D cl A Q cells slots ws (lv) (.int v :: st) (pc + 1)) : jJ p l e R s m args below meth c nL D cl A Q cells slots ws (lv) (.ref a :: st) (pc) :=
  fun H locs ls hP hD hS hl => va_alen hC.1 hC.2.1 hC.2.2.2.2.2.1 hP q0 t0 ha ht hv hd (kk H locs ls hP hD hS hl)
theorem j_ialdN (hC : jC p s m args meth c cc nL own Ts D cl tys A) {a : Nat} (q0 t0 : Nat) {cA : ClassId} {N : Nat} {f : Nat → Int32} (ha : ws[q0]? = some (a, .inl (cA, N, .inl f))) (ht : tys[t0]? = some (cA, .int)) {n : Nat} {i : Int32} (hi : i = nI n) (hn : n < N) (hN : N < 2 ^ 31) (hd : decode cc pc = .ok (.iaload, 1)) (kk : jJ p l e R s m args below meth c nL D cl A Q cells slots ws (lv) (.int (f n) :: st) (pc + 1)) : jJ p l e R s m args below meth c nL D cl A Q cells slots ws (lv) (.int i :: .ref a :: st) (pc) :=
  j_iald hC q0 t0 ha ht (by rw [hi]; exact vp_in_nI hn hN) (by rw [hi, nI_clamp (Nat.lt_trans hn hN)]) hd kk
theorem j_zaldN (hC : jC p s m args meth c cc nL own Ts D cl tys A) {a : Nat} (q0 t0 : Nat) {cA : ClassId} {N : Nat} {f : Nat → Int32} (ha : ws[q0]? = some (a, .inl (cA, N, .inl f))) (ht : tys[t0]? = some (cA, .boolean)) {n : Nat} {i : Int32} (hi : i = nI n) (hn : n < N) (hN : N < 2 ^ 31) (hd : decode cc pc = .ok (.baload, 1)) (kk : jJ p l e R s m args below meth c nL D cl A Q cells slots ws (lv) (.int (f n) :: st) (pc + 1)) : jJ p l e R s m args below meth c nL D cl A Q cells slots ws (lv) (.int i :: .ref a :: st) (pc) :=
  j_zald hC q0 t0 ha ht (by rw [hi]; exact vp_in_nI hn hN) (by rw [hi, nI_clamp (Nat.lt_trans hn hN)]) hd kk
theorem j_iastN (hC : jC p s m args meth c cc nL own Ts D cl tys A) {a : Nat} (q0 t0 : Nat) {cA : ClassId} {N : Nat} {f : Nat → Int32} (ha : ws[q0]? = some (a, .inl (cA, N, .inl f))) (ht : tys[t0]? = some (cA, .int)) {n : Nat} {i x : Int32} (hi : i = nI n) (hn : n < N) (hN : N < 2 ^ 31) {ws' : va_W} (hw : ws.set q0 (a, .inl (cA, N, .inl (upd f n x))) = ws') (hd : decode cc pc = .ok (.iastore, 1)) (kk : jJ p l e R s m args below meth c nL D cl A Q cells slots ws' (lv) (st) (pc + 1)) : jJ p l e R s m args below meth c nL D cl A Q cells slots ws (lv) (.int x :: .int i :: .ref a :: st) (pc) :=
  j_iast hC q0 t0 ha ht (by rw [hi]; exact vp_in_nI hn hN) (by rw [hi, nI_clamp (Nat.lt_trans hn hN)]; exact hw) hd kk
theorem j_aaldN (hC : jC p s m args meth c cc nL own Ts D cl tys A) {a : Nat} (q0 t0 : Nat) {cA : ClassId} {C : String} {N : Nat} {f : Nat → Option Nat} (ha : ws[q0]? = some (a, .inl (cA, N, .inr (.inr (.inr (.inr f)))))) (ht : tys[t0]? = some (cA, .object C)) {n : Nat} {i : Int32} (hi : i = nI n) (hn : n < N) (hN : N < 2 ^ 31) {v : Nat} (hv : f n = some v) (hd : decode cc pc = .ok (.aaload, 1)) (kk : jJ p l e R s m args below meth c nL D cl A Q cells slots ws (lv) (.ref v :: st) (pc + 1)) : jJ p l e R s m args below meth c nL D cl A Q cells slots ws (lv) (.int i :: .ref a :: st) (pc) :=
  j_aald hC q0 t0 ha ht (by rw [hi]; exact vp_in_nI hn hN) (by rw [hi, nI_clamp (Nat.lt_trans hn hN)]; exact hv) hd kk
end JL
end
section
-- contracts in words of cells; calls, returns, exceptions
/-- the object x is an exception of the class of that name -/
def jThrown (s : State) (cn : String) (x : Addr) (H : Heap) : Prop := ∃ cell : Cell, H[x]? = some cell ∧ cell.vm.isStatics = false ∧ s.vm.findClass cn = some cell.cls
def jO (post : Option String → Option Value → va_W → Prop) (oc : Outcome) (w : va_W) (t : State) : Prop := match oc with
  | .returned v => post none v w
  | .threw x => ∃ cn, post (some cn) none w ∧ jThrown t cn x t.heap
def jQ (D : va_G) (cl : List vw_C) (post : Option String → Option Value → va_W → Prop) (A : Nat → Prop) : Array Value → State → Outcome → State → Prop := fun _ st oc t => (∃ w, jO post oc w t ∧ va_P D cl w t.heap ∧ va_D A w) ∧ va_F A st t
def jPc (D : va_G) (cl : List vw_C) (tys : List (ClassId × FieldType)) (Ts : List Cond) (av : List Value) (ws : va_W) (sz : Nat) : Array Value → State → Prop :=
  va_Pc av (fun U => U.heap.size = sz ∧ jW Ts U ∧ jZ (va_A ws sz) U U.heap ∧ va_P D cl ws U.heap ∧ va_K D cl tys U ∧ va_D (fun _ => True) ws)
/-- the contract of a method: from arguments av and cells ws it returns or throws, 'post' says what, and which cells it leaves; it makes at most mc cells of ms slots -/
def jMet (l : Launch) (y : MethodName) (cw0 : Cond) (rm : Room) (D : va_G) (cl : List vw_C) (tys : List (ClassId × FieldType)) (Ts : List Cond) (av : List Value) (ws : va_W) (mc ms : Nat) (post : Option String → Option Value → va_W → Prop) : Prop :=
  ∀ sz : Nat, MetX l y [cw0] rm (jPc D cl tys Ts av ws sz) (jQ D cl post (va_A ws sz)) mc ms (va_A ws sz)
theorem jZ.go {A B : Nat → Prop} {u U : State} {H H1 : Heap} (h : jZ A u H) (hvm : u.vm.Alike U.vm) (hq : ∀ a : Nat, a < H.size → ¬ A a → H1[a]? = H[a]?) (hAB : ∀ q, B q → A q) : jZ B U H1 :=
  ⟨h.1.go hvm hq hAB, h.2.go hvm hq hAB⟩
theorem jW.go {Ts : List Cond} {u U : State} (h : jW Ts u) (hW : u.WarmedH U.vm) : jW Ts U := fun w hw a' U' h' => h w hw a' U' (State.WarmedH.trans hW h')
theorem jThrown.go {u U : State} {cn : String} {x : Addr} {H : Heap} (h : jThrown u cn x H) (hvm : u.vm.Alike U.vm) : jThrown U cn x H := by
  obtain ⟨cell, h1, h2, h3⟩ := h
  exact ⟨cell, h1, h2, by rw [hvm.findClass]; exact h3⟩
section JX
variable {p : Program} {l : Launch} {e : Env} {R : Room} {s : State} {m : MethodId} {args : Array Value} {below : List Frame} {meth : Method} {c : Code} {Q : State → Prop} {cells slots : Nat}
variable {cc : ByteArray} {nL : Nat} {own : String} {Ts : List Cond} {D : va_G} {cl : List vw_C} {tys : List (ClassId × FieldType)} {A : Nat → Prop}
variable {pc : Nat} {lv : List (Nat × Value)} {st : List Value} {ws : va_W} {post : Option String → Option Value → va_W → Prop}
/-- the walk with an exception of the class cn under way -/
def jT (p : Program) (l : Launch) (e : Env) (R : Room) (s : State) (m : MethodId) (args : Array Value) (below : List Frame) (meth : Method) (c : Code) (nL : Nat) (D : va_G) (cl : List vw_C) (A : Nat → Prop) (Q : State → Prop) (cells slots : Nat) (cn : String) (ws : va_W) (lv : List (Nat × Value)) (pc : Nat) : Prop :=
  ∀ (H : Heap) (locs : List Loc) (ls : Array Slot) (x : Addr) (st : List Value), va_P D cl ws H → va_D A ws → va_S A s.heap H locs → lv_has ls nL lv → jThrown s cn x H → WT p l e R s m args below meth c H locs cells slots Q x (F0 m pc ls st)
/-- a contract out of the walk of the body -/
theorem jMet.of {y : MethodName} {ret : Option FieldType} {rm : Room} {av : List Value} {mc ms : Nat} (hy : plainName y.cls = true) (hlen : (lg_sl av).length ≤ nL)
    (body : ∀ (p : Program) (e : Env) (s : State) (m : MethodId) (below : List Frame) (meth : Method) (c : Code) (A : Nat → Prop), jC p s m av.toArray meth c cc nL y.cls Ts D cl tys A → c.exceptionTable.isEmpty = true → meth.sig.returnType = ret → meth.name = y.name → e.platform.stackTraces = l.stackTraces →
      jJ p l e rm s m av.toArray below meth c nL D cl A (hxQ below (jQ D cl post A) av.toArray s mc ms A) 0 0 ws (lv_args 0 av) [] 0) : jMet l y (.code y cc nL ret) rm D cl tys Ts av ws mc ms post := by
  intro sz
  refine MetX.ofW (cc := cc) (maxL := nL) (ret := ret) hy rfl ?_
  intro p e s m args below meth c s₁ B hml hv
  obtain ⟨rfl, hsz, hw, hz, hP, hK, hD0⟩ := hv
  subst hsz
  have hcode : (Cond.code y cc nL ret).before av.toArray s = true := atoms_spec (ws := [Cond.code y cc nL ret]) B.pre _ List.mem_cons_self
  have hD := hD0.self (sz := s.heap.size)
  have hA : ∀ q : Nat, s.heap.size ≤ q → va_A ws s.heap.size q := fun q h => Or.inr h
  have hC : jC p s m av.toArray meth c cc nL y.cls Ts D cl tys (va_A ws s.heap.size) :=
    ⟨B.exec, B.bytes, hml, findClass_of_methodNamed B.named, fun w h => hw w h _ s (State.WarmedH.refl s), hK, hA, hw, hz, B.notSynchronized⟩
  have hl := lv_entry av (n := nL) hlen
  have k := body p e s m below meth c _ hC (B.noHandlers hcode) B.returns (name_of_methodNamed B.named B.method).1 (by rw [(Stand.of_body B).admits.platform])
  have k2 := k s.heap [] _ hP hD va_S.rf hl
  rw [lg_entry_eq]
  exact k2
theorem j_iret (hC : jC p s m args meth c cc nL own Ts D cl tys A) (hr : meth.sig.returnType = some .int) {v : Int32} (hp : post none (some (.int v)) ws) (hd : decode cc pc = .ok (.ireturn, 1)) :
    jJ p l e R s m args below meth c nL D cl A (hxQ below (jQ D cl post A) args s cells slots A) cells slots ws lv [.int v] pc :=
  fun H locs ls hP hD hS hl => W.mono (fun t => hxQ.of) (W.iret hC.1 hC.2.1 hr (fun t ht hW => ⟨⟨ws, hp, by rw [ht]; exact hP, hD⟩, hS.F ht⟩) hS.2.2 hd hC.2.2.2.2.2.2.2.2.2)
theorem j_zret (hC : jC p s m args meth c cc nL own Ts D cl tys A) {ty : FieldType} (hr : meth.sig.returnType = some ty) {v : Int32} (hn : narrow ty (.int v) = .int v) (hp : post none (some (.int v)) ws) (hd : decode cc pc = .ok (.ireturn, 1)) :
    jJ p l e R s m args below meth c nL D cl A (hxQ below (jQ D cl post A) args s cells slots A) cells slots ws lv [.int v] pc :=
  fun H locs ls hP hD hS hl => W.mono (fun t => hxQ.of) (W.zret hC.1 hC.2.1 hr hn (fun t ht hW => ⟨⟨ws, hp, by rw [ht]; exact hP, hD⟩, hS.F ht⟩) hS.2.2 hd hC.2.2.2.2.2.2.2.2.2)
theorem j_vret (hC : jC p s m args meth c cc nL own Ts D cl tys A) (hr : meth.sig.returnType = none) (hp : post none none ws) (hd : decode cc pc = .ok (.return_, 1)) :
    jJ p l e R s m args below meth c nL D cl A (hxQ below (jQ D cl post A) args s cells slots A) cells slots ws lv [] pc :=
  fun H locs ls hP hD hS hl => W.mono (fun t => hxQ.of) (W.vret hC.1 hC.2.1 hr (fun t ht hW => ⟨⟨ws, hp, by rw [ht]; exact hP, hD⟩, hS.F ht⟩) hS.2.2 hd hC.2.2.2.2.2.2.2.2.2)
/-- an exception goes out of a method without handlers -/
theorem j_out (hC : jC p s m args meth c cc nL own Ts D cl tys A) (hex : c.exceptionTable.isEmpty = true) {cn : String} (hp : post (some cn) none ws) :
    jT p l e R s m args below meth c nL D cl A (hxQ below (jQ D cl post A) args s cells slots A) cells slots cn ws lv pc :=
  fun H locs ls x st hP hD hS hl hx => hx_out hC.2.2.2.2.2.2.2.2.2 (covers_of_empty hex _) (fun t ht hW => ⟨⟨ws, ⟨cn, hp, by rw [ht]; exact hx.go hW.alike⟩, by rw [ht]; exact hP, hD⟩, hS.F ht⟩) hS.2.2
theorem va_A_sub {A0 : Nat → Prop} {w : va_W} {H0 H : Heap} {locs : List Loc} (hD : va_D A0 w) (hS : va_S A0 H0 H locs) (hA : ∀ q, H0.size ≤ q → A0 q) : ∀ q, va_A w H.size q → A0 q := by
  intro q h
  rcases h with ⟨k, e, h⟩ | h
  · exact hD.2 k _ h
  · exact hA q (Nat.le_trans hS.1 h)
/-- a call on the whole of the cells -/
theorem j_call {y : MethodName} {cw0 : Cond} {rm : Room} {mc ms maxL : Nat} {av st0 rest : List Value} {ig : Instr} (hC : jC p s m args meth c cc nL own Ts D cl tys A)
    (hM : jMet l y cw0 rm D cl tys Ts av ws mc ms post) (hrc : rm.cells = mc) (hrs : rm.slots = ms) (hcw : cw0 ∈ Ts) (hini : Cond.initialized y.cls ∈ Ts)
    (hlY : ∀ (U : State) (mk : MethodId) (a : Array Value), cw0.before a U = true → U.methodNamed? y = some mk → ∃ (methY : Method) (cY : Code), U.vm.method? mk = some methY ∧ methY.code = some cY ∧ cY.maxLocals = maxL)
    (inv : ∀ (H : Heap) (locs : List Loc) (ls : Array Slot), va_P D cl ws H → ls.size = c.maxLocals → ∀ T : State, T.heap = H → Stand p l e R s m args below meth c T locs cells slots → ∃ (vm₁ : Vm) (mk : MethodId), Stand p l e R s m args below meth c (T.setVm vm₁) locs cells slots ∧ (T.setVm vm₁).methodNamed? y = some mk ∧
      ∀ target, Steps p.tables e below (doInvoke e ((T.setVm vm₁).setTop (F0 m pc ls rest)) [] mk av.toArray).1 target → Steps p.tables e below (T.setTop (F0 m pc ls st0)) target)
    (hd : decode cc pc = .ok (ig, 3)) (hW : (rest.map fun v => v.category).sum ≤ 8)
    (hframes : rm.frames + 1 ≤ R.frames) (hlocals : 8 + (maxL + 11) + rm.locals ≤ R.locals) (hcells : cells + mc ≤ R.cells) (hslots : slots + ms ≤ R.slots)
    (kr : ∀ (v : Option Value) (w : va_W), post none v w → jJ p l e R s m args below meth c nL D cl A Q (cells + mc) (slots + ms) w lv (v.toList ++ rest) (pc + 3))
    (kt : ∀ (cn : String) (w : va_W), post (some cn) none w → jT p l e R s m args below meth c nL D cl A Q (cells + mc) (slots + ms) cn w lv pc) :
    jJ p l e R s m args below meth c nL D cl A Q cells slots ws lv st0 pc := by
  intro H locs ls hP hD hS hl
  obtain ⟨hx, hb, hml, hown, hts, hK, hA, hw, hz, hlocks⟩ := hC
  have hF := va_A_sub hD hS hA
  have hsz : ls.size = c.maxLocals := hl.1.trans hml.symm
  have back : ∀ (u t : State) (L : List Loc), u.heap = H → va_F (va_A ws H.size) u t → (∀ q ∈ L, va_A ws H.size q.base) → va_S A s.heap t.heap (locs ++ L) := by
    intro u t L hu hFt hL
    refine ⟨Nat.le_trans hS.1 (by have := hFt.1; rw [hu] at this; exact this), fun q h1 h2 => ?_, fun q hq => ?_⟩
    · have h3 := hFt.2 q (by rw [hu]; exact Nat.lt_of_lt_of_le h1 hS.1) (fun z => h2 (hF q z))
      rw [hu] at h3
      rw [h3]
      exact hS.2.1 q h1 h2
    · rcases List.mem_append.mp hq with h | h
      · exact hS.2.2 q h
      · exact hF _ (hL q h)
  refine hx_W (hM H.size) hrc hrs (inv H locs ls hP hsz) hsz (by rw [hb]; exact hd) hW (fun U mk hU hn => hlY U mk #[] (hw _ hcw _ _ hU) hn) (fun U hU => hw _ hini _ _ hU) (fun w0 h0 U hU => by rw [List.mem_singleton.mp h0]; exact hw _ hcw _ _ hU) hframes hlocals hcells hslots (fun U hU hWU => ?_) (fun v u t L hu hWu hq hL hWt => ?_) (fun x u t L hu hWu hq hL hWt => ?_)
  · exact ⟨rfl, by rw [hU], hw.go hWU, hz.go hWU.alike (fun a h1 h2 => by rw [hU]; exact hS.2.1 a h1 h2) hF, by rw [hU]; exact hP, va_K.moved hWU.alike hK, hD.weaken (fun _ _ _ _ => trivial)⟩
  · obtain ⟨⟨w, hp, hP1, hD1⟩, hFt⟩ := hq
    exact kr v w hp t.heap (locs ++ L) ls hP1 (hD1.weaken (fun _ _ _ h => hF _ h)) (back u t L hu hFt hL) hl
  · obtain ⟨⟨w, ⟨cn, hp, hx9⟩, hP1, hD1⟩, hFt⟩ := hq
    exact kt cn w hp t.heap (locs ++ L) ls x rest hP1 (hD1.weaken (fun _ _ _ h => hF _ h)) (back u t L hu hFt hL) hl (hx9.go hWt.alike.symm)
end JX
end
section
section JY
variable {p : Program} {l : Launch} {e : Env} {R : Room} {s : State} {m : MethodId} {args : Array Value} {below : List Frame} {meth : Method} {c : Code} {Q : State → Prop} {cells slots : Nat}
variable {cc : ByteArray} {nL : Nat} {own : String} {Ts : List Cond} {D : va_G} {cl : List vw_C} {tys : List (ClassId × FieldType)} {A : Nat → Prop}
variable {pc : Nat} {lv : List (Nat × Value)} {st : List Value} {ws : va_W} {post : Option String → Option Value → va_W → Prop}
variable {y : MethodName} {bytes : ByteArray} {maxL index mc ms : Nat} {ret : Option FieldType} {rm : Room} {As rest st0 : List Value}
theorem hx_lY : ∀ (U : State) (mk : MethodId) (a : Array Value), (Cond.code y bytes maxL ret).before a U = true → U.methodNamed? y = some mk → ∃ (methY : Method) (cY : Code), U.vm.method? mk = some methY ∧ methY.code = some cY ∧ cY.maxLocals = maxL := by
  intro U mk a h hn
  obtain ⟨methY, cY, h1, h2, -, h3, -, -, -, -⟩ := Cond.code_spec hn h
  exact ⟨methY, cY, h1, h2, h3⟩
theorem hx_sig {U : State} {a : Array Value} (h : (Cond.code y bytes maxL ret).before a U = true) : ∀ (mk : MethodId) (methM : Method), U.methodNamed? y = some mk → U.vm.method? mk = some methM → parseMethodDescriptor y.desc = some methM.sig := by
  intro mk methM hn hm
  obtain ⟨methY, cY, h1, -, -, -, -, -, -, h4⟩ := Cond.code_spec hn h
  cases hm.symm.trans h1
  exact h4
theorem hx_len {n : Nat} (h : (parseMethodDescriptor y.desc).map (fun d => d.parameters.length) = some n) {L : List Value} (hL : L.length = n) : ∀ sig, parseMethodDescriptor y.desc = some sig → L.length = sig.parameters.length := by
  intro sig hs
  rw [hs] at h
  exact hL.trans (Option.some.inj h).symm
/-- the words of a call: of a method of the receiver's own class; of a nest mate's private one; of a static one -/
def jwV (own : String) (index : Nat) (C : String) (y : MethodName) (cw0 : Cond) : List Cond := [cw0, .initialized y.cls, .methodLink own index y, .instanceMethod y, .selects C y y]
def jwN (own : String) (index : Nat) (C : String) (y : MethodName) (cw0 : Cond) (host : String) : List Cond := [cw0, .initialized y.cls, .methodLinkNest own index y host, .instanceMethod y, .selects C y y]
def jwS (own : String) (index : Nat) (y : MethodName) (cw0 : Cond) : List Cond := [cw0, .initialized y.cls, .methodLink own index y, .static y]
def jwSN (own : String) (index : Nat) (y : MethodName) (cw0 : Cond) (host : String) : List Cond := [cw0, .initialized y.cls, .methodLinkNest own index y host, .static y]
theorem j_callV (hC : jC p s m args meth c cc nL own Ts D cl tys A) {C : String} {T : u_T} {N ci b q0 : Nat} {fs : List Value}
    (hM : jMet l y (.code y bytes maxL ret) rm D cl tys Ts (.ref b :: As) ws mc ms post) (hrc : rm.cells = mc) (hrs : rm.slots = ms) (hw : ∀ w ∈ jwV own index C y (.code y bytes maxL ret), w ∈ Ts)
    (hy : y.cls ≠ "java/lang/invoke/MethodHandle" ∧ y.cls ≠ "java/lang/invoke/VarHandle" ∧ (parseMethodDescriptor y.desc).map (fun d => d.parameters.length) = some As.length)
    (he : ws[q0]? = some (b, .inr (ci, fs))) (hcl : cl[ci]? = some (C, T, N)) (hst : st0 = As.reverse ++ .ref b :: rest) (hd : decode cc pc = .ok (.invokevirtual index, 3)) (hW : (rest.map fun v => v.category).sum ≤ 8)
    (hfl : rm.frames + 1 ≤ R.frames ∧ 8 + (maxL + 11) + rm.locals ≤ R.locals) (hcs : cells + mc ≤ R.cells ∧ slots + ms ≤ R.slots)
    (kr : ∀ (v : Option Value) (w : va_W), post none v w → jJ p l e R s m args below meth c nL D cl A Q (cells + mc) (slots + ms) w lv (v.toList ++ rest) (pc + 3))
    (kt : ∀ (cn : String) (w : va_W), post (some cn) none w → jT p l e R s m args below meth c nL D cl A Q (cells + mc) (slots + ms) cn w lv pc) :
    jJ p l e R s m args below meth c nL D cl A Q cells slots ws lv st0 pc := by
  have hts := hC.2.2.2.2.1
  have h0 := hw _ (List.mem_cons_self)
  have h1 := hw _ (List.mem_of_getElem? (i := 1) rfl)
  have h2 := hw _ (List.mem_of_getElem? (i := 2) rfl)
  have h3 := hw _ (List.mem_of_getElem? (i := 3) rfl)
  have h4 := hw _ (List.mem_of_getElem? (i := 4) rfl)
  refine j_call hC hM hrc hrs h0 h1 hx_lY (fun H locs ls hP hsz T0 hT X => ?_) hd hW hfl.1 hfl.2 hcs.1 hcs.2 kr kt
  obtain ⟨cellB, g1, g2, g3⟩ := va_recv hC.2.2.2.2.2.1 hP hcl he
  exact hx_invV X hC.1 hC.2.2.2.1 (hts _ h2) (hts _ h3) (hts _ h4) (hx_sig (hts _ h0)) ⟨hy.1, hy.2.1⟩ (by rw [hT]; exact g1) g2 g3 (g := F0 m pc ls st0) rfl (argsL := As) (rest := rest) (hx_len hy.2.2 rfl) hst (by rw [hC.2.1]; exact hd)
theorem j_callN (hC : jC p s m args meth c cc nL own Ts D cl tys A) {C host : String} {T : u_T} {N ci b q0 : Nat} {fs : List Value}
    (hM : jMet l y (.code y bytes maxL ret) rm D cl tys Ts (.ref b :: As) ws mc ms post) (hrc : rm.cells = mc) (hrs : rm.slots = ms) (hw : ∀ w ∈ jwN own index C y (.code y bytes maxL ret) host, w ∈ Ts)
    (hy : y.cls ≠ "java/lang/invoke/MethodHandle" ∧ y.cls ≠ "java/lang/invoke/VarHandle" ∧ (parseMethodDescriptor y.desc).map (fun d => d.parameters.length) = some As.length)
    (he : ws[q0]? = some (b, .inr (ci, fs))) (hcl : cl[ci]? = some (C, T, N)) (hst : st0 = As.reverse ++ .ref b :: rest) (hd : decode cc pc = .ok (.invokevirtual index, 3)) (hW : (rest.map fun v => v.category).sum ≤ 8)
    (hfl : rm.frames + 1 ≤ R.frames ∧ 8 + (maxL + 11) + rm.locals ≤ R.locals) (hcs : cells + mc ≤ R.cells ∧ slots + ms ≤ R.slots)
    (kr : ∀ (v : Option Value) (w : va_W), post none v w → jJ p l e R s m args below meth c nL D cl A Q (cells + mc) (slots + ms) w lv (v.toList ++ rest) (pc + 3))
    (kt : ∀ (cn : String) (w : va_W), post (some cn) none w → jT p l e R s m args below meth c nL D cl A Q (cells + mc) (slots + ms) cn w lv pc) :
    jJ p l e R s m args below meth c nL D cl A Q cells slots ws lv st0 pc := by
  have hts := hC.2.2.2.2.1
  have h0 := hw _ (List.mem_cons_self)
  have h1 := hw _ (List.mem_of_getElem? (i := 1) rfl)
  have h2 := hw _ (List.mem_of_getElem? (i := 2) rfl)
  have h3 := hw _ (List.mem_of_getElem? (i := 3) rfl)
  have h4 := hw _ (List.mem_of_getElem? (i := 4) rfl)
  refine j_call hC hM hrc hrs h0 h1 hx_lY (fun H locs ls hP hsz T0 hT X => ?_) hd hW hfl.1 hfl.2 hcs.1 hcs.2 kr kt
  obtain ⟨cellB, g1, g2, g3⟩ := va_recv hC.2.2.2.2.2.1 hP hcl he
  exact hx_invVN X hC.1 hC.2.2.2.1 (hts _ h2) (hts _ h3) (hts _ h4) (hx_sig (hts _ h0)) ⟨hy.1, hy.2.1⟩ (by rw [hT]; exact g1) g2 g3 (g := F0 m pc ls st0) rfl (argsL := As) (rest := rest) (hx_len hy.2.2 rfl) hst (by rw [hC.2.1]; exact hd)
theorem j_callS (hC : jC p s m args meth c cc nL own Ts D cl tys A)
    (hM : jMet l y (.code y bytes maxL ret) rm D cl tys Ts As ws mc ms post) (hrc : rm.cells = mc) (hrs : rm.slots = ms) (hw : ∀ w ∈ jwS own index y (.code y bytes maxL ret), w ∈ Ts)
    (hy : y.cls ≠ "java/lang/invoke/MethodHandle" ∧ y.cls ≠ "java/lang/invoke/VarHandle" ∧ (parseMethodDescriptor y.desc).map (fun d => d.parameters.length) = some As.length)
    (hst : st0 = As.reverse ++ rest) (hd : decode cc pc = .ok (.invokestatic index, 3)) (hW : (rest.map fun v => v.category).sum ≤ 8)
    (hfl : rm.frames + 1 ≤ R.frames ∧ 8 + (maxL + 11) + rm.locals ≤ R.locals) (hcs : cells + mc ≤ R.cells ∧ slots + ms ≤ R.slots)
    (kr : ∀ (v : Option Value) (w : va_W), post none v w → jJ p l e R s m args below meth c nL D cl A Q (cells + mc) (slots + ms) w lv (v.toList ++ rest) (pc + 3))
    (kt : ∀ (cn : String) (w : va_W), post (some cn) none w → jT p l e R s m args below meth c nL D cl A Q (cells + mc) (slots + ms) cn w lv pc) :
    jJ p l e R s m args below meth c nL D cl A Q cells slots ws lv st0 pc := by
  have hts := hC.2.2.2.2.1
  have h0 := hw _ (List.mem_cons_self)
  have h1 := hw _ (List.mem_of_getElem? (i := 1) rfl)
  have h2 := hw _ (List.mem_of_getElem? (i := 2) rfl)
  have h3 := hw _ (List.mem_of_getElem? (i := 3) rfl)
  refine j_call hC hM hrc hrs h0 h1 hx_lY (fun H locs ls hP hsz T0 hT X => ?_) hd hW hfl.1 hfl.2 hcs.1 hcs.2 kr kt
  obtain ⟨mk, hnamed⟩ := Cond.code_named (hts _ h0)
  obtain ⟨methM, cM, hmethM, -, -, -, -, -, -, hsigM⟩ := Cond.code_spec hnamed (hts _ h0)
  exact hx_invS X hC.1 hC.2.2.2.1 (hts _ h2) (hts _ h3) (hts _ h1) hnamed hmethM hsigM ⟨hy.1, hy.2.1⟩ (g := F0 m pc ls st0) rfl (argsL := As) (rest := rest) (hx_len hy.2.2 rfl) hst (by rw [hC.2.1]; exact hd)
theorem j_callSN (hC : jC p s m args meth c cc nL own Ts D cl tys A) {host : String}
    (hM : jMet l y (.code y bytes maxL ret) rm D cl tys Ts As ws mc ms post) (hrc : rm.cells = mc) (hrs : rm.slots = ms) (hw : ∀ w ∈ jwSN own index y (.code y bytes maxL ret) host, w ∈ Ts)
    (hy : y.cls ≠ "java/lang/invoke/MethodHandle" ∧ y.cls ≠ "java/lang/invoke/VarHandle" ∧ (parseMethodDescriptor y.desc).map (fun d => d.parameters.length) = some As.length)
    (hst : st0 = As.reverse ++ rest) (hd : decode cc pc = .ok (.invokestatic index, 3)) (hW : (rest.map fun v => v.category).sum ≤ 8)
    (hfl : rm.frames + 1 ≤ R.frames ∧ 8 + (maxL + 11) + rm.locals ≤ R.locals) (hcs : cells + mc ≤ R.cells ∧ slots + ms ≤ R.slots)
    (kr : ∀ (v : Option Value) (w : va_W), post none v w → jJ p l e R s m args below meth c nL D cl A Q (cells + mc) (slots + ms) w lv (v.toList ++ rest) (pc + 3))
    (kt : ∀ (cn : String) (w : va_W), post (some cn) none w → jT p l e R s m args below meth c nL D cl A Q (cells + mc) (slots + ms) cn w lv pc) :
    jJ p l e R s m args below meth c nL D cl A Q cells slots ws lv st0 pc := by
  have hts := hC.2.2.2.2.1
  have h0 := hw _ (List.mem_cons_self)
  have h1 := hw _ (List.mem_of_getElem? (i := 1) rfl)
  have h2 := hw _ (List.mem_of_getElem? (i := 2) rfl)
  have h3 := hw _ (List.mem_of_getElem? (i := 3) rfl)
  refine j_call hC hM hrc hrs h0 h1 hx_lY (fun H locs ls hP hsz T0 hT X => ?_) hd hW hfl.1 hfl.2 hcs.1 hcs.2 kr kt
  obtain ⟨mk, hnamed⟩ := Cond.code_named (hts _ h0)
  obtain ⟨methM, cM, hmethM, -, -, -, -, -, -, hsigM⟩ := Cond.code_spec hnamed (hts _ h0)
  exact hx_invSN X hC.1 hC.2.2.2.1 (hts _ h2) (hts _ h3) (hts _ h1) hnamed hmethM hsigM ⟨hy.1, hy.2.1⟩ (g := F0 m pc ls st0) rfl (argsL := As) (rest := rest) (hx_len hy.2.2 rfl) hst (by rw [hC.2.1]; exact hd)
end JY
/-- a contract's end that only returns: this value, these cells -/
def jRet (v : Option Value) (w : va_W) : Option String → Option Value → va_W → Prop := fun o v' w' => o = none ∧ v' = v ∧ w' = w
section JZ
variable {p : Program} {l : Launch} {e : Env} {R : Room} {s : State} {m : MethodId} {args : Array Value} {below : List Frame} {meth : Method} {c : Code} {Q : State → Prop} {cells slots : Nat}
variable {cc : ByteArray} {nL : Nat} {own : String} {Ts : List Cond} {D : va_G} {cl : List vw_C} {tys : List (ClassId × FieldType)} {A : Nat → Prop}
variable {pc : Nat} {lv : List (Nat × Value)} {st : List Value} {ws w1 : va_W}
variable {y : MethodName} {bytes : ByteArray} {maxL index : Nat} {ret : Option FieldType} {rm : Room} {As rest st0 : List Value} {r : Option Value}
theorem j_callVr (hC : jC p s m args meth c cc nL own Ts D cl tys A) {C : String} {T : u_T} {N ci b q0 : Nat} {fs : List Value}
    (hM : jMet l y (.code y bytes maxL ret) rm D cl tys Ts (.ref b :: As) ws 0 0 (jRet r w1)) (hrc : rm.cells = 0) (hrs : rm.slots = 0) (hw : ∀ w ∈ jwV own index C y (.code y bytes maxL ret), w ∈ Ts)
    (hy : y.cls ≠ "java/lang/invoke/MethodHandle" ∧ y.cls ≠ "java/lang/invoke/VarHandle" ∧ (parseMethodDescriptor y.desc).map (fun d => d.parameters.length) = some As.length)
    (he : ws[q0]? = some (b, .inr (ci, fs))) (hcl : cl[ci]? = some (C, T, N)) (hst : st0 = As.reverse ++ .ref b :: rest) (hd : decode cc pc = .ok (.invokevirtual index, 3)) (hW : (rest.map fun v => v.category).sum ≤ 8)
    (hfl : rm.frames + 1 ≤ R.frames ∧ 8 + (maxL + 11) + rm.locals ≤ R.locals) (hcs : cells ≤ R.cells ∧ slots ≤ R.slots) {st1 : List Value} (hr : r.toList ++ rest = st1)
    (k : jJ p l e R s m args below meth c nL D cl A Q cells slots w1 lv st1 (pc + 3)) : jJ p l e R s m args below meth c nL D cl A Q cells slots ws lv st0 pc := by
  subst hr
  refine j_callV hC hM hrc hrs hw hy he hcl hst hd hW hfl hcs (fun v w h => ?_) (fun cn w h => by cases h.1)
  obtain ⟨-, rfl, rfl⟩ := h
  exact k
theorem j_callNr (hC : jC p s m args meth c cc nL own Ts D cl tys A) {C host : String} {T : u_T} {N ci b q0 : Nat} {fs : List Value}
    (hM : jMet l y (.code y bytes maxL ret) rm D cl tys Ts (.ref b :: As) ws 0 0 (jRet r w1)) (hrc : rm.cells = 0) (hrs : rm.slots = 0) (hw : ∀ w ∈ jwN own index C y (.code y bytes maxL ret) host, w ∈ Ts)
    (hy : y.cls ≠ "java/lang/invoke/MethodHandle" ∧ y.cls ≠ "java/lang/invoke/VarHandle" ∧ (parseMethodDescriptor y.desc).map (fun d => d.parameters.length) = some As.length)
    (he : ws[q0]? = some (b, .inr (ci, fs))) (hcl : cl[ci]? = some (C, T, N)) (hst : st0 = As.reverse ++ .ref b :: rest) (hd : decode cc pc = .ok (.invokevirtual index, 3)) (hW : (rest.map fun v => v.category).sum ≤ 8)
    (hfl : rm.frames + 1 ≤ R.frames ∧ 8 + (maxL + 11) + rm.locals ≤ R.locals) (hcs : cells ≤ R.cells ∧ slots ≤ R.slots) {st1 : List Value} (hr : r.toList ++ rest = st1)
    (k : jJ p l e R s m args below meth c nL D cl A Q cells slots w1 lv st1 (pc + 3)) : jJ p l e R s m args below meth c nL D cl A Q cells slots ws lv st0 pc := by
  subst hr
  refine j_callN hC hM hrc hrs hw hy he hcl hst hd hW hfl hcs (fun v w h => ?_) (fun cn w h => by cases h.1)
  obtain ⟨-, rfl, rfl⟩ := h
  exact k
theorem j_callSr (hC : jC p s m args meth c cc nL own Ts D cl tys A)
    (hM : jMet l y (.code y bytes maxL ret) rm D cl tys Ts As ws 0 0 (jRet r w1)) (hrc : rm.cells = 0) (hrs : rm.slots = 0) (hw : ∀ w ∈ jwS own index y (.code y bytes maxL ret), w ∈ Ts)
    (hy : y.cls ≠ "java/lang/invoke/MethodHandle" ∧ y.cls ≠ "java/lang/invoke/VarHandle" ∧ (parseMethodDescriptor y.desc).map (fun d => d.parameters.length) = some As.length)
    (hst : st0 = As.reverse ++ rest) (hd : decode cc pc = .ok (.invokestatic index, 3)) (hW : (rest.map fun v => v.category).sum ≤ 8)
    (hfl : rm.frames + 1 ≤ R.frames ∧ 8 + (maxL + 11) + rm.locals ≤ R.locals) (hcs : cells ≤ R.cells ∧ slots ≤ R.slots) {st1 : List Value} (hr : r.toList ++ rest = st1)
    (k : jJ p l e R s m args below meth c nL D cl A Q cells slots w1 lv st1 (pc + 3)) : jJ p l e R s m args below meth c nL D cl A Q cells slots ws lv st0 pc := by
  subst hr
  refine j_callS hC hM hrc hrs hw hy hst hd hW hfl hcs (fun v w h => ?_) (fun cn w h => by cases h.1)
  obtain ⟨-, rfl, rfl⟩ := h
  exact k
theorem j_callSNr (hC : jC p s m args meth c cc nL own Ts D cl tys A) {host : String}
    (hM : jMet l y (.code y bytes maxL ret) rm D cl tys Ts As ws 0 0 (jRet r w1)) (hrc : rm.cells = 0) (hrs : rm.slots = 0) (hw : ∀ w ∈ jwSN own index y (.code y bytes maxL ret) host, w ∈ Ts)
    (hy : y.cls ≠ "java/lang/invoke/MethodHandle" ∧ y.cls ≠ "java/lang/invoke/VarHandle" ∧ (parseMethodDescriptor y.desc).map (fun d => d.parameters.length) = some As.length)
    (hst : st0 = As.reverse ++ rest) (hd : decode cc pc = .ok (.invokestatic index, 3)) (hW : (rest.map fun v => v.category).sum ≤ 8)
    (hfl : rm.frames + 1 ≤ R.frames ∧ 8 + (maxL + 11) + rm.locals ≤ R.locals) (hcs : cells ≤ R.cells ∧ slots ≤ R.slots) {st1 : List Value} (hr : r.toList ++ rest = st1)
    (k : jJ p l e R s m args below meth c nL D cl A Q cells slots w1 lv st1 (pc + 3)) : jJ p l e R s m args below meth c nL D cl A Q cells slots ws lv st0 pc := by
  subst hr
  refine j_callSN hC hM hrc hrs hw hy hst hd hW hfl hcs (fun v w h => ?_) (fun cn w h => by cases h.1)
  obtain ⟨-, rfl, rfl⟩ := h
  exact k
end JZ
end
section
theorem wf_S_9 : Cond.fieldLink "StrataHouse$Sight" 9 "StrataHouse$Sight" "secondsByFirst" "[I" ∈ jTs := jin (jt1 (List.mem_of_getElem? (i := 39) rfl)) rfl
theorem wf_M_76 : Cond.fieldLinkNest "StrataHouse$Match" 76 "StrataHouse$Sight" "secondsByFirst" "[I" "StrataHouse" ∈ jTs := jin (jt1 (List.mem_of_getElem? (i := 40) rfl)) rfl
theorem wf_H_251 : Cond.fieldLinkNest "StrataHouse" 251 "StrataHouse$Sight" "secondsByFirst" "[I" "StrataHouse" ∈ jTs := jin (jt1 (List.mem_of_getElem? (i := 41) rfl)) rfl
theorem wf_S_15 : Cond.fieldLink "StrataHouse$Sight" 15 "StrataHouse$Sight" "firstsBySecond" "[I" ∈ jTs := jin (jt1 (List.mem_of_getElem? (i := 42) rfl)) rfl
theorem wf_M_73 : Cond.fieldLinkNest "StrataHouse$Match" 73 "StrataHouse$Sight" "firstsBySecond" "[I" "StrataHouse" ∈ jTs := jin (jt1 (List.mem_of_getElem? (i := 43) rfl)) rfl
theorem wf_S_18 : Cond.fieldLink "StrataHouse$Sight" 18 "StrataHouse$Sight" "firsts" "[I" ∈ jTs := jin (jt1 (List.mem_of_getElem? (i := 44) rfl)) rfl
theorem wf_M_79 : Cond.fieldLinkNest "StrataHouse$Match" 79 "StrataHouse$Sight" "firsts" "[I" "StrataHouse" ∈ jTs := jin (jt1 (List.mem_of_getElem? (i := 45) rfl)) rfl
theorem wf_S_21 : Cond.fieldLink "StrataHouse$Sight" 21 "StrataHouse$Sight" "seconds" "[I" ∈ jTs := jin (jt1 (List.mem_of_getElem? (i := 46) rfl)) rfl
theorem wf_M_82 : Cond.fieldLinkNest "StrataHouse$Match" 82 "StrataHouse$Sight" "seconds" "[I" "StrataHouse" ∈ jTs := jin (jt1 (List.mem_of_getElem? (i := 47) rfl)) rfl
theorem wf_S_24 : Cond.fieldLink "StrataHouse$Sight" 24 "StrataHouse$Sight" "doubles" "[I" ∈ jTs := jin (jt1 (List.mem_of_getElem? (i := 48) rfl)) rfl
theorem wf_M_70 : Cond.fieldLinkNest "StrataHouse$Match" 70 "StrataHouse$Sight" "doubles" "[I" "StrataHouse" ∈ jTs := jin (jt1 (List.mem_of_getElem? (i := 49) rfl)) rfl
theorem wf_M_12 : Cond.fieldLink "StrataHouse$Match" 12 "StrataHouse$Match" "sight" "LStrataHouse$Sight;" ∈ jTs := jin (jt1 (List.mem_of_getElem? (i := 62) rfl)) rfl
theorem wf_H_247 : Cond.fieldLinkNest "StrataHouse" 247 "StrataHouse$Match" "sight" "LStrataHouse$Sight;" "StrataHouse" ∈ jTs := jin (jt1 (List.mem_of_getElem? (i := 63) rfl)) rfl
theorem wf_M_18 : Cond.fieldLink "StrataHouse$Match" 18 "StrataHouse$Match" "values" "[I" ∈ jTs := jin (jt1 (List.mem_of_getElem? (i := 64) rfl)) rfl
theorem wf_H_151 : Cond.fieldLinkNest "StrataHouse" 151 "StrataHouse$Match" "values" "[I" "StrataHouse" ∈ jTs := jin (jt1 (List.mem_of_getElem? (i := 65) rfl)) rfl
theorem wf_A_9 : Cond.fieldLink "StrataHouse$Atom" 9 "StrataHouse$Atom" "relation" "I" ∈ jTs := jin (jt1 (List.mem_of_getElem? (i := 82) rfl)) rfl
theorem wf_M_31 : Cond.fieldLinkNest "StrataHouse$Match" 31 "StrataHouse$Atom" "relation" "I" "StrataHouse" ∈ jTs := jin (jt1 (List.mem_of_getElem? (i := 83) rfl)) rfl
theorem wf_R_46 : Cond.fieldLinkNest "StrataHouse$Rule" 46 "StrataHouse$Atom" "relation" "I" "StrataHouse" ∈ jTs := jin (jt1 (List.mem_of_getElem? (i := 84) rfl)) rfl
theorem wf_H_205 : Cond.fieldLinkNest "StrataHouse" 205 "StrataHouse$Atom" "relation" "I" "StrataHouse" ∈ jTs := jin (jt1 (List.mem_of_getElem? (i := 85) rfl)) rfl
theorem wf_A_15 : Cond.fieldLink "StrataHouse$Atom" 15 "StrataHouse$Atom" "first" "I" ∈ jTs := jin (jt1 (List.mem_of_getElem? (i := 86) rfl)) rfl
theorem wf_M_37 : Cond.fieldLinkNest "StrataHouse$Match" 37 "StrataHouse$Atom" "first" "I" "StrataHouse" ∈ jTs := jin (jt1 (List.mem_of_getElem? (i := 87) rfl)) rfl
theorem wf_H_241 : Cond.fieldLinkNest "StrataHouse" 241 "StrataHouse$Atom" "first" "I" "StrataHouse" ∈ jTs := jin (jt1 (List.mem_of_getElem? (i := 88) rfl)) rfl
theorem wf_A_18 : Cond.fieldLink "StrataHouse$Atom" 18 "StrataHouse$Atom" "second" "I" ∈ jTs := jin (jt1 (List.mem_of_getElem? (i := 89) rfl)) rfl
theorem wf_M_44 : Cond.fieldLinkNest "StrataHouse$Match" 44 "StrataHouse$Atom" "second" "I" "StrataHouse" ∈ jTs := jin (jt1 (List.mem_of_getElem? (i := 90) rfl)) rfl
theorem wf_H_259 : Cond.fieldLinkNest "StrataHouse" 259 "StrataHouse$Atom" "second" "I" "StrataHouse" ∈ jTs := jin (jt1 (List.mem_of_getElem? (i := 91) rfl)) rfl
theorem wf_A_21 : Cond.fieldLink "StrataHouse$Atom" 21 "StrataHouse$Atom" "negated" "Z" ∈ jTs := jin (jt1 (List.mem_of_getElem? (i := 92) rfl)) rfl
theorem wf_M_62 : Cond.fieldLinkNest "StrataHouse$Match" 62 "StrataHouse$Atom" "negated" "Z" "StrataHouse" ∈ jTs := jin (jt1 (List.mem_of_getElem? (i := 93) rfl)) rfl
theorem wf_R_49 : Cond.fieldLinkNest "StrataHouse$Rule" 49 "StrataHouse$Atom" "negated" "Z" "StrataHouse" ∈ jTs := jin (jt1 (List.mem_of_getElem? (i := 94) rfl)) rfl
theorem wf_R_12 : Cond.fieldLink "StrataHouse$Rule" 12 "StrataHouse$Rule" "head" "LStrataHouse$Atom;" ∈ jTs := jin (jt1 (List.mem_of_getElem? (i := 105) rfl)) rfl
theorem wf_M_25 : Cond.fieldLinkNest "StrataHouse$Match" 25 "StrataHouse$Rule" "head" "LStrataHouse$Atom;" "StrataHouse" ∈ jTs := jin (jt1 (List.mem_of_getElem? (i := 106) rfl)) rfl
theorem wf_H_201 : Cond.fieldLinkNest "StrataHouse" 201 "StrataHouse$Rule" "head" "LStrataHouse$Atom;" "StrataHouse" ∈ jTs := jin (jt1 (List.mem_of_getElem? (i := 107) rfl)) rfl
theorem wf_R_18 : Cond.fieldLink "StrataHouse$Rule" 18 "StrataHouse$Rule" "literals" "[LStrataHouse$Atom;" ∈ jTs := jin (jt1 (List.mem_of_getElem? (i := 108) rfl)) rfl
theorem wf_M_54 : Cond.fieldLinkNest "StrataHouse$Match" 54 "StrataHouse$Rule" "literals" "[LStrataHouse$Atom;" "StrataHouse" ∈ jTs := jin (jt1 (List.mem_of_getElem? (i := 109) rfl)) rfl
theorem wf_R_26 : Cond.fieldLink "StrataHouse$Rule" 26 "StrataHouse$Rule" "size" "I" ∈ jTs := jin (jt1 (List.mem_of_getElem? (i := 110) rfl)) rfl
theorem wf_M_51 : Cond.fieldLinkNest "StrataHouse$Match" 51 "StrataHouse$Rule" "size" "I" "StrataHouse" ∈ jTs := jin (jt1 (List.mem_of_getElem? (i := 111) rfl)) rfl
theorem wf_H_108 : Cond.fieldLinkNest "StrataHouse" 108 "StrataHouse$Rule" "size" "I" "StrataHouse" ∈ jTs := jin (jt1 (List.mem_of_getElem? (i := 112) rfl)) rfl
theorem wf_R_34 : Cond.fieldLink "StrataHouse$Rule" 34 "StrataHouse$Rule" "variables" "I" ∈ jTs := jin (jt1 (List.mem_of_getElem? (i := 113) rfl)) rfl
theorem wf_M_85 : Cond.fieldLinkNest "StrataHouse$Match" 85 "StrataHouse$Rule" "variables" "I" "StrataHouse" ∈ jTs := jin (jt1 (List.mem_of_getElem? (i := 114) rfl)) rfl
theorem wf_R_36 : Cond.fieldLink "StrataHouse$Rule" 36 "StrataHouse$Rule" "positiveVariables" "I" ∈ jTs := jin (jt1 (List.mem_of_getElem? (i := 115) rfl)) rfl
theorem wf_R_39 : Cond.fieldLink "StrataHouse$Rule" 39 "StrataHouse$Rule" "positiveRelations" "I" ∈ jTs := jin (jt1 (List.mem_of_getElem? (i := 116) rfl)) rfl
theorem wf_H_231 : Cond.fieldLinkNest "StrataHouse" 231 "StrataHouse$Rule" "positiveRelations" "I" "StrataHouse" ∈ jTs := jin (jt1 (List.mem_of_getElem? (i := 117) rfl)) rfl
theorem wf_H_11 : Cond.fieldLink "StrataHouse" 11 "StrataHouse" "places" "[I" ∈ jTs := jin (jt1 (List.mem_of_getElem? (i := 131) rfl)) rfl
theorem wf_H_15 : Cond.fieldLink "StrataHouse" 15 "StrataHouse" "given" "[I" ∈ jTs := jin (jt1 (List.mem_of_getElem? (i := 132) rfl)) rfl
theorem wf_H_20 : Cond.fieldLink "StrataHouse" 20 "StrataHouse" "rules" "[LStrataHouse$Rule;" ∈ jTs := jin (jt1 (List.mem_of_getElem? (i := 133) rfl)) rfl
theorem wf_H_51 : Cond.fieldLink "StrataHouse" 51 "StrataHouse" "relationCount" "I" ∈ jTs := jin (jt1 (List.mem_of_getElem? (i := 134) rfl)) rfl
theorem wf_H_54 : Cond.fieldLink "StrataHouse" 54 "StrataHouse" "ruleCount" "I" ∈ jTs := jin (jt1 (List.mem_of_getElem? (i := 135) rfl)) rfl
theorem wf_H_24 : Cond.fieldLink "StrataHouse" 24 "StrataHouse" "layers" "[I" ∈ jTs := jin (jt1 (List.mem_of_getElem? (i := 136) rfl)) rfl
theorem wf_H_27 : Cond.fieldLink "StrataHouse" 27 "StrataHouse" "ranks" "[I" ∈ jTs := jin (jt1 (List.mem_of_getElem? (i := 137) rfl)) rfl
theorem wf_H_30 : Cond.fieldLink "StrataHouse" 30 "StrataHouse" "fresh" "[I" ∈ jTs := jin (jt1 (List.mem_of_getElem? (i := 138) rfl)) rfl
theorem wf_H_36 : Cond.fieldLink "StrataHouse" 36 "StrataHouse" "match" "LStrataHouse$Match;" ∈ jTs := jin (jt1 (List.mem_of_getElem? (i := 139) rfl)) rfl
theorem wf_H_40 : Cond.fieldLink "StrataHouse" 40 "StrataHouse" "faultFound" "I" ∈ jTs := jin (jt1 (List.mem_of_getElem? (i := 140) rfl)) rfl
theorem wf_H_177 : Cond.fieldLink "StrataHouse" 177 "StrataHouse" "judged" "Z" ∈ jTs := jin (jt1 (List.mem_of_getElem? (i := 141) rfl)) rfl
theorem wf_H_181 : Cond.fieldLink "StrataHouse" 181 "StrataHouse" "settled" "Z" ∈ jTs := jin (jt1 (List.mem_of_getElem? (i := 142) rfl)) rfl
theorem wf_D_44 : Cond.fieldLink "StrataHouseModel" 44 "StrataHouseModel" "thrown" "I" ∈ jTs := jin (jt3 (List.mem_of_getElem? (i := 110) rfl)) rfl
theorem wf_D_48 : Cond.fieldLink "StrataHouseModel" 48 "StrataHouseModel" "relations" "I" ∈ jTs := jin (jt3 (List.mem_of_getElem? (i := 111) rfl)) rfl
theorem wf_D_7 : Cond.fieldLink "StrataHouseModel" 7 "StrataHouseModel" "places" "[I" ∈ jTs := jin (jt3 (List.mem_of_getElem? (i := 112) rfl)) rfl
theorem wf_D_13 : Cond.fieldLink "StrataHouseModel" 13 "StrataHouseModel" "given" "[Z" ∈ jTs := jin (jt3 (List.mem_of_getElem? (i := 113) rfl)) rfl
theorem wf_D_17 : Cond.fieldLink "StrataHouseModel" 17 "StrataHouseModel" "ranks" "[I" ∈ jTs := jin (jt3 (List.mem_of_getElem? (i := 114) rfl)) rfl
theorem wf_D_51 : Cond.fieldLink "StrataHouseModel" 51 "StrataHouseModel" "rules" "I" ∈ jTs := jin (jt3 (List.mem_of_getElem? (i := 115) rfl)) rfl
theorem wf_D_20 : Cond.fieldLink "StrataHouseModel" 20 "StrataHouseModel" "counts" "[I" ∈ jTs := jin (jt3 (List.mem_of_getElem? (i := 116) rfl)) rfl
theorem wf_D_23 : Cond.fieldLink "StrataHouseModel" 23 "StrataHouseModel" "of" "[I" ∈ jTs := jin (jt3 (List.mem_of_getElem? (i := 117) rfl)) rfl
theorem wf_D_26 : Cond.fieldLink "StrataHouseModel" 26 "StrataHouseModel" "first" "[I" ∈ jTs := jin (jt3 (List.mem_of_getElem? (i := 118) rfl)) rfl
theorem wf_D_29 : Cond.fieldLink "StrataHouseModel" 29 "StrataHouseModel" "second" "[I" ∈ jTs := jin (jt3 (List.mem_of_getElem? (i := 119) rfl)) rfl
theorem wf_D_32 : Cond.fieldLink "StrataHouseModel" 32 "StrataHouseModel" "negated" "[Z" ∈ jTs := jin (jt3 (List.mem_of_getElem? (i := 120) rfl)) rfl
theorem wf_D_35 : Cond.fieldLink "StrataHouseModel" 35 "StrataHouseModel" "layers" "[I" ∈ jTs := jin (jt3 (List.mem_of_getElem? (i := 121) rfl)) rfl
theorem wf_D_54 : Cond.fieldLink "StrataHouseModel" 54 "StrataHouseModel" "known" "Z" ∈ jTs := jin (jt3 (List.mem_of_getElem? (i := 122) rfl)) rfl
theorem wf_D_121 : Cond.fieldLink "StrataHouseModel" 121 "StrataHouseModel" "fault" "I" ∈ jTs := jin (jt3 (List.mem_of_getElem? (i := 123) rfl)) rfl
theorem wf_D_38 : Cond.fieldLink "StrataHouseModel" 38 "StrataHouseModel" "values" "[I" ∈ jTs := jin (jt3 (List.mem_of_getElem? (i := 124) rfl)) rfl
theorem wf_D_41 : Cond.fieldLink "StrataHouseModel" 41 "StrataHouseModel" "news" "[Z" ∈ jTs := jin (jt3 (List.mem_of_getElem? (i := 125) rfl)) rfl
theorem yn_H_init : y_H_init.cls ≠ "java/lang/invoke/MethodHandle" ∧ y_H_init.cls ≠ "java/lang/invoke/VarHandle" ∧ (parseMethodDescriptor y_H_init.desc).map (fun d => d.parameters.length) = some 0 := by decide +kernel
theorem yn_H_clear : y_H_clear.cls ≠ "java/lang/invoke/MethodHandle" ∧ y_H_clear.cls ≠ "java/lang/invoke/VarHandle" ∧ (parseMethodDescriptor y_H_clear.desc).map (fun d => d.parameters.length) = some 0 := by decide +kernel
theorem yn_H_relation : y_H_relation.cls ≠ "java/lang/invoke/MethodHandle" ∧ y_H_relation.cls ≠ "java/lang/invoke/VarHandle" ∧ (parseMethodDescriptor y_H_relation.desc).map (fun d => d.parameters.length) = some 1 := by decide +kernel
theorem yn_H_give : y_H_give.cls ≠ "java/lang/invoke/MethodHandle" ∧ y_H_give.cls ≠ "java/lang/invoke/VarHandle" ∧ (parseMethodDescriptor y_H_give.desc).map (fun d => d.parameters.length) = some 3 := by decide +kernel
theorem yn_H_take : y_H_take.cls ≠ "java/lang/invoke/MethodHandle" ∧ y_H_take.cls ≠ "java/lang/invoke/VarHandle" ∧ (parseMethodDescriptor y_H_take.desc).map (fun d => d.parameters.length) = some 3 := by decide +kernel
theorem yn_H_rule : y_H_rule.cls ≠ "java/lang/invoke/MethodHandle" ∧ y_H_rule.cls ≠ "java/lang/invoke/VarHandle" ∧ (parseMethodDescriptor y_H_rule.desc).map (fun d => d.parameters.length) = some 3 := by decide +kernel
theorem yn_H_literal : y_H_literal.cls ≠ "java/lang/invoke/MethodHandle" ∧ y_H_literal.cls ≠ "java/lang/invoke/VarHandle" ∧ (parseMethodDescriptor y_H_literal.desc).map (fun d => d.parameters.length) = some 4 := by decide +kernel
theorem yn_H_unrule : y_H_unrule.cls ≠ "java/lang/invoke/MethodHandle" ∧ y_H_unrule.cls ≠ "java/lang/invoke/VarHandle" ∧ (parseMethodDescriptor y_H_unrule.desc).map (fun d => d.parameters.length) = some 0 := by decide +kernel
theorem yn_H_fault : y_H_fault.cls ≠ "java/lang/invoke/MethodHandle" ∧ y_H_fault.cls ≠ "java/lang/invoke/VarHandle" ∧ (parseMethodDescriptor y_H_fault.desc).map (fun d => d.parameters.length) = some 0 := by decide +kernel
theorem yn_H_layer : y_H_layer.cls ≠ "java/lang/invoke/MethodHandle" ∧ y_H_layer.cls ≠ "java/lang/invoke/VarHandle" ∧ (parseMethodDescriptor y_H_layer.desc).map (fun d => d.parameters.length) = some 1 := by decide +kernel
theorem yn_H_count : y_H_count.cls ≠ "java/lang/invoke/MethodHandle" ∧ y_H_count.cls ≠ "java/lang/invoke/VarHandle" ∧ (parseMethodDescriptor y_H_count.desc).map (fun d => d.parameters.length) = some 1 := by decide +kernel
theorem yn_H_rank : y_H_rank.cls ≠ "java/lang/invoke/MethodHandle" ∧ y_H_rank.cls ≠ "java/lang/invoke/VarHandle" ∧ (parseMethodDescriptor y_H_rank.desc).map (fun d => d.parameters.length) = some 3 := by decide +kernel
theorem yn_H_ways : y_H_ways.cls ≠ "java/lang/invoke/MethodHandle" ∧ y_H_ways.cls ≠ "java/lang/invoke/VarHandle" ∧ (parseMethodDescriptor y_H_ways.desc).map (fun d => d.parameters.length) = some 3 := by decide +kernel
theorem yn_H_proof : y_H_proof.cls ≠ "java/lang/invoke/MethodHandle" ∧ y_H_proof.cls ≠ "java/lang/invoke/VarHandle" ∧ (parseMethodDescriptor y_H_proof.desc).map (fun d => d.parameters.length) = some 4 := by decide +kernel
theorem yn_H_checkRelation : y_H_checkRelation.cls ≠ "java/lang/invoke/MethodHandle" ∧ y_H_checkRelation.cls ≠ "java/lang/invoke/VarHandle" ∧ (parseMethodDescriptor y_H_checkRelation.desc).map (fun d => d.parameters.length) = some 1 := by decide +kernel
theorem yn_H_checkFact : y_H_checkFact.cls ≠ "java/lang/invoke/MethodHandle" ∧ y_H_checkFact.cls ≠ "java/lang/invoke/VarHandle" ∧ (parseMethodDescriptor y_H_checkFact.desc).map (fun d => d.parameters.length) = some 3 := by decide +kernel
theorem yn_H_checkTerms : y_H_checkTerms.cls ≠ "java/lang/invoke/MethodHandle" ∧ y_H_checkTerms.cls ≠ "java/lang/invoke/VarHandle" ∧ (parseMethodDescriptor y_H_checkTerms.desc).map (fun d => d.parameters.length) = some 3 := by decide +kernel
theorem yn_H_checkSomeRule : y_H_checkSomeRule.cls ≠ "java/lang/invoke/MethodHandle" ∧ y_H_checkSomeRule.cls ≠ "java/lang/invoke/VarHandle" ∧ (parseMethodDescriptor y_H_checkSomeRule.desc).map (fun d => d.parameters.length) = some 0 := by decide +kernel
theorem yn_H_checkNoFault : y_H_checkNoFault.cls ≠ "java/lang/invoke/MethodHandle" ∧ y_H_checkNoFault.cls ≠ "java/lang/invoke/VarHandle" ∧ (parseMethodDescriptor y_H_checkNoFault.desc).map (fun d => d.parameters.length) = some 0 := by decide +kernel
theorem yn_H_isConstant : y_H_isConstant.cls ≠ "java/lang/invoke/MethodHandle" ∧ y_H_isConstant.cls ≠ "java/lang/invoke/VarHandle" ∧ (parseMethodDescriptor y_H_isConstant.desc).map (fun d => d.parameters.length) = some 1 := by decide +kernel
theorem yn_H_isTerm : y_H_isTerm.cls ≠ "java/lang/invoke/MethodHandle" ∧ y_H_isTerm.cls ≠ "java/lang/invoke/VarHandle" ∧ (parseMethodDescriptor y_H_isTerm.desc).map (fun d => d.parameters.length) = some 1 := by decide +kernel
theorem yn_H_firstOf : y_H_firstOf.cls ≠ "java/lang/invoke/MethodHandle" ∧ y_H_firstOf.cls ≠ "java/lang/invoke/VarHandle" ∧ (parseMethodDescriptor y_H_firstOf.desc).map (fun d => d.parameters.length) = some 2 := by decide +kernel
theorem yn_H_secondOf : y_H_secondOf.cls ≠ "java/lang/invoke/MethodHandle" ∧ y_H_secondOf.cls ≠ "java/lang/invoke/VarHandle" ∧ (parseMethodDescriptor y_H_secondOf.desc).map (fun d => d.parameters.length) = some 2 := by decide +kernel
theorem yn_H_rowAt : y_H_rowAt.cls ≠ "java/lang/invoke/MethodHandle" ∧ y_H_rowAt.cls ≠ "java/lang/invoke/VarHandle" ∧ (parseMethodDescriptor y_H_rowAt.desc).map (fun d => d.parameters.length) = some 2 := by decide +kernel
theorem yn_H_factAt : y_H_factAt.cls ≠ "java/lang/invoke/MethodHandle" ∧ y_H_factAt.cls ≠ "java/lang/invoke/VarHandle" ∧ (parseMethodDescriptor y_H_factAt.desc).map (fun d => d.parameters.length) = some 3 := by decide +kernel
theorem yn_H_hasBit : y_H_hasBit.cls ≠ "java/lang/invoke/MethodHandle" ∧ y_H_hasBit.cls ≠ "java/lang/invoke/VarHandle" ∧ (parseMethodDescriptor y_H_hasBit.desc).map (fun d => d.parameters.length) = some 2 := by decide +kernel
theorem yn_H_rulesChanged : y_H_rulesChanged.cls ≠ "java/lang/invoke/MethodHandle" ∧ y_H_rulesChanged.cls ≠ "java/lang/invoke/VarHandle" ∧ (parseMethodDescriptor y_H_rulesChanged.desc).map (fun d => d.parameters.length) = some 0 := by decide +kernel
theorem yn_H_setGiven : y_H_setGiven.cls ≠ "java/lang/invoke/MethodHandle" ∧ y_H_setGiven.cls ≠ "java/lang/invoke/VarHandle" ∧ (parseMethodDescriptor y_H_setGiven.desc).map (fun d => d.parameters.length) = some 4 := by decide +kernel
theorem yn_H_judge : y_H_judge.cls ≠ "java/lang/invoke/MethodHandle" ∧ y_H_judge.cls ≠ "java/lang/invoke/VarHandle" ∧ (parseMethodDescriptor y_H_judge.desc).map (fun d => d.parameters.length) = some 0 := by decide +kernel
theorem yn_H_firstUnsafe : y_H_firstUnsafe.cls ≠ "java/lang/invoke/MethodHandle" ∧ y_H_firstUnsafe.cls ≠ "java/lang/invoke/VarHandle" ∧ (parseMethodDescriptor y_H_firstUnsafe.desc).map (fun d => d.parameters.length) = some 0 := by decide +kernel
theorem yn_H_findLayers : y_H_findLayers.cls ≠ "java/lang/invoke/MethodHandle" ∧ y_H_findLayers.cls ≠ "java/lang/invoke/VarHandle" ∧ (parseMethodDescriptor y_H_findLayers.desc).map (fun d => d.parameters.length) = some 0 := by decide +kernel
theorem yn_H_raiseLayers : y_H_raiseLayers.cls ≠ "java/lang/invoke/MethodHandle" ∧ y_H_raiseLayers.cls ≠ "java/lang/invoke/VarHandle" ∧ (parseMethodDescriptor y_H_raiseLayers.desc).map (fun d => d.parameters.length) = some 0 := by decide +kernel
theorem yn_H_topLayer : y_H_topLayer.cls ≠ "java/lang/invoke/MethodHandle" ∧ y_H_topLayer.cls ≠ "java/lang/invoke/VarHandle" ∧ (parseMethodDescriptor y_H_topLayer.desc).map (fun d => d.parameters.length) = some 0 := by decide +kernel
theorem yn_H_settle : y_H_settle.cls ≠ "java/lang/invoke/MethodHandle" ∧ y_H_settle.cls ≠ "java/lang/invoke/VarHandle" ∧ (parseMethodDescriptor y_H_settle.desc).map (fun d => d.parameters.length) = some 0 := by decide +kernel
theorem yn_H_rankGiven : y_H_rankGiven.cls ≠ "java/lang/invoke/MethodHandle" ∧ y_H_rankGiven.cls ≠ "java/lang/invoke/VarHandle" ∧ (parseMethodDescriptor y_H_rankGiven.desc).map (fun d => d.parameters.length) = some 0 := by decide +kernel
theorem yn_H_bringRound : y_H_bringRound.cls ≠ "java/lang/invoke/MethodHandle" ∧ y_H_bringRound.cls ≠ "java/lang/invoke/VarHandle" ∧ (parseMethodDescriptor y_H_bringRound.desc).map (fun d => d.parameters.length) = some 3 := by decide +kernel
theorem yn_H_bringByRule : y_H_bringByRule.cls ≠ "java/lang/invoke/MethodHandle" ∧ y_H_bringByRule.cls ≠ "java/lang/invoke/VarHandle" ∧ (parseMethodDescriptor y_H_bringByRule.desc).map (fun d => d.parameters.length) = some 2 := by decide +kernel
theorem yn_H_showFresh : y_H_showFresh.cls ≠ "java/lang/invoke/MethodHandle" ∧ y_H_showFresh.cls ≠ "java/lang/invoke/VarHandle" ∧ (parseMethodDescriptor y_H_showFresh.desc).map (fun d => d.parameters.length) = some 0 := by decide +kernel
theorem yn_H_look : y_H_look.cls ≠ "java/lang/invoke/MethodHandle" ∧ y_H_look.cls ≠ "java/lang/invoke/VarHandle" ∧ (parseMethodDescriptor y_H_look.desc).map (fun d => d.parameters.length) = some 2 := by decide +kernel
theorem yn_H_lookAt : y_H_lookAt.cls ≠ "java/lang/invoke/MethodHandle" ∧ y_H_lookAt.cls ≠ "java/lang/invoke/VarHandle" ∧ (parseMethodDescriptor y_H_lookAt.desc).map (fun d => d.parameters.length) = some 2 := by decide +kernel
theorem yn_H_leastRule : y_H_leastRule.cls ≠ "java/lang/invoke/MethodHandle" ∧ y_H_leastRule.cls ≠ "java/lang/invoke/VarHandle" ∧ (parseMethodDescriptor y_H_leastRule.desc).map (fun d => d.parameters.length) = some 3 := by decide +kernel
theorem yn_D_init : y_D_init.cls ≠ "java/lang/invoke/MethodHandle" ∧ y_D_init.cls ≠ "java/lang/invoke/VarHandle" ∧ (parseMethodDescriptor y_D_init.desc).map (fun d => d.parameters.length) = some 0 := by decide +kernel
theorem yn_D_thrown : y_D_thrown.cls ≠ "java/lang/invoke/MethodHandle" ∧ y_D_thrown.cls ≠ "java/lang/invoke/VarHandle" ∧ (parseMethodDescriptor y_D_thrown.desc).map (fun d => d.parameters.length) = some 0 := by decide +kernel
theorem yn_D_refuse : y_D_refuse.cls ≠ "java/lang/invoke/MethodHandle" ∧ y_D_refuse.cls ≠ "java/lang/invoke/VarHandle" ∧ (parseMethodDescriptor y_D_refuse.desc).map (fun d => d.parameters.length) = some 3 := by decide +kernel
theorem yn_D_in : y_D_in.cls ≠ "java/lang/invoke/MethodHandle" ∧ y_D_in.cls ≠ "java/lang/invoke/VarHandle" ∧ (parseMethodDescriptor y_D_in.desc).map (fun d => d.parameters.length) = some 3 := by decide +kernel
theorem yn_D_clear : y_D_clear.cls ≠ "java/lang/invoke/MethodHandle" ∧ y_D_clear.cls ≠ "java/lang/invoke/VarHandle" ∧ (parseMethodDescriptor y_D_clear.desc).map (fun d => d.parameters.length) = some 0 := by decide +kernel
theorem yn_D_relation : y_D_relation.cls ≠ "java/lang/invoke/MethodHandle" ∧ y_D_relation.cls ≠ "java/lang/invoke/VarHandle" ∧ (parseMethodDescriptor y_D_relation.desc).map (fun d => d.parameters.length) = some 1 := by decide +kernel
theorem yn_D_isFact : y_D_isFact.cls ≠ "java/lang/invoke/MethodHandle" ∧ y_D_isFact.cls ≠ "java/lang/invoke/VarHandle" ∧ (parseMethodDescriptor y_D_isFact.desc).map (fun d => d.parameters.length) = some 3 := by decide +kernel
theorem yn_D_factAt : y_D_factAt.cls ≠ "java/lang/invoke/MethodHandle" ∧ y_D_factAt.cls ≠ "java/lang/invoke/VarHandle" ∧ (parseMethodDescriptor y_D_factAt.desc).map (fun d => d.parameters.length) = some 3 := by decide +kernel
theorem yn_D_give : y_D_give.cls ≠ "java/lang/invoke/MethodHandle" ∧ y_D_give.cls ≠ "java/lang/invoke/VarHandle" ∧ (parseMethodDescriptor y_D_give.desc).map (fun d => d.parameters.length) = some 3 := by decide +kernel
theorem yn_D_take : y_D_take.cls ≠ "java/lang/invoke/MethodHandle" ∧ y_D_take.cls ≠ "java/lang/invoke/VarHandle" ∧ (parseMethodDescriptor y_D_take.desc).map (fun d => d.parameters.length) = some 3 := by decide +kernel
theorem yn_D_isTerm : y_D_isTerm.cls ≠ "java/lang/invoke/MethodHandle" ∧ y_D_isTerm.cls ≠ "java/lang/invoke/VarHandle" ∧ (parseMethodDescriptor y_D_isTerm.desc).map (fun d => d.parameters.length) = some 1 := by decide +kernel
theorem yn_D_areTerms : y_D_areTerms.cls ≠ "java/lang/invoke/MethodHandle" ∧ y_D_areTerms.cls ≠ "java/lang/invoke/VarHandle" ∧ (parseMethodDescriptor y_D_areTerms.desc).map (fun d => d.parameters.length) = some 3 := by decide +kernel
theorem yn_D_put : y_D_put.cls ≠ "java/lang/invoke/MethodHandle" ∧ y_D_put.cls ≠ "java/lang/invoke/VarHandle" ∧ (parseMethodDescriptor y_D_put.desc).map (fun d => d.parameters.length) = some 5 := by decide +kernel
theorem yn_D_rule : y_D_rule.cls ≠ "java/lang/invoke/MethodHandle" ∧ y_D_rule.cls ≠ "java/lang/invoke/VarHandle" ∧ (parseMethodDescriptor y_D_rule.desc).map (fun d => d.parameters.length) = some 3 := by decide +kernel
theorem yn_D_literal : y_D_literal.cls ≠ "java/lang/invoke/MethodHandle" ∧ y_D_literal.cls ≠ "java/lang/invoke/VarHandle" ∧ (parseMethodDescriptor y_D_literal.desc).map (fun d => d.parameters.length) = some 4 := by decide +kernel
theorem yn_D_unrule : y_D_unrule.cls ≠ "java/lang/invoke/MethodHandle" ∧ y_D_unrule.cls ≠ "java/lang/invoke/VarHandle" ∧ (parseMethodDescriptor y_D_unrule.desc).map (fun d => d.parameters.length) = some 0 := by decide +kernel
theorem yn_D_variablesOf : y_D_variablesOf.cls ≠ "java/lang/invoke/MethodHandle" ∧ y_D_variablesOf.cls ≠ "java/lang/invoke/VarHandle" ∧ (parseMethodDescriptor y_D_variablesOf.desc).map (fun d => d.parameters.length) = some 1 := by decide +kernel
theorem yn_D_variables : y_D_variables.cls ≠ "java/lang/invoke/MethodHandle" ∧ y_D_variables.cls ≠ "java/lang/invoke/VarHandle" ∧ (parseMethodDescriptor y_D_variables.desc).map (fun d => d.parameters.length) = some 1 := by decide +kernel
theorem yn_D_isSafe : y_D_isSafe.cls ≠ "java/lang/invoke/MethodHandle" ∧ y_D_isSafe.cls ≠ "java/lang/invoke/VarHandle" ∧ (parseMethodDescriptor y_D_isSafe.desc).map (fun d => d.parameters.length) = some 1 := by decide +kernel
theorem yn_D_raise : y_D_raise.cls ≠ "java/lang/invoke/MethodHandle" ∧ y_D_raise.cls ≠ "java/lang/invoke/VarHandle" ∧ (parseMethodDescriptor y_D_raise.desc).map (fun d => d.parameters.length) = some 1 := by decide +kernel
theorem yn_D_findFault : y_D_findFault.cls ≠ "java/lang/invoke/MethodHandle" ∧ y_D_findFault.cls ≠ "java/lang/invoke/VarHandle" ∧ (parseMethodDescriptor y_D_findFault.desc).map (fun d => d.parameters.length) = some 0 := by decide +kernel
theorem yn_D_termValue : y_D_termValue.cls ≠ "java/lang/invoke/MethodHandle" ∧ y_D_termValue.cls ≠ "java/lang/invoke/VarHandle" ∧ (parseMethodDescriptor y_D_termValue.desc).map (fun d => d.parameters.length) = some 1 := by decide +kernel
theorem yn_D_factOf : y_D_factOf.cls ≠ "java/lang/invoke/MethodHandle" ∧ y_D_factOf.cls ≠ "java/lang/invoke/VarHandle" ∧ (parseMethodDescriptor y_D_factOf.desc).map (fun d => d.parameters.length) = some 1 := by decide +kernel
theorem yn_D_instance : y_D_instance.cls ≠ "java/lang/invoke/MethodHandle" ∧ y_D_instance.cls ≠ "java/lang/invoke/VarHandle" ∧ (parseMethodDescriptor y_D_instance.desc).map (fun d => d.parameters.length) = some 2 := by decide +kernel
theorem yn_D_holds : y_D_holds.cls ≠ "java/lang/invoke/MethodHandle" ∧ y_D_holds.cls ≠ "java/lang/invoke/VarHandle" ∧ (parseMethodDescriptor y_D_holds.desc).map (fun d => d.parameters.length) = some 1 := by decide +kernel
theorem yn_D_isMet : y_D_isMet.cls ≠ "java/lang/invoke/MethodHandle" ∧ y_D_isMet.cls ≠ "java/lang/invoke/VarHandle" ∧ (parseMethodDescriptor y_D_isMet.desc).map (fun d => d.parameters.length) = some 1 := by decide +kernel
theorem yn_D_behind : y_D_behind.cls ≠ "java/lang/invoke/MethodHandle" ∧ y_D_behind.cls ≠ "java/lang/invoke/VarHandle" ∧ (parseMethodDescriptor y_D_behind.desc).map (fun d => d.parameters.length) = some 2 := by decide +kernel
theorem yn_D_round : y_D_round.cls ≠ "java/lang/invoke/MethodHandle" ∧ y_D_round.cls ≠ "java/lang/invoke/VarHandle" ∧ (parseMethodDescriptor y_D_round.desc).map (fun d => d.parameters.length) = some 2 := by decide +kernel
theorem yn_D_find : y_D_find.cls ≠ "java/lang/invoke/MethodHandle" ∧ y_D_find.cls ≠ "java/lang/invoke/VarHandle" ∧ (parseMethodDescriptor y_D_find.desc).map (fun d => d.parameters.length) = some 0 := by decide +kernel
theorem yn_D_fault : y_D_fault.cls ≠ "java/lang/invoke/MethodHandle" ∧ y_D_fault.cls ≠ "java/lang/invoke/VarHandle" ∧ (parseMethodDescriptor y_D_fault.desc).map (fun d => d.parameters.length) = some 0 := by decide +kernel
theorem yn_D_layer : y_D_layer.cls ≠ "java/lang/invoke/MethodHandle" ∧ y_D_layer.cls ≠ "java/lang/invoke/VarHandle" ∧ (parseMethodDescriptor y_D_layer.desc).map (fun d => d.parameters.length) = some 1 := by decide +kernel
theorem yn_D_count : y_D_count.cls ≠ "java/lang/invoke/MethodHandle" ∧ y_D_count.cls ≠ "java/lang/invoke/VarHandle" ∧ (parseMethodDescriptor y_D_count.desc).map (fun d => d.parameters.length) = some 1 := by decide +kernel
theorem yn_D_rank : y_D_rank.cls ≠ "java/lang/invoke/MethodHandle" ∧ y_D_rank.cls ≠ "java/lang/invoke/VarHandle" ∧ (parseMethodDescriptor y_D_rank.desc).map (fun d => d.parameters.length) = some 3 := by decide +kernel
theorem yn_D_ways : y_D_ways.cls ≠ "java/lang/invoke/MethodHandle" ∧ y_D_ways.cls ≠ "java/lang/invoke/VarHandle" ∧ (parseMethodDescriptor y_D_ways.desc).map (fun d => d.parameters.length) = some 3 := by decide +kernel
theorem yn_D_isLower : y_D_isLower.cls ≠ "java/lang/invoke/MethodHandle" ∧ y_D_isLower.cls ≠ "java/lang/invoke/VarHandle" ∧ (parseMethodDescriptor y_D_isLower.desc).map (fun d => d.parameters.length) = some 2 := by decide +kernel
theorem yn_D_proof : y_D_proof.cls ≠ "java/lang/invoke/MethodHandle" ∧ y_D_proof.cls ≠ "java/lang/invoke/VarHandle" ∧ (parseMethodDescriptor y_D_proof.desc).map (fun d => d.parameters.length) = some 4 := by decide +kernel
theorem yn_A_init : y_A_init.cls ≠ "java/lang/invoke/MethodHandle" ∧ y_A_init.cls ≠ "java/lang/invoke/VarHandle" ∧ (parseMethodDescriptor y_A_init.desc).map (fun d => d.parameters.length) = some 0 := by decide +kernel
theorem yn_A_become : y_A_become.cls ≠ "java/lang/invoke/MethodHandle" ∧ y_A_become.cls ≠ "java/lang/invoke/VarHandle" ∧ (parseMethodDescriptor y_A_become.desc).map (fun d => d.parameters.length) = some 4 := by decide +kernel
theorem yn_A_variables : y_A_variables.cls ≠ "java/lang/invoke/MethodHandle" ∧ y_A_variables.cls ≠ "java/lang/invoke/VarHandle" ∧ (parseMethodDescriptor y_A_variables.desc).map (fun d => d.parameters.length) = some 0 := by decide +kernel
theorem yn_M_init : y_M_init.cls ≠ "java/lang/invoke/MethodHandle" ∧ y_M_init.cls ≠ "java/lang/invoke/VarHandle" ∧ (parseMethodDescriptor y_M_init.desc).map (fun d => d.parameters.length) = some 0 := by decide +kernel
theorem yn_M_forget : y_M_forget.cls ≠ "java/lang/invoke/MethodHandle" ∧ y_M_forget.cls ≠ "java/lang/invoke/VarHandle" ∧ (parseMethodDescriptor y_M_forget.desc).map (fun d => d.parameters.length) = some 0 := by decide +kernel
theorem yn_M_bind : y_M_bind.cls ≠ "java/lang/invoke/MethodHandle" ∧ y_M_bind.cls ≠ "java/lang/invoke/VarHandle" ∧ (parseMethodDescriptor y_M_bind.desc).map (fun d => d.parameters.length) = some 2 := by decide +kernel
theorem yn_M_meets : y_M_meets.cls ≠ "java/lang/invoke/MethodHandle" ∧ y_M_meets.cls ≠ "java/lang/invoke/VarHandle" ∧ (parseMethodDescriptor y_M_meets.desc).map (fun d => d.parameters.length) = some 4 := by decide +kernel
theorem yn_M_knownAgree : y_M_knownAgree.cls ≠ "java/lang/invoke/MethodHandle" ∧ y_M_knownAgree.cls ≠ "java/lang/invoke/VarHandle" ∧ (parseMethodDescriptor y_M_knownAgree.desc).map (fun d => d.parameters.length) = some 1 := by decide +kernel
theorem yn_M_choices : y_M_choices.cls ≠ "java/lang/invoke/MethodHandle" ∧ y_M_choices.cls ≠ "java/lang/invoke/VarHandle" ∧ (parseMethodDescriptor y_M_choices.desc).map (fun d => d.parameters.length) = some 2 := by decide +kernel
theorem yn_M_choicesBy : y_M_choicesBy.cls ≠ "java/lang/invoke/MethodHandle" ∧ y_M_choicesBy.cls ≠ "java/lang/invoke/VarHandle" ∧ (parseMethodDescriptor y_M_choicesBy.desc).map (fun d => d.parameters.length) = some 2 := by decide +kernel
theorem yn_M_nextOpen : y_M_nextOpen.cls ≠ "java/lang/invoke/MethodHandle" ∧ y_M_nextOpen.cls ≠ "java/lang/invoke/VarHandle" ∧ (parseMethodDescriptor y_M_nextOpen.desc).map (fun d => d.parameters.length) = some 2 := by decide +kernel
theorem yn_M_findLeast : y_M_findLeast.cls ≠ "java/lang/invoke/MethodHandle" ∧ y_M_findLeast.cls ≠ "java/lang/invoke/VarHandle" ∧ (parseMethodDescriptor y_M_findLeast.desc).map (fun d => d.parameters.length) = some 2 := by decide +kernel
theorem yn_M_countInstances : y_M_countInstances.cls ≠ "java/lang/invoke/MethodHandle" ∧ y_M_countInstances.cls ≠ "java/lang/invoke/VarHandle" ∧ (parseMethodDescriptor y_M_countInstances.desc).map (fun d => d.parameters.length) = some 2 := by decide +kernel
theorem yn_R_init : y_R_init.cls ≠ "java/lang/invoke/MethodHandle" ∧ y_R_init.cls ≠ "java/lang/invoke/VarHandle" ∧ (parseMethodDescriptor y_R_init.desc).map (fun d => d.parameters.length) = some 0 := by decide +kernel
theorem yn_R_begin : y_R_begin.cls ≠ "java/lang/invoke/MethodHandle" ∧ y_R_begin.cls ≠ "java/lang/invoke/VarHandle" ∧ (parseMethodDescriptor y_R_begin.desc).map (fun d => d.parameters.length) = some 3 := by decide +kernel
theorem yn_R_isFull : y_R_isFull.cls ≠ "java/lang/invoke/MethodHandle" ∧ y_R_isFull.cls ≠ "java/lang/invoke/VarHandle" ∧ (parseMethodDescriptor y_R_isFull.desc).map (fun d => d.parameters.length) = some 0 := by decide +kernel
theorem yn_R_add : y_R_add.cls ≠ "java/lang/invoke/MethodHandle" ∧ y_R_add.cls ≠ "java/lang/invoke/VarHandle" ∧ (parseMethodDescriptor y_R_add.desc).map (fun d => d.parameters.length) = some 4 := by decide +kernel
theorem yn_R_isSafe : y_R_isSafe.cls ≠ "java/lang/invoke/MethodHandle" ∧ y_R_isSafe.cls ≠ "java/lang/invoke/VarHandle" ∧ (parseMethodDescriptor y_R_isSafe.desc).map (fun d => d.parameters.length) = some 0 := by decide +kernel
theorem yn_R_leastLayer : y_R_leastLayer.cls ≠ "java/lang/invoke/MethodHandle" ∧ y_R_leastLayer.cls ≠ "java/lang/invoke/VarHandle" ∧ (parseMethodDescriptor y_R_leastLayer.desc).map (fun d => d.parameters.length) = some 1 := by decide +kernel
theorem yn_S_init : y_S_init.cls ≠ "java/lang/invoke/MethodHandle" ∧ y_S_init.cls ≠ "java/lang/invoke/VarHandle" ∧ (parseMethodDescriptor y_S_init.desc).map (fun d => d.parameters.length) = some 0 := by decide +kernel
theorem yn_S_forget : y_S_forget.cls ≠ "java/lang/invoke/MethodHandle" ∧ y_S_forget.cls ≠ "java/lang/invoke/VarHandle" ∧ (parseMethodDescriptor y_S_forget.desc).map (fun d => d.parameters.length) = some 0 := by decide +kernel
theorem yn_S_show : y_S_show.cls ≠ "java/lang/invoke/MethodHandle" ∧ y_S_show.cls ≠ "java/lang/invoke/VarHandle" ∧ (parseMethodDescriptor y_S_show.desc).map (fun d => d.parameters.length) = some 3 := by decide +kernel
theorem yn_S_sees : y_S_sees.cls ≠ "java/lang/invoke/MethodHandle" ∧ y_S_sees.cls ≠ "java/lang/invoke/VarHandle" ∧ (parseMethodDescriptor y_S_sees.desc).map (fun d => d.parameters.length) = some 3 := by decide +kernel
theorem yn_Arrays_fill : y_Arrays_fill.cls ≠ "java/lang/invoke/MethodHandle" ∧ y_Arrays_fill.cls ≠ "java/lang/invoke/VarHandle" ∧ (parseMethodDescriptor y_Arrays_fill.desc).map (fun d => d.parameters.length) = some 2 := by decide +kernel
theorem yn_Math_max : y_Math_max.cls ≠ "java/lang/invoke/MethodHandle" ∧ y_Math_max.cls ≠ "java/lang/invoke/VarHandle" ∧ (parseMethodDescriptor y_Math_max.desc).map (fun d => d.parameters.length) = some 2 := by decide +kernel
theorem yn_L_relation : y_L_relation.cls ≠ "java/lang/invoke/MethodHandle" ∧ y_L_relation.cls ≠ "java/lang/invoke/VarHandle" ∧ (parseMethodDescriptor y_L_relation.desc).map (fun d => d.parameters.length) = some 3 := by decide +kernel
theorem yn_L_give : y_L_give.cls ≠ "java/lang/invoke/MethodHandle" ∧ y_L_give.cls ≠ "java/lang/invoke/VarHandle" ∧ (parseMethodDescriptor y_L_give.desc).map (fun d => d.parameters.length) = some 5 := by decide +kernel
theorem yn_L_take : y_L_take.cls ≠ "java/lang/invoke/MethodHandle" ∧ y_L_take.cls ≠ "java/lang/invoke/VarHandle" ∧ (parseMethodDescriptor y_L_take.desc).map (fun d => d.parameters.length) = some 5 := by decide +kernel
theorem yn_L_rule : y_L_rule.cls ≠ "java/lang/invoke/MethodHandle" ∧ y_L_rule.cls ≠ "java/lang/invoke/VarHandle" ∧ (parseMethodDescriptor y_L_rule.desc).map (fun d => d.parameters.length) = some 5 := by decide +kernel
theorem yn_L_literal : y_L_literal.cls ≠ "java/lang/invoke/MethodHandle" ∧ y_L_literal.cls ≠ "java/lang/invoke/VarHandle" ∧ (parseMethodDescriptor y_L_literal.desc).map (fun d => d.parameters.length) = some 6 := by decide +kernel
theorem yn_L_unrule : y_L_unrule.cls ≠ "java/lang/invoke/MethodHandle" ∧ y_L_unrule.cls ≠ "java/lang/invoke/VarHandle" ∧ (parseMethodDescriptor y_L_unrule.desc).map (fun d => d.parameters.length) = some 1 := by decide +kernel
theorem yn_L_layer : y_L_layer.cls ≠ "java/lang/invoke/MethodHandle" ∧ y_L_layer.cls ≠ "java/lang/invoke/VarHandle" ∧ (parseMethodDescriptor y_L_layer.desc).map (fun d => d.parameters.length) = some 3 := by decide +kernel
theorem yn_L_count : y_L_count.cls ≠ "java/lang/invoke/MethodHandle" ∧ y_L_count.cls ≠ "java/lang/invoke/VarHandle" ∧ (parseMethodDescriptor y_L_count.desc).map (fun d => d.parameters.length) = some 3 := by decide +kernel
theorem yn_L_rank : y_L_rank.cls ≠ "java/lang/invoke/MethodHandle" ∧ y_L_rank.cls ≠ "java/lang/invoke/VarHandle" ∧ (parseMethodDescriptor y_L_rank.desc).map (fun d => d.parameters.length) = some 5 := by decide +kernel
theorem yn_L_ways : y_L_ways.cls ≠ "java/lang/invoke/MethodHandle" ∧ y_L_ways.cls ≠ "java/lang/invoke/VarHandle" ∧ (parseMethodDescriptor y_L_ways.desc).map (fun d => d.parameters.length) = some 5 := by decide +kernel
theorem yn_Integer_bitCount : y_Integer_bitCount.cls ≠ "java/lang/invoke/MethodHandle" ∧ y_Integer_bitCount.cls ≠ "java/lang/invoke/VarHandle" ∧ (parseMethodDescriptor y_Integer_bitCount.desc).map (fun d => d.parameters.length) = some 1 := by decide +kernel
theorem yn_L_proof : y_L_proof.cls ≠ "java/lang/invoke/MethodHandle" ∧ y_L_proof.cls ≠ "java/lang/invoke/VarHandle" ∧ (parseMethodDescriptor y_L_proof.desc).map (fun d => d.parameters.length) = some 6 := by decide +kernel
theorem ww_L_59 : ∀ w ∈ jwV "StrataHouseLaw" 59 "StrataHouse" y_H_clear (.code y_H_clear c_H_clear 1 none), w ∈ jTs := List.forall_mem_cons.mpr ⟨jin (jt1 (List.mem_of_getElem? (i := 171) rfl)) rfl, List.forall_mem_cons.mpr ⟨jin (jt1 (List.mem_of_getElem? (i := 1) rfl)) rfl, List.forall_mem_cons.mpr ⟨jin (jt1 (List.mem_of_getElem? (i := 168) rfl)) rfl, List.forall_mem_cons.mpr ⟨jin (jt1 (List.mem_of_getElem? (i := 169) rfl)) rfl, List.forall_mem_cons.mpr ⟨jin (jt1 (List.mem_of_getElem? (i := 170) rfl)) rfl, fun _ h => absurd h List.not_mem_nil⟩⟩⟩⟩⟩
theorem ww_H_45 : ∀ w ∈ jwS "StrataHouse" 45 y_Arrays_fill (.code y_Arrays_fill c_Arrays_fill 4 none), w ∈ jTs := List.forall_mem_cons.mpr ⟨jin (jt1 (List.mem_of_getElem? (i := 174) rfl)) rfl, List.forall_mem_cons.mpr ⟨jin (jt1 (List.mem_of_getElem? (i := 7) rfl)) rfl, List.forall_mem_cons.mpr ⟨jin (jt1 (List.mem_of_getElem? (i := 172) rfl)) rfl, List.forall_mem_cons.mpr ⟨jin (jt1 (List.mem_of_getElem? (i := 173) rfl)) rfl, fun _ h => absurd h List.not_mem_nil⟩⟩⟩⟩
theorem ww_H_57 : ∀ w ∈ jwV "StrataHouse" 57 "StrataHouse" y_H_rulesChanged (.code y_H_rulesChanged c_H_rulesChanged 1 none), w ∈ jTs := List.forall_mem_cons.mpr ⟨jin (jt1 (List.mem_of_getElem? (i := 178) rfl)) rfl, List.forall_mem_cons.mpr ⟨jin (jt1 (List.mem_of_getElem? (i := 1) rfl)) rfl, List.forall_mem_cons.mpr ⟨jin (jt1 (List.mem_of_getElem? (i := 175) rfl)) rfl, List.forall_mem_cons.mpr ⟨jin (jt1 (List.mem_of_getElem? (i := 177) rfl)) rfl, List.forall_mem_cons.mpr ⟨jin (jts (List.mem_of_getElem? (i := 0) rfl)) rfl, fun _ h => absurd h List.not_mem_nil⟩⟩⟩⟩⟩
theorem ww_L_91 : ∀ w ∈ jwV "StrataHouseLaw" 91 "StrataHouse" y_H_fault (.code y_H_fault c_H_fault 1 (some .int)), w ∈ jTs := List.forall_mem_cons.mpr ⟨jin (jt1 (List.mem_of_getElem? (i := 182) rfl)) rfl, List.forall_mem_cons.mpr ⟨jin (jt1 (List.mem_of_getElem? (i := 1) rfl)) rfl, List.forall_mem_cons.mpr ⟨jin (jt1 (List.mem_of_getElem? (i := 179) rfl)) rfl, List.forall_mem_cons.mpr ⟨jin (jt1 (List.mem_of_getElem? (i := 180) rfl)) rfl, List.forall_mem_cons.mpr ⟨jin (jt1 (List.mem_of_getElem? (i := 181) rfl)) rfl, fun _ h => absurd h List.not_mem_nil⟩⟩⟩⟩⟩
theorem ww_H_111 : ∀ w ∈ jwV "StrataHouse" 111 "StrataHouse" y_H_judge (.code y_H_judge c_H_judge 1 none), w ∈ jTs := List.forall_mem_cons.mpr ⟨jin (jt1 (List.mem_of_getElem? (i := 186) rfl)) rfl, List.forall_mem_cons.mpr ⟨jin (jt1 (List.mem_of_getElem? (i := 1) rfl)) rfl, List.forall_mem_cons.mpr ⟨jin (jt1 (List.mem_of_getElem? (i := 183) rfl)) rfl, List.forall_mem_cons.mpr ⟨jin (jt1 (List.mem_of_getElem? (i := 185) rfl)) rfl, List.forall_mem_cons.mpr ⟨jin (jts (List.mem_of_getElem? (i := 1) rfl)) rfl, fun _ h => absurd h List.not_mem_nil⟩⟩⟩⟩⟩
theorem ww_H_188 : ∀ w ∈ jwV "StrataHouse" 188 "StrataHouse" y_H_firstUnsafe (.code y_H_firstUnsafe c_H_firstUnsafe 2 (some .int)), w ∈ jTs := List.forall_mem_cons.mpr ⟨jin (jt1 (List.mem_of_getElem? (i := 190) rfl)) rfl, List.forall_mem_cons.mpr ⟨jin (jt1 (List.mem_of_getElem? (i := 1) rfl)) rfl, List.forall_mem_cons.mpr ⟨jin (jt1 (List.mem_of_getElem? (i := 187) rfl)) rfl, List.forall_mem_cons.mpr ⟨jin (jt1 (List.mem_of_getElem? (i := 189) rfl)) rfl, List.forall_mem_cons.mpr ⟨jin (jts (List.mem_of_getElem? (i := 2) rfl)) rfl, fun _ h => absurd h List.not_mem_nil⟩⟩⟩⟩⟩
theorem ww_H_195 : ∀ w ∈ jwN "StrataHouse" 195 "StrataHouse$Rule" y_R_isSafe (.code y_R_isSafe c_R_isSafe 1 (some .boolean)) "StrataHouse", w ∈ jTs := List.forall_mem_cons.mpr ⟨jin (jt1 (List.mem_of_getElem? (i := 194) rfl)) rfl, List.forall_mem_cons.mpr ⟨jin (jt1 (List.mem_of_getElem? (i := 4) rfl)) rfl, List.forall_mem_cons.mpr ⟨jin (jt1 (List.mem_of_getElem? (i := 191) rfl)) rfl, List.forall_mem_cons.mpr ⟨jin (jt1 (List.mem_of_getElem? (i := 193) rfl)) rfl, List.forall_mem_cons.mpr ⟨jin (jts (List.mem_of_getElem? (i := 3) rfl)) rfl, fun _ h => absurd h List.not_mem_nil⟩⟩⟩⟩⟩
theorem ww_H_192 : ∀ w ∈ jwV "StrataHouse" 192 "StrataHouse" y_H_findLayers (.code y_H_findLayers c_H_findLayers 2 (some .boolean)), w ∈ jTs := List.forall_mem_cons.mpr ⟨jin (jt1 (List.mem_of_getElem? (i := 198) rfl)) rfl, List.forall_mem_cons.mpr ⟨jin (jt1 (List.mem_of_getElem? (i := 1) rfl)) rfl, List.forall_mem_cons.mpr ⟨jin (jt1 (List.mem_of_getElem? (i := 195) rfl)) rfl, List.forall_mem_cons.mpr ⟨jin (jt1 (List.mem_of_getElem? (i := 197) rfl)) rfl, List.forall_mem_cons.mpr ⟨jin (jts (List.mem_of_getElem? (i := 4) rfl)) rfl, fun _ h => absurd h List.not_mem_nil⟩⟩⟩⟩⟩
theorem ww_H_198 : ∀ w ∈ jwV "StrataHouse" 198 "StrataHouse" y_H_raiseLayers (.code y_H_raiseLayers c_H_raiseLayers 5 (some .boolean)), w ∈ jTs := List.forall_mem_cons.mpr ⟨jin (jt1 (List.mem_of_getElem? (i := 202) rfl)) rfl, List.forall_mem_cons.mpr ⟨jin (jt1 (List.mem_of_getElem? (i := 1) rfl)) rfl, List.forall_mem_cons.mpr ⟨jin (jt1 (List.mem_of_getElem? (i := 199) rfl)) rfl, List.forall_mem_cons.mpr ⟨jin (jt1 (List.mem_of_getElem? (i := 201) rfl)) rfl, List.forall_mem_cons.mpr ⟨jin (jts (List.mem_of_getElem? (i := 5) rfl)) rfl, fun _ h => absurd h List.not_mem_nil⟩⟩⟩⟩⟩
theorem ww_H_210 : ∀ w ∈ jwN "StrataHouse" 210 "StrataHouse$Rule" y_R_leastLayer (.code y_R_leastLayer c_R_leastLayer 5 (some .int)) "StrataHouse", w ∈ jTs := List.forall_mem_cons.mpr ⟨jin (jt1 (List.mem_of_getElem? (i := 206) rfl)) rfl, List.forall_mem_cons.mpr ⟨jin (jt1 (List.mem_of_getElem? (i := 4) rfl)) rfl, List.forall_mem_cons.mpr ⟨jin (jt1 (List.mem_of_getElem? (i := 203) rfl)) rfl, List.forall_mem_cons.mpr ⟨jin (jt1 (List.mem_of_getElem? (i := 205) rfl)) rfl, List.forall_mem_cons.mpr ⟨jin (jts (List.mem_of_getElem? (i := 6) rfl)) rfl, fun _ h => absurd h List.not_mem_nil⟩⟩⟩⟩⟩
theorem ww_R_53 : ∀ w ∈ jwS "StrataHouse$Rule" 53 y_Math_max (.code y_Math_max c_Math_max 2 (some .int)), w ∈ jTs := List.forall_mem_cons.mpr ⟨jin (jt1 (List.mem_of_getElem? (i := 209) rfl)) rfl, List.forall_mem_cons.mpr ⟨jin (jt1 (List.mem_of_getElem? (i := 14) rfl)) rfl, List.forall_mem_cons.mpr ⟨jin (jt1 (List.mem_of_getElem? (i := 207) rfl)) rfl, List.forall_mem_cons.mpr ⟨jin (jt1 (List.mem_of_getElem? (i := 208) rfl)) rfl, fun _ h => absurd h List.not_mem_nil⟩⟩⟩⟩
theorem ww_L_7 : ∀ w ∈ jwV "StrataHouseLaw" 7 "StrataHouse" y_H_relation (.code y_H_relation c_H_relation 2 (some .int)), w ∈ jTs := List.forall_mem_cons.mpr ⟨jin (jt1 (List.mem_of_getElem? (i := 218) rfl)) rfl, List.forall_mem_cons.mpr ⟨jin (jt1 (List.mem_of_getElem? (i := 1) rfl)) rfl, List.forall_mem_cons.mpr ⟨jin (jt1 (List.mem_of_getElem? (i := 215) rfl)) rfl, List.forall_mem_cons.mpr ⟨jin (jt1 (List.mem_of_getElem? (i := 216) rfl)) rfl, List.forall_mem_cons.mpr ⟨jin (jt1 (List.mem_of_getElem? (i := 217) rfl)) rfl, fun _ h => absurd h List.not_mem_nil⟩⟩⟩⟩⟩
theorem ww_L_17 : ∀ w ∈ jwV "StrataHouseLaw" 17 "StrataHouse" y_H_give (.code y_H_give c_H_give 4 (some .boolean)), w ∈ jTs := List.forall_mem_cons.mpr ⟨jin (jt2 (List.mem_of_getElem? (i := 70) rfl)) rfl, List.forall_mem_cons.mpr ⟨jin (jt1 (List.mem_of_getElem? (i := 1) rfl)) rfl, List.forall_mem_cons.mpr ⟨jin (jt2 (List.mem_of_getElem? (i := 67) rfl)) rfl, List.forall_mem_cons.mpr ⟨jin (jt2 (List.mem_of_getElem? (i := 68) rfl)) rfl, List.forall_mem_cons.mpr ⟨jin (jt2 (List.mem_of_getElem? (i := 69) rfl)) rfl, fun _ h => absurd h List.not_mem_nil⟩⟩⟩⟩⟩
theorem ww_H_72 : ∀ w ∈ jwV "StrataHouse" 72 "StrataHouse" y_H_checkFact (.code y_H_checkFact c_H_checkFact 4 none), w ∈ jTs := List.forall_mem_cons.mpr ⟨jin (jt2 (List.mem_of_getElem? (i := 74) rfl)) rfl, List.forall_mem_cons.mpr ⟨jin (jt1 (List.mem_of_getElem? (i := 1) rfl)) rfl, List.forall_mem_cons.mpr ⟨jin (jt2 (List.mem_of_getElem? (i := 71) rfl)) rfl, List.forall_mem_cons.mpr ⟨jin (jt2 (List.mem_of_getElem? (i := 73) rfl)) rfl, List.forall_mem_cons.mpr ⟨jin (jts (List.mem_of_getElem? (i := 8) rfl)) rfl, fun _ h => absurd h List.not_mem_nil⟩⟩⟩⟩⟩
theorem ww_H_114 : ∀ w ∈ jwV "StrataHouse" 114 "StrataHouse" y_H_checkRelation (.code y_H_checkRelation c_H_checkRelation 2 none), w ∈ jTs := List.forall_mem_cons.mpr ⟨jin (jt2 (List.mem_of_getElem? (i := 78) rfl)) rfl, List.forall_mem_cons.mpr ⟨jin (jt1 (List.mem_of_getElem? (i := 1) rfl)) rfl, List.forall_mem_cons.mpr ⟨jin (jt2 (List.mem_of_getElem? (i := 75) rfl)) rfl, List.forall_mem_cons.mpr ⟨jin (jt2 (List.mem_of_getElem? (i := 77) rfl)) rfl, List.forall_mem_cons.mpr ⟨jin (jts (List.mem_of_getElem? (i := 9) rfl)) rfl, fun _ h => absurd h List.not_mem_nil⟩⟩⟩⟩⟩
theorem ww_H_85 : ∀ w ∈ jwV "StrataHouse" 85 "StrataHouse" y_H_firstOf (.code y_H_firstOf c_H_firstOf 3 (some .int)), w ∈ jTs := List.forall_mem_cons.mpr ⟨jin (jt2 (List.mem_of_getElem? (i := 83) rfl)) rfl, List.forall_mem_cons.mpr ⟨jin (jt1 (List.mem_of_getElem? (i := 1) rfl)) rfl, List.forall_mem_cons.mpr ⟨jin (jt2 (List.mem_of_getElem? (i := 80) rfl)) rfl, List.forall_mem_cons.mpr ⟨jin (jt2 (List.mem_of_getElem? (i := 82) rfl)) rfl, List.forall_mem_cons.mpr ⟨jin (jts (List.mem_of_getElem? (i := 10) rfl)) rfl, fun _ h => absurd h List.not_mem_nil⟩⟩⟩⟩⟩
theorem ww_H_156 : ∀ w ∈ jwS "StrataHouse" 156 y_H_isConstant (.code y_H_isConstant c_H_isConstant 1 (some .boolean)), w ∈ jTs := List.forall_mem_cons.mpr ⟨jin (jt2 (List.mem_of_getElem? (i := 86) rfl)) rfl, List.forall_mem_cons.mpr ⟨jin (jt1 (List.mem_of_getElem? (i := 1) rfl)) rfl, List.forall_mem_cons.mpr ⟨jin (jt2 (List.mem_of_getElem? (i := 84) rfl)) rfl, List.forall_mem_cons.mpr ⟨jin (jt2 (List.mem_of_getElem? (i := 85) rfl)) rfl, fun _ h => absurd h List.not_mem_nil⟩⟩⟩⟩
theorem ww_H_89 : ∀ w ∈ jwV "StrataHouse" 89 "StrataHouse" y_H_secondOf (.code y_H_secondOf c_H_secondOf 3 (some .int)), w ∈ jTs := List.forall_mem_cons.mpr ⟨jin (jt2 (List.mem_of_getElem? (i := 90) rfl)) rfl, List.forall_mem_cons.mpr ⟨jin (jt1 (List.mem_of_getElem? (i := 1) rfl)) rfl, List.forall_mem_cons.mpr ⟨jin (jt2 (List.mem_of_getElem? (i := 87) rfl)) rfl, List.forall_mem_cons.mpr ⟨jin (jt2 (List.mem_of_getElem? (i := 89) rfl)) rfl, List.forall_mem_cons.mpr ⟨jin (jts (List.mem_of_getElem? (i := 11) rfl)) rfl, fun _ h => absurd h List.not_mem_nil⟩⟩⟩⟩⟩
theorem ww_H_76 : ∀ w ∈ jwV "StrataHouse" 76 "StrataHouse" y_H_setGiven (.code y_H_setGiven c_H_setGiven 7 (some .boolean)), w ∈ jTs := List.forall_mem_cons.mpr ⟨jin (jt2 (List.mem_of_getElem? (i := 95) rfl)) rfl, List.forall_mem_cons.mpr ⟨jin (jt1 (List.mem_of_getElem? (i := 1) rfl)) rfl, List.forall_mem_cons.mpr ⟨jin (jt2 (List.mem_of_getElem? (i := 92) rfl)) rfl, List.forall_mem_cons.mpr ⟨jin (jt2 (List.mem_of_getElem? (i := 94) rfl)) rfl, List.forall_mem_cons.mpr ⟨jin (jts (List.mem_of_getElem? (i := 12) rfl)) rfl, fun _ h => absurd h List.not_mem_nil⟩⟩⟩⟩⟩
theorem ww_H_174 : ∀ w ∈ jwS "StrataHouse" 174 y_H_rowAt (.code y_H_rowAt c_H_rowAt 2 (some .int)), w ∈ jTs := List.forall_mem_cons.mpr ⟨jin (jt2 (List.mem_of_getElem? (i := 98) rfl)) rfl, List.forall_mem_cons.mpr ⟨jin (jt1 (List.mem_of_getElem? (i := 1) rfl)) rfl, List.forall_mem_cons.mpr ⟨jin (jt2 (List.mem_of_getElem? (i := 96) rfl)) rfl, List.forall_mem_cons.mpr ⟨jin (jt2 (List.mem_of_getElem? (i := 97) rfl)) rfl, fun _ h => absurd h List.not_mem_nil⟩⟩⟩⟩
theorem ww_H_184 : ∀ w ∈ jwS "StrataHouse" 184 y_H_hasBit (.code y_H_hasBit c_H_hasBit 2 (some .boolean)), w ∈ jTs := List.forall_mem_cons.mpr ⟨jin (jt2 (List.mem_of_getElem? (i := 101) rfl)) rfl, List.forall_mem_cons.mpr ⟨jin (jt1 (List.mem_of_getElem? (i := 1) rfl)) rfl, List.forall_mem_cons.mpr ⟨jin (jt2 (List.mem_of_getElem? (i := 99) rfl)) rfl, List.forall_mem_cons.mpr ⟨jin (jt2 (List.mem_of_getElem? (i := 100) rfl)) rfl, fun _ h => absurd h List.not_mem_nil⟩⟩⟩⟩
theorem ww_L_21 : ∀ w ∈ jwV "StrataHouseLaw" 21 "StrataHouse" y_H_take (.code y_H_take c_H_take 4 (some .boolean)), w ∈ jTs := List.forall_mem_cons.mpr ⟨jin (jt2 (List.mem_of_getElem? (i := 108) rfl)) rfl, List.forall_mem_cons.mpr ⟨jin (jt1 (List.mem_of_getElem? (i := 1) rfl)) rfl, List.forall_mem_cons.mpr ⟨jin (jt2 (List.mem_of_getElem? (i := 105) rfl)) rfl, List.forall_mem_cons.mpr ⟨jin (jt2 (List.mem_of_getElem? (i := 106) rfl)) rfl, List.forall_mem_cons.mpr ⟨jin (jt2 (List.mem_of_getElem? (i := 107) rfl)) rfl, fun _ h => absurd h List.not_mem_nil⟩⟩⟩⟩⟩
theorem ww_L_24 : ∀ w ∈ jwV "StrataHouseLaw" 24 "StrataHouse" y_H_rule (.code y_H_rule c_H_rule 4 (some .int)), w ∈ jTs := List.forall_mem_cons.mpr ⟨jin (jt2 (List.mem_of_getElem? (i := 115) rfl)) rfl, List.forall_mem_cons.mpr ⟨jin (jt1 (List.mem_of_getElem? (i := 1) rfl)) rfl, List.forall_mem_cons.mpr ⟨jin (jt2 (List.mem_of_getElem? (i := 112) rfl)) rfl, List.forall_mem_cons.mpr ⟨jin (jt2 (List.mem_of_getElem? (i := 113) rfl)) rfl, List.forall_mem_cons.mpr ⟨jin (jt2 (List.mem_of_getElem? (i := 114) rfl)) rfl, fun _ h => absurd h List.not_mem_nil⟩⟩⟩⟩⟩
theorem ww_H_80 : ∀ w ∈ jwV "StrataHouse" 80 "StrataHouse" y_H_checkTerms (.code y_H_checkTerms c_H_checkTerms 4 none), w ∈ jTs := List.forall_mem_cons.mpr ⟨jin (jt2 (List.mem_of_getElem? (i := 119) rfl)) rfl, List.forall_mem_cons.mpr ⟨jin (jt1 (List.mem_of_getElem? (i := 1) rfl)) rfl, List.forall_mem_cons.mpr ⟨jin (jt2 (List.mem_of_getElem? (i := 116) rfl)) rfl, List.forall_mem_cons.mpr ⟨jin (jt2 (List.mem_of_getElem? (i := 118) rfl)) rfl, List.forall_mem_cons.mpr ⟨jin (jts (List.mem_of_getElem? (i := 13) rfl)) rfl, fun _ h => absurd h List.not_mem_nil⟩⟩⟩⟩⟩
theorem ww_H_162 : ∀ w ∈ jwS "StrataHouse" 162 y_H_isTerm (.code y_H_isTerm c_H_isTerm 1 (some .boolean)), w ∈ jTs := List.forall_mem_cons.mpr ⟨jin (jt2 (List.mem_of_getElem? (i := 122) rfl)) rfl, List.forall_mem_cons.mpr ⟨jin (jt1 (List.mem_of_getElem? (i := 1) rfl)) rfl, List.forall_mem_cons.mpr ⟨jin (jt2 (List.mem_of_getElem? (i := 120) rfl)) rfl, List.forall_mem_cons.mpr ⟨jin (jt2 (List.mem_of_getElem? (i := 121) rfl)) rfl, fun _ h => absurd h List.not_mem_nil⟩⟩⟩⟩
theorem ww_H_92 : ∀ w ∈ jwN "StrataHouse" 92 "StrataHouse$Rule" y_R_begin (.code y_R_begin c_R_begin 4 none) "StrataHouse", w ∈ jTs := List.forall_mem_cons.mpr ⟨jin (jt2 (List.mem_of_getElem? (i := 128) rfl)) rfl, List.forall_mem_cons.mpr ⟨jin (jt1 (List.mem_of_getElem? (i := 4) rfl)) rfl, List.forall_mem_cons.mpr ⟨jin (jt2 (List.mem_of_getElem? (i := 125) rfl)) rfl, List.forall_mem_cons.mpr ⟨jin (jt2 (List.mem_of_getElem? (i := 127) rfl)) rfl, List.forall_mem_cons.mpr ⟨jin (jts (List.mem_of_getElem? (i := 14) rfl)) rfl, fun _ h => absurd h List.not_mem_nil⟩⟩⟩⟩⟩
theorem ww_R_22 : ∀ w ∈ jwN "StrataHouse$Rule" 22 "StrataHouse$Atom" y_A_become (.code y_A_become c_A_become 5 none) "StrataHouse", w ∈ jTs := List.forall_mem_cons.mpr ⟨jin (jt2 (List.mem_of_getElem? (i := 132) rfl)) rfl, List.forall_mem_cons.mpr ⟨jin (jt1 (List.mem_of_getElem? (i := 5) rfl)) rfl, List.forall_mem_cons.mpr ⟨jin (jt2 (List.mem_of_getElem? (i := 129) rfl)) rfl, List.forall_mem_cons.mpr ⟨jin (jt2 (List.mem_of_getElem? (i := 131) rfl)) rfl, List.forall_mem_cons.mpr ⟨jin (jts (List.mem_of_getElem? (i := 15) rfl)) rfl, fun _ h => absurd h List.not_mem_nil⟩⟩⟩⟩⟩
theorem ww_R_30 : ∀ w ∈ jwN "StrataHouse$Rule" 30 "StrataHouse$Atom" y_A_variables (.code y_A_variables c_A_variables 1 (some .int)) "StrataHouse", w ∈ jTs := List.forall_mem_cons.mpr ⟨jin (jt2 (List.mem_of_getElem? (i := 136) rfl)) rfl, List.forall_mem_cons.mpr ⟨jin (jt1 (List.mem_of_getElem? (i := 5) rfl)) rfl, List.forall_mem_cons.mpr ⟨jin (jt2 (List.mem_of_getElem? (i := 133) rfl)) rfl, List.forall_mem_cons.mpr ⟨jin (jt2 (List.mem_of_getElem? (i := 135) rfl)) rfl, List.forall_mem_cons.mpr ⟨jin (jts (List.mem_of_getElem? (i := 16) rfl)) rfl, fun _ h => absurd h List.not_mem_nil⟩⟩⟩⟩⟩
theorem ww_L_28 : ∀ w ∈ jwV "StrataHouseLaw" 28 "StrataHouse" y_H_literal (.code y_H_literal c_H_literal 6 (some .int)), w ∈ jTs := List.forall_mem_cons.mpr ⟨jin (jt2 (List.mem_of_getElem? (i := 145) rfl)) rfl, List.forall_mem_cons.mpr ⟨jin (jt1 (List.mem_of_getElem? (i := 1) rfl)) rfl, List.forall_mem_cons.mpr ⟨jin (jt2 (List.mem_of_getElem? (i := 142) rfl)) rfl, List.forall_mem_cons.mpr ⟨jin (jt2 (List.mem_of_getElem? (i := 143) rfl)) rfl, List.forall_mem_cons.mpr ⟨jin (jt2 (List.mem_of_getElem? (i := 144) rfl)) rfl, fun _ h => absurd h List.not_mem_nil⟩⟩⟩⟩⟩
theorem ww_H_95 : ∀ w ∈ jwV "StrataHouse" 95 "StrataHouse" y_H_checkSomeRule (.code y_H_checkSomeRule c_H_checkSomeRule 1 none), w ∈ jTs := List.forall_mem_cons.mpr ⟨jin (jt2 (List.mem_of_getElem? (i := 149) rfl)) rfl, List.forall_mem_cons.mpr ⟨jin (jt1 (List.mem_of_getElem? (i := 1) rfl)) rfl, List.forall_mem_cons.mpr ⟨jin (jt2 (List.mem_of_getElem? (i := 146) rfl)) rfl, List.forall_mem_cons.mpr ⟨jin (jt2 (List.mem_of_getElem? (i := 148) rfl)) rfl, List.forall_mem_cons.mpr ⟨jin (jts (List.mem_of_getElem? (i := 17) rfl)) rfl, fun _ h => absurd h List.not_mem_nil⟩⟩⟩⟩⟩
theorem ww_H_98 : ∀ w ∈ jwN "StrataHouse" 98 "StrataHouse$Rule" y_R_isFull (.code y_R_isFull c_R_isFull 1 (some .boolean)) "StrataHouse", w ∈ jTs := List.forall_mem_cons.mpr ⟨jin (jt2 (List.mem_of_getElem? (i := 169) rfl)) rfl, List.forall_mem_cons.mpr ⟨jin (jt1 (List.mem_of_getElem? (i := 4) rfl)) rfl, List.forall_mem_cons.mpr ⟨jin (jt2 (List.mem_of_getElem? (i := 166) rfl)) rfl, List.forall_mem_cons.mpr ⟨jin (jt2 (List.mem_of_getElem? (i := 168) rfl)) rfl, List.forall_mem_cons.mpr ⟨jin (jts (List.mem_of_getElem? (i := 18) rfl)) rfl, fun _ h => absurd h List.not_mem_nil⟩⟩⟩⟩⟩
theorem ww_H_104 : ∀ w ∈ jwN "StrataHouse" 104 "StrataHouse$Rule" y_R_add (.code y_R_add c_R_add 6 none) "StrataHouse", w ∈ jTs := List.forall_mem_cons.mpr ⟨jin (jt2 (List.mem_of_getElem? (i := 174) rfl)) rfl, List.forall_mem_cons.mpr ⟨jin (jt1 (List.mem_of_getElem? (i := 4) rfl)) rfl, List.forall_mem_cons.mpr ⟨jin (jt2 (List.mem_of_getElem? (i := 171) rfl)) rfl, List.forall_mem_cons.mpr ⟨jin (jt2 (List.mem_of_getElem? (i := 173) rfl)) rfl, List.forall_mem_cons.mpr ⟨jin (jts (List.mem_of_getElem? (i := 19) rfl)) rfl, fun _ h => absurd h List.not_mem_nil⟩⟩⟩⟩⟩
theorem ww_R_42 : ∀ w ∈ jwV "StrataHouse$Rule" 42 "StrataHouse$Rule" y_R_isFull (.code y_R_isFull c_R_isFull 1 (some .boolean)), w ∈ jTs := List.forall_mem_cons.mpr ⟨jin (jt2 (List.mem_of_getElem? (i := 169) rfl)) rfl, List.forall_mem_cons.mpr ⟨jin (jt1 (List.mem_of_getElem? (i := 4) rfl)) rfl, List.forall_mem_cons.mpr ⟨jin (jt2 (List.mem_of_getElem? (i := 175) rfl)) rfl, List.forall_mem_cons.mpr ⟨jin (jt2 (List.mem_of_getElem? (i := 168) rfl)) rfl, List.forall_mem_cons.mpr ⟨jin (jts (List.mem_of_getElem? (i := 18) rfl)) rfl, fun _ h => absurd h List.not_mem_nil⟩⟩⟩⟩⟩
theorem ww_L_34 : ∀ w ∈ jwV "StrataHouseLaw" 34 "StrataHouse" y_H_unrule (.code y_H_unrule c_H_unrule 1 none), w ∈ jTs := List.forall_mem_cons.mpr ⟨jin (jt2 (List.mem_of_getElem? (i := 182) rfl)) rfl, List.forall_mem_cons.mpr ⟨jin (jt1 (List.mem_of_getElem? (i := 1) rfl)) rfl, List.forall_mem_cons.mpr ⟨jin (jt2 (List.mem_of_getElem? (i := 179) rfl)) rfl, List.forall_mem_cons.mpr ⟨jin (jt2 (List.mem_of_getElem? (i := 180) rfl)) rfl, List.forall_mem_cons.mpr ⟨jin (jt2 (List.mem_of_getElem? (i := 181) rfl)) rfl, fun _ h => absurd h List.not_mem_nil⟩⟩⟩⟩⟩
theorem ww_L_37 : ∀ w ∈ jwV "StrataHouseLaw" 37 "StrataHouse" y_H_layer (.code y_H_layer c_H_layer 2 (some .int)), w ∈ jTs := List.forall_mem_cons.mpr ⟨jin (jt2 (List.mem_of_getElem? (i := 189) rfl)) rfl, List.forall_mem_cons.mpr ⟨jin (jt1 (List.mem_of_getElem? (i := 1) rfl)) rfl, List.forall_mem_cons.mpr ⟨jin (jt2 (List.mem_of_getElem? (i := 186) rfl)) rfl, List.forall_mem_cons.mpr ⟨jin (jt2 (List.mem_of_getElem? (i := 187) rfl)) rfl, List.forall_mem_cons.mpr ⟨jin (jt2 (List.mem_of_getElem? (i := 188) rfl)) rfl, fun _ h => absurd h List.not_mem_nil⟩⟩⟩⟩⟩
theorem ww_H_118 : ∀ w ∈ jwV "StrataHouse" 118 "StrataHouse" y_H_checkNoFault (.code y_H_checkNoFault c_H_checkNoFault 1 none), w ∈ jTs := List.forall_mem_cons.mpr ⟨jin (jt2 (List.mem_of_getElem? (i := 193) rfl)) rfl, List.forall_mem_cons.mpr ⟨jin (jt1 (List.mem_of_getElem? (i := 1) rfl)) rfl, List.forall_mem_cons.mpr ⟨jin (jt2 (List.mem_of_getElem? (i := 190) rfl)) rfl, List.forall_mem_cons.mpr ⟨jin (jt2 (List.mem_of_getElem? (i := 192) rfl)) rfl, List.forall_mem_cons.mpr ⟨jin (jts (List.mem_of_getElem? (i := 20) rfl)) rfl, fun _ h => absurd h List.not_mem_nil⟩⟩⟩⟩⟩
theorem ww_L_40 : ∀ w ∈ jwV "StrataHouseLaw" 40 "StrataHouse" y_H_count (.code y_H_count c_H_count 5 (some .int)), w ∈ jTs := List.forall_mem_cons.mpr ⟨jin (jt2 (List.mem_of_getElem? (i := 201) rfl)) rfl, List.forall_mem_cons.mpr ⟨jin (jt1 (List.mem_of_getElem? (i := 1) rfl)) rfl, List.forall_mem_cons.mpr ⟨jin (jt2 (List.mem_of_getElem? (i := 198) rfl)) rfl, List.forall_mem_cons.mpr ⟨jin (jt2 (List.mem_of_getElem? (i := 199) rfl)) rfl, List.forall_mem_cons.mpr ⟨jin (jt2 (List.mem_of_getElem? (i := 200) rfl)) rfl, fun _ h => absurd h List.not_mem_nil⟩⟩⟩⟩⟩
theorem ww_H_121 : ∀ w ∈ jwV "StrataHouse" 121 "StrataHouse" y_H_settle (.code y_H_settle c_H_settle 5 none), w ∈ jTs := List.forall_mem_cons.mpr ⟨jin (jt2 (List.mem_of_getElem? (i := 205) rfl)) rfl, List.forall_mem_cons.mpr ⟨jin (jt1 (List.mem_of_getElem? (i := 1) rfl)) rfl, List.forall_mem_cons.mpr ⟨jin (jt2 (List.mem_of_getElem? (i := 202) rfl)) rfl, List.forall_mem_cons.mpr ⟨jin (jt2 (List.mem_of_getElem? (i := 204) rfl)) rfl, List.forall_mem_cons.mpr ⟨jin (jts (List.mem_of_getElem? (i := 21) rfl)) rfl, fun _ h => absurd h List.not_mem_nil⟩⟩⟩⟩⟩
theorem ww_H_219 : ∀ w ∈ jwV "StrataHouse" 219 "StrataHouse" y_H_rankGiven (.code y_H_rankGiven c_H_rankGiven 3 none), w ∈ jTs := List.forall_mem_cons.mpr ⟨jin (jt2 (List.mem_of_getElem? (i := 209) rfl)) rfl, List.forall_mem_cons.mpr ⟨jin (jt1 (List.mem_of_getElem? (i := 1) rfl)) rfl, List.forall_mem_cons.mpr ⟨jin (jt2 (List.mem_of_getElem? (i := 206) rfl)) rfl, List.forall_mem_cons.mpr ⟨jin (jt2 (List.mem_of_getElem? (i := 208) rfl)) rfl, List.forall_mem_cons.mpr ⟨jin (jts (List.mem_of_getElem? (i := 22) rfl)) rfl, fun _ h => absurd h List.not_mem_nil⟩⟩⟩⟩⟩
theorem ww_H_222 : ∀ w ∈ jwV "StrataHouse" 222 "StrataHouse" y_H_topLayer (.code y_H_topLayer c_H_topLayer 3 (some .int)), w ∈ jTs := List.forall_mem_cons.mpr ⟨jin (jt2 (List.mem_of_getElem? (i := 213) rfl)) rfl, List.forall_mem_cons.mpr ⟨jin (jt1 (List.mem_of_getElem? (i := 1) rfl)) rfl, List.forall_mem_cons.mpr ⟨jin (jt2 (List.mem_of_getElem? (i := 210) rfl)) rfl, List.forall_mem_cons.mpr ⟨jin (jt2 (List.mem_of_getElem? (i := 212) rfl)) rfl, List.forall_mem_cons.mpr ⟨jin (jts (List.mem_of_getElem? (i := 23) rfl)) rfl, fun _ h => absurd h List.not_mem_nil⟩⟩⟩⟩⟩
theorem ww_H_214 : ∀ w ∈ jwS "StrataHouse" 214 y_Math_max (.code y_Math_max c_Math_max 2 (some .int)), w ∈ jTs := List.forall_mem_cons.mpr ⟨jin (jt1 (List.mem_of_getElem? (i := 209) rfl)) rfl, List.forall_mem_cons.mpr ⟨jin (jt1 (List.mem_of_getElem? (i := 14) rfl)) rfl, List.forall_mem_cons.mpr ⟨jin (jt2 (List.mem_of_getElem? (i := 214) rfl)) rfl, List.forall_mem_cons.mpr ⟨jin (jt1 (List.mem_of_getElem? (i := 208) rfl)) rfl, fun _ h => absurd h List.not_mem_nil⟩⟩⟩⟩
theorem ww_H_129 : ∀ w ∈ jwV "StrataHouse" 129 "StrataHouse" y_H_look (.code y_H_look c_H_look 4 none), w ∈ jTs := List.forall_mem_cons.mpr ⟨jin (jt2 (List.mem_of_getElem? (i := 218) rfl)) rfl, List.forall_mem_cons.mpr ⟨jin (jt1 (List.mem_of_getElem? (i := 1) rfl)) rfl, List.forall_mem_cons.mpr ⟨jin (jt2 (List.mem_of_getElem? (i := 215) rfl)) rfl, List.forall_mem_cons.mpr ⟨jin (jt2 (List.mem_of_getElem? (i := 217) rfl)) rfl, List.forall_mem_cons.mpr ⟨jin (jts (List.mem_of_getElem? (i := 24) rfl)) rfl, fun _ h => absurd h List.not_mem_nil⟩⟩⟩⟩⟩
theorem ww_H_269 : ∀ w ∈ jwN "StrataHouse" 269 "StrataHouse$Sight" y_S_forget (.code y_S_forget c_S_forget 1 none) "StrataHouse", w ∈ jTs := List.forall_mem_cons.mpr ⟨jin (jt2 (List.mem_of_getElem? (i := 222) rfl)) rfl, List.forall_mem_cons.mpr ⟨jin (jt1 (List.mem_of_getElem? (i := 3) rfl)) rfl, List.forall_mem_cons.mpr ⟨jin (jt2 (List.mem_of_getElem? (i := 219) rfl)) rfl, List.forall_mem_cons.mpr ⟨jin (jt2 (List.mem_of_getElem? (i := 221) rfl)) rfl, List.forall_mem_cons.mpr ⟨jin (jts (List.mem_of_getElem? (i := 25) rfl)) rfl, fun _ h => absurd h List.not_mem_nil⟩⟩⟩⟩⟩
theorem ww_S_27 : ∀ w ∈ jwS "StrataHouse$Sight" 27 y_Arrays_fill (.code y_Arrays_fill c_Arrays_fill 4 none), w ∈ jTs := List.forall_mem_cons.mpr ⟨jin (jt1 (List.mem_of_getElem? (i := 174) rfl)) rfl, List.forall_mem_cons.mpr ⟨jin (jt1 (List.mem_of_getElem? (i := 7) rfl)) rfl, List.forall_mem_cons.mpr ⟨jin (jt2 (List.mem_of_getElem? (i := 223) rfl)) rfl, List.forall_mem_cons.mpr ⟨jin (jt1 (List.mem_of_getElem? (i := 173) rfl)) rfl, fun _ h => absurd h List.not_mem_nil⟩⟩⟩⟩
theorem ww_H_270 : ∀ w ∈ jwV "StrataHouse" 270 "StrataHouse" y_H_lookAt (.code y_H_lookAt c_H_lookAt 6 none), w ∈ jTs := List.forall_mem_cons.mpr ⟨jin (jt2 (List.mem_of_getElem? (i := 228) rfl)) rfl, List.forall_mem_cons.mpr ⟨jin (jt1 (List.mem_of_getElem? (i := 1) rfl)) rfl, List.forall_mem_cons.mpr ⟨jin (jt2 (List.mem_of_getElem? (i := 225) rfl)) rfl, List.forall_mem_cons.mpr ⟨jin (jt2 (List.mem_of_getElem? (i := 227) rfl)) rfl, List.forall_mem_cons.mpr ⟨jin (jts (List.mem_of_getElem? (i := 26) rfl)) rfl, fun _ h => absurd h List.not_mem_nil⟩⟩⟩⟩⟩
theorem ww_H_124 : ∀ w ∈ jwS "StrataHouse" 124 y_H_factAt (.code y_H_factAt c_H_factAt 3 (some .int)), w ∈ jTs := List.forall_mem_cons.mpr ⟨jin (jt2 (List.mem_of_getElem? (i := 231) rfl)) rfl, List.forall_mem_cons.mpr ⟨jin (jt1 (List.mem_of_getElem? (i := 1) rfl)) rfl, List.forall_mem_cons.mpr ⟨jin (jt2 (List.mem_of_getElem? (i := 229) rfl)) rfl, List.forall_mem_cons.mpr ⟨jin (jt2 (List.mem_of_getElem? (i := 230) rfl)) rfl, fun _ h => absurd h List.not_mem_nil⟩⟩⟩⟩
theorem ww_H_266 : ∀ w ∈ jwN "StrataHouse" 266 "StrataHouse$Sight" y_S_show (.code y_S_show c_S_show 4 none) "StrataHouse", w ∈ jTs := List.forall_mem_cons.mpr ⟨jin (jt2 (List.mem_of_getElem? (i := 235) rfl)) rfl, List.forall_mem_cons.mpr ⟨jin (jt1 (List.mem_of_getElem? (i := 3) rfl)) rfl, List.forall_mem_cons.mpr ⟨jin (jt2 (List.mem_of_getElem? (i := 232) rfl)) rfl, List.forall_mem_cons.mpr ⟨jin (jt2 (List.mem_of_getElem? (i := 234) rfl)) rfl, List.forall_mem_cons.mpr ⟨jin (jts (List.mem_of_getElem? (i := 27) rfl)) rfl, fun _ h => absurd h List.not_mem_nil⟩⟩⟩⟩⟩
theorem ww_S_33 : ∀ w ∈ jwSN "StrataHouse$Sight" 33 y_H_rowAt (.code y_H_rowAt c_H_rowAt 2 (some .int)) "StrataHouse", w ∈ jTs := List.forall_mem_cons.mpr ⟨jin (jt2 (List.mem_of_getElem? (i := 98) rfl)) rfl, List.forall_mem_cons.mpr ⟨jin (jt1 (List.mem_of_getElem? (i := 1) rfl)) rfl, List.forall_mem_cons.mpr ⟨jin (jt2 (List.mem_of_getElem? (i := 236) rfl)) rfl, List.forall_mem_cons.mpr ⟨jin (jt2 (List.mem_of_getElem? (i := 97) rfl)) rfl, fun _ h => absurd h List.not_mem_nil⟩⟩⟩⟩
theorem ww_H_225 : ∀ w ∈ jwV "StrataHouse" 225 "StrataHouse" y_H_bringRound (.code y_H_bringRound c_H_bringRound 6 none), w ∈ jTs := List.forall_mem_cons.mpr ⟨jin (jt3 (List.mem_of_getElem? (i := 0) rfl)) rfl, List.forall_mem_cons.mpr ⟨jin (jt1 (List.mem_of_getElem? (i := 1) rfl)) rfl, List.forall_mem_cons.mpr ⟨jin (jt2 (List.mem_of_getElem? (i := 237) rfl)) rfl, List.forall_mem_cons.mpr ⟨jin (jt2 (List.mem_of_getElem? (i := 239) rfl)) rfl, List.forall_mem_cons.mpr ⟨jin (jts (List.mem_of_getElem? (i := 28) rfl)) rfl, fun _ h => absurd h List.not_mem_nil⟩⟩⟩⟩⟩
theorem ww_H_234 : ∀ w ∈ jwV "StrataHouse" 234 "StrataHouse" y_H_bringByRule (.code y_H_bringByRule c_H_bringByRule 10 none), w ∈ jTs := List.forall_mem_cons.mpr ⟨jin (jt3 (List.mem_of_getElem? (i := 4) rfl)) rfl, List.forall_mem_cons.mpr ⟨jin (jt1 (List.mem_of_getElem? (i := 1) rfl)) rfl, List.forall_mem_cons.mpr ⟨jin (jt3 (List.mem_of_getElem? (i := 1) rfl)) rfl, List.forall_mem_cons.mpr ⟨jin (jt3 (List.mem_of_getElem? (i := 3) rfl)) rfl, List.forall_mem_cons.mpr ⟨jin (jts (List.mem_of_getElem? (i := 29) rfl)) rfl, fun _ h => absurd h List.not_mem_nil⟩⟩⟩⟩⟩
theorem ww_H_238 : ∀ w ∈ jwN "StrataHouse" 238 "StrataHouse$Match" y_M_forget (.code y_M_forget c_M_forget 2 none) "StrataHouse", w ∈ jTs := List.forall_mem_cons.mpr ⟨jin (jt3 (List.mem_of_getElem? (i := 8) rfl)) rfl, List.forall_mem_cons.mpr ⟨jin (jt1 (List.mem_of_getElem? (i := 2) rfl)) rfl, List.forall_mem_cons.mpr ⟨jin (jt3 (List.mem_of_getElem? (i := 5) rfl)) rfl, List.forall_mem_cons.mpr ⟨jin (jt3 (List.mem_of_getElem? (i := 7) rfl)) rfl, List.forall_mem_cons.mpr ⟨jin (jts (List.mem_of_getElem? (i := 30) rfl)) rfl, fun _ h => absurd h List.not_mem_nil⟩⟩⟩⟩⟩
theorem ww_H_244 : ∀ w ∈ jwN "StrataHouse" 244 "StrataHouse$Match" y_M_choices (.code y_M_choices c_M_choices 6 (some .int)) "StrataHouse", w ∈ jTs := List.forall_mem_cons.mpr ⟨jin (jt3 (List.mem_of_getElem? (i := 12) rfl)) rfl, List.forall_mem_cons.mpr ⟨jin (jt1 (List.mem_of_getElem? (i := 2) rfl)) rfl, List.forall_mem_cons.mpr ⟨jin (jt3 (List.mem_of_getElem? (i := 9) rfl)) rfl, List.forall_mem_cons.mpr ⟨jin (jt3 (List.mem_of_getElem? (i := 11) rfl)) rfl, List.forall_mem_cons.mpr ⟨jin (jts (List.mem_of_getElem? (i := 31) rfl)) rfl, fun _ h => absurd h List.not_mem_nil⟩⟩⟩⟩⟩
theorem ww_M_66 : ∀ w ∈ jwV "StrataHouse$Match" 66 "StrataHouse$Match" y_M_choicesBy (.code y_M_choicesBy c_M_choicesBy 8 (some .int)), w ∈ jTs := List.forall_mem_cons.mpr ⟨jin (jt3 (List.mem_of_getElem? (i := 16) rfl)) rfl, List.forall_mem_cons.mpr ⟨jin (jt1 (List.mem_of_getElem? (i := 2) rfl)) rfl, List.forall_mem_cons.mpr ⟨jin (jt3 (List.mem_of_getElem? (i := 13) rfl)) rfl, List.forall_mem_cons.mpr ⟨jin (jt3 (List.mem_of_getElem? (i := 15) rfl)) rfl, List.forall_mem_cons.mpr ⟨jin (jts (List.mem_of_getElem? (i := 32) rfl)) rfl, fun _ h => absurd h List.not_mem_nil⟩⟩⟩⟩⟩
theorem ww_H_256 : ∀ w ∈ jwN "StrataHouse" 256 "StrataHouse$Match" y_M_bind (.code y_M_bind c_M_bind 3 (some .boolean)) "StrataHouse", w ∈ jTs := List.forall_mem_cons.mpr ⟨jin (jt3 (List.mem_of_getElem? (i := 20) rfl)) rfl, List.forall_mem_cons.mpr ⟨jin (jt1 (List.mem_of_getElem? (i := 2) rfl)) rfl, List.forall_mem_cons.mpr ⟨jin (jt3 (List.mem_of_getElem? (i := 17) rfl)) rfl, List.forall_mem_cons.mpr ⟨jin (jt3 (List.mem_of_getElem? (i := 19) rfl)) rfl, List.forall_mem_cons.mpr ⟨jin (jts (List.mem_of_getElem? (i := 33) rfl)) rfl, fun _ h => absurd h List.not_mem_nil⟩⟩⟩⟩⟩
theorem ww_H_133 : ∀ w ∈ jwN "StrataHouse" 133 "StrataHouse$Match" y_M_meets (.code y_M_meets c_M_meets 5 (some .boolean)) "StrataHouse", w ∈ jTs := List.forall_mem_cons.mpr ⟨jin (jt3 (List.mem_of_getElem? (i := 24) rfl)) rfl, List.forall_mem_cons.mpr ⟨jin (jt1 (List.mem_of_getElem? (i := 2) rfl)) rfl, List.forall_mem_cons.mpr ⟨jin (jt3 (List.mem_of_getElem? (i := 21) rfl)) rfl, List.forall_mem_cons.mpr ⟨jin (jt3 (List.mem_of_getElem? (i := 23) rfl)) rfl, List.forall_mem_cons.mpr ⟨jin (jts (List.mem_of_getElem? (i := 34) rfl)) rfl, fun _ h => absurd h List.not_mem_nil⟩⟩⟩⟩⟩
theorem ww_M_22 : ∀ w ∈ jwV "StrataHouse$Match" 22 "StrataHouse$Match" y_M_forget (.code y_M_forget c_M_forget 2 none), w ∈ jTs := List.forall_mem_cons.mpr ⟨jin (jt3 (List.mem_of_getElem? (i := 8) rfl)) rfl, List.forall_mem_cons.mpr ⟨jin (jt1 (List.mem_of_getElem? (i := 2) rfl)) rfl, List.forall_mem_cons.mpr ⟨jin (jt3 (List.mem_of_getElem? (i := 25) rfl)) rfl, List.forall_mem_cons.mpr ⟨jin (jt3 (List.mem_of_getElem? (i := 7) rfl)) rfl, List.forall_mem_cons.mpr ⟨jin (jts (List.mem_of_getElem? (i := 30) rfl)) rfl, fun _ h => absurd h List.not_mem_nil⟩⟩⟩⟩⟩
theorem ww_M_40 : ∀ w ∈ jwV "StrataHouse$Match" 40 "StrataHouse$Match" y_M_bind (.code y_M_bind c_M_bind 3 (some .boolean)), w ∈ jTs := List.forall_mem_cons.mpr ⟨jin (jt3 (List.mem_of_getElem? (i := 20) rfl)) rfl, List.forall_mem_cons.mpr ⟨jin (jt1 (List.mem_of_getElem? (i := 2) rfl)) rfl, List.forall_mem_cons.mpr ⟨jin (jt3 (List.mem_of_getElem? (i := 26) rfl)) rfl, List.forall_mem_cons.mpr ⟨jin (jt3 (List.mem_of_getElem? (i := 19) rfl)) rfl, List.forall_mem_cons.mpr ⟨jin (jts (List.mem_of_getElem? (i := 33) rfl)) rfl, fun _ h => absurd h List.not_mem_nil⟩⟩⟩⟩⟩
theorem ww_M_47 : ∀ w ∈ jwV "StrataHouse$Match" 47 "StrataHouse$Match" y_M_knownAgree (.code y_M_knownAgree c_M_knownAgree 6 (some .boolean)), w ∈ jTs := List.forall_mem_cons.mpr ⟨jin (jt3 (List.mem_of_getElem? (i := 30) rfl)) rfl, List.forall_mem_cons.mpr ⟨jin (jt1 (List.mem_of_getElem? (i := 2) rfl)) rfl, List.forall_mem_cons.mpr ⟨jin (jt3 (List.mem_of_getElem? (i := 27) rfl)) rfl, List.forall_mem_cons.mpr ⟨jin (jt3 (List.mem_of_getElem? (i := 29) rfl)) rfl, List.forall_mem_cons.mpr ⟨jin (jts (List.mem_of_getElem? (i := 35) rfl)) rfl, fun _ h => absurd h List.not_mem_nil⟩⟩⟩⟩⟩
theorem ww_M_58 : ∀ w ∈ jwN "StrataHouse$Match" 58 "StrataHouse$Sight" y_S_sees (.code y_S_sees c_S_sees 4 (some .boolean)) "StrataHouse", w ∈ jTs := List.forall_mem_cons.mpr ⟨jin (jt3 (List.mem_of_getElem? (i := 34) rfl)) rfl, List.forall_mem_cons.mpr ⟨jin (jt1 (List.mem_of_getElem? (i := 3) rfl)) rfl, List.forall_mem_cons.mpr ⟨jin (jt3 (List.mem_of_getElem? (i := 31) rfl)) rfl, List.forall_mem_cons.mpr ⟨jin (jt3 (List.mem_of_getElem? (i := 33) rfl)) rfl, List.forall_mem_cons.mpr ⟨jin (jts (List.mem_of_getElem? (i := 36) rfl)) rfl, fun _ h => absurd h List.not_mem_nil⟩⟩⟩⟩⟩
theorem ww_H_262 : ∀ w ∈ jwN "StrataHouse" 262 "StrataHouse$Match" y_M_findLeast (.code y_M_findLeast c_M_findLeast 6 (some .boolean)) "StrataHouse", w ∈ jTs := List.forall_mem_cons.mpr ⟨jin (jt3 (List.mem_of_getElem? (i := 38) rfl)) rfl, List.forall_mem_cons.mpr ⟨jin (jt1 (List.mem_of_getElem? (i := 2) rfl)) rfl, List.forall_mem_cons.mpr ⟨jin (jt3 (List.mem_of_getElem? (i := 35) rfl)) rfl, List.forall_mem_cons.mpr ⟨jin (jt3 (List.mem_of_getElem? (i := 37) rfl)) rfl, List.forall_mem_cons.mpr ⟨jin (jts (List.mem_of_getElem? (i := 37) rfl)) rfl, fun _ h => absurd h List.not_mem_nil⟩⟩⟩⟩⟩
theorem ww_M_91 : ∀ w ∈ jwV "StrataHouse$Match" 91 "StrataHouse$Match" y_M_nextOpen (.code y_M_nextOpen c_M_nextOpen 4 (some .int)), w ∈ jTs := List.forall_mem_cons.mpr ⟨jin (jt3 (List.mem_of_getElem? (i := 42) rfl)) rfl, List.forall_mem_cons.mpr ⟨jin (jt1 (List.mem_of_getElem? (i := 2) rfl)) rfl, List.forall_mem_cons.mpr ⟨jin (jt3 (List.mem_of_getElem? (i := 39) rfl)) rfl, List.forall_mem_cons.mpr ⟨jin (jt3 (List.mem_of_getElem? (i := 41) rfl)) rfl, List.forall_mem_cons.mpr ⟨jin (jts (List.mem_of_getElem? (i := 38) rfl)) rfl, fun _ h => absurd h List.not_mem_nil⟩⟩⟩⟩⟩
theorem ww_M_88 : ∀ w ∈ jwSN "StrataHouse$Match" 88 y_H_hasBit (.code y_H_hasBit c_H_hasBit 2 (some .boolean)) "StrataHouse", w ∈ jTs := List.forall_mem_cons.mpr ⟨jin (jt2 (List.mem_of_getElem? (i := 101) rfl)) rfl, List.forall_mem_cons.mpr ⟨jin (jt1 (List.mem_of_getElem? (i := 1) rfl)) rfl, List.forall_mem_cons.mpr ⟨jin (jt3 (List.mem_of_getElem? (i := 43) rfl)) rfl, List.forall_mem_cons.mpr ⟨jin (jt2 (List.mem_of_getElem? (i := 100) rfl)) rfl, fun _ h => absurd h List.not_mem_nil⟩⟩⟩⟩
theorem ww_M_95 : ∀ w ∈ jwV "StrataHouse$Match" 95 "StrataHouse$Match" y_M_choices (.code y_M_choices c_M_choices 6 (some .int)), w ∈ jTs := List.forall_mem_cons.mpr ⟨jin (jt3 (List.mem_of_getElem? (i := 12) rfl)) rfl, List.forall_mem_cons.mpr ⟨jin (jt1 (List.mem_of_getElem? (i := 2) rfl)) rfl, List.forall_mem_cons.mpr ⟨jin (jt3 (List.mem_of_getElem? (i := 44) rfl)) rfl, List.forall_mem_cons.mpr ⟨jin (jt3 (List.mem_of_getElem? (i := 11) rfl)) rfl, List.forall_mem_cons.mpr ⟨jin (jts (List.mem_of_getElem? (i := 31) rfl)) rfl, fun _ h => absurd h List.not_mem_nil⟩⟩⟩⟩⟩
theorem ww_M_98 : ∀ w ∈ jwV "StrataHouse$Match" 98 "StrataHouse$Match" y_M_findLeast (.code y_M_findLeast c_M_findLeast 6 (some .boolean)), w ∈ jTs := List.forall_mem_cons.mpr ⟨jin (jt3 (List.mem_of_getElem? (i := 38) rfl)) rfl, List.forall_mem_cons.mpr ⟨jin (jt1 (List.mem_of_getElem? (i := 2) rfl)) rfl, List.forall_mem_cons.mpr ⟨jin (jt3 (List.mem_of_getElem? (i := 45) rfl)) rfl, List.forall_mem_cons.mpr ⟨jin (jt3 (List.mem_of_getElem? (i := 37) rfl)) rfl, List.forall_mem_cons.mpr ⟨jin (jts (List.mem_of_getElem? (i := 37) rfl)) rfl, fun _ h => absurd h List.not_mem_nil⟩⟩⟩⟩⟩
theorem ww_H_228 : ∀ w ∈ jwV "StrataHouse" 228 "StrataHouse" y_H_showFresh (.code y_H_showFresh c_H_showFresh 4 (some .int)), w ∈ jTs := List.forall_mem_cons.mpr ⟨jin (jt3 (List.mem_of_getElem? (i := 49) rfl)) rfl, List.forall_mem_cons.mpr ⟨jin (jt1 (List.mem_of_getElem? (i := 1) rfl)) rfl, List.forall_mem_cons.mpr ⟨jin (jt3 (List.mem_of_getElem? (i := 46) rfl)) rfl, List.forall_mem_cons.mpr ⟨jin (jt3 (List.mem_of_getElem? (i := 48) rfl)) rfl, List.forall_mem_cons.mpr ⟨jin (jts (List.mem_of_getElem? (i := 39) rfl)) rfl, fun _ h => absurd h List.not_mem_nil⟩⟩⟩⟩⟩
theorem ww_L_43 : ∀ w ∈ jwV "StrataHouseLaw" 43 "StrataHouse" y_H_rank (.code y_H_rank c_H_rank 4 (some .int)), w ∈ jTs := List.forall_mem_cons.mpr ⟨jin (jt3 (List.mem_of_getElem? (i := 56) rfl)) rfl, List.forall_mem_cons.mpr ⟨jin (jt1 (List.mem_of_getElem? (i := 1) rfl)) rfl, List.forall_mem_cons.mpr ⟨jin (jt3 (List.mem_of_getElem? (i := 53) rfl)) rfl, List.forall_mem_cons.mpr ⟨jin (jt3 (List.mem_of_getElem? (i := 54) rfl)) rfl, List.forall_mem_cons.mpr ⟨jin (jt3 (List.mem_of_getElem? (i := 55) rfl)) rfl, fun _ h => absurd h List.not_mem_nil⟩⟩⟩⟩⟩
theorem ww_L_46 : ∀ w ∈ jwV "StrataHouseLaw" 46 "StrataHouse" y_H_ways (.code y_H_ways c_H_ways 6 (some .int)), w ∈ jTs := List.forall_mem_cons.mpr ⟨jin (jt3 (List.mem_of_getElem? (i := 63) rfl)) rfl, List.forall_mem_cons.mpr ⟨jin (jt1 (List.mem_of_getElem? (i := 1) rfl)) rfl, List.forall_mem_cons.mpr ⟨jin (jt3 (List.mem_of_getElem? (i := 60) rfl)) rfl, List.forall_mem_cons.mpr ⟨jin (jt3 (List.mem_of_getElem? (i := 61) rfl)) rfl, List.forall_mem_cons.mpr ⟨jin (jt3 (List.mem_of_getElem? (i := 62) rfl)) rfl, fun _ h => absurd h List.not_mem_nil⟩⟩⟩⟩⟩
theorem ww_H_137 : ∀ w ∈ jwN "StrataHouse" 137 "StrataHouse$Match" y_M_countInstances (.code y_M_countInstances c_M_countInstances 7 (some .int)) "StrataHouse", w ∈ jTs := List.forall_mem_cons.mpr ⟨jin (jt3 (List.mem_of_getElem? (i := 67) rfl)) rfl, List.forall_mem_cons.mpr ⟨jin (jt1 (List.mem_of_getElem? (i := 2) rfl)) rfl, List.forall_mem_cons.mpr ⟨jin (jt3 (List.mem_of_getElem? (i := 64) rfl)) rfl, List.forall_mem_cons.mpr ⟨jin (jt3 (List.mem_of_getElem? (i := 66) rfl)) rfl, List.forall_mem_cons.mpr ⟨jin (jts (List.mem_of_getElem? (i := 40) rfl)) rfl, fun _ h => absurd h List.not_mem_nil⟩⟩⟩⟩⟩
theorem ww_M_102 : ∀ w ∈ jwS "StrataHouse$Match" 102 y_Integer_bitCount (.code y_Integer_bitCount c_Integer_bitCount 1 (some .int)), w ∈ jTs := List.forall_mem_cons.mpr ⟨jin (jt3 (List.mem_of_getElem? (i := 70) rfl)) rfl, List.forall_mem_cons.mpr ⟨jin (jt1 (List.mem_of_getElem? (i := 15) rfl)) rfl, List.forall_mem_cons.mpr ⟨jin (jt3 (List.mem_of_getElem? (i := 68) rfl)) rfl, List.forall_mem_cons.mpr ⟨jin (jt3 (List.mem_of_getElem? (i := 69) rfl)) rfl, fun _ h => absurd h List.not_mem_nil⟩⟩⟩⟩
theorem ww_M_108 : ∀ w ∈ jwV "StrataHouse$Match" 108 "StrataHouse$Match" y_M_countInstances (.code y_M_countInstances c_M_countInstances 7 (some .int)), w ∈ jTs := List.forall_mem_cons.mpr ⟨jin (jt3 (List.mem_of_getElem? (i := 67) rfl)) rfl, List.forall_mem_cons.mpr ⟨jin (jt1 (List.mem_of_getElem? (i := 2) rfl)) rfl, List.forall_mem_cons.mpr ⟨jin (jt3 (List.mem_of_getElem? (i := 74) rfl)) rfl, List.forall_mem_cons.mpr ⟨jin (jt3 (List.mem_of_getElem? (i := 66) rfl)) rfl, List.forall_mem_cons.mpr ⟨jin (jts (List.mem_of_getElem? (i := 40) rfl)) rfl, fun _ h => absurd h List.not_mem_nil⟩⟩⟩⟩⟩
theorem ww_L_49 : ∀ w ∈ jwV "StrataHouseLaw" 49 "StrataHouse" y_H_proof (.code y_H_proof c_H_proof 9 (some .int)), w ∈ jTs := List.forall_mem_cons.mpr ⟨jin (jt3 (List.mem_of_getElem? (i := 82) rfl)) rfl, List.forall_mem_cons.mpr ⟨jin (jt1 (List.mem_of_getElem? (i := 1) rfl)) rfl, List.forall_mem_cons.mpr ⟨jin (jt3 (List.mem_of_getElem? (i := 79) rfl)) rfl, List.forall_mem_cons.mpr ⟨jin (jt3 (List.mem_of_getElem? (i := 80) rfl)) rfl, List.forall_mem_cons.mpr ⟨jin (jt3 (List.mem_of_getElem? (i := 81) rfl)) rfl, fun _ h => absurd h List.not_mem_nil⟩⟩⟩⟩⟩
theorem ww_H_148 : ∀ w ∈ jwV "StrataHouse" 148 "StrataHouse" y_H_leastRule (.code y_H_leastRule c_H_leastRule 5 (some .int)), w ∈ jTs := List.forall_mem_cons.mpr ⟨jin (jt3 (List.mem_of_getElem? (i := 103) rfl)) rfl, List.forall_mem_cons.mpr ⟨jin (jt1 (List.mem_of_getElem? (i := 1) rfl)) rfl, List.forall_mem_cons.mpr ⟨jin (jt3 (List.mem_of_getElem? (i := 100) rfl)) rfl, List.forall_mem_cons.mpr ⟨jin (jt3 (List.mem_of_getElem? (i := 102) rfl)) rfl, List.forall_mem_cons.mpr ⟨jin (jts (List.mem_of_getElem? (i := 41) rfl)) rfl, fun _ h => absurd h List.not_mem_nil⟩⟩⟩⟩⟩
theorem ww_L_69 : ∀ w ∈ jwV "StrataHouseLaw" 69 "StrataHouseModel" y_D_thrown (.code y_D_thrown c_D_thrown 1 (some .int)), w ∈ jTs := List.forall_mem_cons.mpr ⟨jin (jt3 (List.mem_of_getElem? (i := 163) rfl)) rfl, List.forall_mem_cons.mpr ⟨jin (jt1 (List.mem_of_getElem? (i := 6) rfl)) rfl, List.forall_mem_cons.mpr ⟨jin (jt3 (List.mem_of_getElem? (i := 160) rfl)) rfl, List.forall_mem_cons.mpr ⟨jin (jt3 (List.mem_of_getElem? (i := 161) rfl)) rfl, List.forall_mem_cons.mpr ⟨jin (jt3 (List.mem_of_getElem? (i := 162) rfl)) rfl, fun _ h => absurd h List.not_mem_nil⟩⟩⟩⟩⟩
theorem ww_L_62 : ∀ w ∈ jwV "StrataHouseLaw" 62 "StrataHouseModel" y_D_clear (.code y_D_clear c_D_clear 2 none), w ∈ jTs := List.forall_mem_cons.mpr ⟨jin (jt3 (List.mem_of_getElem? (i := 167) rfl)) rfl, List.forall_mem_cons.mpr ⟨jin (jt1 (List.mem_of_getElem? (i := 6) rfl)) rfl, List.forall_mem_cons.mpr ⟨jin (jt3 (List.mem_of_getElem? (i := 164) rfl)) rfl, List.forall_mem_cons.mpr ⟨jin (jt3 (List.mem_of_getElem? (i := 165) rfl)) rfl, List.forall_mem_cons.mpr ⟨jin (jt3 (List.mem_of_getElem? (i := 166) rfl)) rfl, fun _ h => absurd h List.not_mem_nil⟩⟩⟩⟩⟩
theorem ww_L_68 : ∀ w ∈ jwV "StrataHouseLaw" 68 "StrataHouseModel" y_D_relation (.code y_D_relation c_D_relation 2 (some .int)), w ∈ jTs := List.forall_mem_cons.mpr ⟨jin (jt3 (List.mem_of_getElem? (i := 171) rfl)) rfl, List.forall_mem_cons.mpr ⟨jin (jt1 (List.mem_of_getElem? (i := 6) rfl)) rfl, List.forall_mem_cons.mpr ⟨jin (jt3 (List.mem_of_getElem? (i := 168) rfl)) rfl, List.forall_mem_cons.mpr ⟨jin (jt3 (List.mem_of_getElem? (i := 169) rfl)) rfl, List.forall_mem_cons.mpr ⟨jin (jt3 (List.mem_of_getElem? (i := 170) rfl)) rfl, fun _ h => absurd h List.not_mem_nil⟩⟩⟩⟩⟩
theorem ww_D_58 : ∀ w ∈ jwS "StrataHouseModel" 58 y_D_in (.code y_D_in c_D_in 3 (some .boolean)), w ∈ jTs := List.forall_mem_cons.mpr ⟨jin (jt3 (List.mem_of_getElem? (i := 174) rfl)) rfl, List.forall_mem_cons.mpr ⟨jin (jt1 (List.mem_of_getElem? (i := 6) rfl)) rfl, List.forall_mem_cons.mpr ⟨jin (jt3 (List.mem_of_getElem? (i := 172) rfl)) rfl, List.forall_mem_cons.mpr ⟨jin (jt3 (List.mem_of_getElem? (i := 173) rfl)) rfl, fun _ h => absurd h List.not_mem_nil⟩⟩⟩⟩
theorem ww_D_62 : ∀ w ∈ jwV "StrataHouseModel" 62 "StrataHouseModel" y_D_refuse (.code y_D_refuse c_D_refuse 4 (some .boolean)), w ∈ jTs := List.forall_mem_cons.mpr ⟨jin (jt3 (List.mem_of_getElem? (i := 178) rfl)) rfl, List.forall_mem_cons.mpr ⟨jin (jt1 (List.mem_of_getElem? (i := 6) rfl)) rfl, List.forall_mem_cons.mpr ⟨jin (jt3 (List.mem_of_getElem? (i := 175) rfl)) rfl, List.forall_mem_cons.mpr ⟨jin (jt3 (List.mem_of_getElem? (i := 177) rfl)) rfl, List.forall_mem_cons.mpr ⟨jin (jts (List.mem_of_getElem? (i := 42) rfl)) rfl, fun _ h => absurd h List.not_mem_nil⟩⟩⟩⟩⟩
theorem ww_L_76 : ∀ w ∈ jwV "StrataHouseLaw" 76 "StrataHouseModel" y_D_give (.code y_D_give c_D_give 5 (some .boolean)), w ∈ jTs := List.forall_mem_cons.mpr ⟨jin (jt3 (List.mem_of_getElem? (i := 182) rfl)) rfl, List.forall_mem_cons.mpr ⟨jin (jt1 (List.mem_of_getElem? (i := 6) rfl)) rfl, List.forall_mem_cons.mpr ⟨jin (jt3 (List.mem_of_getElem? (i := 179) rfl)) rfl, List.forall_mem_cons.mpr ⟨jin (jt3 (List.mem_of_getElem? (i := 180) rfl)) rfl, List.forall_mem_cons.mpr ⟨jin (jt3 (List.mem_of_getElem? (i := 181) rfl)) rfl, fun _ h => absurd h List.not_mem_nil⟩⟩⟩⟩⟩
theorem ww_D_66 : ∀ w ∈ jwV "StrataHouseModel" 66 "StrataHouseModel" y_D_isFact (.code y_D_isFact c_D_isFact 4 (some .boolean)), w ∈ jTs := List.forall_mem_cons.mpr ⟨jin (jt3 (List.mem_of_getElem? (i := 186) rfl)) rfl, List.forall_mem_cons.mpr ⟨jin (jt1 (List.mem_of_getElem? (i := 6) rfl)) rfl, List.forall_mem_cons.mpr ⟨jin (jt3 (List.mem_of_getElem? (i := 183) rfl)) rfl, List.forall_mem_cons.mpr ⟨jin (jt3 (List.mem_of_getElem? (i := 185) rfl)) rfl, List.forall_mem_cons.mpr ⟨jin (jts (List.mem_of_getElem? (i := 43) rfl)) rfl, fun _ h => absurd h List.not_mem_nil⟩⟩⟩⟩⟩
theorem ww_D_69 : ∀ w ∈ jwV "StrataHouseModel" 69 "StrataHouseModel" y_D_factAt (.code y_D_factAt c_D_factAt 4 (some .int)), w ∈ jTs := List.forall_mem_cons.mpr ⟨jin (jt3 (List.mem_of_getElem? (i := 190) rfl)) rfl, List.forall_mem_cons.mpr ⟨jin (jt1 (List.mem_of_getElem? (i := 6) rfl)) rfl, List.forall_mem_cons.mpr ⟨jin (jt3 (List.mem_of_getElem? (i := 187) rfl)) rfl, List.forall_mem_cons.mpr ⟨jin (jt3 (List.mem_of_getElem? (i := 189) rfl)) rfl, List.forall_mem_cons.mpr ⟨jin (jts (List.mem_of_getElem? (i := 44) rfl)) rfl, fun _ h => absurd h List.not_mem_nil⟩⟩⟩⟩⟩
theorem ww_L_79 : ∀ w ∈ jwV "StrataHouseLaw" 79 "StrataHouseModel" y_D_take (.code y_D_take c_D_take 5 (some .boolean)), w ∈ jTs := List.forall_mem_cons.mpr ⟨jin (jt3 (List.mem_of_getElem? (i := 194) rfl)) rfl, List.forall_mem_cons.mpr ⟨jin (jt1 (List.mem_of_getElem? (i := 6) rfl)) rfl, List.forall_mem_cons.mpr ⟨jin (jt3 (List.mem_of_getElem? (i := 191) rfl)) rfl, List.forall_mem_cons.mpr ⟨jin (jt3 (List.mem_of_getElem? (i := 192) rfl)) rfl, List.forall_mem_cons.mpr ⟨jin (jt3 (List.mem_of_getElem? (i := 193) rfl)) rfl, fun _ h => absurd h List.not_mem_nil⟩⟩⟩⟩⟩
theorem ww_L_82 : ∀ w ∈ jwV "StrataHouseLaw" 82 "StrataHouseModel" y_D_rule (.code y_D_rule c_D_rule 4 (some .int)), w ∈ jTs := List.forall_mem_cons.mpr ⟨jin (jt3 (List.mem_of_getElem? (i := 198) rfl)) rfl, List.forall_mem_cons.mpr ⟨jin (jt1 (List.mem_of_getElem? (i := 6) rfl)) rfl, List.forall_mem_cons.mpr ⟨jin (jt3 (List.mem_of_getElem? (i := 195) rfl)) rfl, List.forall_mem_cons.mpr ⟨jin (jt3 (List.mem_of_getElem? (i := 196) rfl)) rfl, List.forall_mem_cons.mpr ⟨jin (jt3 (List.mem_of_getElem? (i := 197) rfl)) rfl, fun _ h => absurd h List.not_mem_nil⟩⟩⟩⟩⟩
theorem ww_D_77 : ∀ w ∈ jwV "StrataHouseModel" 77 "StrataHouseModel" y_D_areTerms (.code y_D_areTerms c_D_areTerms 4 (some .boolean)), w ∈ jTs := List.forall_mem_cons.mpr ⟨jin (jt3 (List.mem_of_getElem? (i := 202) rfl)) rfl, List.forall_mem_cons.mpr ⟨jin (jt1 (List.mem_of_getElem? (i := 6) rfl)) rfl, List.forall_mem_cons.mpr ⟨jin (jt3 (List.mem_of_getElem? (i := 199) rfl)) rfl, List.forall_mem_cons.mpr ⟨jin (jt3 (List.mem_of_getElem? (i := 201) rfl)) rfl, List.forall_mem_cons.mpr ⟨jin (jts (List.mem_of_getElem? (i := 45) rfl)) rfl, fun _ h => absurd h List.not_mem_nil⟩⟩⟩⟩⟩
theorem ww_D_73 : ∀ w ∈ jwS "StrataHouseModel" 73 y_D_isTerm (.code y_D_isTerm c_D_isTerm 1 (some .boolean)), w ∈ jTs := List.forall_mem_cons.mpr ⟨jin (jt3 (List.mem_of_getElem? (i := 205) rfl)) rfl, List.forall_mem_cons.mpr ⟨jin (jt1 (List.mem_of_getElem? (i := 6) rfl)) rfl, List.forall_mem_cons.mpr ⟨jin (jt3 (List.mem_of_getElem? (i := 203) rfl)) rfl, List.forall_mem_cons.mpr ⟨jin (jt3 (List.mem_of_getElem? (i := 204) rfl)) rfl, fun _ h => absurd h List.not_mem_nil⟩⟩⟩⟩
theorem ww_D_80 : ∀ w ∈ jwV "StrataHouseModel" 80 "StrataHouseModel" y_D_put (.code y_D_put c_D_put 6 none), w ∈ jTs := List.forall_mem_cons.mpr ⟨jin (jt3 (List.mem_of_getElem? (i := 209) rfl)) rfl, List.forall_mem_cons.mpr ⟨jin (jt1 (List.mem_of_getElem? (i := 6) rfl)) rfl, List.forall_mem_cons.mpr ⟨jin (jt3 (List.mem_of_getElem? (i := 206) rfl)) rfl, List.forall_mem_cons.mpr ⟨jin (jt3 (List.mem_of_getElem? (i := 208) rfl)) rfl, List.forall_mem_cons.mpr ⟨jin (jts (List.mem_of_getElem? (i := 46) rfl)) rfl, fun _ h => absurd h List.not_mem_nil⟩⟩⟩⟩⟩
theorem ww_L_86 : ∀ w ∈ jwV "StrataHouseLaw" 86 "StrataHouseModel" y_D_literal (.code y_D_literal c_D_literal 6 (some .int)), w ∈ jTs := List.forall_mem_cons.mpr ⟨jin (jt3 (List.mem_of_getElem? (i := 213) rfl)) rfl, List.forall_mem_cons.mpr ⟨jin (jt1 (List.mem_of_getElem? (i := 6) rfl)) rfl, List.forall_mem_cons.mpr ⟨jin (jt3 (List.mem_of_getElem? (i := 210) rfl)) rfl, List.forall_mem_cons.mpr ⟨jin (jt3 (List.mem_of_getElem? (i := 211) rfl)) rfl, List.forall_mem_cons.mpr ⟨jin (jt3 (List.mem_of_getElem? (i := 212) rfl)) rfl, fun _ h => absurd h List.not_mem_nil⟩⟩⟩⟩⟩
theorem ww_L_90 : ∀ w ∈ jwV "StrataHouseLaw" 90 "StrataHouseModel" y_D_unrule (.code y_D_unrule c_D_unrule 1 none), w ∈ jTs := List.forall_mem_cons.mpr ⟨jin (jt3 (List.mem_of_getElem? (i := 217) rfl)) rfl, List.forall_mem_cons.mpr ⟨jin (jt1 (List.mem_of_getElem? (i := 6) rfl)) rfl, List.forall_mem_cons.mpr ⟨jin (jt3 (List.mem_of_getElem? (i := 214) rfl)) rfl, List.forall_mem_cons.mpr ⟨jin (jt3 (List.mem_of_getElem? (i := 215) rfl)) rfl, List.forall_mem_cons.mpr ⟨jin (jt3 (List.mem_of_getElem? (i := 216) rfl)) rfl, fun _ h => absurd h List.not_mem_nil⟩⟩⟩⟩⟩
theorem ww_L_94 : ∀ w ∈ jwV "StrataHouseLaw" 94 "StrataHouseModel" y_D_fault (.code y_D_fault c_D_fault 1 (some .int)), w ∈ jTs := List.forall_mem_cons.mpr ⟨jin (jt3 (List.mem_of_getElem? (i := 221) rfl)) rfl, List.forall_mem_cons.mpr ⟨jin (jt1 (List.mem_of_getElem? (i := 6) rfl)) rfl, List.forall_mem_cons.mpr ⟨jin (jt3 (List.mem_of_getElem? (i := 218) rfl)) rfl, List.forall_mem_cons.mpr ⟨jin (jt3 (List.mem_of_getElem? (i := 219) rfl)) rfl, List.forall_mem_cons.mpr ⟨jin (jt3 (List.mem_of_getElem? (i := 220) rfl)) rfl, fun _ h => absurd h List.not_mem_nil⟩⟩⟩⟩⟩
theorem ww_D_127 : ∀ w ∈ jwV "StrataHouseModel" 127 "StrataHouseModel" y_D_find (.code y_D_find c_D_find 3 none), w ∈ jTs := List.forall_mem_cons.mpr ⟨jin (jt3 (List.mem_of_getElem? (i := 225) rfl)) rfl, List.forall_mem_cons.mpr ⟨jin (jt1 (List.mem_of_getElem? (i := 6) rfl)) rfl, List.forall_mem_cons.mpr ⟨jin (jt3 (List.mem_of_getElem? (i := 222) rfl)) rfl, List.forall_mem_cons.mpr ⟨jin (jt3 (List.mem_of_getElem? (i := 224) rfl)) rfl, List.forall_mem_cons.mpr ⟨jin (jts (List.mem_of_getElem? (i := 47) rfl)) rfl, fun _ h => absurd h List.not_mem_nil⟩⟩⟩⟩⟩
theorem ww_D_117 : ∀ w ∈ jwV "StrataHouseModel" 117 "StrataHouseModel" y_D_findFault (.code y_D_findFault c_D_findFault 6 (some .int)), w ∈ jTs := List.forall_mem_cons.mpr ⟨jin (jt3 (List.mem_of_getElem? (i := 229) rfl)) rfl, List.forall_mem_cons.mpr ⟨jin (jt1 (List.mem_of_getElem? (i := 6) rfl)) rfl, List.forall_mem_cons.mpr ⟨jin (jt3 (List.mem_of_getElem? (i := 226) rfl)) rfl, List.forall_mem_cons.mpr ⟨jin (jt3 (List.mem_of_getElem? (i := 228) rfl)) rfl, List.forall_mem_cons.mpr ⟨jin (jts (List.mem_of_getElem? (i := 48) rfl)) rfl, fun _ h => absurd h List.not_mem_nil⟩⟩⟩⟩⟩
theorem ww_D_88 : ∀ w ∈ jwV "StrataHouseModel" 88 "StrataHouseModel" y_D_isSafe (.code y_D_isSafe c_D_isSafe 5 (some .boolean)), w ∈ jTs := List.forall_mem_cons.mpr ⟨jin (jt3 (List.mem_of_getElem? (i := 233) rfl)) rfl, List.forall_mem_cons.mpr ⟨jin (jt1 (List.mem_of_getElem? (i := 6) rfl)) rfl, List.forall_mem_cons.mpr ⟨jin (jt3 (List.mem_of_getElem? (i := 230) rfl)) rfl, List.forall_mem_cons.mpr ⟨jin (jt3 (List.mem_of_getElem? (i := 232) rfl)) rfl, List.forall_mem_cons.mpr ⟨jin (jts (List.mem_of_getElem? (i := 49) rfl)) rfl, fun _ h => absurd h List.not_mem_nil⟩⟩⟩⟩⟩
theorem ww_D_84 : ∀ w ∈ jwV "StrataHouseModel" 84 "StrataHouseModel" y_D_variablesOf (.code y_D_variablesOf c_D_variablesOf 3 (some .int)), w ∈ jTs := List.forall_mem_cons.mpr ⟨jin (jt3 (List.mem_of_getElem? (i := 237) rfl)) rfl, List.forall_mem_cons.mpr ⟨jin (jt1 (List.mem_of_getElem? (i := 6) rfl)) rfl, List.forall_mem_cons.mpr ⟨jin (jt3 (List.mem_of_getElem? (i := 234) rfl)) rfl, List.forall_mem_cons.mpr ⟨jin (jt3 (List.mem_of_getElem? (i := 236) rfl)) rfl, List.forall_mem_cons.mpr ⟨jin (jts (List.mem_of_getElem? (i := 50) rfl)) rfl, fun _ h => absurd h List.not_mem_nil⟩⟩⟩⟩⟩
theorem ww_D_91 : ∀ w ∈ jwV "StrataHouseModel" 91 "StrataHouseModel" y_D_raise (.code y_D_raise c_D_raise 7 (some .boolean)), w ∈ jTs := List.forall_mem_cons.mpr ⟨jin (jt4 (List.mem_of_getElem? (i := 1) rfl)) rfl, List.forall_mem_cons.mpr ⟨jin (jt1 (List.mem_of_getElem? (i := 6) rfl)) rfl, List.forall_mem_cons.mpr ⟨jin (jt3 (List.mem_of_getElem? (i := 238) rfl)) rfl, List.forall_mem_cons.mpr ⟨jin (jt4 (List.mem_of_getElem? (i := 0) rfl)) rfl, List.forall_mem_cons.mpr ⟨jin (jts (List.mem_of_getElem? (i := 51) rfl)) rfl, fun _ h => absurd h List.not_mem_nil⟩⟩⟩⟩⟩
theorem ww_D_124 : ∀ w ∈ jwV "StrataHouseModel" 124 "StrataHouseModel" y_D_round (.code y_D_round c_D_round 7 (some .boolean)), w ∈ jTs := List.forall_mem_cons.mpr ⟨jin (jt4 (List.mem_of_getElem? (i := 5) rfl)) rfl, List.forall_mem_cons.mpr ⟨jin (jt1 (List.mem_of_getElem? (i := 6) rfl)) rfl, List.forall_mem_cons.mpr ⟨jin (jt4 (List.mem_of_getElem? (i := 2) rfl)) rfl, List.forall_mem_cons.mpr ⟨jin (jt4 (List.mem_of_getElem? (i := 4) rfl)) rfl, List.forall_mem_cons.mpr ⟨jin (jts (List.mem_of_getElem? (i := 52) rfl)) rfl, fun _ h => absurd h List.not_mem_nil⟩⟩⟩⟩⟩
theorem ww_D_106 : ∀ w ∈ jwV "StrataHouseModel" 106 "StrataHouseModel" y_D_instance (.code y_D_instance c_D_instance 7 (some .boolean)), w ∈ jTs := List.forall_mem_cons.mpr ⟨jin (jt4 (List.mem_of_getElem? (i := 9) rfl)) rfl, List.forall_mem_cons.mpr ⟨jin (jt1 (List.mem_of_getElem? (i := 6) rfl)) rfl, List.forall_mem_cons.mpr ⟨jin (jt4 (List.mem_of_getElem? (i := 6) rfl)) rfl, List.forall_mem_cons.mpr ⟨jin (jt4 (List.mem_of_getElem? (i := 8) rfl)) rfl, List.forall_mem_cons.mpr ⟨jin (jts (List.mem_of_getElem? (i := 53) rfl)) rfl, fun _ h => absurd h List.not_mem_nil⟩⟩⟩⟩⟩
theorem ww_D_97 : ∀ w ∈ jwV "StrataHouseModel" 97 "StrataHouseModel" y_D_variables (.code y_D_variables c_D_variables 4 (some .int)), w ∈ jTs := List.forall_mem_cons.mpr ⟨jin (jt4 (List.mem_of_getElem? (i := 13) rfl)) rfl, List.forall_mem_cons.mpr ⟨jin (jt1 (List.mem_of_getElem? (i := 6) rfl)) rfl, List.forall_mem_cons.mpr ⟨jin (jt4 (List.mem_of_getElem? (i := 10) rfl)) rfl, List.forall_mem_cons.mpr ⟨jin (jt4 (List.mem_of_getElem? (i := 12) rfl)) rfl, List.forall_mem_cons.mpr ⟨jin (jts (List.mem_of_getElem? (i := 54) rfl)) rfl, fun _ h => absurd h List.not_mem_nil⟩⟩⟩⟩⟩
theorem ww_D_100 : ∀ w ∈ jwV "StrataHouseModel" 100 "StrataHouseModel" y_D_factOf (.code y_D_factOf c_D_factOf 2 (some .int)), w ∈ jTs := List.forall_mem_cons.mpr ⟨jin (jt4 (List.mem_of_getElem? (i := 17) rfl)) rfl, List.forall_mem_cons.mpr ⟨jin (jt1 (List.mem_of_getElem? (i := 6) rfl)) rfl, List.forall_mem_cons.mpr ⟨jin (jt4 (List.mem_of_getElem? (i := 14) rfl)) rfl, List.forall_mem_cons.mpr ⟨jin (jt4 (List.mem_of_getElem? (i := 16) rfl)) rfl, List.forall_mem_cons.mpr ⟨jin (jts (List.mem_of_getElem? (i := 55) rfl)) rfl, fun _ h => absurd h List.not_mem_nil⟩⟩⟩⟩⟩
theorem ww_D_94 : ∀ w ∈ jwV "StrataHouseModel" 94 "StrataHouseModel" y_D_termValue (.code y_D_termValue c_D_termValue 2 (some .int)), w ∈ jTs := List.forall_mem_cons.mpr ⟨jin (jt4 (List.mem_of_getElem? (i := 21) rfl)) rfl, List.forall_mem_cons.mpr ⟨jin (jt1 (List.mem_of_getElem? (i := 6) rfl)) rfl, List.forall_mem_cons.mpr ⟨jin (jt4 (List.mem_of_getElem? (i := 18) rfl)) rfl, List.forall_mem_cons.mpr ⟨jin (jt4 (List.mem_of_getElem? (i := 20) rfl)) rfl, List.forall_mem_cons.mpr ⟨jin (jts (List.mem_of_getElem? (i := 56) rfl)) rfl, fun _ h => absurd h List.not_mem_nil⟩⟩⟩⟩⟩
theorem ww_D_103 : ∀ w ∈ jwV "StrataHouseModel" 103 "StrataHouseModel" y_D_holds (.code y_D_holds c_D_holds 2 (some .boolean)), w ∈ jTs := List.forall_mem_cons.mpr ⟨jin (jt4 (List.mem_of_getElem? (i := 25) rfl)) rfl, List.forall_mem_cons.mpr ⟨jin (jt1 (List.mem_of_getElem? (i := 6) rfl)) rfl, List.forall_mem_cons.mpr ⟨jin (jt4 (List.mem_of_getElem? (i := 22) rfl)) rfl, List.forall_mem_cons.mpr ⟨jin (jt4 (List.mem_of_getElem? (i := 24) rfl)) rfl, List.forall_mem_cons.mpr ⟨jin (jts (List.mem_of_getElem? (i := 57) rfl)) rfl, fun _ h => absurd h List.not_mem_nil⟩⟩⟩⟩⟩
theorem ww_D_110 : ∀ w ∈ jwV "StrataHouseModel" 110 "StrataHouseModel" y_D_isMet (.code y_D_isMet c_D_isMet 5 (some .boolean)), w ∈ jTs := List.forall_mem_cons.mpr ⟨jin (jt4 (List.mem_of_getElem? (i := 29) rfl)) rfl, List.forall_mem_cons.mpr ⟨jin (jt1 (List.mem_of_getElem? (i := 6) rfl)) rfl, List.forall_mem_cons.mpr ⟨jin (jt4 (List.mem_of_getElem? (i := 26) rfl)) rfl, List.forall_mem_cons.mpr ⟨jin (jt4 (List.mem_of_getElem? (i := 28) rfl)) rfl, List.forall_mem_cons.mpr ⟨jin (jts (List.mem_of_getElem? (i := 58) rfl)) rfl, fun _ h => absurd h List.not_mem_nil⟩⟩⟩⟩⟩
theorem ww_D_113 : ∀ w ∈ jwV "StrataHouseModel" 113 "StrataHouseModel" y_D_behind (.code y_D_behind c_D_behind 9 (some .int)), w ∈ jTs := List.forall_mem_cons.mpr ⟨jin (jt4 (List.mem_of_getElem? (i := 33) rfl)) rfl, List.forall_mem_cons.mpr ⟨jin (jt1 (List.mem_of_getElem? (i := 6) rfl)) rfl, List.forall_mem_cons.mpr ⟨jin (jt4 (List.mem_of_getElem? (i := 30) rfl)) rfl, List.forall_mem_cons.mpr ⟨jin (jt4 (List.mem_of_getElem? (i := 32) rfl)) rfl, List.forall_mem_cons.mpr ⟨jin (jts (List.mem_of_getElem? (i := 59) rfl)) rfl, fun _ h => absurd h List.not_mem_nil⟩⟩⟩⟩⟩
theorem ww_L_97 : ∀ w ∈ jwV "StrataHouseLaw" 97 "StrataHouseModel" y_D_layer (.code y_D_layer c_D_layer 3 (some .int)), w ∈ jTs := List.forall_mem_cons.mpr ⟨jin (jt4 (List.mem_of_getElem? (i := 37) rfl)) rfl, List.forall_mem_cons.mpr ⟨jin (jt1 (List.mem_of_getElem? (i := 6) rfl)) rfl, List.forall_mem_cons.mpr ⟨jin (jt4 (List.mem_of_getElem? (i := 34) rfl)) rfl, List.forall_mem_cons.mpr ⟨jin (jt4 (List.mem_of_getElem? (i := 35) rfl)) rfl, List.forall_mem_cons.mpr ⟨jin (jt4 (List.mem_of_getElem? (i := 36) rfl)) rfl, fun _ h => absurd h List.not_mem_nil⟩⟩⟩⟩⟩
theorem ww_L_100 : ∀ w ∈ jwV "StrataHouseLaw" 100 "StrataHouseModel" y_D_count (.code y_D_count c_D_count 5 (some .int)), w ∈ jTs := List.forall_mem_cons.mpr ⟨jin (jt4 (List.mem_of_getElem? (i := 41) rfl)) rfl, List.forall_mem_cons.mpr ⟨jin (jt1 (List.mem_of_getElem? (i := 6) rfl)) rfl, List.forall_mem_cons.mpr ⟨jin (jt4 (List.mem_of_getElem? (i := 38) rfl)) rfl, List.forall_mem_cons.mpr ⟨jin (jt4 (List.mem_of_getElem? (i := 39) rfl)) rfl, List.forall_mem_cons.mpr ⟨jin (jt4 (List.mem_of_getElem? (i := 40) rfl)) rfl, fun _ h => absurd h List.not_mem_nil⟩⟩⟩⟩⟩
theorem ww_L_103 : ∀ w ∈ jwV "StrataHouseLaw" 103 "StrataHouseModel" y_D_rank (.code y_D_rank c_D_rank 5 (some .int)), w ∈ jTs := List.forall_mem_cons.mpr ⟨jin (jt4 (List.mem_of_getElem? (i := 45) rfl)) rfl, List.forall_mem_cons.mpr ⟨jin (jt1 (List.mem_of_getElem? (i := 6) rfl)) rfl, List.forall_mem_cons.mpr ⟨jin (jt4 (List.mem_of_getElem? (i := 42) rfl)) rfl, List.forall_mem_cons.mpr ⟨jin (jt4 (List.mem_of_getElem? (i := 43) rfl)) rfl, List.forall_mem_cons.mpr ⟨jin (jt4 (List.mem_of_getElem? (i := 44) rfl)) rfl, fun _ h => absurd h List.not_mem_nil⟩⟩⟩⟩⟩
theorem ww_L_106 : ∀ w ∈ jwV "StrataHouseLaw" 106 "StrataHouseModel" y_D_ways (.code y_D_ways c_D_ways 9 (some .int)), w ∈ jTs := List.forall_mem_cons.mpr ⟨jin (jt4 (List.mem_of_getElem? (i := 49) rfl)) rfl, List.forall_mem_cons.mpr ⟨jin (jt1 (List.mem_of_getElem? (i := 6) rfl)) rfl, List.forall_mem_cons.mpr ⟨jin (jt4 (List.mem_of_getElem? (i := 46) rfl)) rfl, List.forall_mem_cons.mpr ⟨jin (jt4 (List.mem_of_getElem? (i := 47) rfl)) rfl, List.forall_mem_cons.mpr ⟨jin (jt4 (List.mem_of_getElem? (i := 48) rfl)) rfl, fun _ h => absurd h List.not_mem_nil⟩⟩⟩⟩⟩
theorem ww_L_110 : ∀ w ∈ jwV "StrataHouseLaw" 110 "StrataHouseModel" y_D_proof (.code y_D_proof c_D_proof 10 (some .int)), w ∈ jTs := List.forall_mem_cons.mpr ⟨jin (jt4 (List.mem_of_getElem? (i := 53) rfl)) rfl, List.forall_mem_cons.mpr ⟨jin (jt1 (List.mem_of_getElem? (i := 6) rfl)) rfl, List.forall_mem_cons.mpr ⟨jin (jt4 (List.mem_of_getElem? (i := 50) rfl)) rfl, List.forall_mem_cons.mpr ⟨jin (jt4 (List.mem_of_getElem? (i := 51) rfl)) rfl, List.forall_mem_cons.mpr ⟨jin (jt4 (List.mem_of_getElem? (i := 52) rfl)) rfl, fun _ h => absurd h List.not_mem_nil⟩⟩⟩⟩⟩
theorem ww_D_130 : ∀ w ∈ jwV "StrataHouseModel" 130 "StrataHouseModel" y_D_isLower (.code y_D_isLower c_D_isLower 6 (some .boolean)), w ∈ jTs := List.forall_mem_cons.mpr ⟨jin (jt4 (List.mem_of_getElem? (i := 57) rfl)) rfl, List.forall_mem_cons.mpr ⟨jin (jt1 (List.mem_of_getElem? (i := 6) rfl)) rfl, List.forall_mem_cons.mpr ⟨jin (jt4 (List.mem_of_getElem? (i := 54) rfl)) rfl, List.forall_mem_cons.mpr ⟨jin (jt4 (List.mem_of_getElem? (i := 56) rfl)) rfl, List.forall_mem_cons.mpr ⟨jin (jts (List.mem_of_getElem? (i := 60) rfl)) rfl, fun _ h => absurd h List.not_mem_nil⟩⟩⟩⟩⟩
end
section
-- the making and throwing of an exception
section JTH
variable {p : Program} {l : Launch} {e : Env} {R : Room} {s : State} {m : MethodId} {args : Array Value} {below : List Frame} {meth : Method} {c : Code} {T : State} {locs : List Loc} {cells slots : Nat}
/-- the same walk, told from the heap as it is now -/
theorem hx_rebase (X : Stand p l e R s m args below meth c T locs cells slots) {R' : Room} (h1 : R'.frames ≤ R.frames) (h2 : R'.locals ≤ R.locals) (h3 : cells + R'.cells ≤ R.cells) (h4 : slots + R'.slots ≤ R.slots) :
    Stand p l e R' ({ s with heap := T.heap, slotsUsed := T.slotsUsed } : State) m args below meth c T [] 0 0 := by
  refine ⟨X.admits, X.cas, X.clock, X.frames, ?_, X.hears, X.method, X.code, X.here, X.tail, X.warmed, X.limits, X.bytes, ?_⟩
  · have hr := X.room
    have hb := X.book
    have hs := X.heapSize
    have hu := X.used
    simp only [State.hasRoom, Bool.and_eq_true, decide_eq_true_eq] at hr ⊢
    obtain ⟨⟨⟨⟨r1, r2, r3, r4, r5, r6⟩, r7⟩, r8⟩, r9⟩ := hr
    have e1 : ({ s with heap := T.heap, slotsUsed := T.slotsUsed } : State).localsInUse = s.localsInUse := rfl
    have e2 : ({ s with heap := T.heap, slotsUsed := T.slotsUsed } : State).frames = s.frames := rfl
    have e3 : ({ s with heap := T.heap, slotsUsed := T.slotsUsed } : State).me = s.me := rfl
    rw [e1, e2, e3]
    refine ⟨⟨⟨⟨by omega, by omega, by omega, by omega, by omega, r6⟩, ?_⟩, ?_⟩, hb⟩
    · show T.heap.size + R'.cells ≤ _
      omega
    · show T.slotsUsed + R'.slots ≤ _
      omega
  · refine ⟨X.same.1, Nat.le_refl _, Nat.le_refl _, ?_, ?_, fun a cl h => ⟨cl, h, rfl, rfl, fun i _ => rfl⟩⟩
    · show T.slotsUsed = T.slotsUsed + _
      have : (T.heap.toList.drop T.heap.size) = [] := List.drop_eq_nil_of_le (by simp)
      rw [show ((T.setVm s.vm).heap.toList.drop ({ s with heap := T.heap, slotsUsed := T.slotsUsed } : State).heap.size) = [] from this]
      rfl
    · have : (T.heap.toList.drop T.heap.size) = [] := List.drop_eq_nil_of_le (by simp)
      rw [show ((T.setVm s.vm).heap.toList.drop ({ s with heap := T.heap, slotsUsed := T.slotsUsed } : State).heap.size) = [] from this]
      exact Nat.le_refl _
/-- and back -/
theorem hx_unbase (X : Stand p l e R s m args below meth c T locs cells slots) {U : State} {k n : Nat} (h : ({ s with heap := T.heap, slotsUsed := T.slotsUsed } : State).sameButNew ({ U with vm := s.vm } : State) [] k n) :
    s.sameButNew ({ U with vm := s.vm } : State) locs (cells + k) (slots + n) := by
  have h2 : (T.setVm s.vm).sameButNew ({ U with vm := s.vm } : State) [] k n := by
    refine ⟨?_, h.2⟩
    have e1 := h.1
    have e2 : ∀ F : List Frame, (T.setVm s.vm).setFrames F = ({ s.setFrames F with heap := T.heap, slotsUsed := T.slotsUsed } : State) := by
      intro F
      have e3 := X.same.1
      generalize hZ : (T.setVm s.vm).frames = FT at e3
      have e4 : (T.setVm s.vm).setFrames F = (({ s.setFrames FT with heap := T.heap, slotsUsed := T.slotsUsed } : State)).setFrames F := congrArg (fun z : State => z.setFrames F) e3
      rw [e4]
      exact congrArg (fun z : State => ({ z with heap := T.heap, slotsUsed := T.slotsUsed } : State)) (State.setFrames_setFrames s FT F)
    rw [e2]
    exact e1
  have h3 := X.same.trans h2
  rw [List.append_nil] at h3
  exact h3
set_option maxHeartbeats 1000000 in
/-- an exception's constructor with a text, the first link of another index and other bytes, and its throw -/
theorem hx_ctor {m₀ : MethodId} {W : State} (X : Stand p l e R s m₀ args below meth c W locs cells slots) (hexec : p.tables.exec = Jvm.exec) (htr : e.platform.stackTraces = false) {own cls : String} {names : List String} {ic : Nat}
    {ix : Nat} {rx : ByteArray} (x0 : decode rx 0 = .ok (.aload_n 0, 1)) (x1 : decode rx 1 = .ok (.aload_n 1, 1)) (x2 : decode rx 2 = .ok (.invokespecial ix, 3)) (x5 : decode rx 5 = .ok (.return_, 1))
    (hown : s.vm.findClass own = some m₀.cls) (hcls : Bundle.fit cls = true) (hnames : ∀ n ∈ names, Bundle.fit n = true)
    (h : ∀ a ∈ Bundle.ownAtomsX own ic cls ix rx names, a.before args s = true)
    (hlocs : ∀ x ∈ locs, ∀ cell, s.heap[x.base]? = some cell → cell.vm.isStatics = false)
    {a : Addr} {cX : ClassId} {kX : Class} (hfoundX : s.vm.findClass cls = some cX) (hkX : s.vm.classes[cX]? = some kX) (hcell : W.heap[a]? = some (freshCell cX kX)) (hnew : s.heap.size ≤ a)
    {msg : Value} (hmsg : msg.isRef = true)
    {g : JFrame} (hg : g.method = m₀) (hsize : g.locals.size = c.maxLocals) (hlocked : g.locked = none) (hentered : g.entered = []) {rest : List Value} (hstack : g.stack = msg :: .ref a :: .ref a :: rest)
    (hd6 : decode c.code g.pc = .ok (.invokespecial ic, 3)) (hd9 : decode c.code (g.pc + 3) = .ok (.athrow, 1)) (hout : ∀ x ∈ c.exceptionTable.toList, covers x (g.pc + 3) = false)
    (hRframes : names.length + 3 < R.frames) (hRlocals : 2 * g.monitorRoom + ((Value.ref a :: rest).map fun v => v.category).sum + (13 * (names.length + 1) + 42) ≤ R.locals) (hlocks : meth.locks = false) :
    ∃ U : State, Steps p.tables e below (W.setTop g) U ∧ U.status = .running ∧ Ended U below (.threw a) ∧ s.WarmedH U.vm ∧ s.sameButNew ({ U with vm := s.vm } : State) locs cells slots ∧
      ∃ ce, U.heap[a]? = some ce ∧ ce.cls = cX ∧ ce.vm = .none := by
  have hpl : e.platform.magicAccessors = ({} : Platform).magicAccessors := by rw [X.admits.platform]
  have a' : ∀ x, x ∈ Bundle.ownAtomsX own ic cls ix rx names → x.holds args s none s [] = true := fun x hx => h x hx
  obtain ⟨T, Z0, L, LZ0, Y⟩ := ThrowableC.of_atoms (args := args) (by rw [X.admits.platform]) (by rw [X.admits.platform]) hpl (fun x hx => h x (by simp [Bundle.ownAtomsX, hx]))
  obtain ⟨Z, M, LZ, LM, hnZ⟩ := Init0T.ofS_atoms (args := args) hpl L Y (fun x hx => h x (by simp [Bundle.ownAtomsX, hx]))
  obtain ⟨P1, Ps, hlen, L1, hL, hP1m, hlink1, hlink⟩ := Bundle.chainSX (args := args) hpl hnZ x0 x1 x2 x5 names cls hcls hnames (fun x hx => h x (by simp [Bundle.ownAtomsX, hx]))
  have hfound : s.vm.findClass cls = some P1.m.cls := findClass_of_methodNamed hP1m
  cases Option.some.inj (hfoundX.symm.trans hfound)
  obtain ⟨c1, kX', hc1, hk, hord, -, -, -⟩ := Cond.instantiable_spec (a' (.instantiable cls 6) (by simp [Bundle.ownAtomsX]))
  cases Option.some.inj (hc1.symm.trans hfound)
  cases Option.some.inj (hkX.symm.trans hk)
  have hsel0 : selectMethod e.platform s.vm P1.m.cls T.fill0 = .method T.fill0 := by
    obtain ⟨c2, r2, m2, q1, q2, q3, q4, -⟩ := Cond.selects_spec (a' (.selects cls Bundle.tFill0 Bundle.tFill0) (by simp [Bundle.ownAtomsX]))
    cases Option.some.inj (q1.symm.trans hfound)
    cases Option.some.inj (q2.symm.trans (State.methodFound?_of_named Y.fill0 (by decide)))
    cases Option.some.inj (q3.symm.trans Y.fill0)
    rw [Launch.admits_selectMethod X.admits]; exact q4
  have hselF : selectMethod e.platform s.vm P1.m.cls T.fill = .method T.fill := by
    obtain ⟨c2, r2, m2, q1, q2, q3, q4, -⟩ := Cond.selects_spec (a' (.selects cls Bundle.tFill Bundle.tFill) (by simp [Bundle.ownAtomsX]))
    cases Option.some.inj (q1.symm.trans hfound)
    cases Option.some.inj (q2.symm.trans (State.methodFound?_of_named Y.fill (by decide)))
    cases Option.some.inj (q3.symm.trans Y.fill)
    rw [Launch.admits_selectMethod X.admits]; exact q4
  obtain ⟨cellS0, hcS0, hiss⟩ := Y.statics
  obtain ⟨u0, hu0⟩ := Cond.staticRefV Y.unassigned L.unassignedStatic L.statics hcS0 hiss (a' (.isRef (.static Bundle.tN "UNASSIGNED_STACK" Bundle.steD)) (by simp [Bundle.ownAtomsX]))
  obtain ⟨sen, hsen⟩ := Cond.staticRefV Y.sentinel L.sentinelStatic L.statics hcS0 hiss (a' (.isRef (.static Bundle.tN "SUPPRESSED_SENTINEL" Bundle.listD)) (by simp [Bundle.ownAtomsX]))
  obtain ⟨ci198, i198, fB, hk198, hg198, ha198, hsB, -, hnB, htB, hffB⟩ := Cond.ownField (t := .object "java/lang/Object") Y.found L.cls (by decide +kernel) (a' (.fieldLink Bundle.tN 198 Bundle.tN "backtrace" "Ljava/lang/Object;") (by simp [Bundle.ownAtomsX])) (a' (.lays Bundle.tN Bundle.tN "backtrace" "Ljava/lang/Object;") (by simp [Bundle.ownAtomsX])) e.platform hpl
  obtain ⟨cellS, hcellS, heS, -, hkeep⟩ := X.same.2.2.2.2.2 T.aS cellS0 hcS0
  have hout' : ∀ i, (⟨T.aS, i⟩ : Loc) ∉ locs := fun i hmem => by
    have := hlocs _ hmem cellS0 hcS0
    rw [hiss] at this; cases this
  have hknownS : cellS.vm ≠ .unknown := by
    rw [heS]; intro hu
    rw [show cellS0.vm = .unknown from hu] at hiss
    cases hiss
  have hneS : T.aS ≠ a := Nat.ne_of_lt (Nat.lt_of_lt_of_le (Array.getElem?_eq_some_iff.mp hcS0).1 hnew)
  obtain ⟨iM, hffM⟩ := Y.msg
  obtain ⟨tyC, dC, hdC, hdnC⟩ := Cond.laysAt hfound hk Y.cause (a' (.lays cls Bundle.tN "cause" "Ljava/lang/Throwable;") (by simp [Bundle.ownAtomsX]))
  obtain ⟨tyS, dS, hdS, hdnS⟩ := Cond.laysAt hfound hk Y.stack (a' (.lays cls Bundle.tN "stackTrace" Bundle.steD) (by simp [Bundle.ownAtomsX]))
  obtain ⟨tyP, dP, hdP, hdnP⟩ := Cond.laysAt hfound hk Y.supp (a' (.lays cls Bundle.tN "suppressedExceptions" Bundle.listD) (by simp [Bundle.ownAtomsX]))
  obtain ⟨tyM, dM, hdM, hdnM⟩ := Cond.laysAt hfound hk hffM (a' (.lays cls Bundle.tN "detailMessage" "Ljava/lang/String;") (by simp [Bundle.ownAtomsX]))
  obtain ⟨tyB, dB, hdB, hdnB⟩ := Cond.laysAt hfound hk hffB (a' (.lays cls Bundle.tN "backtrace" "Ljava/lang/Object;") (by simp [Bundle.ownAtomsX]))
  have bC := Cond.laysApart hdB hdC hdnB hdnC (by rw [hnB, Y.causeName]; decide)
  have bS := Cond.laysApart hdB hdS hdnB hdnS (by rw [hnB, Y.stackName]; decide)
  have bP := Cond.laysApart hdB hdP hdnB hdnP (by rw [hnB, Y.suppName]; decide)
  have hskip : SkipFacts T e.platform s (fun u => u) u0 ((preparedCellV T.toThrowableT (freshCell P1.m.cls kX) a u0 sen).withEntry W.cur) :=
    ⟨{ ci198 := ci198, i198 := i198, fBack := fB }, ⟨hk198, hg198, ha198, hsB⟩, by
      have := fresh_default (c := P1.m.cls) tyB
      rw [htB] at this
      simpa [preparedCellV, Cell.setSlot, Cell.withEntry, Array.getElem?_setIfInBounds, bC, bS, bP, bC.symm, bS.symm, bP.symm, defaultValue] using this, fun _ _ => rfl⟩
  obtain ⟨tm, methC, cdC, kC, vm₁, hnC, -, -, -, -, -, -, -, hW₁, st1⟩ := Steps.initColdS (tb := p.tables) (e := e) (below := below) (s := s) (U := W) X.here hexec X.warmed hpl hown (t := Bundle.initS cls) rfl rfl (Bundle.fit_spec hcls).2
    (a' (.methodLink own ic (Bundle.initS cls)) (by simp [Bundle.ownAtomsX])) (h (.instanceMethod (Bundle.initS cls)) (by cases names <;> simp [Bundle.ownAtomsX, Bundle.chainSAtomsX, Bundle.passSAtoms])) (bytes := rx) (maxL := 2) (h (.code (Bundle.initS cls) rx 2 none) (by cases names <;> simp [Bundle.ownAtomsX, Bundle.chainSAtomsX, Bundle.passSAtoms]))
    (f := g) hg (a := a) (msg := msg) (rest := .ref a :: rest) hstack hd6
  cases Option.some.inj (hnC.symm.trans hP1m)
  have X₁ := X.noted hW₁
  obtain ⟨vm₂, X₂, st2⟩ := X₁.ctorMessageOffV hexec (g := { g with stack := .ref a :: rest }) hg hsize T L Z LZ M LM (P1 :: Ps)
    (fun P hP => by rcases List.mem_cons.mp hP with rfl | hP; exact L1; exact hL P hP) ⟨hlink1, hlink⟩ (u0 := u0) (sen := sen) (self := a) hmsg (cell := freshCell P1.m.cls kX) (cellS := cellS)
    hcell (fun _ => by simp) (by simp) rfl rfl hsel0 hselF hcellS hneS hknownS (by rw [hkeep _ (hout' _)]; exact hu0) (by rw [hkeep _ (hout' _)]; exact hsen)
    (Takes.of_laid hk hord tyC (by rw [Y.causeType]; rfl)) (Takes.of_laid hk hord tyS (by rw [Y.stackType]; exact fits_refV_array _ u0)) (Takes.of_laid hk hord tyP (by rw [Y.suppType]; exact fits_refV_object _ sen))
    (Takes.of_laid hk hord tyM (by rw [Y.msgType]; exact fits_refV_object _ ⟨msg, hmsg⟩)) Y.objLocals hskip htr [] hd6
    (by simp only [List.length_cons, hlen]; omega) (by simp only [List.length_cons, hlen]; exact hRlocals)
  obtain ⟨hwalk, hrun, hended, hWU, hsame⟩ := X₂.athrowLeaves hexec (g := { g with stack := .ref a :: rest, pc := g.pc + 3 }) hg hlocked hentered hout (a := a) (rest := rest) rfl hd9
  have hlt : a < ((W.setVm vm₁).setVm vm₂).heap.size := (Array.getElem?_eq_some_iff.mp hcell).1
  have hU := heapAt_setCell_self (s := (W.setVm vm₁).setVm vm₂) (plainBareV T.toThrowableT (freshCell P1.m.cls kX) a u0 sen msg) hlt
  refine ⟨_, st1 _ (fun acts => ?_), hrun, hended, hWU, hsame.weaken (fun y hy hlt' => ?_) (Nat.le_refl _) (Nat.le_refl _), _, hU, rfl, rfl⟩
  · rw [doInvoke_state]
    exact st2 _ hwalk
  · rcases List.mem_append.mp hy with h1 | h1
    · exact h1
    · exfalso
      have hb : y.base = a := by
        simp only [List.mem_cons, List.not_mem_nil, or_false] at h1
        rcases h1 with rfl | rfl | rfl | rfl | rfl <;> rfl
      rw [hb] at hlt'
      exact Nat.not_lt.mpr hnew hlt'
end JTH
/-- the two words of Throwable's statics -/
def jA1 : Cond := .isRef (.static Bundle.tN "UNASSIGNED_STACK" Bundle.steD)
def jA2 : Cond := .isRef (.static Bundle.tN "SUPPRESSED_SENTINEL" Bundle.listD)
def jA3 : Cond := .laysStatic Bundle.tN "UNASSIGNED_STACK" Bundle.steD
def jA4 : Cond := .laysStatic Bundle.tN "SUPPRESSED_SENTINEL" Bundle.listD
theorem jZ_word {C n d : String} {A : Nat → Prop} {U : State} (h : va_Zq C n d A U U.heap) (args : Array Value) : (Cond.isRef (.static C n d)).before args U = true := by
  rcases h with ⟨cf, kf, fi, f, a, cell, h1, h2, h3, h4, h5, h6, h7, h8⟩ | ⟨t, cf, kf, fi, f, a, cell, h1, h2, h3, h4, h5, h6, h7, h8⟩
  · have := Term.static_eval (args := args) (first := U) (o := none) (idx := []) h1 h2 h4 h5 h6 h7
    simp [Cond.before, Cond.holds, Cond.value, this, Value.isRef]
  · have := Term.static_eval (args := args) (first := U) (o := none) (idx := []) h1 h2 h4 h5 h6 h7
    simp [Cond.before, Cond.holds, Cond.value, this, Value.isRef]
section JTW
variable {p : Program} {l : Launch} {e : Env} {R : Room} {s : State} {m : MethodId} {args : Array Value} {below : List Frame} {meth : Method} {c : Code} {cells slots : Nat}
variable {cc : ByteArray} {nL : Nat} {own : String} {Ts : List Cond} {D : va_G} {cl : List vw_C} {tys : List (ClassId × FieldType)} {A : Nat → Prop}
variable {pc : Nat} {lv : List (Nat × Value)} {st : List Value} {ws : va_W} {post : Option String → Option Value → va_W → Prop}
set_option maxHeartbeats 1000000 in
/-- throw new X("..") where no handler covers it: one cell of six slots comes, and the method is left -/
theorem j_throw (hC : jC p s m args meth c cc nL own Ts D cl tys A) (hex : c.exceptionTable.isEmpty = true) (htr : e.platform.stackTraces = false) {cls tx : String} {names : List String} {ia ib ic ix : Nat} {rx : ByteArray} (x0 : decode rx 0 = .ok (.aload_n 0, 1)) (x1 : decode rx 1 = .ok (.aload_n 1, 1)) (x2 : decode rx 2 = .ok (.invokespecial ix, 3)) (x5 : decode rx 5 = .ok (.return_, 1))
    (hd0 : decode cc pc = .ok (.new ia, 3)) (hd3 : decode cc (pc + 3) = .ok (.dup, 1)) (hd4 : decode cc (pc + 4) = .ok (.ldc ib, 2)) (hd6 : decode cc (pc + 6) = .ok (.invokespecial ic, 3)) (hd9 : decode cc (pc + 9) = .ok (.athrow, 1))
    (hcls : Bundle.fit cls = true) (hnames : ∀ n ∈ names, Bundle.fit n = true) (hw : ∀ w ∈ [Cond.classLink own ia cls, .initialized cls, .instantiable cls 6, .stringRef own ib tx], w ∈ Ts)
    (ho : ∀ w ∈ Bundle.ownAtomsX own ic cls ix rx names, w ∈ Ts ∨ w = jA1 ∨ w = jA2 ∨ w = jA3 ∨ w = jA4)
    (hRf : names.length + 3 < R.frames) (hRl : (st.map fun v => v.category).sum + 1 + (13 * (names.length + 1) + 42) ≤ R.locals) (hcells : cells + 1 ≤ R.cells) (hslots : slots + 6 ≤ R.slots)
    (hp : post (some cls) none ws) :
    jJ p l e R s m args below meth c nL D cl A (hxQ below (jQ D cl post A) args s (cells + 1) (slots + 6) A) cells slots ws lv st pc := by
  intro H locs ls hP hD hS hl T hT X
  obtain ⟨hx, hb, hml, hown, hts, hK, hA, hww, hz, hlocks⟩ := hC
  subst hT
  subst hb
  have X' := hx_rebase (R' := { frames := R.frames, locals := R.locals, cells := 1, slots := 6 }) X (Nat.le_refl _) (Nat.le_refl _) hcells hslots
  generalize hs' : ({ s with heap := T.heap, slotsUsed := T.slotsUsed } : State) = s' at X'
  have hvm : s'.vm = s.vm := by rw [← hs']
  have hheap : s'.heap = T.heap := by rw [← hs']
  have hWs : s.WarmedH s'.vm := by rw [hvm]; exact State.WarmedH.refl s
  have wd : ∀ w ∈ Ts, w.before args s' = true := fun w h => hww w h args s' hWs
  have hown' : s'.vm.findClass own = some m.cls := by rw [hvm]; exact hown
  have h0 := wd _ (hw _ List.mem_cons_self)
  have h1 := wd _ (hw _ (List.mem_of_getElem? (i := 1) rfl))
  have h2 := wd _ (hw _ (List.mem_of_getElem? (i := 2) rfl))
  have h3 := wd _ (hw _ (List.mem_of_getElem? (i := 3) rfl))
  have hz' : jZ A s' s'.heap := hz.go (by rw [hvm]; exact Vm.Alike.refl _) (fun a q1 q2 => by rw [hheap]; exact hS.2.1 a q1 q2) (fun _ h => h)
  have hatoms : ∀ w ∈ Bundle.ownAtomsX own ic cls ix rx names, w.before args s' = true := by
    intro w hmem
    rcases ho w hmem with h | h | h | h | h
    · exact wd w h
    · rw [h]; exact jZ_word hz'.1.1 args
    · rw [h]; exact jZ_word hz'.2.1 args
    · rw [h]; exact hz'.1.2.word
    · rw [h]; exact hz'.2.2.word
  obtain ⟨vm₁, cX, kX, hfX, hkX, -, -, X₁, st1⟩ := X'.newCold hx (own := own) (C := cls) (index := ia) (n := 6) hown' h0 h2 h1 (g := F0 m pc ls st) rfl hd0 (Nat.le_refl 1) (Nat.le_refl 6)
  obtain ⟨k9, cf9, i9, sa, hk9, hcf9, hcp9, -, hr9, hev⟩ := Cond.stringRef_spec hown' h3
  generalize hT1 : (T.setVm vm₁).pushCell { cls := cX, slots := kX.instanceTypes.map defaultValue, vm := .none } = T₁ at X₁ st1
  have hcellA : T₁.heap[T.heap.size]? = some (freshCell cX kX) := by rw [← hT1]; exact State.heap_pushCell_size _ _
  have st2 := X₁.ldcString hx (text := tx) (a := sa) hown' h3 hev (g := F0 m (pc + 4) ls (.ref T.heap.size :: .ref T.heap.size :: st)) rfl hd4
  obtain ⟨U, hsteps, hrun, hend, hW, hsame, ce, hce, K1, K2⟩ := hx_ctor X₁ hx htr x0 x1 x2 x5 (own := own) (cls := cls) (names := names) (ic := ic) hown' hcls hnames hatoms (fun y hy => by cases hy) hfX hkX hcellA (by rw [hheap]; exact Nat.le_refl _) (msg := .ref sa) rfl
    (g := F0 m (pc + 6) ls (.ref sa :: .ref T.heap.size :: .ref T.heap.size :: st)) rfl (by show ls.size = _; exact hl.1.trans hml.symm) rfl rfl (rest := st) rfl hd6 hd9 (covers_of_empty hex _) hRf (by rw [List.map_cons, List.sum_cons]; show 2 * 0 + (1 + (st.map fun v => v.category).sum) + (13 * (names.length + 1) + 42) ≤ R.locals; omega) hlocks
  have hold : ∀ q : Nat, q < T.heap.size → U.heap[q]? = T.heap[q]? := by
    intro q hq
    have hc : s'.heap[q]? = some T.heap[q] := by rw [hheap]; exact Array.getElem?_eq_getElem hq
    have := State.sameButNew.old_cell hsame hc
    rw [show U.heap[q]? = some T.heap[q] from this, Array.getElem?_eq_getElem hq]
  have hsz : T.heap.size ≤ U.heap.size := by have := hsame.2.1; rw [hheap] at this; exact this
  have hWU : s.WarmedH U.vm := by rw [← hs'] at hW; exact hW
  refine ⟨U, ?_, .threw T.heap.size, hrun, hend, ⟨⟨ws, ⟨cls, hp, ce, hce, by rw [K2]; rfl, ?_⟩, hP.kept (fun k q hk => ?_), hD⟩, ?_, ?_⟩, locs, ⟨hWU, ?_⟩, hS.2.2⟩
  · refine st1 _ ?_
    show Steps p.tables e below (T₁.setTop (F0 m (pc + 3) ls (.ref T.heap.size :: st))) _
    jvm_step X₁.here [X₁.here.top, hx, hd3, Value.category]
    exact st2 _ hsteps
  · rw [hWU.alike.findClass, ← hvm, K1]; exact hfX
  · exact hold _ (hP k q hk).lt
  · exact Nat.le_trans hS.1 hsz
  · intro q q1 q2
    rw [hold q (Nat.lt_of_lt_of_le q1 hS.1)]
    exact hS.2.1 q q1 q2
  · have := hs' ▸ hsame
    exact hx_unbase X this
end JTW
end
section
/-- what a system's ints are: component, index, value -/
abbrev jU : Type := Nat → Nat → Int32
def up (u : jU) (c i : Nat) (v : Int32) : jU := fun c' i' => if c' = c ∧ i' = i then v else u c' i'
theorem up_same (u : jU) (c i : Nat) (v : Int32) : up u c i v c i = v := by simp [up]
theorem up_comp (u : jU) {c c' : Nat} (i i' : Nat) (v : Int32) (h : c' ≠ c) : up u c i v c' i' = u c' i' := by simp [up, h]
theorem up_idx (u : jU) {c i i' : Nat} (v : Int32) (h : i' ≠ i) : up u c i v c i' = u c i' := by simp [up, h]
theorem up_row (u : jU) (c i : Nat) (v : Int32) : up u c i v c = upd (u c) i v := by
  funext j; simp [up, upd]
theorem up_rows (u : jU) {c c' : Nat} (i : Nat) (v : Int32) (h : c' ≠ c) : up u c i v c' = u c' := by
  funext j; simp [up, h]
theorem up_up (u : jU) (c i : Nat) (v w : Int32) : up (up u c i v) c i w = up u c i w := by
  funext a b; simp only [up]; split <;> simp_all
theorem up_self (u : jU) (c i : Nat) : up u c i (u c i) = u := by
  funext a b; simp only [up]; split <;> simp_all

/-- the cell at a place: 0 the house, 1 .. 6 its arrays, 7 Match, 8 Sight, 9 .. 14 their arrays, 15 + i the rules, 31 + i their rows of literals, 47 + j the atoms (5 i: the head of rule i, 5 i + 1 + q: its literal q) -/
def cwe (g k : Nat → Nat) (u : jU) (q : Nat) : va_E :=
  if 47 ≤ q then .inr (0, [.int (u 16 (q - 47)), .int (u 17 (q - 47)), .int (u 18 (q - 47)), .int (u 19 (q - 47))])
  else if 31 ≤ q then .inl (k 1, (4, .inr (.inr (.inr (.inr (fun z => if z < 4 then some (g (47 + (5 * (q - 31) + 1 + z))) else none))))))
  else if 15 ≤ q then .inr (2, [.ref (g (47 + 5 * (q - 15))), .ref (g (31 + (q - 15))), .int (u 12 (q - 15)), .int (u 13 (q - 15)), .int (u 14 (q - 15)), .int (u 15 (q - 15))])
  else match q with
  | 0 => .inr (4, [.ref (g 1), .ref (g 2), .ref (g 3), .int (u 0 0), .int (u 0 1), .ref (g 4), .ref (g 5), .ref (g 6), .ref (g 7), .int (u 0 2), .int (u 0 3), .int (u 0 4)])
  | 3 => .inl (k 2, (16, .inr (.inr (.inr (.inr (fun i => if i < 16 then some (g (15 + i)) else none))))))
  | 7 => .inr (1, [.ref (g 8), .ref (g 9)])
  | 8 => .inr (3, [.ref (g 10), .ref (g 11), .ref (g 12), .ref (g 13), .ref (g 14)])
  | 1 => .inl (k 0, 8, .inl (u 1))
  | 2 => .inl (k 0, 96, .inl (u 2))
  | 4 => .inl (k 0, 8, .inl (u 3))
  | 5 => .inl (k 0, 1152, .inl (u 4))
  | 6 => .inl (k 0, 96, .inl (u 5))
  | 9 => .inl (k 0, 24, .inl (u 6))
  | 10 => .inl (k 0, 96, .inl (u 7))
  | 11 => .inl (k 0, 96, .inl (u 8))
  | 12 => .inl (k 0, 8, .inl (u 9))
  | 13 => .inl (k 0, 8, .inl (u 10))
  | 14 => .inl (k 0, 8, .inl (u 11))
  | _ => .inl (k 0, 0, .inl (u 0))
def cw (g k : Nat → Nat) (u : jU) : va_W := (List.range 127).map (fun q => (g q, cwe g k u q))
theorem cw_at (g k : Nat → Nat) (u : jU) {q : Nat} (h : q < 127) : (cw g k u)[q]? = some (g q, cwe g k u q) := by
  simp [cw, List.getElem?_map, List.getElem?_range h]
theorem cw_set {g k : Nat → Nat} {u u' : jU} {q : Nat} {e : va_E} (h1 : cwe g k u' q = e) (h2 : ∀ j, j < 127 → j ≠ q → cwe g k u' j = cwe g k u j) : (cw g k u).set q (g q, e) = cw g k u' := by
  subst h1
  refine List.ext_getElem? fun j => ?_
  rw [List.getElem?_set]
  by_cases hj : j < 127
  · by_cases hq : q = j
    · subst hq
      have hl : q < (cw g k u).length := by simp [cw]; exact hj
      rw [if_pos rfl, if_pos hl, cw_at g k u' hj]
    · rw [if_neg hq, cw_at g k u hj, cw_at g k u' hj, h2 j hj (fun e => hq e.symm)]
  · have e1 : (cw g k u)[j]? = none := List.getElem?_eq_none (by simp [cw]; omega)
    have e2 : (cw g k u')[j]? = none := List.getElem?_eq_none (by simp [cw]; omega)
    rw [e1, e2]
    by_cases hq : q = j
    · subst hq
      rw [if_pos rfl, if_neg (by simp [cw]; omega)]
    · rw [if_neg hq]
theorem cw_house (g k : Nat → Nat) (u : jU) : (cw g k u)[0]? = some (g (0), .inr (4, [.ref (g 1), .ref (g 2), .ref (g 3), .int (u 0 0), .int (u 0 1), .ref (g 4), .ref (g 5), .ref (g 6), .ref (g 7), .int (u 0 2), .int (u 0 3), .int (u 0 4)])) := by rw [cw_at g k u (by omega)]; rfl
theorem cw_rules (g k : Nat → Nat) (u : jU) : (cw g k u)[3]? = some (g (3), .inl (k 2, (16, .inr (.inr (.inr (.inr (fun i => if i < 16 then some (g (15 + i)) else none))))))) := by rw [cw_at g k u (by omega)]; rfl
theorem cw_match (g k : Nat → Nat) (u : jU) : (cw g k u)[7]? = some (g (7), .inr (1, [.ref (g 8), .ref (g 9)])) := by rw [cw_at g k u (by omega)]; rfl
theorem cw_sight (g k : Nat → Nat) (u : jU) : (cw g k u)[8]? = some (g (8), .inr (3, [.ref (g 10), .ref (g 11), .ref (g 12), .ref (g 13), .ref (g 14)])) := by rw [cw_at g k u (by omega)]; rfl
theorem cw_places (g k : Nat → Nat) (u : jU) : (cw g k u)[1]? = some (g (1), .inl (k 0, 8, .inl (u 1))) := by rw [cw_at g k u (by omega)]; rfl
theorem cw_given (g k : Nat → Nat) (u : jU) : (cw g k u)[2]? = some (g (2), .inl (k 0, 96, .inl (u 2))) := by rw [cw_at g k u (by omega)]; rfl
theorem cw_layers (g k : Nat → Nat) (u : jU) : (cw g k u)[4]? = some (g (4), .inl (k 0, 8, .inl (u 3))) := by rw [cw_at g k u (by omega)]; rfl
theorem cw_ranks (g k : Nat → Nat) (u : jU) : (cw g k u)[5]? = some (g (5), .inl (k 0, 1152, .inl (u 4))) := by rw [cw_at g k u (by omega)]; rfl
theorem cw_fresh (g k : Nat → Nat) (u : jU) : (cw g k u)[6]? = some (g (6), .inl (k 0, 96, .inl (u 5))) := by rw [cw_at g k u (by omega)]; rfl
theorem cw_values (g k : Nat → Nat) (u : jU) : (cw g k u)[9]? = some (g (9), .inl (k 0, 24, .inl (u 6))) := by rw [cw_at g k u (by omega)]; rfl
theorem cw_secondsByFirst (g k : Nat → Nat) (u : jU) : (cw g k u)[10]? = some (g (10), .inl (k 0, 96, .inl (u 7))) := by rw [cw_at g k u (by omega)]; rfl
theorem cw_firstsBySecond (g k : Nat → Nat) (u : jU) : (cw g k u)[11]? = some (g (11), .inl (k 0, 96, .inl (u 8))) := by rw [cw_at g k u (by omega)]; rfl
theorem cw_firsts (g k : Nat → Nat) (u : jU) : (cw g k u)[12]? = some (g (12), .inl (k 0, 8, .inl (u 9))) := by rw [cw_at g k u (by omega)]; rfl
theorem cw_seconds (g k : Nat → Nat) (u : jU) : (cw g k u)[13]? = some (g (13), .inl (k 0, 8, .inl (u 10))) := by rw [cw_at g k u (by omega)]; rfl
theorem cw_doubles (g k : Nat → Nat) (u : jU) : (cw g k u)[14]? = some (g (14), .inl (k 0, 8, .inl (u 11))) := by rw [cw_at g k u (by omega)]; rfl
theorem cw_rule (g k : Nat → Nat) (u : jU) {i : Nat} (hi : i < 16) : (cw g k u)[15 + i]? = some (g (15 + i), .inr (2, [.ref (g (47 + 5 * i)), .ref (g (31 + i)), .int (u 12 i), .int (u 13 i), .int (u 14 i), .int (u 15 i)])) := by
  rw [cw_at g k u (by omega)]
  simp only [cwe, if_neg (show ¬ 47 ≤ 15 + i by omega), if_neg (show ¬ 31 ≤ 15 + i by omega), if_pos (show 15 ≤ 15 + i by omega), Nat.add_sub_cancel_left]
theorem cw_lits (g k : Nat → Nat) (u : jU) {i : Nat} (hi : i < 16) : (cw g k u)[31 + i]? = some (g (31 + i), .inl (k 1, (4, .inr (.inr (.inr (.inr (fun z => if z < 4 then some (g (47 + (5 * i + 1 + z))) else none))))))) := by
  rw [cw_at g k u (by omega)]
  simp only [cwe, if_neg (show ¬ 47 ≤ 31 + i by omega), if_pos (show 31 ≤ 31 + i by omega), Nat.add_sub_cancel_left]
theorem cw_atom (g k : Nat → Nat) (u : jU) {j : Nat} (hj : j < 80) : (cw g k u)[47 + j]? = some (g (47 + j), .inr (0, [.int (u 16 j), .int (u 17 j), .int (u 18 j), .int (u 19 j)])) := by
  rw [cw_at g k u (by omega)]
  simp only [cwe, if_pos (show 47 ≤ 47 + j by omega), Nat.add_sub_cancel_left]
theorem cwe_low {g k : Nat → Nat} {u u' : jU} (q0 : Nat) (h : ∀ j, j < 15 → j ≠ q0 → cwe g k u' j = cwe g k u j) (h12 : u' 12 = u 12) (h13 : u' 13 = u 13) (h14 : u' 14 = u 14) (h15 : u' 15 = u 15) (h16 : u' 16 = u 16) (h17 : u' 17 = u 17) (h18 : u' 18 = u 18) (h19 : u' 19 = u 19) : ∀ j, j < 127 → j ≠ q0 → cwe g k u' j = cwe g k u j := by
  intro j hj hne
  by_cases h15' : j < 15
  · exact h j h15' hne
  · unfold cwe
    split
    · rw [h16, h17, h18, h19]
    · split
      · rfl
      · rw [if_pos (by omega), if_pos (by omega), h12, h13, h14, h15]
theorem cw_set_relationCount (g k : Nat → Nat) (u : jU) (v : Int32) : (cw g k u).set 0 (g 0, .inr (4, List.set [.ref (g 1), .ref (g 2), .ref (g 3), .int (u 0 0), .int (u 0 1), .ref (g 4), .ref (g 5), .ref (g 6), .ref (g 7), .int (u 0 2), .int (u 0 3), .int (u 0 4)] 3 (.int v))) = cw g k (up u 0 0 v) := by
  refine cw_set rfl (cwe_low 0 (fun j hj hne => ?_) rfl rfl rfl rfl rfl rfl rfl rfl)
  match j, hj, hne with
  | 0, _, hne => exact absurd rfl hne
  | 1, _, _ => rfl
  | 2, _, _ => rfl
  | 3, _, _ => rfl
  | 4, _, _ => rfl
  | 5, _, _ => rfl
  | 6, _, _ => rfl
  | 7, _, _ => rfl
  | 8, _, _ => rfl
  | 9, _, _ => rfl
  | 10, _, _ => rfl
  | 11, _, _ => rfl
  | 12, _, _ => rfl
  | 13, _, _ => rfl
  | 14, _, _ => rfl
  | j + 15, hj, _ => exact absurd hj (by omega)
theorem cw_set_ruleCount (g k : Nat → Nat) (u : jU) (v : Int32) : (cw g k u).set 0 (g 0, .inr (4, List.set [.ref (g 1), .ref (g 2), .ref (g 3), .int (u 0 0), .int (u 0 1), .ref (g 4), .ref (g 5), .ref (g 6), .ref (g 7), .int (u 0 2), .int (u 0 3), .int (u 0 4)] 4 (.int v))) = cw g k (up u 0 1 v) := by
  refine cw_set rfl (cwe_low 0 (fun j hj hne => ?_) rfl rfl rfl rfl rfl rfl rfl rfl)
  match j, hj, hne with
  | 0, _, hne => exact absurd rfl hne
  | 1, _, _ => rfl
  | 2, _, _ => rfl
  | 3, _, _ => rfl
  | 4, _, _ => rfl
  | 5, _, _ => rfl
  | 6, _, _ => rfl
  | 7, _, _ => rfl
  | 8, _, _ => rfl
  | 9, _, _ => rfl
  | 10, _, _ => rfl
  | 11, _, _ => rfl
  | 12, _, _ => rfl
  | 13, _, _ => rfl
  | 14, _, _ => rfl
  | j + 15, hj, _ => exact absurd hj (by omega)
theorem cw_set_faultFound (g k : Nat → Nat) (u : jU) (v : Int32) : (cw g k u).set 0 (g 0, .inr (4, List.set [.ref (g 1), .ref (g 2), .ref (g 3), .int (u 0 0), .int (u 0 1), .ref (g 4), .ref (g 5), .ref (g 6), .ref (g 7), .int (u 0 2), .int (u 0 3), .int (u 0 4)] 9 (.int v))) = cw g k (up u 0 2 v) := by
  refine cw_set rfl (cwe_low 0 (fun j hj hne => ?_) rfl rfl rfl rfl rfl rfl rfl rfl)
  match j, hj, hne with
  | 0, _, hne => exact absurd rfl hne
  | 1, _, _ => rfl
  | 2, _, _ => rfl
  | 3, _, _ => rfl
  | 4, _, _ => rfl
  | 5, _, _ => rfl
  | 6, _, _ => rfl
  | 7, _, _ => rfl
  | 8, _, _ => rfl
  | 9, _, _ => rfl
  | 10, _, _ => rfl
  | 11, _, _ => rfl
  | 12, _, _ => rfl
  | 13, _, _ => rfl
  | 14, _, _ => rfl
  | j + 15, hj, _ => exact absurd hj (by omega)
theorem cw_set_judged (g k : Nat → Nat) (u : jU) (v : Int32) : (cw g k u).set 0 (g 0, .inr (4, List.set [.ref (g 1), .ref (g 2), .ref (g 3), .int (u 0 0), .int (u 0 1), .ref (g 4), .ref (g 5), .ref (g 6), .ref (g 7), .int (u 0 2), .int (u 0 3), .int (u 0 4)] 10 (.int v))) = cw g k (up u 0 3 v) := by
  refine cw_set rfl (cwe_low 0 (fun j hj hne => ?_) rfl rfl rfl rfl rfl rfl rfl rfl)
  match j, hj, hne with
  | 0, _, hne => exact absurd rfl hne
  | 1, _, _ => rfl
  | 2, _, _ => rfl
  | 3, _, _ => rfl
  | 4, _, _ => rfl
  | 5, _, _ => rfl
  | 6, _, _ => rfl
  | 7, _, _ => rfl
  | 8, _, _ => rfl
  | 9, _, _ => rfl
  | 10, _, _ => rfl
  | 11, _, _ => rfl
  | 12, _, _ => rfl
  | 13, _, _ => rfl
  | 14, _, _ => rfl
  | j + 15, hj, _ => exact absurd hj (by omega)
theorem cw_set_settled (g k : Nat → Nat) (u : jU) (v : Int32) : (cw g k u).set 0 (g 0, .inr (4, List.set [.ref (g 1), .ref (g 2), .ref (g 3), .int (u 0 0), .int (u 0 1), .ref (g 4), .ref (g 5), .ref (g 6), .ref (g 7), .int (u 0 2), .int (u 0 3), .int (u 0 4)] 11 (.int v))) = cw g k (up u 0 4 v) := by
  refine cw_set rfl (cwe_low 0 (fun j hj hne => ?_) rfl rfl rfl rfl rfl rfl rfl rfl)
  match j, hj, hne with
  | 0, _, hne => exact absurd rfl hne
  | 1, _, _ => rfl
  | 2, _, _ => rfl
  | 3, _, _ => rfl
  | 4, _, _ => rfl
  | 5, _, _ => rfl
  | 6, _, _ => rfl
  | 7, _, _ => rfl
  | 8, _, _ => rfl
  | 9, _, _ => rfl
  | 10, _, _ => rfl
  | 11, _, _ => rfl
  | 12, _, _ => rfl
  | 13, _, _ => rfl
  | 14, _, _ => rfl
  | j + 15, hj, _ => exact absurd hj (by omega)
theorem cw_set_places (g k : Nat → Nat) (u : jU) (n : Nat) (v : Int32) : (cw g k u).set 1 (g 1, .inl (k 0, 8, .inl (upd (u 1) n v))) = cw g k (up u 1 n v) := by
  refine cw_set (congrArg (fun f : Nat → Int32 => (Sum.inl (k 0, 8, Sum.inl f) : va_E)) (up_row u 1 n v)) (cwe_low 1 (fun j hj hne => ?_) rfl rfl rfl rfl rfl rfl rfl rfl)
  match j, hj, hne with
  | 0, _, _ => rfl
  | 1, _, hne => exact absurd rfl hne
  | 2, _, _ => rfl
  | 3, _, _ => rfl
  | 4, _, _ => rfl
  | 5, _, _ => rfl
  | 6, _, _ => rfl
  | 7, _, _ => rfl
  | 8, _, _ => rfl
  | 9, _, _ => rfl
  | 10, _, _ => rfl
  | 11, _, _ => rfl
  | 12, _, _ => rfl
  | 13, _, _ => rfl
  | 14, _, _ => rfl
  | j + 15, hj, _ => exact absurd hj (by omega)
theorem cw_set_given (g k : Nat → Nat) (u : jU) (n : Nat) (v : Int32) : (cw g k u).set 2 (g 2, .inl (k 0, 96, .inl (upd (u 2) n v))) = cw g k (up u 2 n v) := by
  refine cw_set (congrArg (fun f : Nat → Int32 => (Sum.inl (k 0, 96, Sum.inl f) : va_E)) (up_row u 2 n v)) (cwe_low 2 (fun j hj hne => ?_) rfl rfl rfl rfl rfl rfl rfl rfl)
  match j, hj, hne with
  | 0, _, _ => rfl
  | 1, _, _ => rfl
  | 2, _, hne => exact absurd rfl hne
  | 3, _, _ => rfl
  | 4, _, _ => rfl
  | 5, _, _ => rfl
  | 6, _, _ => rfl
  | 7, _, _ => rfl
  | 8, _, _ => rfl
  | 9, _, _ => rfl
  | 10, _, _ => rfl
  | 11, _, _ => rfl
  | 12, _, _ => rfl
  | 13, _, _ => rfl
  | 14, _, _ => rfl
  | j + 15, hj, _ => exact absurd hj (by omega)
theorem cw_set_layers (g k : Nat → Nat) (u : jU) (n : Nat) (v : Int32) : (cw g k u).set 4 (g 4, .inl (k 0, 8, .inl (upd (u 3) n v))) = cw g k (up u 3 n v) := by
  refine cw_set (congrArg (fun f : Nat → Int32 => (Sum.inl (k 0, 8, Sum.inl f) : va_E)) (up_row u 3 n v)) (cwe_low 4 (fun j hj hne => ?_) rfl rfl rfl rfl rfl rfl rfl rfl)
  match j, hj, hne with
  | 0, _, _ => rfl
  | 1, _, _ => rfl
  | 2, _, _ => rfl
  | 3, _, _ => rfl
  | 4, _, hne => exact absurd rfl hne
  | 5, _, _ => rfl
  | 6, _, _ => rfl
  | 7, _, _ => rfl
  | 8, _, _ => rfl
  | 9, _, _ => rfl
  | 10, _, _ => rfl
  | 11, _, _ => rfl
  | 12, _, _ => rfl
  | 13, _, _ => rfl
  | 14, _, _ => rfl
  | j + 15, hj, _ => exact absurd hj (by omega)
theorem cw_set_ranks (g k : Nat → Nat) (u : jU) (n : Nat) (v : Int32) : (cw g k u).set 5 (g 5, .inl (k 0, 1152, .inl (upd (u 4) n v))) = cw g k (up u 4 n v) := by
  refine cw_set (congrArg (fun f : Nat → Int32 => (Sum.inl (k 0, 1152, Sum.inl f) : va_E)) (up_row u 4 n v)) (cwe_low 5 (fun j hj hne => ?_) rfl rfl rfl rfl rfl rfl rfl rfl)
  match j, hj, hne with
  | 0, _, _ => rfl
  | 1, _, _ => rfl
  | 2, _, _ => rfl
  | 3, _, _ => rfl
  | 4, _, _ => rfl
  | 5, _, hne => exact absurd rfl hne
  | 6, _, _ => rfl
  | 7, _, _ => rfl
  | 8, _, _ => rfl
  | 9, _, _ => rfl
  | 10, _, _ => rfl
  | 11, _, _ => rfl
  | 12, _, _ => rfl
  | 13, _, _ => rfl
  | 14, _, _ => rfl
  | j + 15, hj, _ => exact absurd hj (by omega)
theorem cw_set_fresh (g k : Nat → Nat) (u : jU) (n : Nat) (v : Int32) : (cw g k u).set 6 (g 6, .inl (k 0, 96, .inl (upd (u 5) n v))) = cw g k (up u 5 n v) := by
  refine cw_set (congrArg (fun f : Nat → Int32 => (Sum.inl (k 0, 96, Sum.inl f) : va_E)) (up_row u 5 n v)) (cwe_low 6 (fun j hj hne => ?_) rfl rfl rfl rfl rfl rfl rfl rfl)
  match j, hj, hne with
  | 0, _, _ => rfl
  | 1, _, _ => rfl
  | 2, _, _ => rfl
  | 3, _, _ => rfl
  | 4, _, _ => rfl
  | 5, _, _ => rfl
  | 6, _, hne => exact absurd rfl hne
  | 7, _, _ => rfl
  | 8, _, _ => rfl
  | 9, _, _ => rfl
  | 10, _, _ => rfl
  | 11, _, _ => rfl
  | 12, _, _ => rfl
  | 13, _, _ => rfl
  | 14, _, _ => rfl
  | j + 15, hj, _ => exact absurd hj (by omega)
theorem cw_set_values (g k : Nat → Nat) (u : jU) (n : Nat) (v : Int32) : (cw g k u).set 9 (g 9, .inl (k 0, 24, .inl (upd (u 6) n v))) = cw g k (up u 6 n v) := by
  refine cw_set (congrArg (fun f : Nat → Int32 => (Sum.inl (k 0, 24, Sum.inl f) : va_E)) (up_row u 6 n v)) (cwe_low 9 (fun j hj hne => ?_) rfl rfl rfl rfl rfl rfl rfl rfl)
  match j, hj, hne with
  | 0, _, _ => rfl
  | 1, _, _ => rfl
  | 2, _, _ => rfl
  | 3, _, _ => rfl
  | 4, _, _ => rfl
  | 5, _, _ => rfl
  | 6, _, _ => rfl
  | 7, _, _ => rfl
  | 8, _, _ => rfl
  | 9, _, hne => exact absurd rfl hne
  | 10, _, _ => rfl
  | 11, _, _ => rfl
  | 12, _, _ => rfl
  | 13, _, _ => rfl
  | 14, _, _ => rfl
  | j + 15, hj, _ => exact absurd hj (by omega)
theorem cw_set_secondsByFirst (g k : Nat → Nat) (u : jU) (n : Nat) (v : Int32) : (cw g k u).set 10 (g 10, .inl (k 0, 96, .inl (upd (u 7) n v))) = cw g k (up u 7 n v) := by
  refine cw_set (congrArg (fun f : Nat → Int32 => (Sum.inl (k 0, 96, Sum.inl f) : va_E)) (up_row u 7 n v)) (cwe_low 10 (fun j hj hne => ?_) rfl rfl rfl rfl rfl rfl rfl rfl)
  match j, hj, hne with
  | 0, _, _ => rfl
  | 1, _, _ => rfl
  | 2, _, _ => rfl
  | 3, _, _ => rfl
  | 4, _, _ => rfl
  | 5, _, _ => rfl
  | 6, _, _ => rfl
  | 7, _, _ => rfl
  | 8, _, _ => rfl
  | 9, _, _ => rfl
  | 10, _, hne => exact absurd rfl hne
  | 11, _, _ => rfl
  | 12, _, _ => rfl
  | 13, _, _ => rfl
  | 14, _, _ => rfl
  | j + 15, hj, _ => exact absurd hj (by omega)
theorem cw_set_firstsBySecond (g k : Nat → Nat) (u : jU) (n : Nat) (v : Int32) : (cw g k u).set 11 (g 11, .inl (k 0, 96, .inl (upd (u 8) n v))) = cw g k (up u 8 n v) := by
  refine cw_set (congrArg (fun f : Nat → Int32 => (Sum.inl (k 0, 96, Sum.inl f) : va_E)) (up_row u 8 n v)) (cwe_low 11 (fun j hj hne => ?_) rfl rfl rfl rfl rfl rfl rfl rfl)
  match j, hj, hne with
  | 0, _, _ => rfl
  | 1, _, _ => rfl
  | 2, _, _ => rfl
  | 3, _, _ => rfl
  | 4, _, _ => rfl
  | 5, _, _ => rfl
  | 6, _, _ => rfl
  | 7, _, _ => rfl
  | 8, _, _ => rfl
  | 9, _, _ => rfl
  | 10, _, _ => rfl
  | 11, _, hne => exact absurd rfl hne
  | 12, _, _ => rfl
  | 13, _, _ => rfl
  | 14, _, _ => rfl
  | j + 15, hj, _ => exact absurd hj (by omega)
theorem cw_set_firsts (g k : Nat → Nat) (u : jU) (n : Nat) (v : Int32) : (cw g k u).set 12 (g 12, .inl (k 0, 8, .inl (upd (u 9) n v))) = cw g k (up u 9 n v) := by
  refine cw_set (congrArg (fun f : Nat → Int32 => (Sum.inl (k 0, 8, Sum.inl f) : va_E)) (up_row u 9 n v)) (cwe_low 12 (fun j hj hne => ?_) rfl rfl rfl rfl rfl rfl rfl rfl)
  match j, hj, hne with
  | 0, _, _ => rfl
  | 1, _, _ => rfl
  | 2, _, _ => rfl
  | 3, _, _ => rfl
  | 4, _, _ => rfl
  | 5, _, _ => rfl
  | 6, _, _ => rfl
  | 7, _, _ => rfl
  | 8, _, _ => rfl
  | 9, _, _ => rfl
  | 10, _, _ => rfl
  | 11, _, _ => rfl
  | 12, _, hne => exact absurd rfl hne
  | 13, _, _ => rfl
  | 14, _, _ => rfl
  | j + 15, hj, _ => exact absurd hj (by omega)
theorem cw_set_seconds (g k : Nat → Nat) (u : jU) (n : Nat) (v : Int32) : (cw g k u).set 13 (g 13, .inl (k 0, 8, .inl (upd (u 10) n v))) = cw g k (up u 10 n v) := by
  refine cw_set (congrArg (fun f : Nat → Int32 => (Sum.inl (k 0, 8, Sum.inl f) : va_E)) (up_row u 10 n v)) (cwe_low 13 (fun j hj hne => ?_) rfl rfl rfl rfl rfl rfl rfl rfl)
  match j, hj, hne with
  | 0, _, _ => rfl
  | 1, _, _ => rfl
  | 2, _, _ => rfl
  | 3, _, _ => rfl
  | 4, _, _ => rfl
  | 5, _, _ => rfl
  | 6, _, _ => rfl
  | 7, _, _ => rfl
  | 8, _, _ => rfl
  | 9, _, _ => rfl
  | 10, _, _ => rfl
  | 11, _, _ => rfl
  | 12, _, _ => rfl
  | 13, _, hne => exact absurd rfl hne
  | 14, _, _ => rfl
  | j + 15, hj, _ => exact absurd hj (by omega)
theorem cw_set_doubles (g k : Nat → Nat) (u : jU) (n : Nat) (v : Int32) : (cw g k u).set 14 (g 14, .inl (k 0, 8, .inl (upd (u 11) n v))) = cw g k (up u 11 n v) := by
  refine cw_set (congrArg (fun f : Nat → Int32 => (Sum.inl (k 0, 8, Sum.inl f) : va_E)) (up_row u 11 n v)) (cwe_low 14 (fun j hj hne => ?_) rfl rfl rfl rfl rfl rfl rfl rfl)
  match j, hj, hne with
  | 0, _, _ => rfl
  | 1, _, _ => rfl
  | 2, _, _ => rfl
  | 3, _, _ => rfl
  | 4, _, _ => rfl
  | 5, _, _ => rfl
  | 6, _, _ => rfl
  | 7, _, _ => rfl
  | 8, _, _ => rfl
  | 9, _, _ => rfl
  | 10, _, _ => rfl
  | 11, _, _ => rfl
  | 12, _, _ => rfl
  | 13, _, _ => rfl
  | 14, _, hne => exact absurd rfl hne
  | j + 15, hj, _ => exact absurd hj (by omega)
theorem cw_set_size (g k : Nat → Nat) (u : jU) {i : Nat} (hi : i < 16) (v : Int32) : (cw g k u).set (15 + i) (g (15 + i), .inr (2, List.set [.ref (g (47 + 5 * i)), .ref (g (31 + i)), .int (u 12 i), .int (u 13 i), .int (u 14 i), .int (u 15 i)] 2 (.int v))) = cw g k (up u 12 i v) := by
  refine cw_set ?_ (fun j hj hne => ?_)
  · simp only [cwe, if_neg (show ¬ 47 ≤ 15 + i by omega), if_neg (show ¬ 31 ≤ 15 + i by omega), if_pos (show 15 ≤ 15 + i by omega), Nat.add_sub_cancel_left]
    simp [up]
  · unfold cwe
    split
    · rfl
    · split
      · rfl
      · split
        · have : j - 15 ≠ i := by omega
          simp [up, this]
        · split <;> rfl
theorem cw_set_variables (g k : Nat → Nat) (u : jU) {i : Nat} (hi : i < 16) (v : Int32) : (cw g k u).set (15 + i) (g (15 + i), .inr (2, List.set [.ref (g (47 + 5 * i)), .ref (g (31 + i)), .int (u 12 i), .int (u 13 i), .int (u 14 i), .int (u 15 i)] 3 (.int v))) = cw g k (up u 13 i v) := by
  refine cw_set ?_ (fun j hj hne => ?_)
  · simp only [cwe, if_neg (show ¬ 47 ≤ 15 + i by omega), if_neg (show ¬ 31 ≤ 15 + i by omega), if_pos (show 15 ≤ 15 + i by omega), Nat.add_sub_cancel_left]
    simp [up]
  · unfold cwe
    split
    · rfl
    · split
      · rfl
      · split
        · have : j - 15 ≠ i := by omega
          simp [up, this]
        · split <;> rfl
theorem cw_set_positiveVariables (g k : Nat → Nat) (u : jU) {i : Nat} (hi : i < 16) (v : Int32) : (cw g k u).set (15 + i) (g (15 + i), .inr (2, List.set [.ref (g (47 + 5 * i)), .ref (g (31 + i)), .int (u 12 i), .int (u 13 i), .int (u 14 i), .int (u 15 i)] 4 (.int v))) = cw g k (up u 14 i v) := by
  refine cw_set ?_ (fun j hj hne => ?_)
  · simp only [cwe, if_neg (show ¬ 47 ≤ 15 + i by omega), if_neg (show ¬ 31 ≤ 15 + i by omega), if_pos (show 15 ≤ 15 + i by omega), Nat.add_sub_cancel_left]
    simp [up]
  · unfold cwe
    split
    · rfl
    · split
      · rfl
      · split
        · have : j - 15 ≠ i := by omega
          simp [up, this]
        · split <;> rfl
theorem cw_set_positiveRelations (g k : Nat → Nat) (u : jU) {i : Nat} (hi : i < 16) (v : Int32) : (cw g k u).set (15 + i) (g (15 + i), .inr (2, List.set [.ref (g (47 + 5 * i)), .ref (g (31 + i)), .int (u 12 i), .int (u 13 i), .int (u 14 i), .int (u 15 i)] 5 (.int v))) = cw g k (up u 15 i v) := by
  refine cw_set ?_ (fun j hj hne => ?_)
  · simp only [cwe, if_neg (show ¬ 47 ≤ 15 + i by omega), if_neg (show ¬ 31 ≤ 15 + i by omega), if_pos (show 15 ≤ 15 + i by omega), Nat.add_sub_cancel_left]
    simp [up]
  · unfold cwe
    split
    · rfl
    · split
      · rfl
      · split
        · have : j - 15 ≠ i := by omega
          simp [up, this]
        · split <;> rfl
theorem cw_set_relation (g k : Nat → Nat) (u : jU) {j : Nat} (hj : j < 80) (v : Int32) : (cw g k u).set (47 + j) (g (47 + j), .inr (0, List.set [.int (u 16 j), .int (u 17 j), .int (u 18 j), .int (u 19 j)] 0 (.int v))) = cw g k (up u 16 j v) := by
  refine cw_set ?_ (fun q hq hne => ?_)
  · simp only [cwe, if_pos (show 47 ≤ 47 + j by omega), Nat.add_sub_cancel_left]
    simp [up]
  · unfold cwe
    split
    · have : q - 47 ≠ j := by omega
      simp [up, this]
    · split
      · rfl
      · split
        · rfl
        · split <;> rfl
theorem cw_set_first (g k : Nat → Nat) (u : jU) {j : Nat} (hj : j < 80) (v : Int32) : (cw g k u).set (47 + j) (g (47 + j), .inr (0, List.set [.int (u 16 j), .int (u 17 j), .int (u 18 j), .int (u 19 j)] 1 (.int v))) = cw g k (up u 17 j v) := by
  refine cw_set ?_ (fun q hq hne => ?_)
  · simp only [cwe, if_pos (show 47 ≤ 47 + j by omega), Nat.add_sub_cancel_left]
    simp [up]
  · unfold cwe
    split
    · have : q - 47 ≠ j := by omega
      simp [up, this]
    · split
      · rfl
      · split
        · rfl
        · split <;> rfl
theorem cw_set_second (g k : Nat → Nat) (u : jU) {j : Nat} (hj : j < 80) (v : Int32) : (cw g k u).set (47 + j) (g (47 + j), .inr (0, List.set [.int (u 16 j), .int (u 17 j), .int (u 18 j), .int (u 19 j)] 2 (.int v))) = cw g k (up u 18 j v) := by
  refine cw_set ?_ (fun q hq hne => ?_)
  · simp only [cwe, if_pos (show 47 ≤ 47 + j by omega), Nat.add_sub_cancel_left]
    simp [up]
  · unfold cwe
    split
    · have : q - 47 ≠ j := by omega
      simp [up, this]
    · split
      · rfl
      · split
        · rfl
        · split <;> rfl
theorem cw_set_negated (g k : Nat → Nat) (u : jU) {j : Nat} (hj : j < 80) (v : Int32) : (cw g k u).set (47 + j) (g (47 + j), .inr (0, List.set [.int (u 16 j), .int (u 17 j), .int (u 18 j), .int (u 19 j)] 3 (.int v))) = cw g k (up u 19 j v) := by
  refine cw_set ?_ (fun q hq hne => ?_)
  · simp only [cwe, if_pos (show 47 ≤ 47 + j by omega), Nat.add_sub_cancel_left]
    simp [up]
  · unfold cwe
    split
    · have : q - 47 ≠ j := by omega
      simp [up, this]
    · split
      · rfl
      · split
        · rfl
        · split <;> rfl
/-- the array classes: int[], Atom[], Rule[], and more behind them -/
def ctys (k : Nat → Nat) (tl : List (ClassId × FieldType)) : List (ClassId × FieldType) := (k 0, .int) :: (k 1, .object "StrataHouse$Atom") :: (k 2, .object "StrataHouse$Rule") :: tl
end
section
-- the class's own work, in words of its ints
def b2i (b : Bool) : Int32 := if b then 1 else 0
abbrev tn (x : Int32) : Nat := x.toNatClampNeg
def hb (x i : Int32) : Bool := decide (¬ x >>> (i &&& 31) &&& 1 = 0)
theorem hb_0 {x i : Int32} (h : x >>> (i &&& 31) &&& 1 = 0) : 0 = b2i (hb x i) := by simp [b2i, hb, h]
theorem hb_1 {x i : Int32} (h : ¬ x >>> (i &&& 31) &&& 1 = 0) : 1 = b2i (hb x i) := by simp [b2i, hb, h]
theorem b2i_0 {b : Bool} (h : b2i b = 0) : b = false := by cases b <;> simp [b2i] at h ⊢
theorem b2i_1 {b : Bool} (h : ¬ b2i b = 0) : b = true := by cases b <;> simp [b2i] at h ⊢
theorem b2i_n (b : Bool) : narrow .boolean (.int (b2i b)) = .int (b2i b) := by cases b <;> rfl
/-- a natural number below B -/
def inN (x : Int32) (B : Nat) : Prop := x = nI (tn x) ∧ tn x < B
theorem inN.mono {x : Int32} {B C : Nat} (h : inN x B) (hB : B ≤ C) : inN x C := ⟨h.1, Nat.lt_of_lt_of_le h.2 hB⟩
theorem inN_nI {n B : Nat} (h : n < B) (hB : B ≤ 2 ^ 31) : inN (nI n) B := by
  have e : tn (nI n) = n := nI_clamp (Nat.lt_of_lt_of_le h hB)
  exact ⟨by rw [e], by rw [e]; exact h⟩
theorem inN_leN {x : Int32} {B n : Nat} (h : inN x B) (hB : B ≤ 2 ^ 31) (hn : n < 2 ^ 31) : x ≤ nI n ↔ tn x ≤ n := by
  have h1 : tn x < 2 ^ 31 := Nat.lt_of_lt_of_le h.2 hB
  have h2 : nI (tn x) ≤ nI n ↔ tn x ≤ n := nI_leI h1 hn
  rw [← h.1] at h2
  exact h2
theorem in_row {r a : Int32} (hr : inN r 8) (ha : inN a 12) : r * 12 + a = nI (tn r * 12 + tn a) := by
  rw [hr.1, ha.1]
  show nI (tn r) * nI 12 + nI (tn a) = _
  rw [pk_mul, nI_add, ← hr.1, ← ha.1]
theorem row_lt {r a : Int32} (hr : inN r 8) (ha : inN a 12) : tn r * 12 + tn a < 96 := by
  have := hr.2; have := ha.2; omega
def wfA (u : jU) (j : Nat) : Prop := inN (u 16 j) 8 ∧ inN (u 17 j) 24 ∧ inN (u 18 j) 24 ∧ (u 19 j = 0 ∨ u 19 j = 1)
def wfV (u : jU) : Prop := ∀ t, t < 24 → u 6 t = -1 ∨ inN (u 6 t) 12
def wfS (u : jU) (i : Nat) : Prop := inN (u 12 i) 5
def pSees (u : jU) (r a b : Int32) : Bool := hb (u 7 (tn r * 12 + tn a)) b
def pForget (u : jU) : jU := up (up (up (up u 6 20 (-1)) 6 21 (-1)) 6 22 (-1)) 6 23 (-1)
def pBind (u : jU) (t x : Int32) : jU := if u 6 (tn t) = -1 then up u 6 (tn t) x else u
def pBound (u : jU) (t x : Int32) : Bool := decide (pBind u t x 6 (tn t) = x)
/-- a literal agrees with what is seen, or isn't known yet -/
def pAgree (u : jU) (j : Nat) : Bool :=
  decide (u 6 (tn (u 17 j)) = -1) || decide (u 6 (tn (u 18 j)) = -1) || !decide (b2i (pSees u (u 16 j) (u 6 (tn (u 17 j))) (u 6 (tn (u 18 j)))) = u 19 j)
def pKnown (u : jU) (i : Nat) : Bool := (List.range (tn (u 12 i))).all (fun q => pAgree u (5 * i + 1 + q))
theorem pKnown_1 {u : jU} {i : Nat} (h : ∀ q, q < tn (u 12 i) → pAgree u (5 * i + 1 + q) = true) : 1 = b2i (pKnown u i) := by
  have : pKnown u i = true := List.all_eq_true.mpr (fun q hq => h q (List.mem_range.mp hq))
  rw [this]; rfl
theorem pKnown_0 {u : jU} {i q : Nat} (hq : q < tn (u 12 i)) (h : pAgree u (5 * i + 1 + q) = false) : 0 = b2i (pKnown u i) := by
  have : pKnown u i = false := by
    rw [← Bool.not_eq_true]
    intro h2
    have := List.all_eq_true.mp h2 q (List.mem_range.mpr hq)
    rw [h] at this; cases this
  rw [this]; rfl
def pMeets1 (u : jU) (i : Nat) (a : Int32) : jU := pBind (pForget u) (pForget u 17 (5 * i)) a
def pMeets2 (u : jU) (i : Nat) (a b : Int32) : jU := pBind (pMeets1 u i a) (pMeets1 u i a 18 (5 * i)) b
def pMeets (u : jU) (i : Nat) (r a b : Int32) : Bool × jU :=
  if pForget u 16 (5 * i) = r then
    (if b2i (pBound (pForget u) (pForget u 17 (5 * i)) a) = 0 then (false, pMeets1 u i a) else
     if b2i (pBound (pMeets1 u i a) (pMeets1 u i a 18 (5 * i)) b) = 0 then (false, pMeets2 u i a b) else (pKnown (pMeets2 u i a b) i, pMeets2 u i a b))
  else (false, pForget u)
/-- only the values of the terms differ -/
def only6 (u v : jU) : Prop := ∀ c, c ≠ 6 → v c = u c
theorem only6.rf (u : jU) : only6 u u := fun _ _ => rfl
theorem only6.tr {u v w : jU} (h : only6 u v) (h2 : only6 v w) : only6 u w := fun c hc => (h2 c hc).trans (h c hc)
theorem only6_up (u : jU) (t : Nat) (x : Int32) : only6 u (up u 6 t x) := fun c hc => up_rows u t x hc
theorem only6_forget (u : jU) : only6 u (pForget u) := (only6_up u _ _).tr ((only6_up _ _ _).tr ((only6_up _ _ _).tr (only6_up _ _ _)))
theorem only6_bind (u : jU) (t x : Int32) : only6 u (pBind u t x) := by
  unfold pBind; split
  · exact only6_up u _ _
  · exact only6.rf u
theorem wfV_up {u : jU} (h : wfV u) (t : Nat) {x : Int32} (hx : x = -1 ∨ inN x 12) : wfV (up u 6 t x) := by
  intro q hq
  by_cases e : q = t
  · subst e; rw [up_same]; exact hx
  · rw [up_idx u x e]; exact h q hq
theorem wfV_forget {u : jU} (h : wfV u) : wfV (pForget u) := wfV_up (wfV_up (wfV_up (wfV_up h _ (Or.inl rfl)) _ (Or.inl rfl)) _ (Or.inl rfl)) _ (Or.inl rfl)
theorem wfV_bind {u : jU} (h : wfV u) (t : Int32) {x : Int32} (hx : inN x 12) : wfV (pBind u t x) := by
  unfold pBind; split
  · exact wfV_up h _ (Or.inr hx)
  · exact h
/-- rules, atoms and values are in their bounds -/
def wfM (u : jU) : Prop := (∀ i, i < 16 → wfS u i) ∧ (∀ j, j < 80 → wfA u j) ∧ wfV u
theorem wfM.of {u v : jU} (h : wfM u) (ho : only6 u v) (hv : wfV v) : wfM v := by
  refine ⟨fun i hi => ?_, fun j hj => ?_, hv⟩
  · have := h.1 i hi
    unfold wfS at this ⊢
    rw [ho 12 (by decide)]; exact this
  · have := h.2.1 j hj
    unfold wfA at this ⊢
    rw [ho 16 (by decide), ho 17 (by decide), ho 18 (by decide), ho 19 (by decide)]; exact this
/-- what a literal leaves of the constants for an open variable -/
def pSeen (u : jU) (j : Nat) (t : Int32) : Int32 :=
  if u 17 j = t then
    (if u 17 j = u 18 j then u 11 (tn (u 16 j)) else if u 6 (tn (u 18 j)) = -1 then (if u 19 j = 0 then u 9 (tn (u 16 j)) else 0) else u 8 (tn (u 16 j) * 12 + tn (u 6 (tn (u 18 j)))))
  else
    (if u 17 j = u 18 j then u 11 (tn (u 16 j)) else if u 6 (tn (u 17 j)) = -1 then (if u 19 j = 0 then u 10 (tn (u 16 j)) else 0) else u 7 (tn (u 16 j) * 12 + tn (u 6 (tn (u 17 j)))))
def pBy (u : jU) (j : Nat) (t : Int32) : Int32 := if u 19 j = 0 then pSeen u j t else pSeen u j t ^^^ (-1)
def pCh (u : jU) (i : Nat) (t : Int32) : Nat → Int32
  | 0 => 4095
  | q + 1 => if u 17 (5 * i + 1 + q) = t ∨ u 18 (5 * i + 1 + q) = t then pCh u i t q &&& pBy u (5 * i + 1 + q) t else pCh u i t q
def pChoices (u : jU) (i : Nat) (t : Int32) : Int32 := if u 6 (tn t) = -1 then pCh u i t (tn (u 12 i)) else 1 <<< (u 6 (tn t) &&& 31)
/-- the first open variable of the rule from n on, looking at d places -/
def pNextN (u : jU) (i : Nat) : Nat → Nat → Nat
  | 0, n => n
  | d + 1, n => if hb (u 13 i) (nI n) = true ∧ u 6 n = -1 then n else pNextN u i d (n + 1)
def pNext (u : jU) (i n : Nat) : Nat := pNextN u i (24 - n) n
/-- tries the values q, q + 1, .. for the open variable o -/
def pTry (f : jU → Bool × jU) (o : Nat) (ch : Int32) : Nat → Nat → jU → Bool × jU
  | 0, _, u => (false, up u 6 o (-1))
  | n + 1, q, u => if b2i (hb ch (nI q)) = 0 then pTry f o ch n (q + 1) u else if b2i (f (up u 6 o (nI q))).1 = 0 then pTry f o ch n (q + 1) (f (up u 6 o (nI q))).2 else (true, (f (up u 6 o (nI q))).2)
def pFind (i : Nat) : Nat → Nat → jU → Bool × jU
  | 0, _, u => (true, u)
  | d + 1, n, u => if nI (pNext u i n) < 24 then pTry (fun v => pFind i d (pNext u i n + 1) v) (pNext u i n) (pChoices u i (nI (pNext u i n))) 12 0 u else (true, u)
theorem pTry_frame {f : jU → Bool × jU} {o : Nat} {ch : Int32} (hf : ∀ v, only6 v (f v).2 ∧ (wfV v → wfV (f v).2)) : ∀ (n q : Nat) (u : jU), q + n ≤ 12 → only6 u (pTry f o ch n q u).2 ∧ (wfV u → wfV (pTry f o ch n q u).2) := by
  intro n
  induction n with
  | zero => intro q u _; exact ⟨only6_up u _ _, fun h => wfV_up h _ (Or.inl rfl)⟩
  | succ n ih =>
    intro q u hq
    have hv : ∀ w : jU, wfV w → wfV (up w 6 o (nI q)) := fun w h => wfV_up h _ (Or.inr (inN_nI (by omega) (by decide)))
    have h1 := hf (up u 6 o (nI q))
    unfold pTry
    split
    · exact ih (q + 1) u (by omega)
    · split
      · have h2 := ih (q + 1) (f (up u 6 o (nI q))).2 (by omega)
        exact ⟨((only6_up u _ _).tr h1.1).tr h2.1, fun h => h2.2 (h1.2 (hv u h))⟩
      · exact ⟨(only6_up u _ _).tr h1.1, fun h => h1.2 (hv u h)⟩
theorem pFind_frame (i : Nat) : ∀ (d n : Nat) (u : jU), only6 u (pFind i d n u).2 ∧ (wfV u → wfV (pFind i d n u).2) := by
  intro d
  induction d with
  | zero => intro n u; exact ⟨only6.rf u, fun h => h⟩
  | succ d ih =>
    intro n u
    unfold pFind
    split
    · exact pTry_frame (fun v => ih _ v) 12 0 u (by omega)
    · exact ⟨only6.rf u, fun h => h⟩
theorem pNextN_le (u : jU) (i : Nat) : ∀ d n, n ≤ pNextN u i d n ∧ pNextN u i d n ≤ n + d := by
  intro d
  induction d with
  | zero => intro n; exact ⟨Nat.le_refl _, Nat.le_refl _⟩
  | succ d ih =>
    intro n
    unfold pNextN
    split
    · omega
    · have := ih (n + 1); omega
theorem pNext_le {u : jU} {i n : Nat} (h : n ≤ 24) : n ≤ pNext u i n ∧ pNext u i n ≤ 24 := by
  have := pNextN_le u i (24 - n) n
  unfold pNext; omega
end
section
set_option maxHeartbeats 4000000 in
set_option maxRecDepth 100000 in
theorem k_hasBit (l : Launch) (dC : Nat → ClassId) (dI : Nat → Nat → Nat) (g k : Nat → Nat) (tl : List (ClassId × FieldType)) (u : jU) (x i : Int32) : jMet l y_H_hasBit (.code y_H_hasBit c_H_hasBit 2 (some .boolean)) ({ frames := 0, cells := 0, slots := 0, locals := 0 }) (dC, dI) jcl (ctys k tl) jTs [.int x, .int i] (cw g k u) 0 0 (jRet (some (.int (b2i (hb x i)))) (cw g k u)) := by
  refine jMet.of (by decide) (Nat.le_of_ble_eq_true rfl) ?_
  intro p e s m below meth c A hC hex hr hnm htr
  show jJ p l e ({ frames := 0, cells := 0, slots := 0, locals := 0 }) s m [.int x, .int i].toArray below meth c 2 (dC, dI) jcl A (hxQ below (jQ (dC, dI) jcl (jRet (some (.int (b2i (hb x i)))) (cw g k u)) A) [.int x, .int i].toArray s 0 0 A) 0 0 (cw g k u) [(0, .int x), (1, .int i)] [] 0
  refine j_iload_n hC d_H_hasBit_0 rfl 0 rfl ?_
  refine j_iload_n hC d_H_hasBit_1 rfl 1 rfl ?_
  refine j_ishr hC d_H_hasBit_2 ?_
  refine j_iconst (v := 1) hC d_H_hasBit_3 (by decide) ?_
  refine j_iand hC d_H_hasBit_4 ?_
  refine j_if_eq (tgt := 12) hC d_H_hasBit_5 (by decide) (fun h5 => ?_) (fun h5 => ?_)
  · refine j_iconst (v := 0) hC d_H_hasBit_12 (by decide) ?_
    exact j_zret hC hr rfl ⟨rfl, congrArg (fun z => some (Value.int z)) (hb_0 h5), rfl⟩ d_H_hasBit_13
  · refine j_iconst (v := 1) hC d_H_hasBit_8 (by decide) ?_
    refine j_goto (tgt := 13) hC d_H_hasBit_9 (by decide) ?_
    exact j_zret hC hr rfl ⟨rfl, congrArg (fun z => some (Value.int z)) (hb_1 h5), rfl⟩ d_H_hasBit_13

set_option maxHeartbeats 4000000 in
set_option maxRecDepth 100000 in
theorem k_rowAt (l : Launch) (dC : Nat → ClassId) (dI : Nat → Nat → Nat) (g k : Nat → Nat) (tl : List (ClassId × FieldType)) (u : jU) (r a : Int32) : jMet l y_H_rowAt (.code y_H_rowAt c_H_rowAt 2 (some .int)) ({ frames := 0, cells := 0, slots := 0, locals := 0 }) (dC, dI) jcl (ctys k tl) jTs [.int r, .int a] (cw g k u) 0 0 (jRet (some (.int (r * 12 + a))) (cw g k u)) := by
  refine jMet.of (by decide) (Nat.le_of_ble_eq_true rfl) ?_
  intro p e s m below meth c A hC hex hr hnm htr
  show jJ p l e ({ frames := 0, cells := 0, slots := 0, locals := 0 }) s m [.int r, .int a].toArray below meth c 2 (dC, dI) jcl A (hxQ below (jQ (dC, dI) jcl (jRet (some (.int (r * 12 + a))) (cw g k u)) A) [.int r, .int a].toArray s 0 0 A) 0 0 (cw g k u) [(0, .int r), (1, .int a)] [] 0
  refine j_iload_n hC d_H_rowAt_0 rfl 0 rfl ?_
  refine j_bipush (v := 12) hC d_H_rowAt_1 (by decide) ?_
  refine j_imul hC d_H_rowAt_3 ?_
  refine j_iload_n hC d_H_rowAt_4 rfl 1 rfl ?_
  refine j_iadd hC d_H_rowAt_5 ?_
  exact j_iret hC hr ⟨rfl, rfl, rfl⟩ d_H_rowAt_6

set_option maxHeartbeats 4000000 in
set_option maxRecDepth 100000 in
theorem k_sees (l : Launch) (dC : Nat → ClassId) (dI : Nat → Nat → Nat) (g k : Nat → Nat) (tl : List (ClassId × FieldType)) (u : jU) (r a b : Int32) (hr8 : inN r 8) (ha : inN a 12) : jMet l y_S_sees (.code y_S_sees c_S_sees 4 (some .boolean)) ({ frames := 0, cells := 0, slots := 0, locals := 0 }) (dC, dI) jcl (ctys k tl) jTs [.ref (g 8), .int r, .int a, .int b] (cw g k u) 0 0 (jRet (some (.int (b2i (pSees u r a b)))) (cw g k u)) := by
  refine jMet.of (by decide) (Nat.le_of_ble_eq_true rfl) ?_
  intro p e s m below meth c A hC hex hr hnm htr
  show jJ p l e ({ frames := 0, cells := 0, slots := 0, locals := 0 }) s m [.ref (g 8), .int r, .int a, .int b].toArray below meth c 4 (dC, dI) jcl A (hxQ below (jQ (dC, dI) jcl (jRet (some (.int (b2i (pSees u r a b)))) (cw g k u)) A) [.ref (g 8), .int r, .int a, .int b].toArray s 0 0 A) 0 0 (cw g k u) [(0, .ref (g 8)), (1, .int r), (2, .int a), (3, .int b)] [] 0
  refine j_aload_n hC d_S_sees_0 rfl 0 rfl ?_
  refine j_get hC hin_S (8) (cw_sight g k u) rfl 0 (by decide) (hC.2.2.2.2.1 _ wf_S_9) (fun _ h9 => h9) rfl d_S_sees_1 ?_
  refine j_iload_n hC d_S_sees_4 rfl 1 rfl ?_
  refine j_bipush (v := 12) hC d_S_sees_5 (by decide) ?_
  refine j_imul hC d_S_sees_7 ?_
  refine j_iload_n hC d_S_sees_8 rfl 2 rfl ?_
  refine j_iadd hC d_S_sees_9 ?_
  refine j_ialdN hC (10) 0 (cw_secondsByFirst g k u) rfl (n := tn r * 12 + tn a) (in_row hr8 ha) (row_lt hr8 ha) (by decide) d_S_sees_10 ?_
  refine j_iload_n hC d_S_sees_11 rfl 3 rfl ?_
  refine j_ishr hC d_S_sees_12 ?_
  refine j_iconst (v := 1) hC d_S_sees_13 (by decide) ?_
  refine j_iand hC d_S_sees_14 ?_
  refine j_if_eq (tgt := 22) hC d_S_sees_15 (by decide) (fun h15 => ?_) (fun h15 => ?_)
  · refine j_iconst (v := 0) hC d_S_sees_22 (by decide) ?_
    exact j_zret hC hr rfl ⟨rfl, congrArg (fun z => some (Value.int z)) (hb_0 h15), rfl⟩ d_S_sees_23
  · refine j_iconst (v := 1) hC d_S_sees_18 (by decide) ?_
    refine j_goto (tgt := 23) hC d_S_sees_19 (by decide) ?_
    exact j_zret hC hr rfl ⟨rfl, congrArg (fun z => some (Value.int z)) (hb_1 h15), rfl⟩ d_S_sees_23

set_option maxHeartbeats 4000000 in
set_option maxRecDepth 100000 in
theorem k_forget (l : Launch) (dC : Nat → ClassId) (dI : Nat → Nat → Nat) (g k : Nat → Nat) (tl : List (ClassId × FieldType)) (u : jU)  : jMet l y_M_forget (.code y_M_forget c_M_forget 2 none) ({ frames := 0, cells := 0, slots := 0, locals := 0 }) (dC, dI) jcl (ctys k tl) jTs [.ref (g 7)] (cw g k u) 0 0 (jRet none (cw g k (pForget u))) := by
  refine jMet.of (by decide) (Nat.le_of_ble_eq_true rfl) ?_
  intro p e s m below meth c A hC hex hr hnm htr
  show jJ p l e ({ frames := 0, cells := 0, slots := 0, locals := 0 }) s m [.ref (g 7)].toArray below meth c 2 (dC, dI) jcl A (hxQ below (jQ (dC, dI) jcl (jRet none (cw g k (pForget u))) A) [.ref (g 7)].toArray s 0 0 A) 0 0 (cw g k u) [(0, .ref (g 7))] [] 0
  refine j_bipush (v := 20) hC d_M_forget_0 (by decide) ?_
  refine j_istore_n (lv' := [(0, .ref (g 7)), (1, .int 20)]) hC d_M_forget_2 rfl (by decide) rfl rfl ?_
  refine j_iload_n hC d_M_forget_3 rfl 1 rfl ?_
  refine j_bipush (v := 24) hC d_M_forget_4 (by decide) ?_
  refine j_icmp_ge (tgt := 22) hC d_M_forget_6 (by decide) (fun h6 => absurd h6 (by decide)) (fun h6 => ?_)
  refine j_aload_n hC d_M_forget_9 rfl 0 rfl ?_
  refine j_get hC hin_M (7) (cw_match g k u) rfl 1 (by decide) (hC.2.2.2.2.1 _ wf_M_18) (fun _ h9 => h9) rfl d_M_forget_10 ?_
  refine j_iload_n hC d_M_forget_13 rfl 1 rfl ?_
  refine j_iconst (v := -1) hC d_M_forget_14 (by decide) ?_
  refine j_iastN (ws' := cw g k (up u 6 20 (-1))) hC (9) 0 (cw_values g k u) rfl (n := 20) (rfl) (by omega) (by decide) (cw_set_values g k u 20 (-1)) d_M_forget_15 ?_
  refine j_iinc (lv' := [(0, .ref (g 7)), (1, .int 21)]) hC d_M_forget_16 1 rfl (by decide) (by decide) rfl rfl ?_
  refine j_goto (tgt := 3) hC d_M_forget_19 (by decide) ?_
  refine j_iload_n hC d_M_forget_3 rfl 1 rfl ?_
  refine j_bipush (v := 24) hC d_M_forget_4 (by decide) ?_
  refine j_icmp_ge (tgt := 22) hC d_M_forget_6 (by decide) (fun h6 => absurd h6 (by decide)) (fun h6 => ?_)
  refine j_aload_n hC d_M_forget_9 rfl 0 rfl ?_
  refine j_get hC hin_M (7) (cw_match g k (up u 6 20 (-1))) rfl 1 (by decide) (hC.2.2.2.2.1 _ wf_M_18) (fun _ h9 => h9) rfl d_M_forget_10 ?_
  refine j_iload_n hC d_M_forget_13 rfl 1 rfl ?_
  refine j_iconst (v := -1) hC d_M_forget_14 (by decide) ?_
  refine j_iastN (ws' := cw g k (up (up u 6 20 (-1)) 6 21 (-1))) hC (9) 0 (cw_values g k (up u 6 20 (-1))) rfl (n := 21) (rfl) (by omega) (by decide) (cw_set_values g k (up u 6 20 (-1)) 21 (-1)) d_M_forget_15 ?_
  refine j_iinc (lv' := [(0, .ref (g 7)), (1, .int 22)]) hC d_M_forget_16 1 rfl (by decide) (by decide) rfl rfl ?_
  refine j_goto (tgt := 3) hC d_M_forget_19 (by decide) ?_
  refine j_iload_n hC d_M_forget_3 rfl 1 rfl ?_
  refine j_bipush (v := 24) hC d_M_forget_4 (by decide) ?_
  refine j_icmp_ge (tgt := 22) hC d_M_forget_6 (by decide) (fun h6 => absurd h6 (by decide)) (fun h6 => ?_)
  refine j_aload_n hC d_M_forget_9 rfl 0 rfl ?_
  refine j_get hC hin_M (7) (cw_match g k (up (up u 6 20 (-1)) 6 21 (-1))) rfl 1 (by decide) (hC.2.2.2.2.1 _ wf_M_18) (fun _ h9 => h9) rfl d_M_forget_10 ?_
  refine j_iload_n hC d_M_forget_13 rfl 1 rfl ?_
  refine j_iconst (v := -1) hC d_M_forget_14 (by decide) ?_
  refine j_iastN (ws' := cw g k (up (up (up u 6 20 (-1)) 6 21 (-1)) 6 22 (-1))) hC (9) 0 (cw_values g k (up (up u 6 20 (-1)) 6 21 (-1))) rfl (n := 22) (rfl) (by omega) (by decide) (cw_set_values g k (up (up u 6 20 (-1)) 6 21 (-1)) 22 (-1)) d_M_forget_15 ?_
  refine j_iinc (lv' := [(0, .ref (g 7)), (1, .int 23)]) hC d_M_forget_16 1 rfl (by decide) (by decide) rfl rfl ?_
  refine j_goto (tgt := 3) hC d_M_forget_19 (by decide) ?_
  refine j_iload_n hC d_M_forget_3 rfl 1 rfl ?_
  refine j_bipush (v := 24) hC d_M_forget_4 (by decide) ?_
  refine j_icmp_ge (tgt := 22) hC d_M_forget_6 (by decide) (fun h6 => absurd h6 (by decide)) (fun h6 => ?_)
  refine j_aload_n hC d_M_forget_9 rfl 0 rfl ?_
  refine j_get hC hin_M (7) (cw_match g k (up (up (up u 6 20 (-1)) 6 21 (-1)) 6 22 (-1))) rfl 1 (by decide) (hC.2.2.2.2.1 _ wf_M_18) (fun _ h9 => h9) rfl d_M_forget_10 ?_
  refine j_iload_n hC d_M_forget_13 rfl 1 rfl ?_
  refine j_iconst (v := -1) hC d_M_forget_14 (by decide) ?_
  refine j_iastN (ws' := cw g k (up (up (up (up u 6 20 (-1)) 6 21 (-1)) 6 22 (-1)) 6 23 (-1))) hC (9) 0 (cw_values g k (up (up (up u 6 20 (-1)) 6 21 (-1)) 6 22 (-1))) rfl (n := 23) (rfl) (by omega) (by decide) (cw_set_values g k (up (up (up u 6 20 (-1)) 6 21 (-1)) 6 22 (-1)) 23 (-1)) d_M_forget_15 ?_
  refine j_iinc (lv' := [(0, .ref (g 7)), (1, .int 24)]) hC d_M_forget_16 1 rfl (by decide) (by decide) rfl rfl ?_
  refine j_goto (tgt := 3) hC d_M_forget_19 (by decide) ?_
  refine j_iload_n hC d_M_forget_3 rfl 1 rfl ?_
  refine j_bipush (v := 24) hC d_M_forget_4 (by decide) ?_
  refine j_icmp_ge (tgt := 22) hC d_M_forget_6 (by decide) (fun h6 => ?_) (fun h6 => absurd h6 (by decide))
  exact j_vret hC hr ⟨rfl, rfl, rfl⟩ d_M_forget_22

set_option maxHeartbeats 4000000 in
set_option maxRecDepth 100000 in
theorem k_bind (l : Launch) (dC : Nat → ClassId) (dI : Nat → Nat → Nat) (g k : Nat → Nat) (tl : List (ClassId × FieldType)) (u : jU) (t x : Int32) (ht : inN t 24) : jMet l y_M_bind (.code y_M_bind c_M_bind 3 (some .boolean)) ({ frames := 0, cells := 0, slots := 0, locals := 0 }) (dC, dI) jcl (ctys k tl) jTs [.ref (g 7), .int t, .int x] (cw g k u) 0 0 (jRet (some (.int (b2i (pBound u t x)))) (cw g k (pBind u t x))) := by
  refine jMet.of (by decide) (Nat.le_of_ble_eq_true rfl) ?_
  intro p e s m below meth c A hC hex hr hnm htr
  show jJ p l e ({ frames := 0, cells := 0, slots := 0, locals := 0 }) s m [.ref (g 7), .int t, .int x].toArray below meth c 3 (dC, dI) jcl A (hxQ below (jQ (dC, dI) jcl (jRet (some (.int (b2i (pBound u t x)))) (cw g k (pBind u t x))) A) [.ref (g 7), .int t, .int x].toArray s 0 0 A) 0 0 (cw g k u) [(0, .ref (g 7)), (1, .int t), (2, .int x)] [] 0
  refine j_aload_n hC d_M_bind_0 rfl 0 rfl ?_
  refine j_get hC hin_M (7) (cw_match g k u) rfl 1 (by decide) (hC.2.2.2.2.1 _ wf_M_18) (fun _ h9 => h9) rfl d_M_bind_1 ?_
  refine j_iload_n hC d_M_bind_4 rfl 1 rfl ?_
  refine j_ialdN hC (9) 0 (cw_values g k u) rfl (n := tn t) (ht.1) (ht.2) (by decide) d_M_bind_5 ?_
  refine j_iconst (v := -1) hC d_M_bind_6 (by decide) ?_
  refine j_icmp_ne (tgt := 17) hC d_M_bind_7 (by decide) (fun h7 => ?_) (fun h7 => ?_)
  · refine j_aload_n hC d_M_bind_17 rfl 0 rfl ?_
    refine j_get hC hin_M (7) (cw_match g k u) rfl 1 (by decide) (hC.2.2.2.2.1 _ wf_M_18) (fun _ h9 => h9) rfl d_M_bind_18 ?_
    refine j_iload_n hC d_M_bind_21 rfl 1 rfl ?_
    refine j_ialdN hC (9) 0 (cw_values g k u) rfl (n := tn t) (ht.1) (ht.2) (by decide) d_M_bind_22 ?_
    refine j_iload_n hC d_M_bind_23 rfl 2 rfl ?_
    refine j_icmp_ne (tgt := 31) hC d_M_bind_24 (by decide) (fun h24 => ?_) (fun h24 => ?_)
    · refine j_iconst (v := 0) hC d_M_bind_31 (by decide) ?_
      exact j_zret hC hr rfl ⟨rfl, congrArg (fun z => some (Value.int z)) (by simp only [pBound, pBind]; (try rw [if_pos h7] at *); (try rw [if_neg h7] at *); simp_all [b2i]), congrArg (cw g k) (by unfold pBind; first | rw [if_pos h7] | rw [if_neg h7])⟩ d_M_bind_32
    · refine j_iconst (v := 1) hC d_M_bind_27 (by decide) ?_
      refine j_goto (tgt := 32) hC d_M_bind_28 (by decide) ?_
      exact j_zret hC hr rfl ⟨rfl, congrArg (fun z => some (Value.int z)) (by simp only [pBound, pBind]; (try rw [if_pos h7] at *); (try rw [if_neg h7] at *); simp_all [b2i]), congrArg (cw g k) (by unfold pBind; first | rw [if_pos h7] | rw [if_neg h7])⟩ d_M_bind_32
  · refine j_aload_n hC d_M_bind_10 rfl 0 rfl ?_
    refine j_get hC hin_M (7) (cw_match g k u) rfl 1 (by decide) (hC.2.2.2.2.1 _ wf_M_18) (fun _ h9 => h9) rfl d_M_bind_11 ?_
    refine j_iload_n hC d_M_bind_14 rfl 1 rfl ?_
    refine j_iload_n hC d_M_bind_15 rfl 2 rfl ?_
    refine j_iastN (ws' := cw g k (up u 6 (tn t) x)) hC (9) 0 (cw_values g k u) rfl (n := tn t) (ht.1) (ht.2) (by decide) (cw_set_values g k u (tn t) x) d_M_bind_16 ?_
    refine j_aload_n hC d_M_bind_17 rfl 0 rfl ?_
    refine j_get hC hin_M (7) (cw_match g k (up u 6 (tn t) x)) rfl 1 (by decide) (hC.2.2.2.2.1 _ wf_M_18) (fun _ h9 => h9) rfl d_M_bind_18 ?_
    refine j_iload_n hC d_M_bind_21 rfl 1 rfl ?_
    refine j_ialdN hC (9) 0 (cw_values g k (up u 6 (tn t) x)) rfl (n := tn t) (ht.1) (ht.2) (by decide) d_M_bind_22 ?_
    refine j_iload_n hC d_M_bind_23 rfl 2 rfl ?_
    refine j_icmp_ne (tgt := 31) hC d_M_bind_24 (by decide) (fun h24 => ?_) (fun h24 => ?_)
    · refine j_iconst (v := 0) hC d_M_bind_31 (by decide) ?_
      exact j_zret hC hr rfl ⟨rfl, congrArg (fun z => some (Value.int z)) (by simp only [pBound, pBind]; (try rw [if_pos h7] at *); (try rw [if_neg h7] at *); simp_all [b2i]), congrArg (cw g k) (by unfold pBind; first | rw [if_pos h7] | rw [if_neg h7])⟩ d_M_bind_32
    · refine j_iconst (v := 1) hC d_M_bind_27 (by decide) ?_
      refine j_goto (tgt := 32) hC d_M_bind_28 (by decide) ?_
      exact j_zret hC hr rfl ⟨rfl, congrArg (fun z => some (Value.int z)) (by simp only [pBound, pBind]; (try rw [if_pos h7] at *); (try rw [if_neg h7] at *); simp_all [b2i]), congrArg (cw g k) (by unfold pBind; first | rw [if_pos h7] | rw [if_neg h7])⟩ d_M_bind_32

set_option maxHeartbeats 4000000 in
set_option maxRecDepth 100000 in
theorem k_known (l : Launch) (dC : Nat → ClassId) (dI : Nat → Nat → Nat) (g k : Nat → Nat) (tl : List (ClassId × FieldType)) (u : jU) {i : Nat} (hi : i < 16) (hM : wfM u) : jMet l y_M_knownAgree (.code y_M_knownAgree c_M_knownAgree 6 (some .boolean)) ({ frames := 1, cells := 0, slots := 0, locals := 23 }) (dC, dI) jcl (ctys k tl) jTs [.ref (g 7), .ref (g (15 + i))] (cw g k u) 0 0 (jRet (some (.int (b2i (pKnown u i)))) (cw g k u)) := by
  refine jMet.of (by decide) (Nat.le_of_ble_eq_true rfl) ?_
  intro p e s m below meth c A hC hex hr hnm htr
  show jJ p l e ({ frames := 1, cells := 0, slots := 0, locals := 23 }) s m [.ref (g 7), .ref (g (15 + i))].toArray below meth c 6 (dC, dI) jcl A (hxQ below (jQ (dC, dI) jcl (jRet (some (.int (b2i (pKnown u i)))) (cw g k u)) A) [.ref (g 7), .ref (g (15 + i))].toArray s 0 0 A) 0 0 (cw g k u) [(0, .ref (g 7)), (1, .ref (g (15 + i)))] [] 0
  have hs : wfS u i := hM.1 i hi
  have hA : ∀ q, q < 4 → wfA u (5 * i + 1 + q) := fun q h => hM.2.1 _ (by omega)
  have hV : wfV u := hM.2.2
  have hs5 : tn (u 12 i) < 5 := hs.2
  have loop : ∀ (n q : Nat), q ≤ tn (u 12 i) → tn (u 12 i) < q + n → (∀ q', q' < q → pAgree u (5 * i + 1 + q') = true) → jJ p l e ({ frames := 1, cells := 0, slots := 0, locals := 23 }) s m [.ref (g 7), .ref (g (15 + i))].toArray below meth c 6 (dC, dI) jcl A (hxQ below (jQ (dC, dI) jcl (jRet (some (.int (b2i (pKnown u i)))) (cw g k u)) A) [.ref (g 7), .ref (g (15 + i))].toArray s 0 0 A) 0 0 (cw g k u) [(0, .ref (g 7)), (1, .ref (g (15 + i))), (2, .int (nI q))] [] 2 := by
    intro n
    induction n with
    | zero => intro q h1 h2; exact absurd h2 (by omega)
    | succ n ih =>
      intro q hq hn hall
      refine j_iload_n hC d_M_knownAgree_2 rfl 2 rfl ?_
      refine j_aload_n hC d_M_knownAgree_3 rfl 1 rfl ?_
      refine j_getN hC hin_R (15 + i) (cw_rule g k u (by omega)) rfl 2 (by decide) (hC.2.2.2.2.1 _ wf_M_51) (fun _ h9 => h9) rfl d_M_knownAgree_4 ?_
      refine j_icmp_ge (tgt := 81) hC d_M_knownAgree_7 (by decide) (fun h7 => ?_) (fun h7 => ?_)
      · have hge : tn (u 12 i) ≤ q := (inN_leN hs (by decide) (by omega)).mp h7
        refine j_iconst (v := 1) hC d_M_knownAgree_81 (by decide) ?_
        exact j_zret hC hr rfl ⟨rfl, congrArg (fun z => some (Value.int z)) (pKnown_1 (fun q' h' => hall q' (by omega))), rfl⟩ d_M_knownAgree_82
      · have hlt : q < tn (u 12 i) := Nat.not_le.mp (fun z => h7 ((inN_leN hs (by decide) (by omega)).mpr z))
        have hq4 : q < 4 := by have := hs.2; omega
        refine j_aload_n hC d_M_knownAgree_10 rfl 1 rfl ?_
        refine j_getN hC hin_R (15 + i) (cw_rule g k u (by omega)) rfl 1 (by decide) (hC.2.2.2.2.1 _ wf_M_54) (fun _ h9 => h9) rfl d_M_knownAgree_11 ?_
        refine j_iload_n hC d_M_knownAgree_14 rfl 2 rfl ?_
        refine j_aaldN (v := g (47 + (5 * i + 1 + q))) hC (31 + i) 1 (cw_lits g k u (by omega)) rfl (n := q) (rfl) (hq4) (by decide) (if_pos (hq4)) d_M_knownAgree_15 ?_
        refine j_astore_n (lv' := [(0, .ref (g 7)), (1, .ref (g (15 + i))), (2, .int (nI q)), (3, .ref (g (47 + (5 * i + 1 + q))))]) hC d_M_knownAgree_16 rfl (by decide) rfl rfl ?_
        refine j_aload_n hC d_M_knownAgree_17 rfl 0 rfl ?_
        refine j_get hC hin_M (7) (cw_match g k u) rfl 1 (by decide) (hC.2.2.2.2.1 _ wf_M_18) (fun _ h9 => h9) rfl d_M_knownAgree_18 ?_
        refine j_aload_n hC d_M_knownAgree_21 rfl 3 rfl ?_
        refine j_getN hC hin_A (47 + (5 * i + 1 + q)) (cw_atom g k u (j := 5 * i + 1 + q) (by omega)) rfl 1 (by decide) (hC.2.2.2.2.1 _ wf_M_37) (fun _ h9 => h9) rfl d_M_knownAgree_22 ?_
        refine j_ialdN hC (9) 0 (cw_values g k u) rfl (n := tn (u 17 (5 * i + 1 + q))) ((hA q hq4).2.1.1) ((hA q hq4).2.1.2) (by decide) d_M_knownAgree_25 ?_
        refine j_istore (lv' := [(0, .ref (g 7)), (1, .ref (g (15 + i))), (2, .int (nI q)), (3, .ref (g (47 + (5 * i + 1 + q)))), (4, .int (u 6 (tn (u 17 (5 * i + 1 + q)))))]) hC d_M_knownAgree_26 (by decide) rfl rfl ?_
        refine j_aload_n hC d_M_knownAgree_28 rfl 0 rfl ?_
        refine j_get hC hin_M (7) (cw_match g k u) rfl 1 (by decide) (hC.2.2.2.2.1 _ wf_M_18) (fun _ h9 => h9) rfl d_M_knownAgree_29 ?_
        refine j_aload_n hC d_M_knownAgree_32 rfl 3 rfl ?_
        refine j_getN hC hin_A (47 + (5 * i + 1 + q)) (cw_atom g k u (j := 5 * i + 1 + q) (by omega)) rfl 2 (by decide) (hC.2.2.2.2.1 _ wf_M_44) (fun _ h9 => h9) rfl d_M_knownAgree_33 ?_
        refine j_ialdN hC (9) 0 (cw_values g k u) rfl (n := tn (u 18 (5 * i + 1 + q))) ((hA q hq4).2.2.1.1) ((hA q hq4).2.2.1.2) (by decide) d_M_knownAgree_36 ?_
        refine j_istore (lv' := [(0, .ref (g 7)), (1, .ref (g (15 + i))), (2, .int (nI q)), (3, .ref (g (47 + (5 * i + 1 + q)))), (4, .int (u 6 (tn (u 17 (5 * i + 1 + q))))), (5, .int (u 6 (tn (u 18 (5 * i + 1 + q)))))]) hC d_M_knownAgree_37 (by decide) rfl rfl ?_
        refine j_iload hC d_M_knownAgree_39 4 rfl ?_
        refine j_iconst (v := -1) hC d_M_knownAgree_41 (by decide) ?_
        refine j_icmp_eq (tgt := 75) hC d_M_knownAgree_42 (by decide) (fun h42 => ?_) (fun h42 => ?_)
        · refine j_iinc (lv' := [(0, .ref (g 7)), (1, .ref (g (15 + i))), (2, .int (nI (q + 1))), (3, .ref (g (47 + (5 * i + 1 + q)))), (4, .int (u 6 (tn (u 17 (5 * i + 1 + q))))), (5, .int (u 6 (tn (u 18 (5 * i + 1 + q)))))]) hC d_M_knownAgree_75 2 rfl (nI_1 _) (by decide) rfl rfl ?_
          refine j_goto (tgt := 2) hC d_M_knownAgree_78 (by decide) ?_
          exact j_locals [0, 1, 2] rfl (ih (q + 1) (by omega) (by omega) (lt_s hall (by first | (simp [pAgree, h42]; done) | (simp [pAgree, h48]; done) | (simp [pAgree, h70]; done))))
        · refine j_iload hC d_M_knownAgree_45 5 rfl ?_
          refine j_iconst (v := -1) hC d_M_knownAgree_47 (by decide) ?_
          refine j_icmp_eq (tgt := 75) hC d_M_knownAgree_48 (by decide) (fun h48 => ?_) (fun h48 => ?_)
          · refine j_iinc (lv' := [(0, .ref (g 7)), (1, .ref (g (15 + i))), (2, .int (nI (q + 1))), (3, .ref (g (47 + (5 * i + 1 + q)))), (4, .int (u 6 (tn (u 17 (5 * i + 1 + q))))), (5, .int (u 6 (tn (u 18 (5 * i + 1 + q)))))]) hC d_M_knownAgree_75 2 rfl (nI_1 _) (by decide) rfl rfl ?_
            refine j_goto (tgt := 2) hC d_M_knownAgree_78 (by decide) ?_
            exact j_locals [0, 1, 2] rfl (ih (q + 1) (by omega) (by omega) (lt_s hall (by first | (simp [pAgree, h42]; done) | (simp [pAgree, h48]; done) | (simp [pAgree, h70]; done))))
          · refine j_aload_n hC d_M_knownAgree_51 rfl 0 rfl ?_
            refine j_get hC hin_M (7) (cw_match g k u) rfl 0 (by decide) (hC.2.2.2.2.1 _ wf_M_12) (fun _ h9 => h9) rfl d_M_knownAgree_52 ?_
            refine j_aload_n hC d_M_knownAgree_55 rfl 3 rfl ?_
            refine j_getN hC hin_A (47 + (5 * i + 1 + q)) (cw_atom g k u (j := 5 * i + 1 + q) (by omega)) rfl 0 (by decide) (hC.2.2.2.2.1 _ wf_M_31) (fun _ h9 => h9) rfl d_M_knownAgree_56 ?_
            refine j_iload hC d_M_knownAgree_59 4 rfl ?_
            refine j_iload hC d_M_knownAgree_61 5 rfl ?_
            refine j_callNr (As := [.int (u 16 (5 * i + 1 + q)), .int (u 6 (tn (u 17 (5 * i + 1 + q)))), .int (u 6 (tn (u 18 (5 * i + 1 + q))))]) (rest := []) (st1 := [.int (b2i (pSees u (u 16 (5 * i + 1 + q)) (u 6 (tn (u 17 (5 * i + 1 + q)))) (u 6 (tn (u 18 (5 * i + 1 + q))))))]) hC (k_sees l dC dI g k tl u _ _ _ (hA q hq4).1 ((hV _ (hA q hq4).2.1.2).resolve_left h42)) rfl rfl ww_M_58 yn_S_sees (cw_sight g k u) rfl rfl d_M_knownAgree_63 (Nat.le_of_ble_eq_true rfl) (by decide) (by decide) rfl ?_
            refine j_aload_n hC d_M_knownAgree_66 rfl 3 rfl ?_
            refine j_getN hC hin_A (47 + (5 * i + 1 + q)) (cw_atom g k u (j := 5 * i + 1 + q) (by omega)) rfl 3 (by decide) (hC.2.2.2.2.1 _ wf_M_62) (fun _ h9 => h9) rfl d_M_knownAgree_67 ?_
            refine j_icmp_ne (tgt := 75) hC d_M_knownAgree_70 (by decide) (fun h70 => ?_) (fun h70 => ?_)
            · refine j_iinc (lv' := [(0, .ref (g 7)), (1, .ref (g (15 + i))), (2, .int (nI (q + 1))), (3, .ref (g (47 + (5 * i + 1 + q)))), (4, .int (u 6 (tn (u 17 (5 * i + 1 + q))))), (5, .int (u 6 (tn (u 18 (5 * i + 1 + q)))))]) hC d_M_knownAgree_75 2 rfl (nI_1 _) (by decide) rfl rfl ?_
              refine j_goto (tgt := 2) hC d_M_knownAgree_78 (by decide) ?_
              exact j_locals [0, 1, 2] rfl (ih (q + 1) (by omega) (by omega) (lt_s hall (by first | (simp [pAgree, h42]; done) | (simp [pAgree, h48]; done) | (simp [pAgree, h70]; done))))
            · refine j_iconst (v := 0) hC d_M_knownAgree_73 (by decide) ?_
              exact j_zret hC hr rfl ⟨rfl, congrArg (fun z => some (Value.int z)) (pKnown_0 hlt (by simp [pAgree, h42, h48, h70])), rfl⟩ d_M_knownAgree_74
  refine j_iconst (v := 0) hC d_M_knownAgree_0 (by decide) ?_
  refine j_istore_n (lv' := [(0, .ref (g 7)), (1, .ref (g (15 + i))), (2, .int 0)]) hC d_M_knownAgree_1 rfl (by decide) rfl rfl ?_
  exact loop 6 0 (by omega) (by have := hs.2; omega) (fun _ h => absurd h (by omega))
end
section
set_option maxHeartbeats 4000000 in
set_option maxRecDepth 100000 in
theorem k_by (l : Launch) (dC : Nat → ClassId) (dI : Nat → Nat → Nat) (g k : Nat → Nat) (tl : List (ClassId × FieldType)) (u : jU) {j : Nat} (hj : j < 80) (hM : wfM u) (t : Int32) : jMet l y_M_choicesBy (.code y_M_choicesBy c_M_choicesBy 8 (some .int)) ({ frames := 0, cells := 0, slots := 0, locals := 0 }) (dC, dI) jcl (ctys k tl) jTs [.ref (g 7), .ref (g (47 + (j))), .int t] (cw g k u) 0 0 (jRet (some (.int (pBy u j t))) (cw g k u)) := by
  refine jMet.of (by decide) (Nat.le_of_ble_eq_true rfl) ?_
  intro p e s m below meth c A hC hex hr hnm htr
  show jJ p l e ({ frames := 0, cells := 0, slots := 0, locals := 0 }) s m [.ref (g 7), .ref (g (47 + (j))), .int t].toArray below meth c 8 (dC, dI) jcl A (hxQ below (jQ (dC, dI) jcl (jRet (some (.int (pBy u j t))) (cw g k u)) A) [.ref (g 7), .ref (g (47 + (j))), .int t].toArray s 0 0 A) 0 0 (cw g k u) [(0, .ref (g 7)), (1, .ref (g (47 + (j)))), (2, .int t)] [] 0
  have hA : wfA u j := hM.2.1 j hj
  have hV : wfV u := hM.2.2
  refine j_aload_n hC d_M_choicesBy_0 rfl 1 rfl ?_
  refine j_getN hC hin_A (47 + (j)) (cw_atom g k u (j := j) (by omega)) rfl 0 (by decide) (hC.2.2.2.2.1 _ wf_M_31) (fun _ h9 => h9) rfl d_M_choicesBy_1 ?_
  refine j_istore_n (lv' := [(0, .ref (g 7)), (1, .ref (g (47 + (j)))), (2, .int t), (3, .int (u 16 j))]) hC d_M_choicesBy_4 rfl (by decide) rfl rfl ?_
  refine j_aload_n hC d_M_choicesBy_5 rfl 1 rfl ?_
  refine j_getN hC hin_A (47 + (j)) (cw_atom g k u (j := j) (by omega)) rfl 1 (by decide) (hC.2.2.2.2.1 _ wf_M_37) (fun _ h9 => h9) rfl d_M_choicesBy_6 ?_
  refine j_iload_n hC d_M_choicesBy_9 rfl 2 rfl ?_
  refine j_icmp_ne (tgt := 17) hC d_M_choicesBy_10 (by decide) (fun h10 => ?_) (fun h10 => ?_)
  · refine j_iconst (v := 0) hC d_M_choicesBy_17 (by decide) ?_
    refine j_istore (lv' := [(0, .ref (g 7)), (1, .ref (g (47 + (j)))), (2, .int t), (3, .int (u 16 j)), (4, .int 0)]) hC d_M_choicesBy_18 (by decide) rfl rfl ?_
    refine j_aload_n hC d_M_choicesBy_20 rfl 0 rfl ?_
    refine j_get hC hin_M (7) (cw_match g k u) rfl 1 (by decide) (hC.2.2.2.2.1 _ wf_M_18) (fun _ h9 => h9) rfl d_M_choicesBy_21 ?_
    refine j_iload hC d_M_choicesBy_24 4 rfl ?_
    refine j_if_eq (tgt := 36) hC d_M_choicesBy_26 (by decide) (fun h26 => ?_) (fun h26 => absurd h26 (by decide))
    refine j_aload_n hC d_M_choicesBy_36 rfl 1 rfl ?_
    refine j_getN hC hin_A (47 + (j)) (cw_atom g k u (j := j) (by omega)) rfl 1 (by decide) (hC.2.2.2.2.1 _ wf_M_37) (fun _ h9 => h9) rfl d_M_choicesBy_37 ?_
    refine j_ialdN hC (9) 0 (cw_values g k u) rfl (n := tn (u 17 j)) (hA.2.1.1) (hA.2.1.2) (by decide) d_M_choicesBy_40 ?_
    refine j_istore (lv' := [(0, .ref (g 7)), (1, .ref (g (47 + (j)))), (2, .int t), (3, .int (u 16 j)), (4, .int 0), (5, .int (u 6 (tn (u 17 j))))]) hC d_M_choicesBy_41 (by decide) rfl rfl ?_
    refine j_aload_n hC d_M_choicesBy_43 rfl 1 rfl ?_
    refine j_getN hC hin_A (47 + (j)) (cw_atom g k u (j := j) (by omega)) rfl 1 (by decide) (hC.2.2.2.2.1 _ wf_M_37) (fun _ h9 => h9) rfl d_M_choicesBy_44 ?_
    refine j_aload_n hC d_M_choicesBy_47 rfl 1 rfl ?_
    refine j_getN hC hin_A (47 + (j)) (cw_atom g k u (j := j) (by omega)) rfl 2 (by decide) (hC.2.2.2.2.1 _ wf_M_44) (fun _ h9 => h9) rfl d_M_choicesBy_48 ?_
    refine j_icmp_ne (tgt := 68) hC d_M_choicesBy_51 (by decide) (fun h51 => ?_) (fun h51 => ?_)
    · refine j_iload hC d_M_choicesBy_68 5 rfl ?_
      refine j_iconst (v := -1) hC d_M_choicesBy_70 (by decide) ?_
      refine j_icmp_eq (tgt := 116) hC d_M_choicesBy_71 (by decide) (fun h71 => ?_) (fun h71 => ?_)
      · refine j_aload_n hC d_M_choicesBy_116 rfl 1 rfl ?_
        refine j_getN hC hin_A (47 + (j)) (cw_atom g k u (j := j) (by omega)) rfl 3 (by decide) (hC.2.2.2.2.1 _ wf_M_62) (fun _ h9 => h9) rfl d_M_choicesBy_117 ?_
        refine j_if_eq (tgt := 129) hC d_M_choicesBy_120 (by decide) (fun h120 => ?_) (fun h120 => ?_)
        · refine j_iload hC d_M_choicesBy_129 4 rfl ?_
          refine j_if_eq (tgt := 146) hC d_M_choicesBy_131 (by decide) (fun h131 => ?_) (fun h131 => absurd h131 (by decide))
          refine j_aload_n hC d_M_choicesBy_146 rfl 0 rfl ?_
          refine j_get hC hin_M (7) (cw_match g k u) rfl 0 (by decide) (hC.2.2.2.2.1 _ wf_M_12) (fun _ h9 => h9) rfl d_M_choicesBy_147 ?_
          refine j_getN hC hin_S (8) (cw_sight g k u) rfl 3 (by decide) (hC.2.2.2.2.1 _ wf_M_82) (fun _ h9 => h9) rfl d_M_choicesBy_150 ?_
          refine j_iload_n hC d_M_choicesBy_153 rfl 3 rfl ?_
          refine j_ialdN hC (13) 0 (cw_seconds g k u) rfl (n := tn (u 16 j)) (hA.1.1) (hA.1.2) (by decide) d_M_choicesBy_154 ?_
          refine j_istore (lv' := [(0, .ref (g 7)), (1, .ref (g (47 + (j)))), (2, .int t), (3, .int (u 16 j)), (4, .int 0), (5, .int (u 6 (tn (u 17 j)))), (6, .int (u 10 (tn (u 16 j))))]) hC d_M_choicesBy_155 (by decide) rfl rfl ?_
          refine j_aload_n hC d_M_choicesBy_157 rfl 1 rfl ?_
          refine j_getN hC hin_A (47 + (j)) (cw_atom g k u (j := j) (by omega)) rfl 3 (by decide) (hC.2.2.2.2.1 _ wf_M_62) (fun _ h9 => h9) rfl d_M_choicesBy_158 ?_
          refine j_if_eq (tgt := 171) hC d_M_choicesBy_161 (by decide) (fun h161 => ?_) (fun h161 => ?_)
          · refine j_iload hC d_M_choicesBy_171 6 rfl ?_
            exact j_iret hC hr ⟨rfl, congrArg (fun z => some (Value.int z)) (by first | (simp only [pBy, pSeen, if_neg h10, if_neg h51, if_pos h71, if_pos h120, if_pos h161]; done) | exact absurd h120 h161 | exact absurd h161 h120), rfl⟩ d_M_choicesBy_173
          · refine j_iload hC d_M_choicesBy_164 6 rfl ?_
            refine j_iconst (v := -1) hC d_M_choicesBy_166 (by decide) ?_
            refine j_ixor hC d_M_choicesBy_167 ?_
            refine j_goto (tgt := 173) hC d_M_choicesBy_168 (by decide) ?_
            exact j_iret hC hr ⟨rfl, congrArg (fun z => some (Value.int z)) (by first | (simp only [pBy, pSeen, if_neg h10, if_neg h51, if_pos h71, if_pos h120, if_neg h161]; done) | exact absurd h120 h161 | exact absurd h161 h120), rfl⟩ d_M_choicesBy_173
        · refine j_iconst (v := 0) hC d_M_choicesBy_123 (by decide) ?_
          refine j_istore (lv' := [(0, .ref (g 7)), (1, .ref (g (47 + (j)))), (2, .int t), (3, .int (u 16 j)), (4, .int 0), (5, .int (u 6 (tn (u 17 j)))), (6, .int 0)]) hC d_M_choicesBy_124 (by decide) rfl rfl ?_
          refine j_goto (tgt := 157) hC d_M_choicesBy_126 (by decide) ?_
          refine j_aload_n hC d_M_choicesBy_157 rfl 1 rfl ?_
          refine j_getN hC hin_A (47 + (j)) (cw_atom g k u (j := j) (by omega)) rfl 3 (by decide) (hC.2.2.2.2.1 _ wf_M_62) (fun _ h9 => h9) rfl d_M_choicesBy_158 ?_
          refine j_if_eq (tgt := 171) hC d_M_choicesBy_161 (by decide) (fun h161 => ?_) (fun h161 => ?_)
          · refine j_iload hC d_M_choicesBy_171 6 rfl ?_
            exact j_iret hC hr ⟨rfl, congrArg (fun z => some (Value.int z)) (by first | (simp only [pBy, pSeen, if_neg h10, if_neg h51, if_pos h71, if_neg h120, if_pos h161]; done) | exact absurd h120 h161 | exact absurd h161 h120), rfl⟩ d_M_choicesBy_173
          · refine j_iload hC d_M_choicesBy_164 6 rfl ?_
            refine j_iconst (v := -1) hC d_M_choicesBy_166 (by decide) ?_
            refine j_ixor hC d_M_choicesBy_167 ?_
            refine j_goto (tgt := 173) hC d_M_choicesBy_168 (by decide) ?_
            exact j_iret hC hr ⟨rfl, congrArg (fun z => some (Value.int z)) (by first | (simp only [pBy, pSeen, if_neg h10, if_neg h51, if_pos h71, if_neg h120, if_neg h161]; done) | exact absurd h120 h161 | exact absurd h161 h120), rfl⟩ d_M_choicesBy_173
      · refine j_iload_n hC d_M_choicesBy_74 rfl 3 rfl ?_
        refine j_bipush (v := 12) hC d_M_choicesBy_75 (by decide) ?_
        refine j_imul hC d_M_choicesBy_77 ?_
        refine j_iload hC d_M_choicesBy_78 5 rfl ?_
        refine j_iadd hC d_M_choicesBy_80 ?_
        refine j_istore (lv' := [(0, .ref (g 7)), (1, .ref (g (47 + (j)))), (2, .int t), (3, .int (u 16 j)), (4, .int 0), (5, .int (u 6 (tn (u 17 j)))), (7, .int (((u 16 j) * 12) + (u 6 (tn (u 17 j)))))]) hC d_M_choicesBy_81 (by decide) rfl rfl ?_
        refine j_iload hC d_M_choicesBy_83 4 rfl ?_
        refine j_if_eq (tgt := 101) hC d_M_choicesBy_85 (by decide) (fun h85 => ?_) (fun h85 => absurd h85 (by decide))
        refine j_aload_n hC d_M_choicesBy_101 rfl 0 rfl ?_
        refine j_get hC hin_M (7) (cw_match g k u) rfl 0 (by decide) (hC.2.2.2.2.1 _ wf_M_12) (fun _ h9 => h9) rfl d_M_choicesBy_102 ?_
        refine j_getN hC hin_S (8) (cw_sight g k u) rfl 0 (by decide) (hC.2.2.2.2.1 _ wf_M_76) (fun _ h9 => h9) rfl d_M_choicesBy_105 ?_
        refine j_iload hC d_M_choicesBy_108 6 rfl ?_
        refine j_ialdN hC (10) 0 (cw_secondsByFirst g k u) rfl (n := tn (u 16 j) * 12 + tn (u 6 (tn (u 17 j)))) (in_row hA.1 ((hV _ hA.2.1.2).resolve_left h71)) (row_lt hA.1 ((hV _ hA.2.1.2).resolve_left h71)) (by decide) d_M_choicesBy_110 ?_
        refine j_istore (lv' := [(0, .ref (g 7)), (1, .ref (g (47 + (j)))), (2, .int t), (3, .int (u 16 j)), (4, .int 0), (5, .int (u 6 (tn (u 17 j)))), (7, .int (((u 16 j) * 12) + (u 6 (tn (u 17 j))))), (6, .int (u 7 (tn (u 16 j) * 12 + tn (u 6 (tn (u 17 j))))))]) hC d_M_choicesBy_111 (by decide) rfl rfl ?_
        refine j_goto (tgt := 157) hC d_M_choicesBy_113 (by decide) ?_
        refine j_aload_n hC d_M_choicesBy_157 rfl 1 rfl ?_
        refine j_getN hC hin_A (47 + (j)) (cw_atom g k u (j := j) (by omega)) rfl 3 (by decide) (hC.2.2.2.2.1 _ wf_M_62) (fun _ h9 => h9) rfl d_M_choicesBy_158 ?_
        refine j_if_eq (tgt := 171) hC d_M_choicesBy_161 (by decide) (fun h161 => ?_) (fun h161 => ?_)
        · refine j_iload hC d_M_choicesBy_171 7 rfl ?_
          exact j_iret hC hr ⟨rfl, congrArg (fun z => some (Value.int z)) (by first | (simp only [pBy, pSeen, if_neg h10, if_neg h51, if_neg h71, if_pos h161]; done)), rfl⟩ d_M_choicesBy_173
        · refine j_iload hC d_M_choicesBy_164 7 rfl ?_
          refine j_iconst (v := -1) hC d_M_choicesBy_166 (by decide) ?_
          refine j_ixor hC d_M_choicesBy_167 ?_
          refine j_goto (tgt := 173) hC d_M_choicesBy_168 (by decide) ?_
          exact j_iret hC hr ⟨rfl, congrArg (fun z => some (Value.int z)) (by first | (simp only [pBy, pSeen, if_neg h10, if_neg h51, if_neg h71, if_neg h161]; done)), rfl⟩ d_M_choicesBy_173
    · refine j_aload_n hC d_M_choicesBy_54 rfl 0 rfl ?_
      refine j_get hC hin_M (7) (cw_match g k u) rfl 0 (by decide) (hC.2.2.2.2.1 _ wf_M_12) (fun _ h9 => h9) rfl d_M_choicesBy_55 ?_
      refine j_getN hC hin_S (8) (cw_sight g k u) rfl 4 (by decide) (hC.2.2.2.2.1 _ wf_M_70) (fun _ h9 => h9) rfl d_M_choicesBy_58 ?_
      refine j_iload_n hC d_M_choicesBy_61 rfl 3 rfl ?_
      refine j_ialdN hC (14) 0 (cw_doubles g k u) rfl (n := tn (u 16 j)) (hA.1.1) (hA.1.2) (by decide) d_M_choicesBy_62 ?_
      refine j_istore (lv' := [(0, .ref (g 7)), (1, .ref (g (47 + (j)))), (2, .int t), (3, .int (u 16 j)), (4, .int 0), (5, .int (u 6 (tn (u 17 j)))), (6, .int (u 11 (tn (u 16 j))))]) hC d_M_choicesBy_63 (by decide) rfl rfl ?_
      refine j_goto (tgt := 157) hC d_M_choicesBy_65 (by decide) ?_
      refine j_aload_n hC d_M_choicesBy_157 rfl 1 rfl ?_
      refine j_getN hC hin_A (47 + (j)) (cw_atom g k u (j := j) (by omega)) rfl 3 (by decide) (hC.2.2.2.2.1 _ wf_M_62) (fun _ h9 => h9) rfl d_M_choicesBy_158 ?_
      refine j_if_eq (tgt := 171) hC d_M_choicesBy_161 (by decide) (fun h161 => ?_) (fun h161 => ?_)
      · refine j_iload hC d_M_choicesBy_171 6 rfl ?_
        exact j_iret hC hr ⟨rfl, congrArg (fun z => some (Value.int z)) (by first | (simp only [pBy, pSeen, if_neg h10, if_pos h51, if_pos h161]; done)), rfl⟩ d_M_choicesBy_173
      · refine j_iload hC d_M_choicesBy_164 6 rfl ?_
        refine j_iconst (v := -1) hC d_M_choicesBy_166 (by decide) ?_
        refine j_ixor hC d_M_choicesBy_167 ?_
        refine j_goto (tgt := 173) hC d_M_choicesBy_168 (by decide) ?_
        exact j_iret hC hr ⟨rfl, congrArg (fun z => some (Value.int z)) (by first | (simp only [pBy, pSeen, if_neg h10, if_pos h51, if_neg h161]; done)), rfl⟩ d_M_choicesBy_173
  · refine j_iconst (v := 1) hC d_M_choicesBy_13 (by decide) ?_
    refine j_goto (tgt := 18) hC d_M_choicesBy_14 (by decide) ?_
    refine j_istore (lv' := [(0, .ref (g 7)), (1, .ref (g (47 + (j)))), (2, .int t), (3, .int (u 16 j)), (4, .int 1)]) hC d_M_choicesBy_18 (by decide) rfl rfl ?_
    refine j_aload_n hC d_M_choicesBy_20 rfl 0 rfl ?_
    refine j_get hC hin_M (7) (cw_match g k u) rfl 1 (by decide) (hC.2.2.2.2.1 _ wf_M_18) (fun _ h9 => h9) rfl d_M_choicesBy_21 ?_
    refine j_iload hC d_M_choicesBy_24 4 rfl ?_
    refine j_if_eq (tgt := 36) hC d_M_choicesBy_26 (by decide) (fun h26 => absurd h26 (by decide)) (fun h26 => ?_)
    refine j_aload_n hC d_M_choicesBy_29 rfl 1 rfl ?_
    refine j_getN hC hin_A (47 + (j)) (cw_atom g k u (j := j) (by omega)) rfl 2 (by decide) (hC.2.2.2.2.1 _ wf_M_44) (fun _ h9 => h9) rfl d_M_choicesBy_30 ?_
    refine j_goto (tgt := 40) hC d_M_choicesBy_33 (by decide) ?_
    refine j_ialdN hC (9) 0 (cw_values g k u) rfl (n := tn (u 18 j)) (hA.2.2.1.1) (hA.2.2.1.2) (by decide) d_M_choicesBy_40 ?_
    refine j_istore (lv' := [(0, .ref (g 7)), (1, .ref (g (47 + (j)))), (2, .int t), (3, .int (u 16 j)), (4, .int 1), (5, .int (u 6 (tn (u 18 j))))]) hC d_M_choicesBy_41 (by decide) rfl rfl ?_
    refine j_aload_n hC d_M_choicesBy_43 rfl 1 rfl ?_
    refine j_getN hC hin_A (47 + (j)) (cw_atom g k u (j := j) (by omega)) rfl 1 (by decide) (hC.2.2.2.2.1 _ wf_M_37) (fun _ h9 => h9) rfl d_M_choicesBy_44 ?_
    refine j_aload_n hC d_M_choicesBy_47 rfl 1 rfl ?_
    refine j_getN hC hin_A (47 + (j)) (cw_atom g k u (j := j) (by omega)) rfl 2 (by decide) (hC.2.2.2.2.1 _ wf_M_44) (fun _ h9 => h9) rfl d_M_choicesBy_48 ?_
    refine j_icmp_ne (tgt := 68) hC d_M_choicesBy_51 (by decide) (fun h51 => ?_) (fun h51 => ?_)
    · refine j_iload hC d_M_choicesBy_68 5 rfl ?_
      refine j_iconst (v := -1) hC d_M_choicesBy_70 (by decide) ?_
      refine j_icmp_eq (tgt := 116) hC d_M_choicesBy_71 (by decide) (fun h71 => ?_) (fun h71 => ?_)
      · refine j_aload_n hC d_M_choicesBy_116 rfl 1 rfl ?_
        refine j_getN hC hin_A (47 + (j)) (cw_atom g k u (j := j) (by omega)) rfl 3 (by decide) (hC.2.2.2.2.1 _ wf_M_62) (fun _ h9 => h9) rfl d_M_choicesBy_117 ?_
        refine j_if_eq (tgt := 129) hC d_M_choicesBy_120 (by decide) (fun h120 => ?_) (fun h120 => ?_)
        · refine j_iload hC d_M_choicesBy_129 4 rfl ?_
          refine j_if_eq (tgt := 146) hC d_M_choicesBy_131 (by decide) (fun h131 => absurd h131 (by decide)) (fun h131 => ?_)
          refine j_aload_n hC d_M_choicesBy_134 rfl 0 rfl ?_
          refine j_get hC hin_M (7) (cw_match g k u) rfl 0 (by decide) (hC.2.2.2.2.1 _ wf_M_12) (fun _ h9 => h9) rfl d_M_choicesBy_135 ?_
          refine j_getN hC hin_S (8) (cw_sight g k u) rfl 2 (by decide) (hC.2.2.2.2.1 _ wf_M_79) (fun _ h9 => h9) rfl d_M_choicesBy_138 ?_
          refine j_iload_n hC d_M_choicesBy_141 rfl 3 rfl ?_
          refine j_ialdN hC (12) 0 (cw_firsts g k u) rfl (n := tn (u 16 j)) (hA.1.1) (hA.1.2) (by decide) d_M_choicesBy_142 ?_
          refine j_goto (tgt := 155) hC d_M_choicesBy_143 (by decide) ?_
          refine j_istore (lv' := [(0, .ref (g 7)), (1, .ref (g (47 + (j)))), (2, .int t), (3, .int (u 16 j)), (4, .int 1), (5, .int (u 6 (tn (u 18 j)))), (6, .int (u 9 (tn (u 16 j))))]) hC d_M_choicesBy_155 (by decide) rfl rfl ?_
          refine j_aload_n hC d_M_choicesBy_157 rfl 1 rfl ?_
          refine j_getN hC hin_A (47 + (j)) (cw_atom g k u (j := j) (by omega)) rfl 3 (by decide) (hC.2.2.2.2.1 _ wf_M_62) (fun _ h9 => h9) rfl d_M_choicesBy_158 ?_
          refine j_if_eq (tgt := 171) hC d_M_choicesBy_161 (by decide) (fun h161 => ?_) (fun h161 => ?_)
          · refine j_iload hC d_M_choicesBy_171 6 rfl ?_
            exact j_iret hC hr ⟨rfl, congrArg (fun z => some (Value.int z)) (by first | (simp only [pBy, pSeen, if_pos h10, if_neg h51, if_pos h71, if_pos h120, if_pos h161]; done) | exact absurd h120 h161 | exact absurd h161 h120), rfl⟩ d_M_choicesBy_173
          · refine j_iload hC d_M_choicesBy_164 6 rfl ?_
            refine j_iconst (v := -1) hC d_M_choicesBy_166 (by decide) ?_
            refine j_ixor hC d_M_choicesBy_167 ?_
            refine j_goto (tgt := 173) hC d_M_choicesBy_168 (by decide) ?_
            exact j_iret hC hr ⟨rfl, congrArg (fun z => some (Value.int z)) (by first | (simp only [pBy, pSeen, if_pos h10, if_neg h51, if_pos h71, if_pos h120, if_neg h161]; done) | exact absurd h120 h161 | exact absurd h161 h120), rfl⟩ d_M_choicesBy_173
        · refine j_iconst (v := 0) hC d_M_choicesBy_123 (by decide) ?_
          refine j_istore (lv' := [(0, .ref (g 7)), (1, .ref (g (47 + (j)))), (2, .int t), (3, .int (u 16 j)), (4, .int 1), (5, .int (u 6 (tn (u 18 j)))), (6, .int 0)]) hC d_M_choicesBy_124 (by decide) rfl rfl ?_
          refine j_goto (tgt := 157) hC d_M_choicesBy_126 (by decide) ?_
          refine j_aload_n hC d_M_choicesBy_157 rfl 1 rfl ?_
          refine j_getN hC hin_A (47 + (j)) (cw_atom g k u (j := j) (by omega)) rfl 3 (by decide) (hC.2.2.2.2.1 _ wf_M_62) (fun _ h9 => h9) rfl d_M_choicesBy_158 ?_
          refine j_if_eq (tgt := 171) hC d_M_choicesBy_161 (by decide) (fun h161 => ?_) (fun h161 => ?_)
          · refine j_iload hC d_M_choicesBy_171 6 rfl ?_
            exact j_iret hC hr ⟨rfl, congrArg (fun z => some (Value.int z)) (by first | (simp only [pBy, pSeen, if_pos h10, if_neg h51, if_pos h71, if_neg h120, if_pos h161]; done) | exact absurd h120 h161 | exact absurd h161 h120), rfl⟩ d_M_choicesBy_173
          · refine j_iload hC d_M_choicesBy_164 6 rfl ?_
            refine j_iconst (v := -1) hC d_M_choicesBy_166 (by decide) ?_
            refine j_ixor hC d_M_choicesBy_167 ?_
            refine j_goto (tgt := 173) hC d_M_choicesBy_168 (by decide) ?_
            exact j_iret hC hr ⟨rfl, congrArg (fun z => some (Value.int z)) (by first | (simp only [pBy, pSeen, if_pos h10, if_neg h51, if_pos h71, if_neg h120, if_neg h161]; done) | exact absurd h120 h161 | exact absurd h161 h120), rfl⟩ d_M_choicesBy_173
      · refine j_iload_n hC d_M_choicesBy_74 rfl 3 rfl ?_
        refine j_bipush (v := 12) hC d_M_choicesBy_75 (by decide) ?_
        refine j_imul hC d_M_choicesBy_77 ?_
        refine j_iload hC d_M_choicesBy_78 5 rfl ?_
        refine j_iadd hC d_M_choicesBy_80 ?_
        refine j_istore (lv' := [(0, .ref (g 7)), (1, .ref (g (47 + (j)))), (2, .int t), (3, .int (u 16 j)), (4, .int 1), (5, .int (u 6 (tn (u 18 j)))), (7, .int (((u 16 j) * 12) + (u 6 (tn (u 18 j)))))]) hC d_M_choicesBy_81 (by decide) rfl rfl ?_
        refine j_iload hC d_M_choicesBy_83 4 rfl ?_
        refine j_if_eq (tgt := 101) hC d_M_choicesBy_85 (by decide) (fun h85 => absurd h85 (by decide)) (fun h85 => ?_)
        refine j_aload_n hC d_M_choicesBy_88 rfl 0 rfl ?_
        refine j_get hC hin_M (7) (cw_match g k u) rfl 0 (by decide) (hC.2.2.2.2.1 _ wf_M_12) (fun _ h9 => h9) rfl d_M_choicesBy_89 ?_
        refine j_getN hC hin_S (8) (cw_sight g k u) rfl 1 (by decide) (hC.2.2.2.2.1 _ wf_M_73) (fun _ h9 => h9) rfl d_M_choicesBy_92 ?_
        refine j_iload hC d_M_choicesBy_95 6 rfl ?_
        refine j_ialdN hC (11) 0 (cw_firstsBySecond g k u) rfl (n := tn (u 16 j) * 12 + tn (u 6 (tn (u 18 j)))) (in_row hA.1 ((hV _ hA.2.2.1.2).resolve_left h71)) (row_lt hA.1 ((hV _ hA.2.2.1.2).resolve_left h71)) (by decide) d_M_choicesBy_97 ?_
        refine j_goto (tgt := 111) hC d_M_choicesBy_98 (by decide) ?_
        refine j_istore (lv' := [(0, .ref (g 7)), (1, .ref (g (47 + (j)))), (2, .int t), (3, .int (u 16 j)), (4, .int 1), (5, .int (u 6 (tn (u 18 j)))), (7, .int (((u 16 j) * 12) + (u 6 (tn (u 18 j))))), (6, .int (u 8 (tn (u 16 j) * 12 + tn (u 6 (tn (u 18 j))))))]) hC d_M_choicesBy_111 (by decide) rfl rfl ?_
        refine j_goto (tgt := 157) hC d_M_choicesBy_113 (by decide) ?_
        refine j_aload_n hC d_M_choicesBy_157 rfl 1 rfl ?_
        refine j_getN hC hin_A (47 + (j)) (cw_atom g k u (j := j) (by omega)) rfl 3 (by decide) (hC.2.2.2.2.1 _ wf_M_62) (fun _ h9 => h9) rfl d_M_choicesBy_158 ?_
        refine j_if_eq (tgt := 171) hC d_M_choicesBy_161 (by decide) (fun h161 => ?_) (fun h161 => ?_)
        · refine j_iload hC d_M_choicesBy_171 7 rfl ?_
          exact j_iret hC hr ⟨rfl, congrArg (fun z => some (Value.int z)) (by first | (simp only [pBy, pSeen, if_pos h10, if_neg h51, if_neg h71, if_pos h161]; done)), rfl⟩ d_M_choicesBy_173
        · refine j_iload hC d_M_choicesBy_164 7 rfl ?_
          refine j_iconst (v := -1) hC d_M_choicesBy_166 (by decide) ?_
          refine j_ixor hC d_M_choicesBy_167 ?_
          refine j_goto (tgt := 173) hC d_M_choicesBy_168 (by decide) ?_
          exact j_iret hC hr ⟨rfl, congrArg (fun z => some (Value.int z)) (by first | (simp only [pBy, pSeen, if_pos h10, if_neg h51, if_neg h71, if_neg h161]; done)), rfl⟩ d_M_choicesBy_173
    · refine j_aload_n hC d_M_choicesBy_54 rfl 0 rfl ?_
      refine j_get hC hin_M (7) (cw_match g k u) rfl 0 (by decide) (hC.2.2.2.2.1 _ wf_M_12) (fun _ h9 => h9) rfl d_M_choicesBy_55 ?_
      refine j_getN hC hin_S (8) (cw_sight g k u) rfl 4 (by decide) (hC.2.2.2.2.1 _ wf_M_70) (fun _ h9 => h9) rfl d_M_choicesBy_58 ?_
      refine j_iload_n hC d_M_choicesBy_61 rfl 3 rfl ?_
      refine j_ialdN hC (14) 0 (cw_doubles g k u) rfl (n := tn (u 16 j)) (hA.1.1) (hA.1.2) (by decide) d_M_choicesBy_62 ?_
      refine j_istore (lv' := [(0, .ref (g 7)), (1, .ref (g (47 + (j)))), (2, .int t), (3, .int (u 16 j)), (4, .int 1), (5, .int (u 6 (tn (u 18 j)))), (6, .int (u 11 (tn (u 16 j))))]) hC d_M_choicesBy_63 (by decide) rfl rfl ?_
      refine j_goto (tgt := 157) hC d_M_choicesBy_65 (by decide) ?_
      refine j_aload_n hC d_M_choicesBy_157 rfl 1 rfl ?_
      refine j_getN hC hin_A (47 + (j)) (cw_atom g k u (j := j) (by omega)) rfl 3 (by decide) (hC.2.2.2.2.1 _ wf_M_62) (fun _ h9 => h9) rfl d_M_choicesBy_158 ?_
      refine j_if_eq (tgt := 171) hC d_M_choicesBy_161 (by decide) (fun h161 => ?_) (fun h161 => ?_)
      · refine j_iload hC d_M_choicesBy_171 6 rfl ?_
        exact j_iret hC hr ⟨rfl, congrArg (fun z => some (Value.int z)) (by first | (simp only [pBy, pSeen, if_pos h10, if_pos h51, if_pos h161]; done)), rfl⟩ d_M_choicesBy_173
      · refine j_iload hC d_M_choicesBy_164 6 rfl ?_
        refine j_iconst (v := -1) hC d_M_choicesBy_166 (by decide) ?_
        refine j_ixor hC d_M_choicesBy_167 ?_
        refine j_goto (tgt := 173) hC d_M_choicesBy_168 (by decide) ?_
        exact j_iret hC hr ⟨rfl, congrArg (fun z => some (Value.int z)) (by first | (simp only [pBy, pSeen, if_pos h10, if_pos h51, if_neg h161]; done)), rfl⟩ d_M_choicesBy_173

set_option maxHeartbeats 4000000 in
set_option maxRecDepth 100000 in
theorem k_choices (l : Launch) (dC : Nat → ClassId) (dI : Nat → Nat → Nat) (g k : Nat → Nat) (tl : List (ClassId × FieldType)) (u : jU) {i : Nat} (hi : i < 16) (hM : wfM u) (t : Int32) (ht : inN t 24) : jMet l y_M_choices (.code y_M_choices c_M_choices 6 (some .int)) ({ frames := 1, cells := 0, slots := 0, locals := 27 }) (dC, dI) jcl (ctys k tl) jTs [.ref (g 7), .ref (g (15 + i)), .int t] (cw g k u) 0 0 (jRet (some (.int (pChoices u i t))) (cw g k u)) := by
  refine jMet.of (by decide) (Nat.le_of_ble_eq_true rfl) ?_
  intro p e s m below meth c A hC hex hr hnm htr
  show jJ p l e ({ frames := 1, cells := 0, slots := 0, locals := 27 }) s m [.ref (g 7), .ref (g (15 + i)), .int t].toArray below meth c 6 (dC, dI) jcl A (hxQ below (jQ (dC, dI) jcl (jRet (some (.int (pChoices u i t))) (cw g k u)) A) [.ref (g 7), .ref (g (15 + i)), .int t].toArray s 0 0 A) 0 0 (cw g k u) [(0, .ref (g 7)), (1, .ref (g (15 + i))), (2, .int t)] [] 0
  have hs : wfS u i := hM.1 i hi
  have hA : ∀ q, q < 4 → wfA u (5 * i + 1 + q) := fun q h => hM.2.1 _ (by omega)
  have hV : wfV u := hM.2.2
  have hs5 : tn (u 12 i) < 5 := hs.2
  have loop : u 6 (tn t) = -1 → ∀ (n q : Nat), q ≤ tn (u 12 i) → tn (u 12 i) < q + n → jJ p l e ({ frames := 1, cells := 0, slots := 0, locals := 27 }) s m [.ref (g 7), .ref (g (15 + i)), .int t].toArray below meth c 6 (dC, dI) jcl A (hxQ below (jQ (dC, dI) jcl (jRet (some (.int (pChoices u i t))) (cw g k u)) A) [.ref (g 7), .ref (g (15 + i)), .int t].toArray s 0 0 A) 0 0 (cw g k u) [(0, .ref (g 7)), (1, .ref (g (15 + i))), (2, .int t), (3, .int (pCh u i t q)), (4, .int (nI q))] [] 26 := by
    intro hop n
    induction n with
    | zero => intro q h1 h2; exact absurd h2 (by omega)
    | succ n ih =>
      intro q hq hn
      refine j_iload hC d_M_choices_26 4 rfl ?_
      refine j_aload_n hC d_M_choices_28 rfl 1 rfl ?_
      refine j_getN hC hin_R (15 + i) (cw_rule g k u (by omega)) rfl 2 (by decide) (hC.2.2.2.2.1 _ wf_M_51) (fun _ h9 => h9) rfl d_M_choices_29 ?_
      refine j_icmp_ge (tgt := 78) hC d_M_choices_32 (by decide) (fun h32 => ?_) (fun h32 => ?_)
      · have hge : tn (u 12 i) ≤ q := (inN_leN hs (by decide) (by omega)).mp h32
        have hqe : q = tn (u 12 i) := by omega
        refine j_iload_n hC d_M_choices_78 rfl 3 rfl ?_
        exact j_iret hC hr ⟨rfl, congrArg (fun z => some (Value.int z)) (by rw [pChoices, if_pos hop, ← hqe]), rfl⟩ d_M_choices_79
      · have hlt : q < tn (u 12 i) := Nat.not_le.mp (fun z => h32 ((inN_leN hs (by decide) (by omega)).mpr z))
        have hq4 : q < 4 := by omega
        refine j_aload_n hC d_M_choices_35 rfl 1 rfl ?_
        refine j_getN hC hin_R (15 + i) (cw_rule g k u (by omega)) rfl 1 (by decide) (hC.2.2.2.2.1 _ wf_M_54) (fun _ h9 => h9) rfl d_M_choices_36 ?_
        refine j_iload hC d_M_choices_39 4 rfl ?_
        refine j_aaldN (v := g (47 + (5 * i + 1 + q))) hC (31 + i) 1 (cw_lits g k u (by omega)) rfl (n := q) (rfl) (hq4) (by decide) (if_pos (hq4)) d_M_choices_41 ?_
        refine j_astore (lv' := [(0, .ref (g 7)), (1, .ref (g (15 + i))), (2, .int t), (3, .int (pCh u i t q)), (4, .int (nI q)), (5, .ref (g (47 + (5 * i + 1 + q))))]) hC d_M_choices_42 (by decide) rfl rfl ?_
        refine j_aload hC d_M_choices_44 5 rfl ?_
        refine j_getN hC hin_A (47 + (5 * i + 1 + q)) (cw_atom g k u (j := 5 * i + 1 + q) (by omega)) rfl 1 (by decide) (hC.2.2.2.2.1 _ wf_M_37) (fun _ h9 => h9) rfl d_M_choices_46 ?_
        refine j_iload_n hC d_M_choices_49 rfl 2 rfl ?_
        refine j_icmp_eq (tgt := 62) hC d_M_choices_50 (by decide) (fun h50 => ?_) (fun h50 => ?_)
        · refine j_iload_n hC d_M_choices_62 rfl 3 rfl ?_
          refine j_aload_n hC d_M_choices_63 rfl 0 rfl ?_
          refine j_aload hC d_M_choices_64 5 rfl ?_
          refine j_iload_n hC d_M_choices_66 rfl 2 rfl ?_
          refine j_callVr (As := [.ref (g (47 + (5 * i + 1 + q))), .int t]) (rest := [.int (pCh u i t q)]) (st1 := [.int (pBy u (5 * i + 1 + q) t), .int (pCh u i t q)]) hC (k_by l dC dI g k tl u (by omega) hM t) rfl rfl ww_M_66 yn_M_choicesBy (cw_match g k u) rfl rfl d_M_choices_67 (Nat.le_of_ble_eq_true rfl) (by decide) (by decide) rfl ?_
          refine j_iand hC d_M_choices_70 ?_
          refine j_istore_n (lv' := [(0, .ref (g 7)), (1, .ref (g (15 + i))), (2, .int t), (3, .int ((pCh u i t q) &&& (pBy u (5 * i + 1 + q) t))), (4, .int (nI q)), (5, .ref (g (47 + (5 * i + 1 + q))))]) hC d_M_choices_71 rfl (by decide) rfl rfl ?_
          refine j_iinc (lv' := [(0, .ref (g 7)), (1, .ref (g (15 + i))), (2, .int t), (3, .int ((pCh u i t q) &&& (pBy u (5 * i + 1 + q) t))), (4, .int (nI (q + 1))), (5, .ref (g (47 + (5 * i + 1 + q))))]) hC d_M_choices_72 4 rfl (nI_1 _) (by decide) rfl rfl ?_
          refine j_goto (tgt := 26) hC d_M_choices_75 (by decide) ?_
          have e9 : pCh u i t (q + 1) = (pCh u i t q) &&& (pBy u (5 * i + 1 + q) t) := if_pos (Or.inl h50)
          have k9 := ih (q + 1) (by omega) (by omega)
          rw [e9] at k9
          exact j_locals [0, 1, 2, 3, 4] rfl k9
        · refine j_aload hC d_M_choices_53 5 rfl ?_
          refine j_getN hC hin_A (47 + (5 * i + 1 + q)) (cw_atom g k u (j := 5 * i + 1 + q) (by omega)) rfl 2 (by decide) (hC.2.2.2.2.1 _ wf_M_44) (fun _ h9 => h9) rfl d_M_choices_55 ?_
          refine j_iload_n hC d_M_choices_58 rfl 2 rfl ?_
          refine j_icmp_ne (tgt := 72) hC d_M_choices_59 (by decide) (fun h59 => ?_) (fun h59 => ?_)
          · refine j_iinc (lv' := [(0, .ref (g 7)), (1, .ref (g (15 + i))), (2, .int t), (3, .int (pCh u i t q)), (4, .int (nI (q + 1))), (5, .ref (g (47 + (5 * i + 1 + q))))]) hC d_M_choices_72 4 rfl (nI_1 _) (by decide) rfl rfl ?_
            refine j_goto (tgt := 26) hC d_M_choices_75 (by decide) ?_
            have e9 : pCh u i t (q + 1) = pCh u i t q := if_neg (fun z => z.elim h50 h59)
            have k9 := ih (q + 1) (by omega) (by omega)
            rw [e9] at k9
            exact j_locals [0, 1, 2, 3, 4] rfl k9
          · refine j_iload_n hC d_M_choices_62 rfl 3 rfl ?_
            refine j_aload_n hC d_M_choices_63 rfl 0 rfl ?_
            refine j_aload hC d_M_choices_64 5 rfl ?_
            refine j_iload_n hC d_M_choices_66 rfl 2 rfl ?_
            refine j_callVr (As := [.ref (g (47 + (5 * i + 1 + q))), .int t]) (rest := [.int (pCh u i t q)]) (st1 := [.int (pBy u (5 * i + 1 + q) t), .int (pCh u i t q)]) hC (k_by l dC dI g k tl u (by omega) hM t) rfl rfl ww_M_66 yn_M_choicesBy (cw_match g k u) rfl rfl d_M_choices_67 (Nat.le_of_ble_eq_true rfl) (by decide) (by decide) rfl ?_
            refine j_iand hC d_M_choices_70 ?_
            refine j_istore_n (lv' := [(0, .ref (g 7)), (1, .ref (g (15 + i))), (2, .int t), (3, .int ((pCh u i t q) &&& (pBy u (5 * i + 1 + q) t))), (4, .int (nI q)), (5, .ref (g (47 + (5 * i + 1 + q))))]) hC d_M_choices_71 rfl (by decide) rfl rfl ?_
            refine j_iinc (lv' := [(0, .ref (g 7)), (1, .ref (g (15 + i))), (2, .int t), (3, .int ((pCh u i t q) &&& (pBy u (5 * i + 1 + q) t))), (4, .int (nI (q + 1))), (5, .ref (g (47 + (5 * i + 1 + q))))]) hC d_M_choices_72 4 rfl (nI_1 _) (by decide) rfl rfl ?_
            refine j_goto (tgt := 26) hC d_M_choices_75 (by decide) ?_
            have e9 : pCh u i t (q + 1) = (pCh u i t q) &&& (pBy u (5 * i + 1 + q) t) := if_pos (Or.inr h59)
            have k9 := ih (q + 1) (by omega) (by omega)
            rw [e9] at k9
            exact j_locals [0, 1, 2, 3, 4] rfl k9
  refine j_aload_n hC d_M_choices_0 rfl 0 rfl ?_
  refine j_get hC hin_M (7) (cw_match g k u) rfl 1 (by decide) (hC.2.2.2.2.1 _ wf_M_18) (fun _ h9 => h9) rfl d_M_choices_1 ?_
  refine j_iload_n hC d_M_choices_4 rfl 2 rfl ?_
  refine j_ialdN hC (9) 0 (cw_values g k u) rfl (n := tn t) (ht.1) (ht.2) (by decide) d_M_choices_5 ?_
  refine j_iconst (v := -1) hC d_M_choices_6 (by decide) ?_
  refine j_icmp_eq (tgt := 19) hC d_M_choices_7 (by decide) (fun h7 => ?_) (fun h7 => ?_)
  · refine j_sipush (v := 4095) hC d_M_choices_19 (by decide) ?_
    refine j_istore_n (lv' := [(0, .ref (g 7)), (1, .ref (g (15 + i))), (2, .int t), (3, .int 4095)]) hC d_M_choices_22 rfl (by decide) rfl rfl ?_
    refine j_iconst (v := 0) hC d_M_choices_23 (by decide) ?_
    refine j_istore (lv' := [(0, .ref (g 7)), (1, .ref (g (15 + i))), (2, .int t), (3, .int 4095), (4, .int 0)]) hC d_M_choices_24 (by decide) rfl rfl ?_
    exact loop h7 6 0 (by omega) (by omega)
  · refine j_iconst (v := 1) hC d_M_choices_10 (by decide) ?_
    refine j_aload_n hC d_M_choices_11 rfl 0 rfl ?_
    refine j_get hC hin_M (7) (cw_match g k u) rfl 1 (by decide) (hC.2.2.2.2.1 _ wf_M_18) (fun _ h9 => h9) rfl d_M_choices_12 ?_
    refine j_iload_n hC d_M_choices_15 rfl 2 rfl ?_
    refine j_ialdN hC (9) 0 (cw_values g k u) rfl (n := tn t) (ht.1) (ht.2) (by decide) d_M_choices_16 ?_
    refine j_ishl hC d_M_choices_17 ?_
    exact j_iret hC hr ⟨rfl, congrArg (fun z => some (Value.int z)) ((if_neg h7).symm), rfl⟩ d_M_choices_18

set_option maxHeartbeats 4000000 in
set_option maxRecDepth 100000 in
theorem k_nextOpen (l : Launch) (dC : Nat → ClassId) (dI : Nat → Nat → Nat) (g k : Nat → Nat) (tl : List (ClassId × FieldType)) (u : jU) {i n0 : Nat} (hi : i < 16) (hn0 : n0 ≤ 24) : jMet l y_M_nextOpen (.code y_M_nextOpen c_M_nextOpen 4 (some .int)) ({ frames := 1, cells := 0, slots := 0, locals := 21 }) (dC, dI) jcl (ctys k tl) jTs [.ref (g 7), .ref (g (15 + i)), .int (nI n0)] (cw g k u) 0 0 (jRet (some (.int (nI (pNext u i n0)))) (cw g k u)) := by
  refine jMet.of (by decide) (Nat.le_of_ble_eq_true rfl) ?_
  intro p e s m below meth c A hC hex hr hnm htr
  show jJ p l e ({ frames := 1, cells := 0, slots := 0, locals := 21 }) s m [.ref (g 7), .ref (g (15 + i)), .int (nI n0)].toArray below meth c 4 (dC, dI) jcl A (hxQ below (jQ (dC, dI) jcl (jRet (some (.int (nI (pNext u i n0)))) (cw g k u)) A) [.ref (g 7), .ref (g (15 + i)), .int (nI n0)].toArray s 0 0 A) 0 0 (cw g k u) [(0, .ref (g 7)), (1, .ref (g (15 + i))), (2, .int (nI n0))] [] 0
  have loop : ∀ (d n : Nat), n ≤ 24 → 24 < n + d → pNextN u i (24 - n) n = pNext u i n0 → jJ p l e ({ frames := 1, cells := 0, slots := 0, locals := 21 }) s m [.ref (g 7), .ref (g (15 + i)), .int (nI n0)].toArray below meth c 4 (dC, dI) jcl A (hxQ below (jQ (dC, dI) jcl (jRet (some (.int (nI (pNext u i n0)))) (cw g k u)) A) [.ref (g 7), .ref (g (15 + i)), .int (nI n0)].toArray s 0 0 A) 0 0 (cw g k u) [(0, .ref (g 7)), (1, .ref (g (15 + i))), (2, .int (nI n0)), (3, .int (nI n))] [] 2 := by
    intro d
    induction d with
    | zero => intro n h1 h2; exact absurd h2 (by omega)
    | succ d ih =>
      intro n hn hd hinv
      refine j_iload_n hC d_M_nextOpen_2 rfl 3 rfl ?_
      refine j_bipush (v := 24) hC d_M_nextOpen_3 (by decide) ?_
      refine j_icmp_ge (tgt := 37) hC d_M_nextOpen_5 (by decide) (fun h5 => ?_) (fun h5 => ?_)
      · have hge : 24 ≤ n := (nI_leI (by decide) (by omega)).mp h5
        have hne : n = 24 := by omega
        refine j_bipush (v := 24) hC d_M_nextOpen_37 (by decide) ?_
        exact j_iret hC hr ⟨rfl, congrArg (fun z => some (Value.int z)) (by rw [← hinv, hne]; rfl), rfl⟩ d_M_nextOpen_39
      · have hlt : n < 24 := Nat.not_le.mp (fun z => h5 ((nI_leI (a := 24) (by decide) (by omega)).mpr z))
        have e24 : pNextN u i (24 - n) n = pNextN u i ((24 - (n + 1)) + 1) n := by rw [show 24 - n = (24 - (n + 1)) + 1 by omega]
        refine j_aload_n hC d_M_nextOpen_8 rfl 1 rfl ?_
        refine j_getN hC hin_R (15 + i) (cw_rule g k u (by omega)) rfl 3 (by decide) (hC.2.2.2.2.1 _ wf_M_85) (fun _ h9 => h9) rfl d_M_nextOpen_9 ?_
        refine j_iload_n hC d_M_nextOpen_12 rfl 3 rfl ?_
        refine j_callSNr (As := [.int (u 13 i), .int (nI n)]) (rest := []) (st1 := [.int (b2i (hb (u 13 i) (nI n)))]) hC (k_hasBit l dC dI g k tl u (u 13 i) (nI n)) rfl rfl ww_M_88 yn_H_hasBit rfl d_M_nextOpen_13 (Nat.le_of_ble_eq_true rfl) (by decide) (by decide) rfl ?_
        refine j_if_eq (tgt := 31) hC d_M_nextOpen_16 (by decide) (fun h16 => ?_) (fun h16 => ?_)
        · refine j_iinc (lv' := [(0, .ref (g 7)), (1, .ref (g (15 + i))), (2, .int (nI n0)), (3, .int (nI (n + 1)))]) hC d_M_nextOpen_31 3 rfl (nI_1 _) (by decide) rfl rfl ?_
          refine j_goto (tgt := 2) hC d_M_nextOpen_34 (by decide) ?_
          exact j_locals [0, 1, 2, 3] rfl (ih (n + 1) (by omega) (by omega) (by rw [← hinv, e24]; exact (if_neg (fun z => by rw [b2i_0 h16] at z; cases z.1)).symm))
        · refine j_aload_n hC d_M_nextOpen_19 rfl 0 rfl ?_
          refine j_get hC hin_M (7) (cw_match g k u) rfl 1 (by decide) (hC.2.2.2.2.1 _ wf_M_18) (fun _ h9 => h9) rfl d_M_nextOpen_20 ?_
          refine j_iload_n hC d_M_nextOpen_23 rfl 3 rfl ?_
          refine j_ialdN hC (9) 0 (cw_values g k u) rfl (n := n) (rfl) (hlt) (by decide) d_M_nextOpen_24 ?_
          refine j_iconst (v := -1) hC d_M_nextOpen_25 (by decide) ?_
          refine j_icmp_ne (tgt := 31) hC d_M_nextOpen_26 (by decide) (fun h26 => ?_) (fun h26 => ?_)
          · refine j_iinc (lv' := [(0, .ref (g 7)), (1, .ref (g (15 + i))), (2, .int (nI n0)), (3, .int (nI (n + 1)))]) hC d_M_nextOpen_31 3 rfl (nI_1 _) (by decide) rfl rfl ?_
            refine j_goto (tgt := 2) hC d_M_nextOpen_34 (by decide) ?_
            exact j_locals [0, 1, 2, 3] rfl (ih (n + 1) (by omega) (by omega) (by rw [← hinv, e24]; exact (if_neg (fun z => h26 z.2)).symm))
          · refine j_iload_n hC d_M_nextOpen_29 rfl 3 rfl ?_
            exact j_iret hC hr ⟨rfl, congrArg (fun z => some (Value.int z)) (congrArg nI (by rw [← hinv, e24]; exact (if_pos ⟨b2i_1 h16, h26⟩).symm)), rfl⟩ d_M_nextOpen_30
  refine j_iload_n hC d_M_nextOpen_0 rfl 2 rfl ?_
  refine j_istore_n (lv' := [(0, .ref (g 7)), (1, .ref (g (15 + i))), (2, .int (nI n0)), (3, .int (nI n0))]) hC d_M_nextOpen_1 rfl (by decide) rfl rfl ?_
  exact loop 25 n0 hn0 (by omega) rfl
end
section
set_option maxHeartbeats 4000000 in
set_option maxRecDepth 100000 in
theorem k_meets (l : Launch) (dC : Nat → ClassId) (dI : Nat → Nat → Nat) (g k : Nat → Nat) (tl : List (ClassId × FieldType)) (u : jU) {i : Nat} (hi : i < 16) (hM : wfM u) (r a b : Int32) (ha : inN a 12) (hb12 : inN b 12) : jMet l y_M_meets (.code y_M_meets c_M_meets 5 (some .boolean)) ({ frames := 2, cells := 0, slots := 0, locals := 48 }) (dC, dI) jcl (ctys k tl) jTs [.ref (g 7), .ref (g (15 + i)), .int r, .int a, .int b] (cw g k u) 0 0 (jRet (some (.int (b2i (pMeets u i r a b).1))) (cw g k ((pMeets u i r a b).2))) := by
  refine jMet.of (by decide) (Nat.le_of_ble_eq_true rfl) ?_
  intro p e s m below meth c A hC hex hr hnm htr
  show jJ p l e ({ frames := 2, cells := 0, slots := 0, locals := 48 }) s m [.ref (g 7), .ref (g (15 + i)), .int r, .int a, .int b].toArray below meth c 5 (dC, dI) jcl A (hxQ below (jQ (dC, dI) jcl (jRet (some (.int (b2i (pMeets u i r a b).1))) (cw g k ((pMeets u i r a b).2))) A) [.ref (g 7), .ref (g (15 + i)), .int r, .int a, .int b].toArray s 0 0 A) 0 0 (cw g k u) [(0, .ref (g 7)), (1, .ref (g (15 + i))), (2, .int r), (3, .int a), (4, .int b)] [] 0
  have hH : wfA u (5 * i) := hM.2.1 _ (by omega)
  have hh1 : inN (pForget u 17 (5 * i)) 24 := by rw [only6_forget u 17 (by decide)]; exact hH.2.1
  have o1 : only6 u (pMeets1 u i a) := (only6_forget u).tr (only6_bind _ _ _)
  have hh2 : inN (pMeets1 u i a 18 (5 * i)) 24 := by rw [o1 18 (by decide)]; exact hH.2.2.1
  have hM2 : wfM (pMeets2 u i a b) := hM.of (o1.tr (only6_bind _ _ _)) (wfV_bind (wfV_bind (wfV_forget hM.2.2) _ ha) _ hb12)
  refine j_aload_n hC d_M_meets_0 rfl 0 rfl ?_
  refine j_callVr (As := []) (rest := []) (st1 := []) hC (k_forget l dC dI g k tl u) rfl rfl ww_M_22 yn_M_forget (cw_match g k u) rfl rfl d_M_meets_1 (Nat.le_of_ble_eq_true rfl) (by decide) ⟨Nat.zero_le _, Nat.zero_le _⟩ rfl ?_
  refine j_aload_n hC d_M_meets_4 rfl 1 rfl ?_
  refine j_getN hC hin_R (15 + i) (cw_rule g k (pForget u) (by omega)) rfl 0 (by decide) (hC.2.2.2.2.1 _ wf_M_25) (fun _ h9 => h9) rfl d_M_meets_5 ?_
  refine j_getN hC hin_A (47 + (5 * i)) (cw_atom g k (pForget u) (j := 5 * i) (by omega)) rfl 0 (by decide) (hC.2.2.2.2.1 _ wf_M_31) (fun _ h9 => h9) rfl d_M_meets_8 ?_
  refine j_iload_n hC d_M_meets_11 rfl 2 rfl ?_
  refine j_icmp_ne (tgt := 58) hC d_M_meets_12 (by decide) (fun h12 => ?_) (fun h12 => ?_)
  · refine j_iconst (v := 0) hC d_M_meets_58 (by decide) ?_
    exact j_zret hC hr rfl (by have e8 : pMeets u i r a b = (false, pForget u) := (by simp only [pMeets, if_neg h12]); exact ⟨rfl, by rw [e8]; rfl, by rw [e8] <;> rfl⟩) d_M_meets_59
  · refine j_aload_n hC d_M_meets_15 rfl 0 rfl ?_
    refine j_aload_n hC d_M_meets_16 rfl 1 rfl ?_
    refine j_getN hC hin_R (15 + i) (cw_rule g k (pForget u) (by omega)) rfl 0 (by decide) (hC.2.2.2.2.1 _ wf_M_25) (fun _ h9 => h9) rfl d_M_meets_17 ?_
    refine j_getN hC hin_A (47 + (5 * i)) (cw_atom g k (pForget u) (j := 5 * i) (by omega)) rfl 1 (by decide) (hC.2.2.2.2.1 _ wf_M_37) (fun _ h9 => h9) rfl d_M_meets_20 ?_
    refine j_iload_n hC d_M_meets_23 rfl 3 rfl ?_
    refine j_callVr (As := [.int ((pForget u) 17 (5 * i)), .int a]) (rest := []) (st1 := [.int (b2i (pBound (pForget u) (pForget u 17 (5 * i)) a))]) hC (k_bind l dC dI g k tl (pForget u) (pForget u 17 (5 * i)) a hh1) rfl rfl ww_M_40 yn_M_bind (cw_match g k (pForget u)) rfl rfl d_M_meets_24 (Nat.le_of_ble_eq_true rfl) (by decide) ⟨Nat.zero_le _, Nat.zero_le _⟩ rfl ?_
    refine j_if_eq (tgt := 58) hC d_M_meets_27 (by decide) (fun h27 => ?_) (fun h27 => ?_)
    · refine j_iconst (v := 0) hC d_M_meets_58 (by decide) ?_
      exact j_zret hC hr rfl (by have e8 : pMeets u i r a b = (false, pMeets1 u i a) := (by simp only [pMeets, if_pos h12, if_pos h27]); exact ⟨rfl, by rw [e8]; rfl, by rw [e8] <;> rfl⟩) d_M_meets_59
    · refine j_aload_n hC d_M_meets_30 rfl 0 rfl ?_
      refine j_aload_n hC d_M_meets_31 rfl 1 rfl ?_
      refine j_getN hC hin_R (15 + i) (cw_rule g k (pMeets1 u i a) (by omega)) rfl 0 (by decide) (hC.2.2.2.2.1 _ wf_M_25) (fun _ h9 => h9) rfl d_M_meets_32 ?_
      refine j_getN hC hin_A (47 + (5 * i)) (cw_atom g k (pMeets1 u i a) (j := 5 * i) (by omega)) rfl 2 (by decide) (hC.2.2.2.2.1 _ wf_M_44) (fun _ h9 => h9) rfl d_M_meets_35 ?_
      refine j_iload hC d_M_meets_38 4 rfl ?_
      refine j_callVr (As := [.int ((pMeets1 u i a) 18 (5 * i)), .int b]) (rest := []) (st1 := [.int (b2i (pBound (pMeets1 u i a) (pMeets1 u i a 18 (5 * i)) b))]) hC (k_bind l dC dI g k tl (pMeets1 u i a) (pMeets1 u i a 18 (5 * i)) b hh2) rfl rfl ww_M_40 yn_M_bind (cw_match g k (pMeets1 u i a)) rfl rfl d_M_meets_40 (Nat.le_of_ble_eq_true rfl) (by decide) ⟨Nat.zero_le _, Nat.zero_le _⟩ rfl ?_
      refine j_if_eq (tgt := 58) hC d_M_meets_43 (by decide) (fun h43 => ?_) (fun h43 => ?_)
      · refine j_iconst (v := 0) hC d_M_meets_58 (by decide) ?_
        exact j_zret hC hr rfl (by have e8 : pMeets u i r a b = (false, pMeets2 u i a b) := (by simp only [pMeets, if_pos h12, if_neg h27, if_pos h43]); exact ⟨rfl, by rw [e8]; rfl, by rw [e8] <;> rfl⟩) d_M_meets_59
      · refine j_aload_n hC d_M_meets_46 rfl 0 rfl ?_
        refine j_aload_n hC d_M_meets_47 rfl 1 rfl ?_
        refine j_callVr (As := [.ref (g (15 + i))]) (rest := []) (st1 := [.int (b2i (pKnown (pMeets2 u i a b) i))]) hC (k_known l dC dI g k tl (pMeets2 u i a b) hi hM2) rfl rfl ww_M_47 yn_M_knownAgree (cw_match g k (pMeets2 u i a b)) rfl rfl d_M_meets_48 (Nat.le_of_ble_eq_true rfl) (by decide) ⟨Nat.zero_le _, Nat.zero_le _⟩ rfl ?_
        refine j_if_eq (tgt := 58) hC d_M_meets_51 (by decide) (fun h51 => ?_) (fun h51 => ?_)
        · refine j_iconst (v := 0) hC d_M_meets_58 (by decide) ?_
          exact j_zret hC hr rfl (by have e8 : pMeets u i r a b = (pKnown (pMeets2 u i a b) i, pMeets2 u i a b) := (by simp only [pMeets, if_pos h12, if_neg h27, if_neg h43]); have e9 : pKnown (pMeets2 u i a b) i = false := b2i_0 h51; exact ⟨rfl, by rw [e8]; show _ = some (Value.int (b2i (pKnown (pMeets2 u i a b) i))); rw [e9]; rfl, by rw [e8] <;> rfl⟩) d_M_meets_59
        · refine j_iconst (v := 1) hC d_M_meets_54 (by decide) ?_
          refine j_goto (tgt := 59) hC d_M_meets_55 (by decide) ?_
          exact j_zret hC hr rfl (by have e8 : pMeets u i r a b = (pKnown (pMeets2 u i a b) i, pMeets2 u i a b) := (by simp only [pMeets, if_pos h12, if_neg h27, if_neg h43]); have e9 : pKnown (pMeets2 u i a b) i = true := b2i_1 h51; exact ⟨rfl, by rw [e8]; show _ = some (Value.int (b2i (pKnown (pMeets2 u i a b) i))); rw [e9]; rfl, by rw [e8] <;> rfl⟩) d_M_meets_59

set_option maxHeartbeats 4000000 in
set_option maxRecDepth 100000 in
theorem k_find (l : Launch) (dC : Nat → ClassId) (dI : Nat → Nat → Nat) (g k : Nat → Nat) (tl : List (ClassId × FieldType)) {i : Nat} (hi : i < 16) : ∀ (d : Nat) (u : jU) (n0 : Nat), n0 ≤ 24 → 25 ≤ n0 + d → wfM u → jMet l y_M_findLeast (.code y_M_findLeast c_M_findLeast 6 (some .boolean)) ({ frames := d + 2, cells := 0, slots := 0, locals := 30 * d + 200 }) (dC, dI) jcl (ctys k tl) jTs [.ref (g 7), .ref (g (15 + i)), .int (nI n0)] (cw g k u) 0 0 (jRet (some (.int (b2i (pFind i d n0 u).1))) (cw g k (pFind i d n0 u).2)) := by
  intro d
  induction d with
  | zero => intro u n0 h1 h2; exact absurd h2 (by omega)
  | succ d ih =>
    intro u n0 hn0 hd hM
    refine jMet.of (by decide) (Nat.le_of_ble_eq_true rfl) ?_
    intro p e s m below meth c A hC hex hr hnm htr
    show jJ p l e ({ frames := (d + 1) + 2, cells := 0, slots := 0, locals := 30 * (d + 1) + 200 }) s m [.ref (g 7), .ref (g (15 + i)), .int (nI n0)].toArray below meth c 6 (dC, dI) jcl A (hxQ below (jQ (dC, dI) jcl (jRet (some (.int (b2i (pFind i (d + 1) n0 u).1))) (cw g k (pFind i (d + 1) n0 u).2)) A) [.ref (g 7), .ref (g (15 + i)), .int (nI n0)].toArray s 0 0 A) 0 0 (cw g k u) [(0, .ref (g 7)), (1, .ref (g (15 + i))), (2, .int (nI n0))] [] 0
    have hnx := pNext_le (u := u) (i := i) hn0
    have loop : pNext u i n0 < 24 → ∀ (n q : Nat) (v : jU), q ≤ 12 → 12 < q + n → only6 u v → wfV v → pTry (fun v => pFind i d (pNext u i n0 + 1) v) (pNext u i n0) (pChoices u i (nI (pNext u i n0))) (12 - q) q v = pFind i (d + 1) n0 u → jJ p l e ({ frames := (d + 1) + 2, cells := 0, slots := 0, locals := 30 * (d + 1) + 200 }) s m [.ref (g 7), .ref (g (15 + i)), .int (nI n0)].toArray below meth c 6 (dC, dI) jcl A (hxQ below (jQ (dC, dI) jcl (jRet (some (.int (b2i (pFind i (d + 1) n0 u).1))) (cw g k (pFind i (d + 1) n0 u).2)) A) [.ref (g 7), .ref (g (15 + i)), .int (nI n0)].toArray s 0 0 A) 0 0 (cw g k v) [(0, .ref (g 7)), (1, .ref (g (15 + i))), (2, .int (nI n0)), (3, .int (nI (pNext u i n0))), (4, .int (pChoices u i (nI (pNext u i n0)))), (5, .int (nI q))] [] 26 := by
      intro hlt n
      induction n with
      | zero => intro q v h1 h2; exact absurd h2 (by omega)
      | succ n ih2 =>
        intro q v hq hn ho hv hinv
        refine j_iload hC d_M_findLeast_26 5 rfl ?_
        refine j_bipush (v := 12) hC d_M_findLeast_28 (by decide) ?_
        refine j_icmp_ge (tgt := 70) hC d_M_findLeast_30 (by decide) (fun h30 => ?_) (fun h30 => ?_)
        · have hge : 12 ≤ q := (nI_leI (a := 12) (by decide) (by omega)).mp h30
          have hqe : q = 12 := by omega
          refine j_aload_n hC d_M_findLeast_70 rfl 0 rfl ?_
          refine j_get hC hin_M (7) (cw_match g k v) rfl 1 (by decide) (hC.2.2.2.2.1 _ wf_M_18) (fun _ h9 => h9) rfl d_M_findLeast_71 ?_
          refine j_iload_n hC d_M_findLeast_74 rfl 3 rfl ?_
          refine j_iconst (v := -1) hC d_M_findLeast_75 (by decide) ?_
          refine j_iastN (ws' := cw g k (up v 6 (pNext u i n0) (-1))) hC (9) 0 (cw_values g k v) rfl (n := pNext u i n0) (rfl) (hlt) (by decide) (cw_set_values g k v (pNext u i n0) (-1)) d_M_findLeast_76 ?_
          refine j_iconst (v := 0) hC d_M_findLeast_77 (by decide) ?_
          exact j_zret hC hr rfl (by rw [← hinv, hqe]; exact ⟨rfl, rfl, rfl⟩) d_M_findLeast_78
        · have hq12 : q < 12 := Nat.not_le.mp (fun z => h30 ((nI_leI (a := 12) (by decide) (by omega)).mpr z))
          have e12 : pTry (fun v => pFind i d (pNext u i n0 + 1) v) (pNext u i n0) (pChoices u i (nI (pNext u i n0))) (12 - q) q v = pTry (fun v => pFind i d (pNext u i n0 + 1) v) (pNext u i n0) (pChoices u i (nI (pNext u i n0))) ((12 - (q + 1)) + 1) q v := by rw [show 12 - q = (12 - (q + 1)) + 1 by omega]
          refine j_iload hC d_M_findLeast_33 4 rfl ?_
          refine j_iload hC d_M_findLeast_35 5 rfl ?_
          refine j_callSNr (As := [.int (pChoices u i (nI (pNext u i n0))), .int (nI q)]) (rest := []) (st1 := [.int (b2i (hb (pChoices u i (nI (pNext u i n0))) (nI q)))]) hC (k_hasBit l dC dI g k tl v (pChoices u i (nI (pNext u i n0))) (nI q)) rfl rfl ww_M_88 yn_H_hasBit rfl d_M_findLeast_37 (Nat.le_of_ble_eq_true rfl) ⟨by show 0 + 1 ≤ d + 1 + 2; omega, by show 8 + (2 + 11) + 0 ≤ 30 * (d + 1) + 200; omega⟩ ⟨Nat.zero_le _, Nat.zero_le _⟩ rfl ?_
          refine j_if_eq (tgt := 64) hC d_M_findLeast_40 (by decide) (fun h40 => ?_) (fun h40 => ?_)
          · refine j_iinc (lv' := [(0, .ref (g 7)), (1, .ref (g (15 + i))), (2, .int (nI n0)), (3, .int (nI (pNext u i n0))), (4, .int (pChoices u i (nI (pNext u i n0)))), (5, .int (nI (q + 1)))]) hC d_M_findLeast_64 5 rfl (nI_1 _) (by decide) rfl rfl ?_
            refine j_goto (tgt := 26) hC d_M_findLeast_67 (by decide) ?_
            exact j_locals [0, 1, 2, 3, 4, 5] rfl (ih2 (q + 1) v (by omega) (by omega) ho hv (by rw [← hinv, e12, pTry, if_pos h40]))
          · refine j_aload_n hC d_M_findLeast_43 rfl 0 rfl ?_
            refine j_get hC hin_M (7) (cw_match g k v) rfl 1 (by decide) (hC.2.2.2.2.1 _ wf_M_18) (fun _ h9 => h9) rfl d_M_findLeast_44 ?_
            refine j_iload_n hC d_M_findLeast_47 rfl 3 rfl ?_
            refine j_iload hC d_M_findLeast_48 5 rfl ?_
            refine j_iastN (ws' := cw g k (up v 6 (pNext u i n0) (nI q))) hC (9) 0 (cw_values g k v) rfl (n := pNext u i n0) (rfl) (hlt) (by decide) (cw_set_values g k v (pNext u i n0) (nI q)) d_M_findLeast_50 ?_
            refine j_aload_n hC d_M_findLeast_51 rfl 0 rfl ?_
            refine j_aload_n hC d_M_findLeast_52 rfl 1 rfl ?_
            refine j_iload_n hC d_M_findLeast_53 rfl 3 rfl ?_
            refine j_iconst (v := 1) hC d_M_findLeast_54 (by decide) ?_
            refine j_iadd hC d_M_findLeast_55 ?_
            have hv2 : wfV (up v 6 (pNext u i n0) (nI q)) := wfV_up hv _ (Or.inr (inN_nI hq12 (by decide)))
            have hfr := pFind_frame i d (pNext u i n0 + 1) (up v 6 (pNext u i n0) (nI q))
            rw [show nI (pNext u i n0) + 1 = nI (pNext u i n0 + 1) from nI_1 _]
            refine j_callVr (As := [.ref (g (15 + i)), .int (nI (pNext u i n0 + 1))]) (rest := []) (st1 := [.int (b2i (pFind i d (pNext u i n0 + 1) (up v 6 (pNext u i n0) (nI q))).1)]) hC (ih (up v 6 (pNext u i n0) (nI q)) (pNext u i n0 + 1) (by omega) (by omega) (hM.of (ho.tr (only6_up v _ _)) hv2)) rfl rfl ww_M_98 yn_M_findLeast (cw_match g k (up v 6 (pNext u i n0) (nI q))) rfl rfl d_M_findLeast_56 (Nat.le_of_ble_eq_true rfl) ⟨by show d + 2 + 1 ≤ d + 1 + 2; omega, by show 8 + (6 + 11) + (30 * d + 200) ≤ 30 * (d + 1) + 200; omega⟩ ⟨Nat.zero_le _, Nat.zero_le _⟩ rfl ?_
            refine j_if_eq (tgt := 64) hC d_M_findLeast_59 (by decide) (fun h59 => ?_) (fun h59 => ?_)
            · refine j_iinc (lv' := [(0, .ref (g 7)), (1, .ref (g (15 + i))), (2, .int (nI n0)), (3, .int (nI (pNext u i n0))), (4, .int (pChoices u i (nI (pNext u i n0)))), (5, .int (nI (q + 1)))]) hC d_M_findLeast_64 5 rfl (nI_1 _) (by decide) rfl rfl ?_
              refine j_goto (tgt := 26) hC d_M_findLeast_67 (by decide) ?_
              exact j_locals [0, 1, 2, 3, 4, 5] rfl (ih2 (q + 1) (pFind i d (pNext u i n0 + 1) (up v 6 (pNext u i n0) (nI q))).2 (by omega) (by omega) ((ho.tr (only6_up v _ _)).tr hfr.1) (hfr.2 hv2) (by rw [← hinv, e12, pTry, if_neg h40, if_pos h59]))
            · refine j_iconst (v := 1) hC d_M_findLeast_62 (by decide) ?_
              exact j_zret hC hr rfl (by rw [← hinv, e12, pTry, if_neg h40, if_neg h59]; exact ⟨rfl, rfl, rfl⟩) d_M_findLeast_63
    refine j_aload_n hC d_M_findLeast_0 rfl 0 rfl ?_
    refine j_aload_n hC d_M_findLeast_1 rfl 1 rfl ?_
    refine j_iload_n hC d_M_findLeast_2 rfl 2 rfl ?_
    refine j_callVr (As := [.ref (g (15 + i)), .int (nI n0)]) (rest := []) (st1 := [.int (nI (pNext u i n0))]) hC (k_nextOpen l dC dI g k tl u hi hn0) rfl rfl ww_M_91 yn_M_nextOpen (cw_match g k u) rfl rfl d_M_findLeast_3 (Nat.le_of_ble_eq_true rfl) ⟨by show 1 + 1 ≤ d + 1 + 2; omega, by show 8 + (4 + 11) + 21 ≤ 30 * (d + 1) + 200; omega⟩ ⟨Nat.zero_le _, Nat.zero_le _⟩ rfl ?_
    refine j_istore_n (lv' := [(0, .ref (g 7)), (1, .ref (g (15 + i))), (2, .int (nI n0)), (3, .int (nI (pNext u i n0)))]) hC d_M_findLeast_6 rfl (by decide) rfl rfl ?_
    refine j_iload_n hC d_M_findLeast_7 rfl 3 rfl ?_
    refine j_bipush (v := 24) hC d_M_findLeast_8 (by decide) ?_
    refine j_icmp_lt (tgt := 15) hC d_M_findLeast_10 (by decide) (fun h10 => ?_) (fun h10 => ?_)
    · have hlt : pNext u i n0 < 24 := (nI_ltI (b := 24) (by omega) (by decide)).mp h10
      refine j_aload_n hC d_M_findLeast_15 rfl 0 rfl ?_
      refine j_aload_n hC d_M_findLeast_16 rfl 1 rfl ?_
      refine j_iload_n hC d_M_findLeast_17 rfl 3 rfl ?_
      refine j_callVr (As := [.ref (g (15 + i)), .int (nI (pNext u i n0))]) (rest := []) (st1 := [.int (pChoices u i (nI (pNext u i n0)))]) hC (k_choices l dC dI g k tl u hi hM (nI (pNext u i n0)) (inN_nI hlt (by decide))) rfl rfl ww_M_95 yn_M_choices (cw_match g k u) rfl rfl d_M_findLeast_18 (Nat.le_of_ble_eq_true rfl) ⟨by show 1 + 1 ≤ d + 1 + 2; omega, by show 8 + (6 + 11) + 27 ≤ 30 * (d + 1) + 200; omega⟩ ⟨Nat.zero_le _, Nat.zero_le _⟩ rfl ?_
      refine j_istore (lv' := [(0, .ref (g 7)), (1, .ref (g (15 + i))), (2, .int (nI n0)), (3, .int (nI (pNext u i n0))), (4, .int (pChoices u i (nI (pNext u i n0))))]) hC d_M_findLeast_21 (by decide) rfl rfl ?_
      refine j_iconst (v := 0) hC d_M_findLeast_23 (by decide) ?_
      refine j_istore (lv' := [(0, .ref (g 7)), (1, .ref (g (15 + i))), (2, .int (nI n0)), (3, .int (nI (pNext u i n0))), (4, .int (pChoices u i (nI (pNext u i n0)))), (5, .int 0)]) hC d_M_findLeast_24 (by decide) rfl rfl ?_
      exact loop hlt 13 0 u (by omega) (by omega) (only6.rf u) hM.2.2 (by rw [pFind, if_pos h10])
    · refine j_iconst (v := 1) hC d_M_findLeast_13 (by decide) ?_
      exact j_zret hC hr rfl (by rw [pFind, if_neg h10]; exact ⟨rfl, rfl, rfl⟩) d_M_findLeast_14
end
section
section JL
variable {p : Program} {l : Launch} {e : Env} {R : Room} {s : State} {m : MethodId} {args : Array Value} {below : List Frame} {meth : Method} {c : Code} {Q : State → Prop} {cells slots : Nat}
variable {cc : ByteArray} {nL : Nat} {own : String} {Ts : List Cond} {D : va_G} {cl : List vw_C} {tys : List (ClassId × FieldType)} {A : Nat → Prop}
variable {pc : Nat} {lv : List (Nat × Value)} {st : List Value} {ws : va_W}
theorem j_ldc (hC : jC p s m args meth c cc nL own Ts D cl tys A) {index : Nat} {v : Int32} (hc : (Cond.constant own index v).before args s = true) (hd : decode cc pc = .ok (.ldc index, 2)) (k : jJ p l e R s m args below meth c nL D cl A Q cells slots ws (lv) (.int v :: st) (pc + 2)) : jJ p l e R s m args below meth c nL D cl A Q cells slots ws (lv) (st) (pc) :=
  fun H locs ls hP hD hS hl => lv_ldc hC.1 hC.2.1 hC.2.2.2.1 hc hd (k H locs ls hP hD hS hl)
theorem j_ldcw (hC : jC p s m args meth c cc nL own Ts D cl tys A) {index : Nat} {v : Int32} (hc : (Cond.constant own index v).before args s = true) (hd : decode cc pc = .ok (.ldc_w index, 3)) (k : jJ p l e R s m args below meth c nL D cl A Q cells slots ws (lv) (.int v :: st) (pc + 3)) : jJ p l e R s m args below meth c nL D cl A Q cells slots ws (lv) (st) (pc) :=
  fun H locs ls hP hD hS hl => lv_ldcw hC.1 hC.2.1 hC.2.2.2.1 hc hd (k H locs ls hP hD hS hl)
theorem j_mmax (hC : jC p s m args meth c cc nL own Ts D cl tys A) {index : Nat} (hw : ∀ w ∈ [Cond.methodLink own index Lib.Math.max.name, .static Lib.Math.max.name, .initialized "java/lang/Math", .code Lib.Math.max.name Lib.Math.max.code 2 (some .int)], w ∈ Ts) {x y : Int32} (hd : decode cc pc = .ok (.invokestatic index, 3)) (hf : 1 ≤ R.frames) (hlo : (st.map fun v => v.category).sum + 13 ≤ R.locals) (hcs : cells ≤ R.cells ∧ slots ≤ R.slots) (k : jJ p l e R s m args below meth c nL D cl A Q cells slots ws (lv) (.int (if x < y then y else x) :: st) (pc + 3)) : jJ p l e R s m args below meth c nL D cl A Q cells slots ws (lv) (.int y :: .int x :: st) (pc) :=
  fun H locs ls hP hD hS hl => va_mmax hC.1 hC.2.1 (hC.2.2.1.trans hl.1.symm) hC.2.2.2.1 (hC.2.2.2.2.1 _ (hw _ List.mem_cons_self)) (hC.2.2.2.2.1 _ (hw _ (List.mem_of_getElem? (i := 1) rfl))) (hC.2.2.2.2.1 _ (hw _ (List.mem_of_getElem? (i := 2) rfl))) (hC.2.2.2.2.1 _ (hw _ (List.mem_of_getElem? (i := 3) rfl))) hf hlo hcs.1 hcs.2 hd (k H locs ls hP hD hS hl)
end JL
end
section
theorem wc_A_25 : Cond.constant "StrataHouse$Atom" 25 15728640 ∈ jTs := jin (jt2 (List.mem_of_getElem? (i := 137) rfl)) rfl
theorem wc_H_128 : Cond.constant "StrataHouse" 128 2147483647 ∈ jTs := jin (jt2 (List.mem_of_getElem? (i := 224) rfl)) rfl
theorem wc_Integer_265 : Cond.constant "java/lang/Integer" 265 1431655765 ∈ jTs := jin (jt3 (List.mem_of_getElem? (i := 71) rfl)) rfl
theorem wc_Integer_266 : Cond.constant "java/lang/Integer" 266 858993459 ∈ jTs := jin (jt3 (List.mem_of_getElem? (i := 72) rfl)) rfl
theorem wc_Integer_267 : Cond.constant "java/lang/Integer" 267 252645135 ∈ jTs := jin (jt3 (List.mem_of_getElem? (i := 73) rfl)) rfl
theorem d_fill_0 : decode c_Arrays_fill 0 = .ok (.iconst 0, 1) := by decide +kernel
theorem d_fill_1 : decode c_Arrays_fill 1 = .ok (.istore_n 2, 1) := by decide +kernel
theorem d_fill_2 : decode c_Arrays_fill 2 = .ok (.aload_n 0, 1) := by decide +kernel
theorem d_fill_3 : decode c_Arrays_fill 3 = .ok (.arraylength, 1) := by decide +kernel
theorem d_fill_4 : decode c_Arrays_fill 4 = .ok (.istore_n 3, 1) := by decide +kernel
theorem d_fill_5 : decode c_Arrays_fill 5 = .ok (.iload_n 2, 1) := by decide +kernel
theorem d_fill_6 : decode c_Arrays_fill 6 = .ok (.iload_n 3, 1) := by decide +kernel
theorem d_fill_7 : decode c_Arrays_fill 7 = .ok (.if_icmp .ge 13, 3) := by decide +kernel
theorem d_fill_10 : decode c_Arrays_fill 10 = .ok (.aload_n 0, 1) := by decide +kernel
theorem d_fill_11 : decode c_Arrays_fill 11 = .ok (.iload_n 2, 1) := by decide +kernel
theorem d_fill_12 : decode c_Arrays_fill 12 = .ok (.iload_n 1, 1) := by decide +kernel
theorem d_fill_13 : decode c_Arrays_fill 13 = .ok (.iastore, 1) := by decide +kernel
theorem d_fill_14 : decode c_Arrays_fill 14 = .ok (.iinc 2 1, 3) := by decide +kernel
theorem d_fill_17 : decode c_Arrays_fill 17 = .ok (.goto (-12), 3) := by decide +kernel
theorem d_fill_20 : decode c_Arrays_fill 20 = .ok (.return_, 1) := by decide +kernel
section FILL
variable {D : va_G} {cl : List vw_C} {tys : List (ClassId × FieldType)} {Ts : List Cond} {ws : va_W} {q0 t0 a N : Nat} {cA : ClassId} {f : Nat → Int32} {x : Int32}
def fillW (ws : va_W) (q0 a : Nat) (cA : ClassId) (N : Nat) (f : Nat → Int32) (x : Int32) (i : Nat) : va_W := ws.set q0 (a, .inl (cA, N, .inl (fun j => if j < i then x else f j)))
theorem fillW_0 (ha : ws[q0]? = some (a, .inl (cA, N, .inl f))) : fillW ws q0 a cA N f x 0 = ws := by
  unfold fillW
  have e : (fun j => if j < 0 then x else f j) = f := by funext j; simp
  rw [e]
  refine List.ext_getElem? fun j => ?_
  have hl := (List.getElem?_eq_some_iff.mp ha).1
  rw [List.getElem?_set]
  by_cases h : q0 = j
  · subst h; rw [if_pos rfl, if_pos hl, ha]
  · rw [if_neg h]
theorem fillW_at (ha : ws[q0]? = some (a, .inl (cA, N, .inl f))) (i : Nat) : (fillW ws q0 a cA N f x i)[q0]? = some (a, .inl (cA, N, .inl (fun j => if j < i then x else f j))) := by
  unfold fillW
  rw [List.getElem?_set_self (List.getElem?_eq_some_iff.mp ha).1]
theorem fillW_next (i : Nat) : (fillW ws q0 a cA N f x i).set q0 (a, .inl (cA, N, .inl (upd (fun j => if j < i then x else f j) i x))) = fillW ws q0 a cA N f x (i + 1) := by
  unfold fillW
  rw [List.set_set]
  have e : upd (fun j => if j < i then x else f j) i x = (fun j => if j < i + 1 then x else f j) := by
    funext j
    by_cases h : j = i
    · subst h; simp [upd]
    · have h2 : (j < i + 1) = (j < i) := propext ⟨fun h3 => by omega, fun h3 => by omega⟩
      simp [upd, h, h2]
  rw [e]
set_option maxHeartbeats 4000000 in
set_option maxRecDepth 100000 in
theorem k_fill (l : Launch) (ha : ws[q0]? = some (a, .inl (cA, N, .inl f))) (ht : tys[t0]? = some (cA, .int)) (hN : N < 2 ^ 31) : jMet l y_Arrays_fill (.code y_Arrays_fill c_Arrays_fill 4 none) ({ frames := 0, cells := 0, slots := 0, locals := 0 }) D cl tys Ts [.ref a, .int x] ws 0 0 (jRet none (fillW ws q0 a cA N f x N)) := by
  refine jMet.of (by decide) (Nat.le_of_ble_eq_true rfl) ?_
  intro p e s m below meth c A hC hex hr hnm htr
  show jJ p l e ({ frames := 0, cells := 0, slots := 0, locals := 0 }) s m [.ref a, .int x].toArray below meth c 4 D cl A (hxQ below (jQ D cl (jRet none (fillW ws q0 a cA N f x N)) A) [.ref a, .int x].toArray s 0 0 A) 0 0 ws [(0, .ref a), (1, .int x)] [] 0
  have loop : ∀ (n i : Nat), i ≤ N → N < i + n → jJ p l e ({ frames := 0, cells := 0, slots := 0, locals := 0 }) s m [.ref a, .int x].toArray below meth c 4 D cl A (hxQ below (jQ D cl (jRet none (fillW ws q0 a cA N f x N)) A) [.ref a, .int x].toArray s 0 0 A) 0 0 (fillW ws q0 a cA N f x i) [(0, .ref a), (1, .int x), (2, .int (nI i)), (3, .int (nI N))] [] 5 := by
    intro n
    induction n with
    | zero => intro i h1 h2; exact absurd h2 (by omega)
    | succ n ih =>
      intro i hi hn
      refine j_iload_n hC d_fill_5 rfl 2 rfl ?_
      refine j_iload_n hC d_fill_6 rfl 3 rfl ?_
      refine j_icmp_ge (tgt := 20) hC d_fill_7 (by decide) (fun h7 => ?_) (fun h7 => ?_)
      · have hge : N ≤ i := (nI_leI hN (by omega)).mp h7
        have hie : i = N := by omega
        subst hie
        exact j_vret hC hr ⟨rfl, rfl, rfl⟩ d_fill_20
      · have hlt : i < N := Nat.not_le.mp (fun z => h7 ((nI_leI hN (by omega)).mpr z))
        refine j_aload_n hC d_fill_10 rfl 0 rfl ?_
        refine j_iload_n hC d_fill_11 rfl 2 rfl ?_
        refine j_iload_n hC d_fill_12 rfl 1 rfl ?_
        refine j_iastN (ws' := fillW ws q0 a cA N f x (i + 1)) hC q0 t0 (fillW_at ha i) ht (n := i) rfl hlt hN (fillW_next i) d_fill_13 ?_
        refine j_iinc (lv' := [(0, .ref a), (1, .int x), (2, .int (nI (i + 1))), (3, .int (nI N))]) hC d_fill_14 2 rfl (nI_1 _) (by decide) rfl rfl ?_
        refine j_goto (tgt := 5) hC d_fill_17 (by decide) ?_
        exact ih (i + 1) (by omega) (by omega)
  refine j_iconst (v := 0) hC d_fill_0 (by decide) ?_
  refine j_istore_n (lv' := [(0, .ref a), (1, .int x), (2, .int 0)]) hC d_fill_1 rfl (by decide) rfl rfl ?_
  refine j_aload_n hC d_fill_2 rfl 0 rfl ?_
  refine j_alen (v := nI N) hC q0 t0 ha ht rfl d_fill_3 ?_
  refine j_istore_n (lv' := [(0, .ref a), (1, .int x), (2, .int 0), (3, .int (nI N))]) hC d_fill_4 rfl (by decide) rfl rfl ?_
  have k9 := loop (N + 1) 0 (Nat.zero_le _) (by omega)
  rw [fillW_0 ha] at k9
  exact k9
end FILL
/-- an array's first N places become 0 -/
def pFill (u : jU) (c N : Nat) : jU := fun c' i => if c' = c ∧ i < N then 0 else u c' i
theorem cw_fill_given (g k : Nat → Nat) (u : jU) : fillW (cw g k u) 2 (g 2) (k 0) 96 (u 2) 0 96 = cw g k (pFill u 2 96) := by
  refine cw_set (congrArg (fun f : Nat → Int32 => (Sum.inl (k 0, 96, Sum.inl f) : va_E)) (by funext j; simp [pFill])) (cwe_low 2 (fun j hj hne => ?_) rfl rfl rfl rfl rfl rfl rfl rfl)
  match j, hj, hne with
  | 0, _, _ => rfl
  | 1, _, _ => rfl
  | 2, _, hne => exact absurd rfl hne
  | 3, _, _ => rfl
  | 4, _, _ => rfl
  | 5, _, _ => rfl
  | 6, _, _ => rfl
  | 7, _, _ => rfl
  | 8, _, _ => rfl
  | 9, _, _ => rfl
  | 10, _, _ => rfl
  | 11, _, _ => rfl
  | 12, _, _ => rfl
  | 13, _, _ => rfl
  | 14, _, _ => rfl
  | j + 15, hj, _ => exact absurd hj (by omega)
theorem k_fill_given (l : Launch) (dC : Nat → ClassId) (dI : Nat → Nat → Nat) (g k : Nat → Nat) (tl : List (ClassId × FieldType)) (u : jU) : jMet l y_Arrays_fill (.code y_Arrays_fill c_Arrays_fill 4 none) ({ frames := 0, cells := 0, slots := 0, locals := 0 }) (dC, dI) jcl (ctys k tl) jTs [.ref (g 2), .int 0] (cw g k u) 0 0 (jRet none (cw g k (pFill u 2 96))) := by
  have h := k_fill (D := (dC, dI)) (cl := jcl) (tys := ctys k tl) (Ts := jTs) (ws := cw g k u) (q0 := 2) (t0 := 0) (x := 0) l (cw_given g k u) rfl (by decide)
  rw [cw_fill_given] at h
  exact h
theorem cw_fill_layers (g k : Nat → Nat) (u : jU) : fillW (cw g k u) 4 (g 4) (k 0) 8 (u 3) 0 8 = cw g k (pFill u 3 8) := by
  refine cw_set (congrArg (fun f : Nat → Int32 => (Sum.inl (k 0, 8, Sum.inl f) : va_E)) (by funext j; simp [pFill])) (cwe_low 4 (fun j hj hne => ?_) rfl rfl rfl rfl rfl rfl rfl rfl)
  match j, hj, hne with
  | 0, _, _ => rfl
  | 1, _, _ => rfl
  | 2, _, _ => rfl
  | 3, _, _ => rfl
  | 4, _, hne => exact absurd rfl hne
  | 5, _, _ => rfl
  | 6, _, _ => rfl
  | 7, _, _ => rfl
  | 8, _, _ => rfl
  | 9, _, _ => rfl
  | 10, _, _ => rfl
  | 11, _, _ => rfl
  | 12, _, _ => rfl
  | 13, _, _ => rfl
  | 14, _, _ => rfl
  | j + 15, hj, _ => exact absurd hj (by omega)
theorem k_fill_layers (l : Launch) (dC : Nat → ClassId) (dI : Nat → Nat → Nat) (g k : Nat → Nat) (tl : List (ClassId × FieldType)) (u : jU) : jMet l y_Arrays_fill (.code y_Arrays_fill c_Arrays_fill 4 none) ({ frames := 0, cells := 0, slots := 0, locals := 0 }) (dC, dI) jcl (ctys k tl) jTs [.ref (g 4), .int 0] (cw g k u) 0 0 (jRet none (cw g k (pFill u 3 8))) := by
  have h := k_fill (D := (dC, dI)) (cl := jcl) (tys := ctys k tl) (Ts := jTs) (ws := cw g k u) (q0 := 4) (t0 := 0) (x := 0) l (cw_layers g k u) rfl (by decide)
  rw [cw_fill_layers] at h
  exact h
theorem cw_fill_secondsByFirst (g k : Nat → Nat) (u : jU) : fillW (cw g k u) 10 (g 10) (k 0) 96 (u 7) 0 96 = cw g k (pFill u 7 96) := by
  refine cw_set (congrArg (fun f : Nat → Int32 => (Sum.inl (k 0, 96, Sum.inl f) : va_E)) (by funext j; simp [pFill])) (cwe_low 10 (fun j hj hne => ?_) rfl rfl rfl rfl rfl rfl rfl rfl)
  match j, hj, hne with
  | 0, _, _ => rfl
  | 1, _, _ => rfl
  | 2, _, _ => rfl
  | 3, _, _ => rfl
  | 4, _, _ => rfl
  | 5, _, _ => rfl
  | 6, _, _ => rfl
  | 7, _, _ => rfl
  | 8, _, _ => rfl
  | 9, _, _ => rfl
  | 10, _, hne => exact absurd rfl hne
  | 11, _, _ => rfl
  | 12, _, _ => rfl
  | 13, _, _ => rfl
  | 14, _, _ => rfl
  | j + 15, hj, _ => exact absurd hj (by omega)
theorem k_fill_secondsByFirst (l : Launch) (dC : Nat → ClassId) (dI : Nat → Nat → Nat) (g k : Nat → Nat) (tl : List (ClassId × FieldType)) (u : jU) : jMet l y_Arrays_fill (.code y_Arrays_fill c_Arrays_fill 4 none) ({ frames := 0, cells := 0, slots := 0, locals := 0 }) (dC, dI) jcl (ctys k tl) jTs [.ref (g 10), .int 0] (cw g k u) 0 0 (jRet none (cw g k (pFill u 7 96))) := by
  have h := k_fill (D := (dC, dI)) (cl := jcl) (tys := ctys k tl) (Ts := jTs) (ws := cw g k u) (q0 := 10) (t0 := 0) (x := 0) l (cw_secondsByFirst g k u) rfl (by decide)
  rw [cw_fill_secondsByFirst] at h
  exact h
theorem cw_fill_firstsBySecond (g k : Nat → Nat) (u : jU) : fillW (cw g k u) 11 (g 11) (k 0) 96 (u 8) 0 96 = cw g k (pFill u 8 96) := by
  refine cw_set (congrArg (fun f : Nat → Int32 => (Sum.inl (k 0, 96, Sum.inl f) : va_E)) (by funext j; simp [pFill])) (cwe_low 11 (fun j hj hne => ?_) rfl rfl rfl rfl rfl rfl rfl rfl)
  match j, hj, hne with
  | 0, _, _ => rfl
  | 1, _, _ => rfl
  | 2, _, _ => rfl
  | 3, _, _ => rfl
  | 4, _, _ => rfl
  | 5, _, _ => rfl
  | 6, _, _ => rfl
  | 7, _, _ => rfl
  | 8, _, _ => rfl
  | 9, _, _ => rfl
  | 10, _, _ => rfl
  | 11, _, hne => exact absurd rfl hne
  | 12, _, _ => rfl
  | 13, _, _ => rfl
  | 14, _, _ => rfl
  | j + 15, hj, _ => exact absurd hj (by omega)
theorem k_fill_firstsBySecond (l : Launch) (dC : Nat → ClassId) (dI : Nat → Nat → Nat) (g k : Nat → Nat) (tl : List (ClassId × FieldType)) (u : jU) : jMet l y_Arrays_fill (.code y_Arrays_fill c_Arrays_fill 4 none) ({ frames := 0, cells := 0, slots := 0, locals := 0 }) (dC, dI) jcl (ctys k tl) jTs [.ref (g 11), .int 0] (cw g k u) 0 0 (jRet none (cw g k (pFill u 8 96))) := by
  have h := k_fill (D := (dC, dI)) (cl := jcl) (tys := ctys k tl) (Ts := jTs) (ws := cw g k u) (q0 := 11) (t0 := 0) (x := 0) l (cw_firstsBySecond g k u) rfl (by decide)
  rw [cw_fill_firstsBySecond] at h
  exact h
theorem cw_fill_firsts (g k : Nat → Nat) (u : jU) : fillW (cw g k u) 12 (g 12) (k 0) 8 (u 9) 0 8 = cw g k (pFill u 9 8) := by
  refine cw_set (congrArg (fun f : Nat → Int32 => (Sum.inl (k 0, 8, Sum.inl f) : va_E)) (by funext j; simp [pFill])) (cwe_low 12 (fun j hj hne => ?_) rfl rfl rfl rfl rfl rfl rfl rfl)
  match j, hj, hne with
  | 0, _, _ => rfl
  | 1, _, _ => rfl
  | 2, _, _ => rfl
  | 3, _, _ => rfl
  | 4, _, _ => rfl
  | 5, _, _ => rfl
  | 6, _, _ => rfl
  | 7, _, _ => rfl
  | 8, _, _ => rfl
  | 9, _, _ => rfl
  | 10, _, _ => rfl
  | 11, _, _ => rfl
  | 12, _, hne => exact absurd rfl hne
  | 13, _, _ => rfl
  | 14, _, _ => rfl
  | j + 15, hj, _ => exact absurd hj (by omega)
theorem k_fill_firsts (l : Launch) (dC : Nat → ClassId) (dI : Nat → Nat → Nat) (g k : Nat → Nat) (tl : List (ClassId × FieldType)) (u : jU) : jMet l y_Arrays_fill (.code y_Arrays_fill c_Arrays_fill 4 none) ({ frames := 0, cells := 0, slots := 0, locals := 0 }) (dC, dI) jcl (ctys k tl) jTs [.ref (g 12), .int 0] (cw g k u) 0 0 (jRet none (cw g k (pFill u 9 8))) := by
  have h := k_fill (D := (dC, dI)) (cl := jcl) (tys := ctys k tl) (Ts := jTs) (ws := cw g k u) (q0 := 12) (t0 := 0) (x := 0) l (cw_firsts g k u) rfl (by decide)
  rw [cw_fill_firsts] at h
  exact h
theorem cw_fill_seconds (g k : Nat → Nat) (u : jU) : fillW (cw g k u) 13 (g 13) (k 0) 8 (u 10) 0 8 = cw g k (pFill u 10 8) := by
  refine cw_set (congrArg (fun f : Nat → Int32 => (Sum.inl (k 0, 8, Sum.inl f) : va_E)) (by funext j; simp [pFill])) (cwe_low 13 (fun j hj hne => ?_) rfl rfl rfl rfl rfl rfl rfl rfl)
  match j, hj, hne with
  | 0, _, _ => rfl
  | 1, _, _ => rfl
  | 2, _, _ => rfl
  | 3, _, _ => rfl
  | 4, _, _ => rfl
  | 5, _, _ => rfl
  | 6, _, _ => rfl
  | 7, _, _ => rfl
  | 8, _, _ => rfl
  | 9, _, _ => rfl
  | 10, _, _ => rfl
  | 11, _, _ => rfl
  | 12, _, _ => rfl
  | 13, _, hne => exact absurd rfl hne
  | 14, _, _ => rfl
  | j + 15, hj, _ => exact absurd hj (by omega)
theorem k_fill_seconds (l : Launch) (dC : Nat → ClassId) (dI : Nat → Nat → Nat) (g k : Nat → Nat) (tl : List (ClassId × FieldType)) (u : jU) : jMet l y_Arrays_fill (.code y_Arrays_fill c_Arrays_fill 4 none) ({ frames := 0, cells := 0, slots := 0, locals := 0 }) (dC, dI) jcl (ctys k tl) jTs [.ref (g 13), .int 0] (cw g k u) 0 0 (jRet none (cw g k (pFill u 10 8))) := by
  have h := k_fill (D := (dC, dI)) (cl := jcl) (tys := ctys k tl) (Ts := jTs) (ws := cw g k u) (q0 := 13) (t0 := 0) (x := 0) l (cw_seconds g k u) rfl (by decide)
  rw [cw_fill_seconds] at h
  exact h
theorem cw_fill_doubles (g k : Nat → Nat) (u : jU) : fillW (cw g k u) 14 (g 14) (k 0) 8 (u 11) 0 8 = cw g k (pFill u 11 8) := by
  refine cw_set (congrArg (fun f : Nat → Int32 => (Sum.inl (k 0, 8, Sum.inl f) : va_E)) (by funext j; simp [pFill])) (cwe_low 14 (fun j hj hne => ?_) rfl rfl rfl rfl rfl rfl rfl rfl)
  match j, hj, hne with
  | 0, _, _ => rfl
  | 1, _, _ => rfl
  | 2, _, _ => rfl
  | 3, _, _ => rfl
  | 4, _, _ => rfl
  | 5, _, _ => rfl
  | 6, _, _ => rfl
  | 7, _, _ => rfl
  | 8, _, _ => rfl
  | 9, _, _ => rfl
  | 10, _, _ => rfl
  | 11, _, _ => rfl
  | 12, _, _ => rfl
  | 13, _, _ => rfl
  | 14, _, hne => exact absurd rfl hne
  | j + 15, hj, _ => exact absurd hj (by omega)
theorem k_fill_doubles (l : Launch) (dC : Nat → ClassId) (dI : Nat → Nat → Nat) (g k : Nat → Nat) (tl : List (ClassId × FieldType)) (u : jU) : jMet l y_Arrays_fill (.code y_Arrays_fill c_Arrays_fill 4 none) ({ frames := 0, cells := 0, slots := 0, locals := 0 }) (dC, dI) jcl (ctys k tl) jTs [.ref (g 14), .int 0] (cw g k u) 0 0 (jRet none (cw g k (pFill u 11 8))) := by
  have h := k_fill (D := (dC, dI)) (cl := jcl) (tys := ctys k tl) (Ts := jTs) (ws := cw g k u) (q0 := 14) (t0 := 0) (x := 0) l (cw_doubles g k u) rfl (by decide)
  rw [cw_fill_doubles] at h
  exact h
theorem wm_R : ∀ w ∈ [Cond.methodLink "StrataHouse$Rule" 53 Lib.Math.max.name, .static Lib.Math.max.name, .initialized "java/lang/Math", .code Lib.Math.max.name Lib.Math.max.code 2 (some .int)], w ∈ jTs := List.forall_mem_cons.mpr ⟨jin (jt1 (List.mem_of_getElem? (i := 207) rfl)) rfl, List.forall_mem_cons.mpr ⟨jin (jt1 (List.mem_of_getElem? (i := 208) rfl)) rfl, List.forall_mem_cons.mpr ⟨jin (jt1 (List.mem_of_getElem? (i := 14) rfl)) rfl, List.forall_mem_cons.mpr ⟨jin (jt1 (List.mem_of_getElem? (i := 209) rfl)) rfl, fun _ h => absurd h List.not_mem_nil⟩⟩⟩⟩
theorem wm_H : ∀ w ∈ [Cond.methodLink "StrataHouse" 214 Lib.Math.max.name, .static Lib.Math.max.name, .initialized "java/lang/Math", .code Lib.Math.max.name Lib.Math.max.code 2 (some .int)], w ∈ jTs := List.forall_mem_cons.mpr ⟨jin (jt2 (List.mem_of_getElem? (i := 214) rfl)) rfl, List.forall_mem_cons.mpr ⟨jin (jt1 (List.mem_of_getElem? (i := 208) rfl)) rfl, List.forall_mem_cons.mpr ⟨jin (jt1 (List.mem_of_getElem? (i := 14) rfl)) rfl, List.forall_mem_cons.mpr ⟨jin (jt1 (List.mem_of_getElem? (i := 209) rfl)) rfl, fun _ h => absurd h List.not_mem_nil⟩⟩⟩⟩
theorem d_bitCount_0 : decode c_Integer_bitCount 0 = .ok (.iload_n 0, 1) := by decide +kernel
theorem d_bitCount_1 : decode c_Integer_bitCount 1 = .ok (.iload_n 0, 1) := by decide +kernel
theorem d_bitCount_2 : decode c_Integer_bitCount 2 = .ok (.iconst 1, 1) := by decide +kernel
theorem d_bitCount_3 : decode c_Integer_bitCount 3 = .ok (.iushr, 1) := by decide +kernel
theorem d_bitCount_4 : decode c_Integer_bitCount 4 = .ok (.ldc_w 265, 3) := by decide +kernel
theorem d_bitCount_7 : decode c_Integer_bitCount 7 = .ok (.iand, 1) := by decide +kernel
theorem d_bitCount_8 : decode c_Integer_bitCount 8 = .ok (.isub, 1) := by decide +kernel
theorem d_bitCount_9 : decode c_Integer_bitCount 9 = .ok (.istore_n 0, 1) := by decide +kernel
theorem d_bitCount_10 : decode c_Integer_bitCount 10 = .ok (.iload_n 0, 1) := by decide +kernel
theorem d_bitCount_11 : decode c_Integer_bitCount 11 = .ok (.ldc_w 266, 3) := by decide +kernel
theorem d_bitCount_14 : decode c_Integer_bitCount 14 = .ok (.iand, 1) := by decide +kernel
theorem d_bitCount_15 : decode c_Integer_bitCount 15 = .ok (.iload_n 0, 1) := by decide +kernel
theorem d_bitCount_16 : decode c_Integer_bitCount 16 = .ok (.iconst 2, 1) := by decide +kernel
theorem d_bitCount_17 : decode c_Integer_bitCount 17 = .ok (.iushr, 1) := by decide +kernel
theorem d_bitCount_18 : decode c_Integer_bitCount 18 = .ok (.ldc_w 266, 3) := by decide +kernel
theorem d_bitCount_21 : decode c_Integer_bitCount 21 = .ok (.iand, 1) := by decide +kernel
theorem d_bitCount_22 : decode c_Integer_bitCount 22 = .ok (.iadd, 1) := by decide +kernel
theorem d_bitCount_23 : decode c_Integer_bitCount 23 = .ok (.istore_n 0, 1) := by decide +kernel
theorem d_bitCount_24 : decode c_Integer_bitCount 24 = .ok (.iload_n 0, 1) := by decide +kernel
theorem d_bitCount_25 : decode c_Integer_bitCount 25 = .ok (.iload_n 0, 1) := by decide +kernel
theorem d_bitCount_26 : decode c_Integer_bitCount 26 = .ok (.iconst 4, 1) := by decide +kernel
theorem d_bitCount_27 : decode c_Integer_bitCount 27 = .ok (.iushr, 1) := by decide +kernel
theorem d_bitCount_28 : decode c_Integer_bitCount 28 = .ok (.iadd, 1) := by decide +kernel
theorem d_bitCount_29 : decode c_Integer_bitCount 29 = .ok (.ldc_w 267, 3) := by decide +kernel
theorem d_bitCount_32 : decode c_Integer_bitCount 32 = .ok (.iand, 1) := by decide +kernel
theorem d_bitCount_33 : decode c_Integer_bitCount 33 = .ok (.istore_n 0, 1) := by decide +kernel
theorem d_bitCount_34 : decode c_Integer_bitCount 34 = .ok (.iload_n 0, 1) := by decide +kernel
theorem d_bitCount_35 : decode c_Integer_bitCount 35 = .ok (.iload_n 0, 1) := by decide +kernel
theorem d_bitCount_36 : decode c_Integer_bitCount 36 = .ok (.bipush 8, 2) := by decide +kernel
theorem d_bitCount_38 : decode c_Integer_bitCount 38 = .ok (.iushr, 1) := by decide +kernel
theorem d_bitCount_39 : decode c_Integer_bitCount 39 = .ok (.iadd, 1) := by decide +kernel
theorem d_bitCount_40 : decode c_Integer_bitCount 40 = .ok (.istore_n 0, 1) := by decide +kernel
theorem d_bitCount_41 : decode c_Integer_bitCount 41 = .ok (.iload_n 0, 1) := by decide +kernel
theorem d_bitCount_42 : decode c_Integer_bitCount 42 = .ok (.iload_n 0, 1) := by decide +kernel
theorem d_bitCount_43 : decode c_Integer_bitCount 43 = .ok (.bipush 16, 2) := by decide +kernel
theorem d_bitCount_45 : decode c_Integer_bitCount 45 = .ok (.iushr, 1) := by decide +kernel
theorem d_bitCount_46 : decode c_Integer_bitCount 46 = .ok (.iadd, 1) := by decide +kernel
theorem d_bitCount_47 : decode c_Integer_bitCount 47 = .ok (.istore_n 0, 1) := by decide +kernel
theorem d_bitCount_48 : decode c_Integer_bitCount 48 = .ok (.iload_n 0, 1) := by decide +kernel
theorem d_bitCount_49 : decode c_Integer_bitCount 49 = .ok (.bipush 63, 2) := by decide +kernel
theorem d_bitCount_51 : decode c_Integer_bitCount 51 = .ok (.iand, 1) := by decide +kernel
theorem d_bitCount_52 : decode c_Integer_bitCount 52 = .ok (.ireturn, 1) := by decide +kernel
def ushr (x y : Int32) : Int32 := (x.toUInt32 >>> (y.toUInt32 &&& Int32.toUInt32 31)).toInt32
def pBC1 (x : Int32) : Int32 := x - (ushr x 1 &&& 1431655765)
def pBC2 (x : Int32) : Int32 := (x &&& 858993459) + (ushr x 2 &&& 858993459)
def pBC3 (x : Int32) : Int32 := (x + ushr x 4) &&& 252645135
def pBC4 (x : Int32) : Int32 := x + ushr x 8
def pBC5 (x : Int32) : Int32 := x + ushr x 16
def pBC (x : Int32) : Int32 := pBC5 (pBC4 (pBC3 (pBC2 (pBC1 x)))) &&& 63
set_option maxHeartbeats 4000000 in
set_option maxRecDepth 100000 in
theorem k_bitCount (l : Launch) (dC : Nat → ClassId) (dI : Nat → Nat → Nat) (g k : Nat → Nat) (tl : List (ClassId × FieldType)) (u : jU) (x : Int32) : jMet l y_Integer_bitCount (.code y_Integer_bitCount c_Integer_bitCount 1 (some .int)) ({ frames := 0, cells := 0, slots := 0, locals := 0 }) (dC, dI) jcl (ctys k tl) jTs [.int x] (cw g k u) 0 0 (jRet (some (.int (pBC x))) (cw g k u)) := by
  refine jMet.of (by decide) (Nat.le_of_ble_eq_true rfl) ?_
  intro p e s m below meth c A hC hex hr hnm htr
  show jJ p l e ({ frames := 0, cells := 0, slots := 0, locals := 0 }) s m [.int x].toArray below meth c 1 (dC, dI) jcl A (hxQ below (jQ (dC, dI) jcl (jRet (some (.int (pBC x))) (cw g k u)) A) [.int x].toArray s 0 0 A) 0 0 (cw g k u) [(0, .int x)] [] 0
  refine j_iload_n hC d_bitCount_0 rfl 0 rfl ?_
  refine j_iload_n hC d_bitCount_1 rfl 0 rfl ?_
  refine j_iconst (v := 1) hC d_bitCount_2 (by decide) ?_
  refine j_iushr (v := ushr (x) 1) hC d_bitCount_3 rfl ?_
  refine j_ldcw (v := 1431655765) hC (hC.2.2.2.2.1 _ wc_Integer_265) d_bitCount_4 ?_
  refine j_iand hC d_bitCount_7 ?_
  refine j_isub hC d_bitCount_8 ?_
  refine j_istore_n (lv' := [(0, .int (pBC1 (x)))]) hC d_bitCount_9 rfl (by decide) rfl rfl ?_
  refine j_iload_n hC d_bitCount_10 rfl 0 rfl ?_
  refine j_ldcw (v := 858993459) hC (hC.2.2.2.2.1 _ wc_Integer_266) d_bitCount_11 ?_
  refine j_iand hC d_bitCount_14 ?_
  refine j_iload_n hC d_bitCount_15 rfl 0 rfl ?_
  refine j_iconst (v := 2) hC d_bitCount_16 (by decide) ?_
  refine j_iushr (v := ushr (pBC1 (x)) 2) hC d_bitCount_17 rfl ?_
  refine j_ldcw (v := 858993459) hC (hC.2.2.2.2.1 _ wc_Integer_266) d_bitCount_18 ?_
  refine j_iand hC d_bitCount_21 ?_
  refine j_iadd hC d_bitCount_22 ?_
  refine j_istore_n (lv' := [(0, .int (pBC2 (pBC1 (x))))]) hC d_bitCount_23 rfl (by decide) rfl rfl ?_
  refine j_iload_n hC d_bitCount_24 rfl 0 rfl ?_
  refine j_iload_n hC d_bitCount_25 rfl 0 rfl ?_
  refine j_iconst (v := 4) hC d_bitCount_26 (by decide) ?_
  refine j_iushr (v := ushr (pBC2 (pBC1 (x))) 4) hC d_bitCount_27 rfl ?_
  refine j_iadd hC d_bitCount_28 ?_
  refine j_ldcw (v := 252645135) hC (hC.2.2.2.2.1 _ wc_Integer_267) d_bitCount_29 ?_
  refine j_iand hC d_bitCount_32 ?_
  refine j_istore_n (lv' := [(0, .int (pBC3 (pBC2 (pBC1 (x)))))]) hC d_bitCount_33 rfl (by decide) rfl rfl ?_
  refine j_iload_n hC d_bitCount_34 rfl 0 rfl ?_
  refine j_iload_n hC d_bitCount_35 rfl 0 rfl ?_
  refine j_bipush (v := 8) hC d_bitCount_36 (by decide) ?_
  refine j_iushr (v := ushr (pBC3 (pBC2 (pBC1 (x)))) 8) hC d_bitCount_38 rfl ?_
  refine j_iadd hC d_bitCount_39 ?_
  refine j_istore_n (lv' := [(0, .int (pBC4 (pBC3 (pBC2 (pBC1 (x))))))]) hC d_bitCount_40 rfl (by decide) rfl rfl ?_
  refine j_iload_n hC d_bitCount_41 rfl 0 rfl ?_
  refine j_iload_n hC d_bitCount_42 rfl 0 rfl ?_
  refine j_bipush (v := 16) hC d_bitCount_43 (by decide) ?_
  refine j_iushr (v := ushr (pBC4 (pBC3 (pBC2 (pBC1 (x))))) 16) hC d_bitCount_45 rfl ?_
  refine j_iadd hC d_bitCount_46 ?_
  refine j_istore_n (lv' := [(0, .int (pBC5 (pBC4 (pBC3 (pBC2 (pBC1 (x)))))))]) hC d_bitCount_47 rfl (by decide) rfl rfl ?_
  refine j_iload_n hC d_bitCount_48 rfl 0 rfl ?_
  refine j_bipush (v := 63) hC d_bitCount_49 (by decide) ?_
  refine j_iand hC d_bitCount_51 ?_
  exact j_iret hC hr ⟨rfl, rfl, rfl⟩ d_bitCount_52
end
section
-- the class's own work, second part
def pSum (f : jU → Int32 × jU) (o : Nat) (ch : Int32) : Nat → Nat → Int32 → jU → Int32 × jU
  | 0, _, z, u => (z, up u 6 o (-1))
  | n + 1, q, z, u => if b2i (hb ch (nI q)) = 0 then pSum f o ch n (q + 1) z u else pSum f o ch n (q + 1) (z + (f (up u 6 o (nI q))).1) (f (up u 6 o (nI q))).2
def pCount (i : Nat) : Nat → Nat → jU → Int32 × jU
  | 0, _, u => (1, u)
  | d + 1, n, u => if nI (pNext u i n) < 24 then (if nI (pNext u i (pNext u i n + 1)) < 24 then pSum (fun v => pCount i d (pNext u i n + 1) v) (pNext u i n) (pChoices u i (nI (pNext u i n))) 12 0 0 u else (pBC (pChoices u i (nI (pNext u i n))), u)) else (1, u)
theorem pSum_frame {f : jU → Int32 × jU} {o : Nat} {ch : Int32} (hf : ∀ v, only6 v (f v).2 ∧ (wfV v → wfV (f v).2)) : ∀ (n q : Nat) (z : Int32) (u : jU), q + n ≤ 12 → only6 u (pSum f o ch n q z u).2 ∧ (wfV u → wfV (pSum f o ch n q z u).2) := by
  intro n
  induction n with
  | zero => intro q z u _; exact ⟨only6_up u _ _, fun h => wfV_up h _ (Or.inl rfl)⟩
  | succ n ih =>
    intro q z u hq
    have hv : ∀ w : jU, wfV w → wfV (up w 6 o (nI q)) := fun w h => wfV_up h _ (Or.inr (inN_nI (by omega) (by decide)))
    have h1 := hf (up u 6 o (nI q))
    unfold pSum
    split
    · exact ih (q + 1) z u (by omega)
    · have h2 := ih (q + 1) (z + (f (up u 6 o (nI q))).1) (f (up u 6 o (nI q))).2 (by omega)
      exact ⟨((only6_up u _ _).tr h1.1).tr h2.1, fun h => h2.2 (h1.2 (hv u h))⟩
theorem pCount_frame (i : Nat) : ∀ (d n : Nat) (u : jU), only6 u (pCount i d n u).2 ∧ (wfV u → wfV (pCount i d n u).2) := by
  intro d
  induction d with
  | zero => intro n u; exact ⟨only6.rf u, fun h => h⟩
  | succ d ih =>
    intro n u
    unfold pCount
    split
    · split
      · exact pSum_frame (fun v => ih _ v) 12 0 0 u (by omega)
      · exact ⟨only6.rf u, fun h => h⟩
    · exact ⟨only6.rf u, fun h => h⟩
theorem inN_ltN {x : Int32} {B n : Nat} (h : inN x B) (hB : B ≤ 2 ^ 31) (hn : n < 2 ^ 31) : x < nI n ↔ tn x < n := by
  have h1 : tn x < 2 ^ 31 := Nat.lt_of_lt_of_le h.2 hB
  have h2 : nI (tn x) < nI n ↔ tn x < n := nI_ltI h1 hn
  rw [← h.1] at h2
  exact h2
-- what is seen
def pS1 (u : jU) (r a b : Int32) : jU := up u 7 (tn r * 12 + tn a) (u 7 (tn r * 12 + tn a) ||| 1 <<< (b &&& 31))
def pS2 (u : jU) (r a b : Int32) : jU := up (pS1 u r a b) 8 (tn r * 12 + tn b) (pS1 u r a b 8 (tn r * 12 + tn b) ||| 1 <<< (a &&& 31))
def pS3 (u : jU) (r a b : Int32) : jU := up (pS2 u r a b) 9 (tn r) (pS2 u r a b 9 (tn r) ||| 1 <<< (a &&& 31))
def pS4 (u : jU) (r a b : Int32) : jU := up (pS3 u r a b) 10 (tn r) (pS3 u r a b 10 (tn r) ||| 1 <<< (b &&& 31))
def pShow (u : jU) (r a b : Int32) : jU := if a = b then up (pS4 u r a b) 11 (tn r) (pS4 u r a b 11 (tn r) ||| 1 <<< (a &&& 31)) else pS4 u r a b
def pBlind (u : jU) : jU := pFill (pFill (pFill (pFill (pFill u 7 96) 8 96) 9 8) 10 8) 11 8
-- atoms and rules
theorem z01_n {z : Int32} (h : z = 0 ∨ z = 1) : narrow .boolean (.int z) = .int z := by rcases h with rfl | rfl <;> rfl
theorem z01_f {z : Int32} (h : z = 0 ∨ z = 1) : fits .boolean (.int z) = true := by rcases h with rfl | rfl <;> rfl
def pBecome (u : jU) (j : Nat) (r a b z : Int32) : jU := up (up (up (up u 16 j r) 17 j a) 18 j b) 19 j z
def pVars (u : jU) (j : Nat) : Int32 := ((1 <<< (u 17 j &&& 31)) ||| (1 <<< (u 18 j &&& 31))) &&& 15728640
def pBegin1 (u : jU) (i : Nat) (r a b : Int32) : jU := up (pBecome u (5 * i) r a b 0) 12 i 0
def pBegin (u : jU) (i : Nat) (r a b : Int32) : jU := up (up (up (pBegin1 u i r a b) 13 i (pVars (pBegin1 u i r a b) (5 * i))) 14 i 0) 15 i 0
def pFull (u : jU) (i : Nat) : Bool := decide (¬ u 12 i < 4)
def pAdd1 (u : jU) (i : Nat) (r a b z : Int32) : jU := pBecome u (5 * i + 1 + tn (u 12 i)) r a b z
def pAdd2 (u : jU) (i : Nat) (r a b z : Int32) : jU := up (pAdd1 u i r a b z) 12 i (pAdd1 u i r a b z 12 i + 1)
def pAdd3 (u : jU) (i : Nat) (r a b z : Int32) : jU := up (pAdd2 u i r a b z) 13 i (pAdd2 u i r a b z 13 i ||| pVars (pAdd2 u i r a b z) (5 * i + 1 + tn (u 12 i)))
def pAdd4 (u : jU) (i : Nat) (r a b z : Int32) : jU := up (pAdd3 u i r a b z) 14 i (pAdd3 u i r a b z 14 i ||| pVars (pAdd3 u i r a b z) (5 * i + 1 + tn (u 12 i)))
def pAdd (u : jU) (i : Nat) (r a b z : Int32) : jU :=
  if b2i (pFull u i) = 0 then (if z = 0 then up (pAdd4 u i r a b z) 15 i (pAdd4 u i r a b z 15 i ||| 1 <<< (r &&& 31)) else pAdd3 u i r a b z) else u
def pSafe (u : jU) (i : Nat) : Bool := decide (u 13 i = u 14 i)
def pLeast (u : jU) (i : Nat) : Nat → Int32
  | 0 => 0
  | q + 1 => if pLeast u i q < u 3 (tn (u 16 (5 * i + 1 + q))) + (if u 19 (5 * i + 1 + q) = 0 then 0 else 1) then u 3 (tn (u 16 (5 * i + 1 + q))) + (if u 19 (5 * i + 1 + q) = 0 then 0 else 1) else pLeast u i q
-- places and terms
def pFst (u : jU) (r a : Int32) : Int32 := if u 1 (tn r) < 1 then 0 else a
def pSnd (u : jU) (r b : Int32) : Int32 := if u 1 (tn r) < 2 then 0 else b
def pCon (x : Int32) : Bool := decide (¬ x < 0 ∧ ¬ 12 ≤ x)
def pTerm (x : Int32) : Bool := decide (¬ b2i (pCon x) = 0 ∨ (¬ x < 20 ∧ ¬ 24 ≤ x))
def pStale (u : jU) : jU := up (up u 0 3 0) 0 4 0
end
section
set_option maxHeartbeats 4000000 in
set_option maxRecDepth 100000 in
theorem k_count (l : Launch) (dC : Nat → ClassId) (dI : Nat → Nat → Nat) (g k : Nat → Nat) (tl : List (ClassId × FieldType)) {i : Nat} (hi : i < 16) : ∀ (d : Nat) (u : jU) (n0 : Nat), n0 ≤ 24 → 25 ≤ n0 + d → wfM u → jMet l y_M_countInstances (.code y_M_countInstances c_M_countInstances 7 (some .int)) ({ frames := d + 2, cells := 0, slots := 0, locals := 30 * d + 200 }) (dC, dI) jcl (ctys k tl) jTs [.ref (g 7), .ref (g (15 + i)), .int (nI n0)] (cw g k u) 0 0 (jRet (some (.int (pCount i d n0 u).1)) (cw g k (pCount i d n0 u).2)) := by
  intro d
  induction d with
  | zero => intro u n0 h1 h2; exact absurd h2 (by omega)
  | succ d ih =>
    intro u n0 hn0 hd hM
    refine jMet.of (by decide) (Nat.le_of_ble_eq_true rfl) ?_
    intro p e s m below meth c A hC hex hr hnm htr
    show jJ p l e ({ frames := (d + 1) + 2, cells := 0, slots := 0, locals := 30 * (d + 1) + 200 }) s m [.ref (g 7), .ref (g (15 + i)), .int (nI n0)].toArray below meth c 7 (dC, dI) jcl A (hxQ below (jQ (dC, dI) jcl (jRet (some (.int (pCount i (d + 1) n0 u).1)) (cw g k (pCount i (d + 1) n0 u).2)) A) [.ref (g 7), .ref (g (15 + i)), .int (nI n0)].toArray s 0 0 A) 0 0 (cw g k u) [(0, .ref (g 7)), (1, .ref (g (15 + i))), (2, .int (nI n0))] [] 0
    have hnx := pNext_le (u := u) (i := i) hn0
    have loop : pNext u i n0 < 24 → ∀ (n q : Nat) (z : Int32) (v : jU), q ≤ 12 → 12 < q + n → only6 u v → wfV v → pSum (fun v => pCount i d (pNext u i n0 + 1) v) (pNext u i n0) (pChoices u i (nI (pNext u i n0))) (12 - q) q z v = pCount i (d + 1) n0 u → jJ p l e ({ frames := (d + 1) + 2, cells := 0, slots := 0, locals := 30 * (d + 1) + 200 }) s m [.ref (g 7), .ref (g (15 + i)), .int (nI n0)].toArray below meth c 7 (dC, dI) jcl A (hxQ below (jQ (dC, dI) jcl (jRet (some (.int (pCount i (d + 1) n0 u).1)) (cw g k (pCount i (d + 1) n0 u).2)) A) [.ref (g 7), .ref (g (15 + i)), .int (nI n0)].toArray s 0 0 A) 0 0 (cw g k v) [(0, .ref (g 7)), (1, .ref (g (15 + i))), (2, .int (nI n0)), (3, .int (nI (pNext u i n0))), (4, .int (pChoices u i (nI (pNext u i n0)))), (5, .int z), (6, .int (nI q))] [] 48 := by
      intro hlt n
      induction n with
      | zero => intro q z v h1 h2; exact absurd h2 (by omega)
      | succ n ih2 =>
        intro q z v hq hn ho hv hinv
        refine j_iload hC d_M_countInstances_48 6 rfl ?_
        refine j_bipush (v := 12) hC d_M_countInstances_50 (by decide) ?_
        refine j_icmp_ge (tgt := 92) hC d_M_countInstances_52 (by decide) (fun h52 => ?_) (fun h52 => ?_)
        · have hge : 12 ≤ q := (nI_leI (a := 12) (by decide) (by omega)).mp h52
          have hqe : q = 12 := by omega
          refine j_aload_n hC d_M_countInstances_92 rfl 0 rfl ?_
          refine j_get hC hin_M (7) (cw_match g k v) rfl 1 (by decide) (hC.2.2.2.2.1 _ wf_M_18) (fun _ h9 => h9) rfl d_M_countInstances_93 ?_
          refine j_iload_n hC d_M_countInstances_96 rfl 3 rfl ?_
          refine j_iconst (v := -1) hC d_M_countInstances_97 (by decide) ?_
          refine j_iastN (ws' := cw g k (up v 6 (pNext u i n0) (-1))) hC (9) 0 (cw_values g k v) rfl (n := pNext u i n0) (rfl) (hlt) (by decide) (cw_set_values g k v (pNext u i n0) (-1)) d_M_countInstances_98 ?_
          refine j_iload hC d_M_countInstances_99 5 rfl ?_
          exact j_iret hC hr (by rw [← hinv, hqe]; exact ⟨rfl, rfl, rfl⟩) d_M_countInstances_101
        · have hq12 : q < 12 := Nat.not_le.mp (fun z => h52 ((nI_leI (a := 12) (by decide) (by omega)).mpr z))
          have e12 : pSum (fun v => pCount i d (pNext u i n0 + 1) v) (pNext u i n0) (pChoices u i (nI (pNext u i n0))) (12 - q) q z v = pSum (fun v => pCount i d (pNext u i n0 + 1) v) (pNext u i n0) (pChoices u i (nI (pNext u i n0))) ((12 - (q + 1)) + 1) q z v := by rw [show 12 - q = (12 - (q + 1)) + 1 by omega]
          refine j_iload hC d_M_countInstances_55 4 rfl ?_
          refine j_iload hC d_M_countInstances_57 6 rfl ?_
          refine j_callSNr (As := [.int (pChoices u i (nI (pNext u i n0))), .int (nI q)]) (rest := []) (st1 := [.int (b2i (hb (pChoices u i (nI (pNext u i n0))) (nI q)))]) hC (k_hasBit l dC dI g k tl v (pChoices u i (nI (pNext u i n0))) (nI q)) rfl rfl ww_M_88 yn_H_hasBit rfl d_M_countInstances_59 (Nat.le_of_ble_eq_true rfl) ⟨by show 0 + 1 ≤ d + 1 + 2; omega, by show 8 + (2 + 11) + 0 ≤ 30 * (d + 1) + 200; omega⟩ ⟨Nat.zero_le _, Nat.zero_le _⟩ rfl ?_
          refine j_if_eq (tgt := 86) hC d_M_countInstances_62 (by decide) (fun h62 => ?_) (fun h62 => ?_)
          · refine j_iinc (lv' := [(0, .ref (g 7)), (1, .ref (g (15 + i))), (2, .int (nI n0)), (3, .int (nI (pNext u i n0))), (4, .int (pChoices u i (nI (pNext u i n0)))), (5, .int z), (6, .int (nI (q + 1)))]) hC d_M_countInstances_86 6 rfl (nI_1 _) (by decide) rfl rfl ?_
            refine j_goto (tgt := 48) hC d_M_countInstances_89 (by decide) ?_
            exact j_locals [0, 1, 2, 3, 4, 5, 6] rfl (ih2 (q + 1) z v (by omega) (by omega) ho hv (by rw [← hinv, e12, pSum, if_pos h62]))
          · refine j_aload_n hC d_M_countInstances_65 rfl 0 rfl ?_
            refine j_get hC hin_M (7) (cw_match g k v) rfl 1 (by decide) (hC.2.2.2.2.1 _ wf_M_18) (fun _ h9 => h9) rfl d_M_countInstances_66 ?_
            refine j_iload_n hC d_M_countInstances_69 rfl 3 rfl ?_
            refine j_iload hC d_M_countInstances_70 6 rfl ?_
            refine j_iastN (ws' := cw g k (up v 6 (pNext u i n0) (nI q))) hC (9) 0 (cw_values g k v) rfl (n := pNext u i n0) (rfl) (hlt) (by decide) (cw_set_values g k v (pNext u i n0) (nI q)) d_M_countInstances_72 ?_
            refine j_iload hC d_M_countInstances_73 5 rfl ?_
            refine j_aload_n hC d_M_countInstances_75 rfl 0 rfl ?_
            refine j_aload_n hC d_M_countInstances_76 rfl 1 rfl ?_
            refine j_iload_n hC d_M_countInstances_77 rfl 3 rfl ?_
            refine j_iconst (v := 1) hC d_M_countInstances_78 (by decide) ?_
            refine j_iadd hC d_M_countInstances_79 ?_
            have hv2 : wfV (up v 6 (pNext u i n0) (nI q)) := wfV_up hv _ (Or.inr (inN_nI hq12 (by decide)))
            have hfr := pCount_frame i d (pNext u i n0 + 1) (up v 6 (pNext u i n0) (nI q))
            rw [show nI (pNext u i n0) + 1 = nI (pNext u i n0 + 1) from nI_1 _]
            refine j_callVr (As := [.ref (g (15 + i)), .int (nI (pNext u i n0 + 1))]) (rest := [.int z]) (st1 := [.int ((pCount i d (pNext u i n0 + 1) (up v 6 (pNext u i n0) (nI q))).1), .int z]) hC (ih (up v 6 (pNext u i n0) (nI q)) (pNext u i n0 + 1) (by omega) (by omega) (hM.of (ho.tr (only6_up v _ _)) hv2)) rfl rfl ww_M_108 yn_M_countInstances (cw_match g k (up v 6 (pNext u i n0) (nI q))) rfl rfl d_M_countInstances_80 (Nat.le_of_ble_eq_true rfl) ⟨by show d + 2 + 1 ≤ d + 1 + 2; omega, by show 8 + (7 + 11) + (30 * d + 200) ≤ 30 * (d + 1) + 200; omega⟩ ⟨Nat.zero_le _, Nat.zero_le _⟩ rfl ?_
            refine j_iadd hC d_M_countInstances_83 ?_
            refine j_istore (lv' := [(0, .ref (g 7)), (1, .ref (g (15 + i))), (2, .int (nI n0)), (3, .int (nI (pNext u i n0))), (4, .int (pChoices u i (nI (pNext u i n0)))), (5, .int (z + ((pCount i d (pNext u i n0 + 1) (up v 6 (pNext u i n0) (nI q))).1))), (6, .int (nI q))]) hC d_M_countInstances_84 (by decide) rfl rfl ?_
            refine j_iinc (lv' := [(0, .ref (g 7)), (1, .ref (g (15 + i))), (2, .int (nI n0)), (3, .int (nI (pNext u i n0))), (4, .int (pChoices u i (nI (pNext u i n0)))), (5, .int (z + ((pCount i d (pNext u i n0 + 1) (up v 6 (pNext u i n0) (nI q))).1))), (6, .int (nI (q + 1)))]) hC d_M_countInstances_86 6 rfl (nI_1 _) (by decide) rfl rfl ?_
            refine j_goto (tgt := 48) hC d_M_countInstances_89 (by decide) ?_
            exact j_locals [0, 1, 2, 3, 4, 5, 6] rfl (ih2 (q + 1) (z + (pCount i d (pNext u i n0 + 1) (up v 6 (pNext u i n0) (nI q))).1) (pCount i d (pNext u i n0 + 1) (up v 6 (pNext u i n0) (nI q))).2 (by omega) (by omega) ((ho.tr (only6_up v _ _)).tr hfr.1) (hfr.2 hv2) (by rw [← hinv, e12, pSum, if_neg h62]))
    refine j_aload_n hC d_M_countInstances_0 rfl 0 rfl ?_
    refine j_aload_n hC d_M_countInstances_1 rfl 1 rfl ?_
    refine j_iload_n hC d_M_countInstances_2 rfl 2 rfl ?_
    refine j_callVr (As := [.ref (g (15 + i)), .int (nI n0)]) (rest := []) (st1 := [.int (nI (pNext u i n0))]) hC (k_nextOpen l dC dI g k tl u hi hn0) rfl rfl ww_M_91 yn_M_nextOpen (cw_match g k u) rfl rfl d_M_countInstances_3 (Nat.le_of_ble_eq_true rfl) ⟨by show 1 + 1 ≤ d + 1 + 2; omega, by show 8 + (4 + 11) + 21 ≤ 30 * (d + 1) + 200; omega⟩ ⟨Nat.zero_le _, Nat.zero_le _⟩ rfl ?_
    refine j_istore_n (lv' := [(0, .ref (g 7)), (1, .ref (g (15 + i))), (2, .int (nI n0)), (3, .int (nI (pNext u i n0)))]) hC d_M_countInstances_6 rfl (by decide) rfl rfl ?_
    refine j_iload_n hC d_M_countInstances_7 rfl 3 rfl ?_
    refine j_bipush (v := 24) hC d_M_countInstances_8 (by decide) ?_
    refine j_icmp_lt (tgt := 15) hC d_M_countInstances_10 (by decide) (fun h10 => ?_) (fun h10 => ?_)
    · have hlt : pNext u i n0 < 24 := (nI_ltI (b := 24) (by omega) (by decide)).mp h10
      refine j_aload_n hC d_M_countInstances_15 rfl 0 rfl ?_
      refine j_aload_n hC d_M_countInstances_16 rfl 1 rfl ?_
      refine j_iload_n hC d_M_countInstances_17 rfl 3 rfl ?_
      refine j_callVr (As := [.ref (g (15 + i)), .int (nI (pNext u i n0))]) (rest := []) (st1 := [.int (pChoices u i (nI (pNext u i n0)))]) hC (k_choices l dC dI g k tl u hi hM (nI (pNext u i n0)) (inN_nI hlt (by decide))) rfl rfl ww_M_95 yn_M_choices (cw_match g k u) rfl rfl d_M_countInstances_18 (Nat.le_of_ble_eq_true rfl) ⟨by show 1 + 1 ≤ d + 1 + 2; omega, by show 8 + (6 + 11) + 27 ≤ 30 * (d + 1) + 200; omega⟩ ⟨Nat.zero_le _, Nat.zero_le _⟩ rfl ?_
      refine j_istore (lv' := [(0, .ref (g 7)), (1, .ref (g (15 + i))), (2, .int (nI n0)), (3, .int (nI (pNext u i n0))), (4, .int (pChoices u i (nI (pNext u i n0))))]) hC d_M_countInstances_21 (by decide) rfl rfl ?_
      refine j_aload_n hC d_M_countInstances_23 rfl 0 rfl ?_
      refine j_aload_n hC d_M_countInstances_24 rfl 1 rfl ?_
      refine j_iload_n hC d_M_countInstances_25 rfl 3 rfl ?_
      refine j_iconst (v := 1) hC d_M_countInstances_26 (by decide) ?_
      refine j_iadd hC d_M_countInstances_27 ?_
      rw [show nI (pNext u i n0) + 1 = nI (pNext u i n0 + 1) from nI_1 _]
      refine j_callVr (As := [.ref (g (15 + i)), .int (nI (pNext u i n0 + 1))]) (rest := []) (st1 := [.int (nI (pNext u i (pNext u i n0 + 1)))]) hC (k_nextOpen l dC dI g k tl u hi (by omega)) rfl rfl ww_M_91 yn_M_nextOpen (cw_match g k u) rfl rfl d_M_countInstances_28 (Nat.le_of_ble_eq_true rfl) ⟨by show 1 + 1 ≤ d + 1 + 2; omega, by show 8 + (4 + 11) + 21 ≤ 30 * (d + 1) + 200; omega⟩ ⟨Nat.zero_le _, Nat.zero_le _⟩ rfl ?_
      refine j_bipush (v := 24) hC d_M_countInstances_31 (by decide) ?_
      refine j_icmp_lt (tgt := 42) hC d_M_countInstances_33 (by decide) (fun h33 => ?_) (fun h33 => ?_)
      · refine j_iconst (v := 0) hC d_M_countInstances_42 (by decide) ?_
        refine j_istore (lv' := [(0, .ref (g 7)), (1, .ref (g (15 + i))), (2, .int (nI n0)), (3, .int (nI (pNext u i n0))), (4, .int (pChoices u i (nI (pNext u i n0)))), (5, .int 0)]) hC d_M_countInstances_43 (by decide) rfl rfl ?_
        refine j_iconst (v := 0) hC d_M_countInstances_45 (by decide) ?_
        refine j_istore (lv' := [(0, .ref (g 7)), (1, .ref (g (15 + i))), (2, .int (nI n0)), (3, .int (nI (pNext u i n0))), (4, .int (pChoices u i (nI (pNext u i n0)))), (5, .int 0), (6, .int 0)]) hC d_M_countInstances_46 (by decide) rfl rfl ?_
        exact loop hlt 13 0 0 u (by omega) (by omega) (only6.rf u) hM.2.2 (by rw [pCount, if_pos h10, if_pos h33])
      · refine j_iload hC d_M_countInstances_36 4 rfl ?_
        refine j_callSr (As := [.int (pChoices u i (nI (pNext u i n0)))]) (rest := []) (st1 := [.int (pBC (pChoices u i (nI (pNext u i n0))))]) hC (k_bitCount l dC dI g k tl u (pChoices u i (nI (pNext u i n0)))) rfl rfl ww_M_102 yn_Integer_bitCount rfl d_M_countInstances_38 (Nat.le_of_ble_eq_true rfl) ⟨by show 0 + 1 ≤ d + 1 + 2; omega, by show 8 + (1 + 11) + 0 ≤ 30 * (d + 1) + 200; omega⟩ ⟨Nat.zero_le _, Nat.zero_le _⟩ rfl ?_
        exact j_iret hC hr (by rw [pCount, if_pos h10, if_neg h33]; exact ⟨rfl, rfl, rfl⟩) d_M_countInstances_41
    · refine j_iconst (v := 1) hC d_M_countInstances_13 (by decide) ?_
      exact j_iret hC hr (by rw [pCount, if_neg h10]; exact ⟨rfl, rfl, rfl⟩) d_M_countInstances_14
end
section
set_option maxHeartbeats 4000000 in
set_option maxRecDepth 100000 in
theorem k_show (l : Launch) (dC : Nat → ClassId) (dI : Nat → Nat → Nat) (g k : Nat → Nat) (tl : List (ClassId × FieldType)) (u : jU) (r a b : Int32) (hr8 : inN r 8) (ha : inN a 12) (hb12 : inN b 12) : jMet l y_S_show (.code y_S_show c_S_show 4 none) ({ frames := 1, cells := 0, slots := 0, locals := 21 }) (dC, dI) jcl (ctys k tl) jTs [.ref (g 8), .int r, .int a, .int b] (cw g k u) 0 0 (jRet none (cw g k (pShow u r a b))) := by
  refine jMet.of (by decide) (Nat.le_of_ble_eq_true rfl) ?_
  intro p e s m below meth c A hC hex hr hnm htr
  show jJ p l e ({ frames := 1, cells := 0, slots := 0, locals := 21 }) s m [.ref (g 8), .int r, .int a, .int b].toArray below meth c 4 (dC, dI) jcl A (hxQ below (jQ (dC, dI) jcl (jRet none (cw g k (pShow u r a b))) A) [.ref (g 8), .int r, .int a, .int b].toArray s 0 0 A) 0 0 (cw g k u) [(0, .ref (g 8)), (1, .int r), (2, .int a), (3, .int b)] [] 0
  refine j_aload_n hC d_S_show_0 rfl 0 rfl ?_
  refine j_get hC hin_S (8) (cw_sight g k u) rfl 0 (by decide) (hC.2.2.2.2.1 _ wf_S_9) (fun _ h9 => h9) rfl d_S_show_1 ?_
  refine j_iload_n hC d_S_show_4 rfl 1 rfl ?_
  refine j_iload_n hC d_S_show_5 rfl 2 rfl ?_
  refine j_callSNr (As := [.int r, .int a]) (rest := [.ref (g 10)]) (st1 := [.int (r * 12 + a), .ref (g 10)]) hC (k_rowAt l dC dI g k tl u r a) rfl rfl ww_S_33 yn_H_rowAt rfl d_S_show_6 (Nat.le_of_ble_eq_true rfl) (by decide) ⟨Nat.zero_le _, Nat.zero_le _⟩ rfl ?_
  refine j_dup2_11 hC d_S_show_9 rfl rfl ?_
  refine j_ialdN hC (10) 0 (cw_secondsByFirst g k u) rfl (n := tn r * 12 + tn a) (in_row hr8 ha) (row_lt hr8 ha) (by decide) d_S_show_10 ?_
  refine j_iconst (v := 1) hC d_S_show_11 (by decide) ?_
  refine j_iload_n hC d_S_show_12 rfl 3 rfl ?_
  refine j_ishl hC d_S_show_13 ?_
  refine j_ior hC d_S_show_14 ?_
  refine j_iastN (ws' := cw g k (up u 7 (tn r * 12 + tn a) ((u 7 (tn r * 12 + tn a)) ||| (1 <<< (b &&& 31))))) hC (10) 0 (cw_secondsByFirst g k u) rfl (n := tn r * 12 + tn a) (in_row hr8 ha) (row_lt hr8 ha) (by decide) (cw_set_secondsByFirst g k u (tn r * 12 + tn a) ((u 7 (tn r * 12 + tn a)) ||| (1 <<< (b &&& 31)))) d_S_show_15 ?_
  refine j_aload_n hC d_S_show_16 rfl 0 rfl ?_
  refine j_get hC hin_S (8) (cw_sight g k (pS1 u r a b)) rfl 1 (by decide) (hC.2.2.2.2.1 _ wf_S_15) (fun _ h9 => h9) rfl d_S_show_17 ?_
  refine j_iload_n hC d_S_show_20 rfl 1 rfl ?_
  refine j_iload_n hC d_S_show_21 rfl 3 rfl ?_
  refine j_callSNr (As := [.int r, .int b]) (rest := [.ref (g 11)]) (st1 := [.int (r * 12 + b), .ref (g 11)]) hC (k_rowAt l dC dI g k tl (pS1 u r a b) r b) rfl rfl ww_S_33 yn_H_rowAt rfl d_S_show_22 (Nat.le_of_ble_eq_true rfl) (by decide) ⟨Nat.zero_le _, Nat.zero_le _⟩ rfl ?_
  refine j_dup2_11 hC d_S_show_25 rfl rfl ?_
  refine j_ialdN hC (11) 0 (cw_firstsBySecond g k (pS1 u r a b)) rfl (n := tn r * 12 + tn b) (in_row hr8 hb12) (row_lt hr8 hb12) (by decide) d_S_show_26 ?_
  refine j_iconst (v := 1) hC d_S_show_27 (by decide) ?_
  refine j_iload_n hC d_S_show_28 rfl 2 rfl ?_
  refine j_ishl hC d_S_show_29 ?_
  refine j_ior hC d_S_show_30 ?_
  refine j_iastN (ws' := cw g k (up (pS1 u r a b) 8 (tn r * 12 + tn b) (((pS1 u r a b) 8 (tn r * 12 + tn b)) ||| (1 <<< (a &&& 31))))) hC (11) 0 (cw_firstsBySecond g k (pS1 u r a b)) rfl (n := tn r * 12 + tn b) (in_row hr8 hb12) (row_lt hr8 hb12) (by decide) (cw_set_firstsBySecond g k (pS1 u r a b) (tn r * 12 + tn b) (((pS1 u r a b) 8 (tn r * 12 + tn b)) ||| (1 <<< (a &&& 31)))) d_S_show_31 ?_
  refine j_aload_n hC d_S_show_32 rfl 0 rfl ?_
  refine j_get hC hin_S (8) (cw_sight g k (pS2 u r a b)) rfl 2 (by decide) (hC.2.2.2.2.1 _ wf_S_18) (fun _ h9 => h9) rfl d_S_show_33 ?_
  refine j_iload_n hC d_S_show_36 rfl 1 rfl ?_
  refine j_dup2_11 hC d_S_show_37 rfl rfl ?_
  refine j_ialdN hC (12) 0 (cw_firsts g k (pS2 u r a b)) rfl (n := tn r) (hr8.1) (hr8.2) (by decide) d_S_show_38 ?_
  refine j_iconst (v := 1) hC d_S_show_39 (by decide) ?_
  refine j_iload_n hC d_S_show_40 rfl 2 rfl ?_
  refine j_ishl hC d_S_show_41 ?_
  refine j_ior hC d_S_show_42 ?_
  refine j_iastN (ws' := cw g k (up (pS2 u r a b) 9 (tn r) (((pS2 u r a b) 9 (tn r)) ||| (1 <<< (a &&& 31))))) hC (12) 0 (cw_firsts g k (pS2 u r a b)) rfl (n := tn r) (hr8.1) (hr8.2) (by decide) (cw_set_firsts g k (pS2 u r a b) (tn r) (((pS2 u r a b) 9 (tn r)) ||| (1 <<< (a &&& 31)))) d_S_show_43 ?_
  refine j_aload_n hC d_S_show_44 rfl 0 rfl ?_
  refine j_get hC hin_S (8) (cw_sight g k (pS3 u r a b)) rfl 3 (by decide) (hC.2.2.2.2.1 _ wf_S_21) (fun _ h9 => h9) rfl d_S_show_45 ?_
  refine j_iload_n hC d_S_show_48 rfl 1 rfl ?_
  refine j_dup2_11 hC d_S_show_49 rfl rfl ?_
  refine j_ialdN hC (13) 0 (cw_seconds g k (pS3 u r a b)) rfl (n := tn r) (hr8.1) (hr8.2) (by decide) d_S_show_50 ?_
  refine j_iconst (v := 1) hC d_S_show_51 (by decide) ?_
  refine j_iload_n hC d_S_show_52 rfl 3 rfl ?_
  refine j_ishl hC d_S_show_53 ?_
  refine j_ior hC d_S_show_54 ?_
  refine j_iastN (ws' := cw g k (up (pS3 u r a b) 10 (tn r) (((pS3 u r a b) 10 (tn r)) ||| (1 <<< (b &&& 31))))) hC (13) 0 (cw_seconds g k (pS3 u r a b)) rfl (n := tn r) (hr8.1) (hr8.2) (by decide) (cw_set_seconds g k (pS3 u r a b) (tn r) (((pS3 u r a b) 10 (tn r)) ||| (1 <<< (b &&& 31)))) d_S_show_55 ?_
  refine j_iload_n hC d_S_show_56 rfl 2 rfl ?_
  refine j_iload_n hC d_S_show_57 rfl 3 rfl ?_
  refine j_icmp_ne (tgt := 73) hC d_S_show_58 (by decide) (fun h58 => ?_) (fun h58 => ?_)
  · exact j_vret hC hr ⟨rfl, rfl, congrArg (cw g k) (if_neg h58).symm⟩ d_S_show_73
  · refine j_aload_n hC d_S_show_61 rfl 0 rfl ?_
    refine j_get hC hin_S (8) (cw_sight g k (pS4 u r a b)) rfl 4 (by decide) (hC.2.2.2.2.1 _ wf_S_24) (fun _ h9 => h9) rfl d_S_show_62 ?_
    refine j_iload_n hC d_S_show_65 rfl 1 rfl ?_
    refine j_dup2_11 hC d_S_show_66 rfl rfl ?_
    refine j_ialdN hC (14) 0 (cw_doubles g k (pS4 u r a b)) rfl (n := tn r) (hr8.1) (hr8.2) (by decide) d_S_show_67 ?_
    refine j_iconst (v := 1) hC d_S_show_68 (by decide) ?_
    refine j_iload_n hC d_S_show_69 rfl 2 rfl ?_
    refine j_ishl hC d_S_show_70 ?_
    refine j_ior hC d_S_show_71 ?_
    refine j_iastN (ws' := cw g k (up (pS4 u r a b) 11 (tn r) (((pS4 u r a b) 11 (tn r)) ||| (1 <<< (a &&& 31))))) hC (14) 0 (cw_doubles g k (pS4 u r a b)) rfl (n := tn r) (hr8.1) (hr8.2) (by decide) (cw_set_doubles g k (pS4 u r a b) (tn r) (((pS4 u r a b) 11 (tn r)) ||| (1 <<< (a &&& 31)))) d_S_show_72 ?_
    exact j_vret hC hr ⟨rfl, rfl, congrArg (cw g k) (if_pos h58).symm⟩ d_S_show_73

set_option maxHeartbeats 4000000 in
set_option maxRecDepth 100000 in
theorem k_blind (l : Launch) (dC : Nat → ClassId) (dI : Nat → Nat → Nat) (g k : Nat → Nat) (tl : List (ClassId × FieldType)) (u : jU)  : jMet l y_S_forget (.code y_S_forget c_S_forget 1 none) ({ frames := 1, cells := 0, slots := 0, locals := 23 }) (dC, dI) jcl (ctys k tl) jTs [.ref (g 8)] (cw g k u) 0 0 (jRet none (cw g k (pBlind u))) := by
  refine jMet.of (by decide) (Nat.le_of_ble_eq_true rfl) ?_
  intro p e s m below meth c A hC hex hr hnm htr
  show jJ p l e ({ frames := 1, cells := 0, slots := 0, locals := 23 }) s m [.ref (g 8)].toArray below meth c 1 (dC, dI) jcl A (hxQ below (jQ (dC, dI) jcl (jRet none (cw g k (pBlind u))) A) [.ref (g 8)].toArray s 0 0 A) 0 0 (cw g k u) [(0, .ref (g 8))] [] 0
  refine j_aload_n hC d_S_forget_0 rfl 0 rfl ?_
  refine j_get hC hin_S (8) (cw_sight g k u) rfl 0 (by decide) (hC.2.2.2.2.1 _ wf_S_9) (fun _ h9 => h9) rfl d_S_forget_1 ?_
  refine j_iconst (v := 0) hC d_S_forget_4 (by decide) ?_
  refine j_callSr (As := [.ref (g 10), .int 0]) (rest := []) (st1 := []) hC (k_fill_secondsByFirst l dC dI g k tl u) rfl rfl ww_S_27 yn_Arrays_fill rfl d_S_forget_5 (Nat.le_of_ble_eq_true rfl) (by decide) ⟨Nat.zero_le _, Nat.zero_le _⟩ rfl ?_
  refine j_aload_n hC d_S_forget_8 rfl 0 rfl ?_
  refine j_get hC hin_S (8) (cw_sight g k (pFill u 7 96)) rfl 1 (by decide) (hC.2.2.2.2.1 _ wf_S_15) (fun _ h9 => h9) rfl d_S_forget_9 ?_
  refine j_iconst (v := 0) hC d_S_forget_12 (by decide) ?_
  refine j_callSr (As := [.ref (g 11), .int 0]) (rest := []) (st1 := []) hC (k_fill_firstsBySecond l dC dI g k tl (pFill u 7 96)) rfl rfl ww_S_27 yn_Arrays_fill rfl d_S_forget_13 (Nat.le_of_ble_eq_true rfl) (by decide) ⟨Nat.zero_le _, Nat.zero_le _⟩ rfl ?_
  refine j_aload_n hC d_S_forget_16 rfl 0 rfl ?_
  refine j_get hC hin_S (8) (cw_sight g k (pFill (pFill u 7 96) 8 96)) rfl 2 (by decide) (hC.2.2.2.2.1 _ wf_S_18) (fun _ h9 => h9) rfl d_S_forget_17 ?_
  refine j_iconst (v := 0) hC d_S_forget_20 (by decide) ?_
  refine j_callSr (As := [.ref (g 12), .int 0]) (rest := []) (st1 := []) hC (k_fill_firsts l dC dI g k tl (pFill (pFill u 7 96) 8 96)) rfl rfl ww_S_27 yn_Arrays_fill rfl d_S_forget_21 (Nat.le_of_ble_eq_true rfl) (by decide) ⟨Nat.zero_le _, Nat.zero_le _⟩ rfl ?_
  refine j_aload_n hC d_S_forget_24 rfl 0 rfl ?_
  refine j_get hC hin_S (8) (cw_sight g k (pFill (pFill (pFill u 7 96) 8 96) 9 8)) rfl 3 (by decide) (hC.2.2.2.2.1 _ wf_S_21) (fun _ h9 => h9) rfl d_S_forget_25 ?_
  refine j_iconst (v := 0) hC d_S_forget_28 (by decide) ?_
  refine j_callSr (As := [.ref (g 13), .int 0]) (rest := []) (st1 := []) hC (k_fill_seconds l dC dI g k tl (pFill (pFill (pFill u 7 96) 8 96) 9 8)) rfl rfl ww_S_27 yn_Arrays_fill rfl d_S_forget_29 (Nat.le_of_ble_eq_true rfl) (by decide) ⟨Nat.zero_le _, Nat.zero_le _⟩ rfl ?_
  refine j_aload_n hC d_S_forget_32 rfl 0 rfl ?_
  refine j_get hC hin_S (8) (cw_sight g k (pFill (pFill (pFill (pFill u 7 96) 8 96) 9 8) 10 8)) rfl 4 (by decide) (hC.2.2.2.2.1 _ wf_S_24) (fun _ h9 => h9) rfl d_S_forget_33 ?_
  refine j_iconst (v := 0) hC d_S_forget_36 (by decide) ?_
  refine j_callSr (As := [.ref (g 14), .int 0]) (rest := []) (st1 := []) hC (k_fill_doubles l dC dI g k tl (pFill (pFill (pFill (pFill u 7 96) 8 96) 9 8) 10 8)) rfl rfl ww_S_27 yn_Arrays_fill rfl d_S_forget_37 (Nat.le_of_ble_eq_true rfl) (by decide) ⟨Nat.zero_le _, Nat.zero_le _⟩ rfl ?_
  exact j_vret hC hr ⟨rfl, rfl, rfl⟩ d_S_forget_40

set_option maxHeartbeats 4000000 in
set_option maxRecDepth 100000 in
theorem k_become (l : Launch) (dC : Nat → ClassId) (dI : Nat → Nat → Nat) (g k : Nat → Nat) (tl : List (ClassId × FieldType)) (u : jU) {j : Nat} (hj : j < 80) (r a b z : Int32) (hz : z = 0 ∨ z = 1) : jMet l y_A_become (.code y_A_become c_A_become 5 none) ({ frames := 0, cells := 0, slots := 0, locals := 0 }) (dC, dI) jcl (ctys k tl) jTs [.ref (g (47 + (j))), .int r, .int a, .int b, .int z] (cw g k u) 0 0 (jRet none (cw g k (pBecome u j r a b z))) := by
  refine jMet.of (by decide) (Nat.le_of_ble_eq_true rfl) ?_
  intro p e s m below meth c A hC hex hr hnm htr
  show jJ p l e ({ frames := 0, cells := 0, slots := 0, locals := 0 }) s m [.ref (g (47 + (j))), .int r, .int a, .int b, .int z].toArray below meth c 5 (dC, dI) jcl A (hxQ below (jQ (dC, dI) jcl (jRet none (cw g k (pBecome u j r a b z))) A) [.ref (g (47 + (j))), .int r, .int a, .int b, .int z].toArray s 0 0 A) 0 0 (cw g k u) [(0, .ref (g (47 + (j)))), (1, .int r), (2, .int a), (3, .int b), (4, .int z)] [] 0
  refine j_aload_n hC d_A_become_0 rfl 0 rfl ?_
  refine j_iload_n hC d_A_become_1 rfl 1 rfl ?_
  refine j_put (ty := .int) (ws' := cw g k (up u 16 j r)) hC hin_A tyX0 tyX0_ok nmX0 (47 + (j)) (cw_atom g k u (j := j) (by omega)) rfl 0 (by decide) (hC.2.2.2.2.1 _ wf_A_9) (fun _ h9 => h9) rfl (by decide +kernel) (rfl) (rfl) (Nat.le_of_ble_eq_true rfl) (cw_set_relation g k u (by omega) r) d_A_become_2 ?_
  refine j_aload_n hC d_A_become_5 rfl 0 rfl ?_
  refine j_iload_n hC d_A_become_6 rfl 2 rfl ?_
  refine j_put (ty := .int) (ws' := cw g k (up (up u 16 j r) 17 j a)) hC hin_A tyX0 tyX0_ok nmX0 (47 + (j)) (cw_atom g k (up u 16 j r) (j := j) (by omega)) rfl 1 (by decide) (hC.2.2.2.2.1 _ wf_A_15) (fun _ h9 => h9) rfl (by decide +kernel) (rfl) (rfl) (Nat.le_of_ble_eq_true rfl) (cw_set_first g k (up u 16 j r) (by omega) a) d_A_become_7 ?_
  refine j_aload_n hC d_A_become_10 rfl 0 rfl ?_
  refine j_iload_n hC d_A_become_11 rfl 3 rfl ?_
  refine j_put (ty := .int) (ws' := cw g k (up (up (up u 16 j r) 17 j a) 18 j b)) hC hin_A tyX0 tyX0_ok nmX0 (47 + (j)) (cw_atom g k (up (up u 16 j r) 17 j a) (j := j) (by omega)) rfl 2 (by decide) (hC.2.2.2.2.1 _ wf_A_18) (fun _ h9 => h9) rfl (by decide +kernel) (rfl) (rfl) (Nat.le_of_ble_eq_true rfl) (cw_set_second g k (up (up u 16 j r) 17 j a) (by omega) b) d_A_become_12 ?_
  refine j_aload_n hC d_A_become_15 rfl 0 rfl ?_
  refine j_iload hC d_A_become_16 4 rfl ?_
  refine j_put (ty := .boolean) (ws' := cw g k (up (up (up (up u 16 j r) 17 j a) 18 j b) 19 j z)) hC hin_A tyX0 tyX0_ok nmX0 (47 + (j)) (cw_atom g k (up (up (up u 16 j r) 17 j a) 18 j b) (j := j) (by omega)) rfl 3 (by decide) (hC.2.2.2.2.1 _ wf_A_21) (fun _ h9 => h9) rfl (by decide +kernel) (z01_n hz) (z01_f hz) (Nat.le_of_ble_eq_true rfl) (cw_set_negated g k (up (up (up u 16 j r) 17 j a) 18 j b) (by omega) z) d_A_become_18 ?_
  exact j_vret hC hr ⟨rfl, rfl, rfl⟩ d_A_become_21

set_option maxHeartbeats 4000000 in
set_option maxRecDepth 100000 in
theorem k_vars (l : Launch) (dC : Nat → ClassId) (dI : Nat → Nat → Nat) (g k : Nat → Nat) (tl : List (ClassId × FieldType)) (u : jU) {j : Nat} (hj : j < 80) : jMet l y_A_variables (.code y_A_variables c_A_variables 1 (some .int)) ({ frames := 0, cells := 0, slots := 0, locals := 0 }) (dC, dI) jcl (ctys k tl) jTs [.ref (g (47 + (j)))] (cw g k u) 0 0 (jRet (some (.int (pVars u j))) (cw g k u)) := by
  refine jMet.of (by decide) (Nat.le_of_ble_eq_true rfl) ?_
  intro p e s m below meth c A hC hex hr hnm htr
  show jJ p l e ({ frames := 0, cells := 0, slots := 0, locals := 0 }) s m [.ref (g (47 + (j)))].toArray below meth c 1 (dC, dI) jcl A (hxQ below (jQ (dC, dI) jcl (jRet (some (.int (pVars u j))) (cw g k u)) A) [.ref (g (47 + (j)))].toArray s 0 0 A) 0 0 (cw g k u) [(0, .ref (g (47 + (j))))] [] 0
  refine j_iconst (v := 1) hC d_A_variables_0 (by decide) ?_
  refine j_aload_n hC d_A_variables_1 rfl 0 rfl ?_
  refine j_get hC hin_A (47 + (j)) (cw_atom g k u (j := j) (by omega)) rfl 1 (by decide) (hC.2.2.2.2.1 _ wf_A_15) (fun _ h9 => h9) rfl d_A_variables_2 ?_
  refine j_ishl hC d_A_variables_5 ?_
  refine j_iconst (v := 1) hC d_A_variables_6 (by decide) ?_
  refine j_aload_n hC d_A_variables_7 rfl 0 rfl ?_
  refine j_get hC hin_A (47 + (j)) (cw_atom g k u (j := j) (by omega)) rfl 2 (by decide) (hC.2.2.2.2.1 _ wf_A_18) (fun _ h9 => h9) rfl d_A_variables_8 ?_
  refine j_ishl hC d_A_variables_11 ?_
  refine j_ior hC d_A_variables_12 ?_
  refine j_ldc (v := 15728640) hC (hC.2.2.2.2.1 _ wc_A_25) d_A_variables_13 ?_
  refine j_iand hC d_A_variables_15 ?_
  exact j_iret hC hr ⟨rfl, rfl, rfl⟩ d_A_variables_16

set_option maxHeartbeats 4000000 in
set_option maxRecDepth 100000 in
theorem k_begin (l : Launch) (dC : Nat → ClassId) (dI : Nat → Nat → Nat) (g k : Nat → Nat) (tl : List (ClassId × FieldType)) (u : jU) {i : Nat} (hi : i < 16) (r a b : Int32) : jMet l y_R_begin (.code y_R_begin c_R_begin 4 none) ({ frames := 1, cells := 0, slots := 0, locals := 24 }) (dC, dI) jcl (ctys k tl) jTs [.ref (g (15 + i)), .int r, .int a, .int b] (cw g k u) 0 0 (jRet none (cw g k (pBegin u i r a b))) := by
  refine jMet.of (by decide) (Nat.le_of_ble_eq_true rfl) ?_
  intro p e s m below meth c A hC hex hr hnm htr
  show jJ p l e ({ frames := 1, cells := 0, slots := 0, locals := 24 }) s m [.ref (g (15 + i)), .int r, .int a, .int b].toArray below meth c 4 (dC, dI) jcl A (hxQ below (jQ (dC, dI) jcl (jRet none (cw g k (pBegin u i r a b))) A) [.ref (g (15 + i)), .int r, .int a, .int b].toArray s 0 0 A) 0 0 (cw g k u) [(0, .ref (g (15 + i))), (1, .int r), (2, .int a), (3, .int b)] [] 0
  refine j_aload_n hC d_R_begin_0 rfl 0 rfl ?_
  refine j_get hC hin_R (15 + i) (cw_rule g k u (by omega)) rfl 0 (by decide) (hC.2.2.2.2.1 _ wf_R_12) (fun _ h9 => h9) rfl d_R_begin_1 ?_
  refine j_iload_n hC d_R_begin_4 rfl 1 rfl ?_
  refine j_iload_n hC d_R_begin_5 rfl 2 rfl ?_
  refine j_iload_n hC d_R_begin_6 rfl 3 rfl ?_
  refine j_iconst (v := 0) hC d_R_begin_7 (by decide) ?_
  refine j_callNr (As := [.int r, .int a, .int b, .int 0]) (rest := []) (st1 := []) hC (k_become l dC dI g k tl u (j := 5 * i) (by omega) r a b 0 (Or.inl rfl)) rfl rfl ww_R_22 yn_A_become (cw_atom g k u (j := 5 * i) (by omega)) rfl rfl d_R_begin_8 (Nat.le_of_ble_eq_true rfl) (by decide) ⟨Nat.zero_le _, Nat.zero_le _⟩ rfl ?_
  refine j_aload_n hC d_R_begin_11 rfl 0 rfl ?_
  refine j_iconst (v := 0) hC d_R_begin_12 (by decide) ?_
  refine j_put (ty := .int) (ws' := cw g k (up (pBecome u (5 * i) r a b 0) 12 i 0)) hC hin_R tyX2 tyX2_ok nmX2 (15 + i) (cw_rule g k (pBecome u (5 * i) r a b 0) (by omega)) rfl 2 (by decide) (hC.2.2.2.2.1 _ wf_R_26) (fun _ h9 => h9) rfl (by decide +kernel) (rfl) (rfl) (Nat.le_of_ble_eq_true rfl) (cw_set_size g k (pBecome u (5 * i) r a b 0) (by omega) 0) d_R_begin_13 ?_
  refine j_aload_n hC d_R_begin_16 rfl 0 rfl ?_
  refine j_aload_n hC d_R_begin_17 rfl 0 rfl ?_
  refine j_get hC hin_R (15 + i) (cw_rule g k (pBegin1 u i r a b) (by omega)) rfl 0 (by decide) (hC.2.2.2.2.1 _ wf_R_12) (fun _ h9 => h9) rfl d_R_begin_18 ?_
  refine j_callNr (As := []) (rest := [.ref (g (15 + i))]) (st1 := [.int (pVars (pBegin1 u i r a b) (5 * i)), .ref (g (15 + i))]) hC (k_vars l dC dI g k tl (pBegin1 u i r a b) (j := 5 * i) (by omega)) rfl rfl ww_R_30 yn_A_variables (cw_atom g k (pBegin1 u i r a b) (j := 5 * i) (by omega)) rfl rfl d_R_begin_21 (Nat.le_of_ble_eq_true rfl) (by decide) ⟨Nat.zero_le _, Nat.zero_le _⟩ rfl ?_
  refine j_put (ty := .int) (ws' := cw g k (up (pBegin1 u i r a b) 13 i (pVars (pBegin1 u i r a b) (5 * i)))) hC hin_R tyX2 tyX2_ok nmX2 (15 + i) (cw_rule g k (pBegin1 u i r a b) (by omega)) rfl 3 (by decide) (hC.2.2.2.2.1 _ wf_R_34) (fun _ h9 => h9) rfl (by decide +kernel) (rfl) (rfl) (Nat.le_of_ble_eq_true rfl) (cw_set_variables g k (pBegin1 u i r a b) (by omega) (pVars (pBegin1 u i r a b) (5 * i))) d_R_begin_24 ?_
  refine j_aload_n hC d_R_begin_27 rfl 0 rfl ?_
  refine j_iconst (v := 0) hC d_R_begin_28 (by decide) ?_
  refine j_put (ty := .int) (ws' := cw g k (up (up (pBegin1 u i r a b) 13 i (pVars (pBegin1 u i r a b) (5 * i))) 14 i 0)) hC hin_R tyX2 tyX2_ok nmX2 (15 + i) (cw_rule g k (up (pBegin1 u i r a b) 13 i (pVars (pBegin1 u i r a b) (5 * i))) (by omega)) rfl 4 (by decide) (hC.2.2.2.2.1 _ wf_R_36) (fun _ h9 => h9) rfl (by decide +kernel) (rfl) (rfl) (Nat.le_of_ble_eq_true rfl) (cw_set_positiveVariables g k (up (pBegin1 u i r a b) 13 i (pVars (pBegin1 u i r a b) (5 * i))) (by omega) 0) d_R_begin_29 ?_
  refine j_aload_n hC d_R_begin_32 rfl 0 rfl ?_
  refine j_iconst (v := 0) hC d_R_begin_33 (by decide) ?_
  refine j_put (ty := .int) (ws' := cw g k (up (up (up (pBegin1 u i r a b) 13 i (pVars (pBegin1 u i r a b) (5 * i))) 14 i 0) 15 i 0)) hC hin_R tyX2 tyX2_ok nmX2 (15 + i) (cw_rule g k (up (up (pBegin1 u i r a b) 13 i (pVars (pBegin1 u i r a b) (5 * i))) 14 i 0) (by omega)) rfl 5 (by decide) (hC.2.2.2.2.1 _ wf_R_39) (fun _ h9 => h9) rfl (by decide +kernel) (rfl) (rfl) (Nat.le_of_ble_eq_true rfl) (cw_set_positiveRelations g k (up (up (pBegin1 u i r a b) 13 i (pVars (pBegin1 u i r a b) (5 * i))) 14 i 0) (by omega) 0) d_R_begin_34 ?_
  exact j_vret hC hr ⟨rfl, rfl, rfl⟩ d_R_begin_37

set_option maxHeartbeats 4000000 in
set_option maxRecDepth 100000 in
theorem k_full (l : Launch) (dC : Nat → ClassId) (dI : Nat → Nat → Nat) (g k : Nat → Nat) (tl : List (ClassId × FieldType)) (u : jU) {i : Nat} (hi : i < 16) : jMet l y_R_isFull (.code y_R_isFull c_R_isFull 1 (some .boolean)) ({ frames := 0, cells := 0, slots := 0, locals := 0 }) (dC, dI) jcl (ctys k tl) jTs [.ref (g (15 + i))] (cw g k u) 0 0 (jRet (some (.int (b2i (pFull u i)))) (cw g k u)) := by
  refine jMet.of (by decide) (Nat.le_of_ble_eq_true rfl) ?_
  intro p e s m below meth c A hC hex hr hnm htr
  show jJ p l e ({ frames := 0, cells := 0, slots := 0, locals := 0 }) s m [.ref (g (15 + i))].toArray below meth c 1 (dC, dI) jcl A (hxQ below (jQ (dC, dI) jcl (jRet (some (.int (b2i (pFull u i)))) (cw g k u)) A) [.ref (g (15 + i))].toArray s 0 0 A) 0 0 (cw g k u) [(0, .ref (g (15 + i)))] [] 0
  refine j_aload_n hC d_R_isFull_0 rfl 0 rfl ?_
  refine j_get hC hin_R (15 + i) (cw_rule g k u (by omega)) rfl 2 (by decide) (hC.2.2.2.2.1 _ wf_R_26) (fun _ h9 => h9) rfl d_R_isFull_1 ?_
  refine j_iconst (v := 4) hC d_R_isFull_4 (by decide) ?_
  refine j_icmp_lt (tgt := 12) hC d_R_isFull_5 (by decide) (fun h5 => ?_) (fun h5 => ?_)
  · refine j_iconst (v := 0) hC d_R_isFull_12 (by decide) ?_
    exact j_zret hC hr rfl ⟨rfl, congrArg (fun z => some (Value.int z)) (by simp [pFull, b2i, h5]), rfl⟩ d_R_isFull_13
  · refine j_iconst (v := 1) hC d_R_isFull_8 (by decide) ?_
    refine j_goto (tgt := 13) hC d_R_isFull_9 (by decide) ?_
    exact j_zret hC hr rfl ⟨rfl, congrArg (fun z => some (Value.int z)) (by simp [pFull, b2i, h5]), rfl⟩ d_R_isFull_13

set_option maxHeartbeats 4000000 in
set_option maxRecDepth 100000 in
theorem k_safe (l : Launch) (dC : Nat → ClassId) (dI : Nat → Nat → Nat) (g k : Nat → Nat) (tl : List (ClassId × FieldType)) (u : jU) {i : Nat} (hi : i < 16) : jMet l y_R_isSafe (.code y_R_isSafe c_R_isSafe 1 (some .boolean)) ({ frames := 0, cells := 0, slots := 0, locals := 0 }) (dC, dI) jcl (ctys k tl) jTs [.ref (g (15 + i))] (cw g k u) 0 0 (jRet (some (.int (b2i (pSafe u i)))) (cw g k u)) := by
  refine jMet.of (by decide) (Nat.le_of_ble_eq_true rfl) ?_
  intro p e s m below meth c A hC hex hr hnm htr
  show jJ p l e ({ frames := 0, cells := 0, slots := 0, locals := 0 }) s m [.ref (g (15 + i))].toArray below meth c 1 (dC, dI) jcl A (hxQ below (jQ (dC, dI) jcl (jRet (some (.int (b2i (pSafe u i)))) (cw g k u)) A) [.ref (g (15 + i))].toArray s 0 0 A) 0 0 (cw g k u) [(0, .ref (g (15 + i)))] [] 0
  refine j_aload_n hC d_R_isSafe_0 rfl 0 rfl ?_
  refine j_get hC hin_R (15 + i) (cw_rule g k u (by omega)) rfl 3 (by decide) (hC.2.2.2.2.1 _ wf_R_34) (fun _ h9 => h9) rfl d_R_isSafe_1 ?_
  refine j_aload_n hC d_R_isSafe_4 rfl 0 rfl ?_
  refine j_get hC hin_R (15 + i) (cw_rule g k u (by omega)) rfl 4 (by decide) (hC.2.2.2.2.1 _ wf_R_36) (fun _ h9 => h9) rfl d_R_isSafe_5 ?_
  refine j_icmp_ne (tgt := 15) hC d_R_isSafe_8 (by decide) (fun h8 => ?_) (fun h8 => ?_)
  · refine j_iconst (v := 0) hC d_R_isSafe_15 (by decide) ?_
    exact j_zret hC hr rfl ⟨rfl, congrArg (fun z => some (Value.int z)) (by simp [pSafe, b2i, h8]), rfl⟩ d_R_isSafe_16
  · refine j_iconst (v := 1) hC d_R_isSafe_11 (by decide) ?_
    refine j_goto (tgt := 16) hC d_R_isSafe_12 (by decide) ?_
    exact j_zret hC hr rfl ⟨rfl, congrArg (fun z => some (Value.int z)) (by simp [pSafe, b2i, h8]), rfl⟩ d_R_isSafe_16

set_option maxHeartbeats 4000000 in
set_option maxRecDepth 100000 in
theorem k_add (l : Launch) (dC : Nat → ClassId) (dI : Nat → Nat → Nat) (g k : Nat → Nat) (tl : List (ClassId × FieldType)) (u : jU) {i : Nat} (hi : i < 16) (hs : wfS u i) (r a b z : Int32) (hz : z = 0 ∨ z = 1) : jMet l y_R_add (.code y_R_add c_R_add 6 none) ({ frames := 1, cells := 0, slots := 0, locals := 24 }) (dC, dI) jcl (ctys k tl) jTs [.ref (g (15 + i)), .int r, .int a, .int b, .int z] (cw g k u) 0 0 (jRet none (cw g k (pAdd u i r a b z))) := by
  refine jMet.of (by decide) (Nat.le_of_ble_eq_true rfl) ?_
  intro p e s m below meth c A hC hex hr hnm htr
  show jJ p l e ({ frames := 1, cells := 0, slots := 0, locals := 24 }) s m [.ref (g (15 + i)), .int r, .int a, .int b, .int z].toArray below meth c 6 (dC, dI) jcl A (hxQ below (jQ (dC, dI) jcl (jRet none (cw g k (pAdd u i r a b z))) A) [.ref (g (15 + i)), .int r, .int a, .int b, .int z].toArray s 0 0 A) 0 0 (cw g k u) [(0, .ref (g (15 + i))), (1, .int r), (2, .int a), (3, .int b), (4, .int z)] [] 0
  refine j_aload_n hC d_R_add_0 rfl 0 rfl ?_
  refine j_callVr (As := []) (rest := []) (st1 := [.int (b2i (pFull u i))]) hC (k_full l dC dI g k tl u hi) rfl rfl ww_R_42 yn_R_isFull (cw_rule g k u (by omega)) rfl rfl d_R_add_1 (Nat.le_of_ble_eq_true rfl) (by decide) ⟨Nat.zero_le _, Nat.zero_le _⟩ rfl ?_
  refine j_if_eq (tgt := 8) hC d_R_add_4 (by decide) (fun h4 => ?_) (fun h4 => ?_)
  · have hs4 : tn (u 12 i) < 4 := (inN_ltN hs (by decide) (n := 4) (by decide)).mp (show u 12 i < 4 by simpa [pFull] using b2i_0 h4)
    refine j_aload_n hC d_R_add_8 rfl 0 rfl ?_
    refine j_get hC hin_R (15 + i) (cw_rule g k u (by omega)) rfl 1 (by decide) (hC.2.2.2.2.1 _ wf_R_18) (fun _ h9 => h9) rfl d_R_add_9 ?_
    refine j_aload_n hC d_R_add_12 rfl 0 rfl ?_
    refine j_get hC hin_R (15 + i) (cw_rule g k u (by omega)) rfl 2 (by decide) (hC.2.2.2.2.1 _ wf_R_26) (fun _ h9 => h9) rfl d_R_add_13 ?_
    refine j_aaldN (v := g (47 + (5 * i + 1 + (tn (u 12 i))))) hC (31 + i) 1 (cw_lits g k u (by omega)) rfl (n := tn (u 12 i)) (hs.1) (hs4) (by decide) (if_pos (hs4)) d_R_add_16 ?_
    refine j_astore (lv' := [(0, .ref (g (15 + i))), (1, .int r), (2, .int a), (3, .int b), (4, .int z), (5, .ref (g (47 + (5 * i + 1 + (tn (u 12 i))))))]) hC d_R_add_17 (by decide) rfl rfl ?_
    refine j_aload hC d_R_add_19 5 rfl ?_
    refine j_iload_n hC d_R_add_21 rfl 1 rfl ?_
    refine j_iload_n hC d_R_add_22 rfl 2 rfl ?_
    refine j_iload_n hC d_R_add_23 rfl 3 rfl ?_
    refine j_iload hC d_R_add_24 4 rfl ?_
    refine j_callNr (As := [.int r, .int a, .int b, .int z]) (rest := []) (st1 := []) hC (k_become l dC dI g k tl u (j := 5 * i + 1 + tn (u 12 i)) (by omega) r a b z hz) rfl rfl ww_R_22 yn_A_become (cw_atom g k u (j := 5 * i + 1 + (tn (u 12 i))) (by omega)) rfl rfl d_R_add_26 (Nat.le_of_ble_eq_true rfl) (by decide) ⟨Nat.zero_le _, Nat.zero_le _⟩ rfl ?_
    refine j_aload_n hC d_R_add_29 rfl 0 rfl ?_
    refine j_dup hC d_R_add_30 rfl ?_
    refine j_get hC hin_R (15 + i) (cw_rule g k (pAdd1 u i r a b z) (by omega)) rfl 2 (by decide) (hC.2.2.2.2.1 _ wf_R_26) (fun _ h9 => h9) rfl d_R_add_31 ?_
    refine j_iconst (v := 1) hC d_R_add_34 (by decide) ?_
    refine j_iadd hC d_R_add_35 ?_
    refine j_put (ty := .int) (ws' := cw g k (up (pAdd1 u i r a b z) 12 i (((pAdd1 u i r a b z) 12 i) + 1))) hC hin_R tyX2 tyX2_ok nmX2 (15 + i) (cw_rule g k (pAdd1 u i r a b z) (by omega)) rfl 2 (by decide) (hC.2.2.2.2.1 _ wf_R_26) (fun _ h9 => h9) rfl (by decide +kernel) (rfl) (rfl) (Nat.le_of_ble_eq_true rfl) (cw_set_size g k (pAdd1 u i r a b z) (by omega) (((pAdd1 u i r a b z) 12 i) + 1)) d_R_add_36 ?_
    refine j_aload_n hC d_R_add_39 rfl 0 rfl ?_
    refine j_dup hC d_R_add_40 rfl ?_
    refine j_get hC hin_R (15 + i) (cw_rule g k (pAdd2 u i r a b z) (by omega)) rfl 3 (by decide) (hC.2.2.2.2.1 _ wf_R_34) (fun _ h9 => h9) rfl d_R_add_41 ?_
    refine j_aload hC d_R_add_44 5 rfl ?_
    refine j_callNr (As := []) (rest := [.int ((pAdd2 u i r a b z) 13 i), .ref (g (15 + i))]) (st1 := [.int (pVars (pAdd2 u i r a b z) (5 * i + 1 + tn (u 12 i))), .int ((pAdd2 u i r a b z) 13 i), .ref (g (15 + i))]) hC (k_vars l dC dI g k tl (pAdd2 u i r a b z) (j := 5 * i + 1 + tn (u 12 i)) (by omega)) rfl rfl ww_R_30 yn_A_variables (cw_atom g k (pAdd2 u i r a b z) (j := 5 * i + 1 + (tn (u 12 i))) (by omega)) rfl rfl d_R_add_46 (Nat.le_of_ble_eq_true rfl) (by decide) ⟨Nat.zero_le _, Nat.zero_le _⟩ rfl ?_
    refine j_ior hC d_R_add_49 ?_
    refine j_put (ty := .int) (ws' := cw g k (up (pAdd2 u i r a b z) 13 i (((pAdd2 u i r a b z) 13 i) ||| (pVars (pAdd2 u i r a b z) (5 * i + 1 + tn (u 12 i)))))) hC hin_R tyX2 tyX2_ok nmX2 (15 + i) (cw_rule g k (pAdd2 u i r a b z) (by omega)) rfl 3 (by decide) (hC.2.2.2.2.1 _ wf_R_34) (fun _ h9 => h9) rfl (by decide +kernel) (rfl) (rfl) (Nat.le_of_ble_eq_true rfl) (cw_set_variables g k (pAdd2 u i r a b z) (by omega) (((pAdd2 u i r a b z) 13 i) ||| (pVars (pAdd2 u i r a b z) (5 * i + 1 + tn (u 12 i))))) d_R_add_50 ?_
    refine j_iload hC d_R_add_53 4 rfl ?_
    refine j_if_ne (tgt := 84) hC d_R_add_55 (by decide) (fun h55 => ?_) (fun h55 => ?_)
    · exact j_vret hC hr ⟨rfl, rfl, congrArg (cw g k) (by rw [pAdd, if_pos h4, if_neg h55] <;> rfl)⟩ d_R_add_84
    · refine j_aload_n hC d_R_add_58 rfl 0 rfl ?_
      refine j_dup hC d_R_add_59 rfl ?_
      refine j_get hC hin_R (15 + i) (cw_rule g k (pAdd3 u i r a b z) (by omega)) rfl 4 (by decide) (hC.2.2.2.2.1 _ wf_R_36) (fun _ h9 => h9) rfl d_R_add_60 ?_
      refine j_aload hC d_R_add_63 5 rfl ?_
      refine j_callNr (As := []) (rest := [.int ((pAdd3 u i r a b z) 14 i), .ref (g (15 + i))]) (st1 := [.int (pVars (pAdd3 u i r a b z) (5 * i + 1 + tn (u 12 i))), .int ((pAdd3 u i r a b z) 14 i), .ref (g (15 + i))]) hC (k_vars l dC dI g k tl (pAdd3 u i r a b z) (j := 5 * i + 1 + tn (u 12 i)) (by omega)) rfl rfl ww_R_30 yn_A_variables (cw_atom g k (pAdd3 u i r a b z) (j := 5 * i + 1 + (tn (u 12 i))) (by omega)) rfl rfl d_R_add_65 (Nat.le_of_ble_eq_true rfl) (by decide) ⟨Nat.zero_le _, Nat.zero_le _⟩ rfl ?_
      refine j_ior hC d_R_add_68 ?_
      refine j_put (ty := .int) (ws' := cw g k (up (pAdd3 u i r a b z) 14 i (((pAdd3 u i r a b z) 14 i) ||| (pVars (pAdd3 u i r a b z) (5 * i + 1 + tn (u 12 i)))))) hC hin_R tyX2 tyX2_ok nmX2 (15 + i) (cw_rule g k (pAdd3 u i r a b z) (by omega)) rfl 4 (by decide) (hC.2.2.2.2.1 _ wf_R_36) (fun _ h9 => h9) rfl (by decide +kernel) (rfl) (rfl) (Nat.le_of_ble_eq_true rfl) (cw_set_positiveVariables g k (pAdd3 u i r a b z) (by omega) (((pAdd3 u i r a b z) 14 i) ||| (pVars (pAdd3 u i r a b z) (5 * i + 1 + tn (u 12 i))))) d_R_add_69 ?_
      refine j_aload_n hC d_R_add_72 rfl 0 rfl ?_
      refine j_dup hC d_R_add_73 rfl ?_
      refine j_get hC hin_R (15 + i) (cw_rule g k (pAdd4 u i r a b z) (by omega)) rfl 5 (by decide) (hC.2.2.2.2.1 _ wf_R_39) (fun _ h9 => h9) rfl d_R_add_74 ?_
      refine j_iconst (v := 1) hC d_R_add_77 (by decide) ?_
      refine j_iload_n hC d_R_add_78 rfl 1 rfl ?_
      refine j_ishl hC d_R_add_79 ?_
      refine j_ior hC d_R_add_80 ?_
      refine j_put (ty := .int) (ws' := cw g k (up (pAdd4 u i r a b z) 15 i (((pAdd4 u i r a b z) 15 i) ||| (1 <<< (r &&& 31))))) hC hin_R tyX2 tyX2_ok nmX2 (15 + i) (cw_rule g k (pAdd4 u i r a b z) (by omega)) rfl 5 (by decide) (hC.2.2.2.2.1 _ wf_R_39) (fun _ h9 => h9) rfl (by decide +kernel) (rfl) (rfl) (Nat.le_of_ble_eq_true rfl) (cw_set_positiveRelations g k (pAdd4 u i r a b z) (by omega) (((pAdd4 u i r a b z) 15 i) ||| (1 <<< (r &&& 31)))) d_R_add_81 ?_
      exact j_vret hC hr ⟨rfl, rfl, congrArg (cw g k) (by rw [pAdd, if_pos h4, if_pos h55] <;> rfl)⟩ d_R_add_84
  · exact j_vret hC hr ⟨rfl, rfl, congrArg (cw g k) (if_neg h4).symm⟩ d_R_add_7

set_option maxHeartbeats 4000000 in
set_option maxRecDepth 100000 in
theorem k_least (l : Launch) (dC : Nat → ClassId) (dI : Nat → Nat → Nat) (g k : Nat → Nat) (tl : List (ClassId × FieldType)) (u : jU) {i : Nat} (hi : i < 16) (hM : wfM u) : jMet l y_R_leastLayer (.code y_R_leastLayer c_R_leastLayer 5 (some .int)) ({ frames := 1, cells := 0, slots := 0, locals := 13 }) (dC, dI) jcl (ctys k tl) jTs [.ref (g (15 + i)), .ref (g 4)] (cw g k u) 0 0 (jRet (some (.int (pLeast u i (tn (u 12 i))))) (cw g k u)) := by
  refine jMet.of (by decide) (Nat.le_of_ble_eq_true rfl) ?_
  intro p e s m below meth c A hC hex hr hnm htr
  show jJ p l e ({ frames := 1, cells := 0, slots := 0, locals := 13 }) s m [.ref (g (15 + i)), .ref (g 4)].toArray below meth c 5 (dC, dI) jcl A (hxQ below (jQ (dC, dI) jcl (jRet (some (.int (pLeast u i (tn (u 12 i))))) (cw g k u)) A) [.ref (g (15 + i)), .ref (g 4)].toArray s 0 0 A) 0 0 (cw g k u) [(0, .ref (g (15 + i))), (1, .ref (g 4))] [] 0
  have hs : wfS u i := hM.1 i hi
  have hA : ∀ q, q < 4 → wfA u (5 * i + 1 + q) := fun q h => hM.2.1 _ (by omega)
  have hs5 : tn (u 12 i) < 5 := hs.2
  have loop : ∀ (n q : Nat), q ≤ tn (u 12 i) → tn (u 12 i) < q + n → jJ p l e ({ frames := 1, cells := 0, slots := 0, locals := 13 }) s m [.ref (g (15 + i)), .ref (g 4)].toArray below meth c 5 (dC, dI) jcl A (hxQ below (jQ (dC, dI) jcl (jRet (some (.int (pLeast u i (tn (u 12 i))))) (cw g k u)) A) [.ref (g (15 + i)), .ref (g 4)].toArray s 0 0 A) 0 0 (cw g k u) [(0, .ref (g (15 + i))), (1, .ref (g 4)), (2, .int (pLeast u i q)), (3, .int (nI q))] [] 4 := by
    intro n
    induction n with
    | zero => intro q h1 h2; exact absurd h2 (by omega)
    | succ n ih =>
      intro q hq hn
      refine j_iload_n hC d_R_leastLayer_4 rfl 3 rfl ?_
      refine j_aload_n hC d_R_leastLayer_5 rfl 0 rfl ?_
      refine j_get hC hin_R (15 + i) (cw_rule g k u (by omega)) rfl 2 (by decide) (hC.2.2.2.2.1 _ wf_R_26) (fun _ h9 => h9) rfl d_R_leastLayer_6 ?_
      refine j_icmp_ge (tgt := 52) hC d_R_leastLayer_9 (by decide) (fun h9 => ?_) (fun h9 => ?_)
      · have hge : tn (u 12 i) ≤ q := (inN_leN hs (by decide) (by omega)).mp h9
        have hqe : q = tn (u 12 i) := by omega
        refine j_iload_n hC d_R_leastLayer_52 rfl 2 rfl ?_
        exact j_iret hC hr ⟨rfl, congrArg (fun z => some (Value.int z)) (by rw [← hqe]), rfl⟩ d_R_leastLayer_53
      · have hlt : q < tn (u 12 i) := Nat.not_le.mp (fun z => h9 ((inN_leN hs (by decide) (by omega)).mpr z))
        have hq4 : q < 4 := by omega
        refine j_aload_n hC d_R_leastLayer_12 rfl 0 rfl ?_
        refine j_get hC hin_R (15 + i) (cw_rule g k u (by omega)) rfl 1 (by decide) (hC.2.2.2.2.1 _ wf_R_18) (fun _ h9 => h9) rfl d_R_leastLayer_13 ?_
        refine j_iload_n hC d_R_leastLayer_16 rfl 3 rfl ?_
        refine j_aaldN (v := g (47 + (5 * i + 1 + q))) hC (31 + i) 1 (cw_lits g k u (by omega)) rfl (n := q) (rfl) (hq4) (by decide) (if_pos (hq4)) d_R_leastLayer_17 ?_
        refine j_astore (lv' := [(0, .ref (g (15 + i))), (1, .ref (g 4)), (2, .int (pLeast u i q)), (3, .int (nI q)), (4, .ref (g (47 + (5 * i + 1 + q))))]) hC d_R_leastLayer_18 (by decide) rfl rfl ?_
        refine j_iload_n hC d_R_leastLayer_20 rfl 2 rfl ?_
        refine j_aload_n hC d_R_leastLayer_21 rfl 1 rfl ?_
        refine j_aload hC d_R_leastLayer_22 4 rfl ?_
        refine j_getN hC hin_A (47 + (5 * i + 1 + q)) (cw_atom g k u (j := 5 * i + 1 + q) (by omega)) rfl 0 (by decide) (hC.2.2.2.2.1 _ wf_R_46) (fun _ h9 => h9) rfl d_R_leastLayer_24 ?_
        refine j_ialdN hC (4) 0 (cw_layers g k u) rfl (n := tn (u 16 (5 * i + 1 + q))) ((hA q hq4).1.1) ((hA q hq4).1.2) (by decide) d_R_leastLayer_27 ?_
        refine j_aload hC d_R_leastLayer_28 4 rfl ?_
        refine j_getN hC hin_A (47 + (5 * i + 1 + q)) (cw_atom g k u (j := 5 * i + 1 + q) (by omega)) rfl 3 (by decide) (hC.2.2.2.2.1 _ wf_R_49) (fun _ h9 => h9) rfl d_R_leastLayer_30 ?_
        refine j_if_eq (tgt := 40) hC d_R_leastLayer_33 (by decide) (fun h33 => ?_) (fun h33 => ?_)
        · refine j_iconst (v := 0) hC d_R_leastLayer_40 (by decide) ?_
          refine j_iadd hC d_R_leastLayer_41 ?_
          refine j_mmax hC wm_R d_R_leastLayer_42 (by decide) (Nat.le_of_ble_eq_true rfl) ⟨Nat.zero_le _, Nat.zero_le _⟩ ?_
          refine j_istore_n (lv' := [(0, .ref (g (15 + i))), (1, .ref (g 4)), (2, .int (if pLeast u i q < (u 3 (tn (u 16 (5 * i + 1 + q)))) + 0 then (u 3 (tn (u 16 (5 * i + 1 + q)))) + 0 else pLeast u i q)), (3, .int (nI q)), (4, .ref (g (47 + (5 * i + 1 + q))))]) hC d_R_leastLayer_45 rfl (by decide) rfl rfl ?_
          refine j_iinc (lv' := [(0, .ref (g (15 + i))), (1, .ref (g 4)), (2, .int (if pLeast u i q < (u 3 (tn (u 16 (5 * i + 1 + q)))) + 0 then (u 3 (tn (u 16 (5 * i + 1 + q)))) + 0 else pLeast u i q)), (3, .int (nI (q + 1))), (4, .ref (g (47 + (5 * i + 1 + q))))]) hC d_R_leastLayer_46 3 rfl (nI_1 _) (by decide) rfl rfl ?_
          refine j_goto (tgt := 4) hC d_R_leastLayer_49 (by decide) ?_
          have e9 : pLeast u i (q + 1) = if pLeast u i q < (u 3 (tn (u 16 (5 * i + 1 + q)))) + 0 then (u 3 (tn (u 16 (5 * i + 1 + q)))) + 0 else pLeast u i q := by rw [pLeast, if_pos h33]
          have k9 := ih (q + 1) (by omega) (by omega)
          rw [e9] at k9
          exact j_locals [0, 1, 2, 3] rfl k9
        · refine j_iconst (v := 1) hC d_R_leastLayer_36 (by decide) ?_
          refine j_goto (tgt := 41) hC d_R_leastLayer_37 (by decide) ?_
          refine j_iadd hC d_R_leastLayer_41 ?_
          refine j_mmax hC wm_R d_R_leastLayer_42 (by decide) (Nat.le_of_ble_eq_true rfl) ⟨Nat.zero_le _, Nat.zero_le _⟩ ?_
          refine j_istore_n (lv' := [(0, .ref (g (15 + i))), (1, .ref (g 4)), (2, .int (if pLeast u i q < (u 3 (tn (u 16 (5 * i + 1 + q)))) + 1 then (u 3 (tn (u 16 (5 * i + 1 + q)))) + 1 else pLeast u i q)), (3, .int (nI q)), (4, .ref (g (47 + (5 * i + 1 + q))))]) hC d_R_leastLayer_45 rfl (by decide) rfl rfl ?_
          refine j_iinc (lv' := [(0, .ref (g (15 + i))), (1, .ref (g 4)), (2, .int (if pLeast u i q < (u 3 (tn (u 16 (5 * i + 1 + q)))) + 1 then (u 3 (tn (u 16 (5 * i + 1 + q)))) + 1 else pLeast u i q)), (3, .int (nI (q + 1))), (4, .ref (g (47 + (5 * i + 1 + q))))]) hC d_R_leastLayer_46 3 rfl (nI_1 _) (by decide) rfl rfl ?_
          refine j_goto (tgt := 4) hC d_R_leastLayer_49 (by decide) ?_
          have e9 : pLeast u i (q + 1) = if pLeast u i q < (u 3 (tn (u 16 (5 * i + 1 + q)))) + 1 then (u 3 (tn (u 16 (5 * i + 1 + q)))) + 1 else pLeast u i q := by rw [pLeast, if_neg h33]
          have k9 := ih (q + 1) (by omega) (by omega)
          rw [e9] at k9
          exact j_locals [0, 1, 2, 3] rfl k9
  refine j_iconst (v := 0) hC d_R_leastLayer_0 (by decide) ?_
  refine j_istore_n (lv' := [(0, .ref (g (15 + i))), (1, .ref (g 4)), (2, .int 0)]) hC d_R_leastLayer_1 rfl (by decide) rfl rfl ?_
  refine j_iconst (v := 0) hC d_R_leastLayer_2 (by decide) ?_
  refine j_istore_n (lv' := [(0, .ref (g (15 + i))), (1, .ref (g 4)), (2, .int 0), (3, .int 0)]) hC d_R_leastLayer_3 rfl (by decide) rfl rfl ?_
  exact loop 6 0 (by omega) (by omega)
end
section
-- the class's own work, third part: the house
/-- only the components cs differ -/
def kp (cs : List Nat) (u v : jU) : Prop := ∀ c, c ∉ cs → v c = u c
theorem kp.rf (cs : List Nat) (u : jU) : kp cs u u := fun _ _ => rfl
theorem kp.tr {cs : List Nat} {u v w : jU} (h : kp cs u v) (h2 : kp cs v w) : kp cs u w := fun c hc => (h2 c hc).trans (h c hc)
theorem kp_up {cs : List Nat} (u : jU) {c : Nat} (i : Nat) (x : Int32) (h : c ∈ cs) : kp cs u (up u c i x) := fun c' hc => up_rows u i x (fun e => hc (e ▸ h))
theorem kp_fill {cs : List Nat} (u : jU) {c : Nat} (n : Nat) (h : c ∈ cs) : kp cs u (pFill u c n) := fun c' hc => by
  funext j
  have : c' ≠ c := fun e => hc (e ▸ h)
  simp [pFill, this]
theorem only6.kp {cs : List Nat} {u v : jU} (h : only6 u v) (h6 : 6 ∈ cs) : kp cs u v := fun c hc => h c (fun e => hc (e ▸ h6))
theorem wfV_of {u v : jU} (h : wfV u) (e : v 6 = u 6) : wfV v := by
  intro t ht
  have := h t ht
  rw [← e] at this
  exact this
theorem wfM.ofc {u v : jU} (h : wfM u) (e12 : v 12 = u 12) (e16 : v 16 = u 16) (e17 : v 17 = u 17) (e18 : v 18 = u 18) (e19 : v 19 = u 19) (hv : wfV v) : wfM v := by
  refine ⟨fun i hi => ?_, fun j hj => ?_, hv⟩
  · have := h.1 i hi
    unfold wfS at this ⊢
    rw [e12]; exact this
  · have := h.2.1 j hj
    unfold wfA at this ⊢
    rw [e16, e17, e18, e19]; exact this
/-- the house in its bounds: at most eight relations, at most sixteen rules -/
def wfH (u : jU) : Prop := wfM u ∧ inN (u 0 0) 9 ∧ inN (u 0 1) 17
theorem wfH.kp {cs : List Nat} {u v : jU} (h : wfH u) (hk : kp cs u v) (hc : ∀ c ∈ [0, 12, 16, 17, 18, 19], c ∉ cs) (hv : wfV v) : wfH v := by
  refine ⟨h.1.ofc (hk 12 (hc _ (by decide))) (hk 16 (hc _ (by decide))) (hk 17 (hc _ (by decide))) (hk 18 (hc _ (by decide))) (hk 19 (hc _ (by decide))) hv, ?_, ?_⟩
  · rw [hk 0 (hc _ (by decide))]; exact h.2.1
  · rw [hk 0 (hc _ (by decide))]; exact h.2.2
def itN (f : Nat → jU → jU) : Nat → jU → jU
  | 0, u => u
  | n + 1, u => f n (itN f n u)
theorem itN_0 (f : Nat → jU → jU) (u : jU) : itN f 0 u = u := rfl
theorem itN_s (f : Nat → jU → jU) (n : Nat) (u : jU) : itN f (n + 1) u = f n (itN f n u) := rfl
theorem itN_inv {f : Nat → jU → jU} {P : jU → Prop} {u : jU} (h0 : P u) : ∀ n, (∀ q w, q < n → P w → P (f q w)) → P (itN f n u) := by
  intro n
  induction n with
  | zero => intro _; exact h0
  | succ n ih => intro hs; exact hs n _ (by omega) (ih (fun q w hq => hs q w (by omega)))
theorem nI_row (row q : Nat) : nI row * 12 + nI q = nI (row * 12 + q) := by
  show nI row * nI 12 + nI q = _
  rw [pk_mul, nI_add]
theorem in_rowN {r : Int32} (hr : inN r 8) (a : Nat) : r * 12 + nI a = nI (tn r * 12 + a) := by
  have h := nI_row (tn r) a
  rw [← hr.1] at h
  exact h
theorem in_fact {r : Int32} (hr : inN r 8) (a b : Nat) : (r * 12 + nI a) * 12 + nI b = nI ((tn r * 12 + a) * 12 + b) := by
  rw [in_rowN hr, nI_row]
def pUns (u : jU) : Nat → Nat → Int32
  | 0, _ => -1
  | d + 1, i => if b2i (pSafe u i) = 0 then nI i else pUns u d (i + 1)
def pRs (u : jU) : Nat → Int32 × jU
  | 0 => (0, u)
  | i + 1 => if pLeast (pRs u i).2 i (tn ((pRs u i).2 12 i)) ≤ (pRs u i).2 3 (tn ((pRs u i).2 16 (5 * i))) then pRs u i else (1, up (pRs u i).2 3 (tn ((pRs u i).2 16 (5 * i))) (pLeast (pRs u i).2 i (tn ((pRs u i).2 12 i))))
theorem pRs_kp (u : jU) : ∀ n, kp [3] u (pRs u n).2 := by
  intro n
  induction n with
  | zero => exact kp.rf _ u
  | succ n ih =>
    unfold pRs
    split
    · exact ih
    · exact ih.tr (kp_up _ _ _ (by decide))
theorem pRs_01 (u : jU) : ∀ n, (pRs u n).1 = 0 ∨ (pRs u n).1 = 1 := by
  intro n
  induction n with
  | zero => exact Or.inl rfl
  | succ n ih =>
    unfold pRs
    split
    · exact ih
    · exact Or.inr rfl
def pFL : Nat → jU → Bool × jU
  | 0, u => (false, u)
  | n + 1, u => if (pRs u (tn (u 0 1))).1 = 0 then (true, (pRs u (tn (u 0 1))).2) else pFL n (pRs u (tn (u 0 1))).2
theorem pFL_kp : ∀ (n : Nat) (u : jU), kp [3] u (pFL n u).2 := by
  intro n
  induction n with
  | zero => intro u; exact kp.rf _ u
  | succ n ih =>
    intro u
    unfold pFL
    split
    · exact pRs_kp u _
    · exact (pRs_kp u _).tr (ih _)
def pLayers (u : jU) : Bool × jU := pFL 8 (pFill u 3 8)
def pJudge1 (u : jU) : jU := up u 0 2 (pUns u (tn (u 0 1)) 0)
def pJudge (u : jU) : jU :=
  if u 0 3 = 0 then
    (if pJudge1 u 0 2 = -1 then (if b2i (pLayers (pJudge1 u)).1 = 0 then up (up (pLayers (pJudge1 u)).2 0 2 100) 0 3 1 else up (pLayers (pJudge1 u)).2 0 3 1) else up (pJudge1 u) 0 3 1)
  else u
def pTop (u : jU) : Nat → Int32
  | 0 => 0
  | i + 1 => if pTop u i < u 3 i then u 3 i else pTop u i
def pRG (row q : Nat) (w : jU) : jU := up w 4 (row * 12 + q) (if b2i (hb (w 2 row) (nI q)) = 0 then -1 else 0)
def pRow (row : Nat) (w : jU) : jU := itN (pRG row) 12 w
def pRankGiven (u : jU) : jU := itN pRow 96 u
def pLk (r : Nat) (lim : Int32) (a b : Nat) (w : jU) : jU := if w 4 ((r * 12 + a) * 12 + b) = -1 then w else if lim ≤ w 4 ((r * 12 + a) * 12 + b) then w else pShow w (nI r) (nI a) (nI b)
def pLk1 (r : Nat) (lim : Int32) (a : Nat) (w : jU) : jU := itN (pLk r lim a) 12 w
def pLookAt (r : Nat) (lim : Int32) (u : jU) : jU := itN (pLk1 r lim) 12 u
def pLook1 (ly lim : Int32) (i : Nat) (w : jU) : jU := if ly < w 3 i then w else if ly ≤ w 3 i then pLookAt i lim w else pLookAt i 2147483647 w
def pLook (ly lim : Int32) (u : jU) : jU := itN (pLook1 ly lim) (tn (u 0 0)) (pBlind u)
theorem pShow_kp (u : jU) (r a b : Int32) : kp [7, 8, 9, 10, 11] u (pShow u r a b) := by
  have h4 : kp [7, 8, 9, 10, 11] u (pS4 u r a b) := (kp_up u _ _ (by decide)).tr ((kp_up _ _ _ (by decide)).tr ((kp_up _ _ _ (by decide)).tr (kp_up _ _ _ (by decide))))
  unfold pShow
  split
  · exact h4.tr (kp_up _ _ _ (by decide))
  · exact h4
theorem pBlind_kp (u : jU) : kp [7, 8, 9, 10, 11] u (pBlind u) := (kp_fill u _ (by decide)).tr ((kp_fill _ _ (by decide)).tr ((kp_fill _ _ (by decide)).tr ((kp_fill _ _ (by decide)).tr (kp_fill _ _ (by decide)))))
theorem pLookAt_kp (r : Nat) (lim : Int32) (u : jU) : kp [7, 8, 9, 10, 11] u (pLookAt r lim u) := by
  refine itN_inv (P := fun w => kp [7, 8, 9, 10, 11] u w) (kp.rf _ u) 12 (fun a w _ hw => ?_)
  refine itN_inv (P := fun w => kp [7, 8, 9, 10, 11] u w) hw 12 (fun b v _ hv => ?_)
  unfold pLk
  split
  · exact hv
  · split
    · exact hv
    · exact hv.tr (pShow_kp _ _ _ _)
theorem pLook1_kp (ly lim : Int32) (i : Nat) (w : jU) : kp [7, 8, 9, 10, 11] w (pLook1 ly lim i w) := by
  unfold pLook1
  split
  · exact kp.rf _ w
  · split
    · exact pLookAt_kp _ _ _
    · exact pLookAt_kp _ _ _
end
section
set_option maxHeartbeats 4000000 in
set_option maxRecDepth 100000 in
theorem k_first (l : Launch) (dC : Nat → ClassId) (dI : Nat → Nat → Nat) (g k : Nat → Nat) (tl : List (ClassId × FieldType)) (u : jU) (r a : Int32) (hr8 : inN r 8) : jMet l y_H_firstOf (.code y_H_firstOf c_H_firstOf 3 (some .int)) ({ frames := 0, cells := 0, slots := 0, locals := 0 }) (dC, dI) jcl (ctys k tl) jTs [.ref (g 0), .int r, .int a] (cw g k u) 0 0 (jRet (some (.int (pFst u r a))) (cw g k u)) := by
  refine jMet.of (by decide) (Nat.le_of_ble_eq_true rfl) ?_
  intro p e s m below meth c A hC hex hr hnm htr
  show jJ p l e ({ frames := 0, cells := 0, slots := 0, locals := 0 }) s m [.ref (g 0), .int r, .int a].toArray below meth c 3 (dC, dI) jcl A (hxQ below (jQ (dC, dI) jcl (jRet (some (.int (pFst u r a))) (cw g k u)) A) [.ref (g 0), .int r, .int a].toArray s 0 0 A) 0 0 (cw g k u) [(0, .ref (g 0)), (1, .int r), (2, .int a)] [] 0
  refine j_aload_n hC d_H_firstOf_0 rfl 0 rfl ?_
  refine j_get hC hin_H (0) (cw_house g k u) rfl 0 (by decide) (hC.2.2.2.2.1 _ wf_H_11) (fun _ h9 => h9) rfl d_H_firstOf_1 ?_
  refine j_iload_n hC d_H_firstOf_4 rfl 1 rfl ?_
  refine j_ialdN hC (1) 0 (cw_places g k u) rfl (n := tn r) (hr8.1) (hr8.2) (by decide) d_H_firstOf_5 ?_
  refine j_iconst (v := 1) hC d_H_firstOf_6 (by decide) ?_
  refine j_icmp_lt (tgt := 14) hC d_H_firstOf_7 (by decide) (fun h7 => ?_) (fun h7 => ?_)
  · refine j_iconst (v := 0) hC d_H_firstOf_14 (by decide) ?_
    exact j_iret hC hr ⟨rfl, congrArg (fun z => some (Value.int z)) ((if_pos h7).symm), rfl⟩ d_H_firstOf_15
  · refine j_iload_n hC d_H_firstOf_10 rfl 2 rfl ?_
    refine j_goto (tgt := 15) hC d_H_firstOf_11 (by decide) ?_
    exact j_iret hC hr ⟨rfl, congrArg (fun z => some (Value.int z)) ((if_neg h7).symm), rfl⟩ d_H_firstOf_15

set_option maxHeartbeats 4000000 in
set_option maxRecDepth 100000 in
theorem k_second (l : Launch) (dC : Nat → ClassId) (dI : Nat → Nat → Nat) (g k : Nat → Nat) (tl : List (ClassId × FieldType)) (u : jU) (r b : Int32) (hr8 : inN r 8) : jMet l y_H_secondOf (.code y_H_secondOf c_H_secondOf 3 (some .int)) ({ frames := 0, cells := 0, slots := 0, locals := 0 }) (dC, dI) jcl (ctys k tl) jTs [.ref (g 0), .int r, .int b] (cw g k u) 0 0 (jRet (some (.int (pSnd u r b))) (cw g k u)) := by
  refine jMet.of (by decide) (Nat.le_of_ble_eq_true rfl) ?_
  intro p e s m below meth c A hC hex hr hnm htr
  show jJ p l e ({ frames := 0, cells := 0, slots := 0, locals := 0 }) s m [.ref (g 0), .int r, .int b].toArray below meth c 3 (dC, dI) jcl A (hxQ below (jQ (dC, dI) jcl (jRet (some (.int (pSnd u r b))) (cw g k u)) A) [.ref (g 0), .int r, .int b].toArray s 0 0 A) 0 0 (cw g k u) [(0, .ref (g 0)), (1, .int r), (2, .int b)] [] 0
  refine j_aload_n hC d_H_secondOf_0 rfl 0 rfl ?_
  refine j_get hC hin_H (0) (cw_house g k u) rfl 0 (by decide) (hC.2.2.2.2.1 _ wf_H_11) (fun _ h9 => h9) rfl d_H_secondOf_1 ?_
  refine j_iload_n hC d_H_secondOf_4 rfl 1 rfl ?_
  refine j_ialdN hC (1) 0 (cw_places g k u) rfl (n := tn r) (hr8.1) (hr8.2) (by decide) d_H_secondOf_5 ?_
  refine j_iconst (v := 2) hC d_H_secondOf_6 (by decide) ?_
  refine j_icmp_lt (tgt := 14) hC d_H_secondOf_7 (by decide) (fun h7 => ?_) (fun h7 => ?_)
  · refine j_iconst (v := 0) hC d_H_secondOf_14 (by decide) ?_
    exact j_iret hC hr ⟨rfl, congrArg (fun z => some (Value.int z)) ((if_pos h7).symm), rfl⟩ d_H_secondOf_15
  · refine j_iload_n hC d_H_secondOf_10 rfl 2 rfl ?_
    refine j_goto (tgt := 15) hC d_H_secondOf_11 (by decide) ?_
    exact j_iret hC hr ⟨rfl, congrArg (fun z => some (Value.int z)) ((if_neg h7).symm), rfl⟩ d_H_secondOf_15

set_option maxHeartbeats 4000000 in
set_option maxRecDepth 100000 in
theorem k_con (l : Launch) (dC : Nat → ClassId) (dI : Nat → Nat → Nat) (g k : Nat → Nat) (tl : List (ClassId × FieldType)) (u : jU) (x : Int32) : jMet l y_H_isConstant (.code y_H_isConstant c_H_isConstant 1 (some .boolean)) ({ frames := 0, cells := 0, slots := 0, locals := 0 }) (dC, dI) jcl (ctys k tl) jTs [.int x] (cw g k u) 0 0 (jRet (some (.int (b2i (pCon x)))) (cw g k u)) := by
  refine jMet.of (by decide) (Nat.le_of_ble_eq_true rfl) ?_
  intro p e s m below meth c A hC hex hr hnm htr
  show jJ p l e ({ frames := 0, cells := 0, slots := 0, locals := 0 }) s m [.int x].toArray below meth c 1 (dC, dI) jcl A (hxQ below (jQ (dC, dI) jcl (jRet (some (.int (b2i (pCon x)))) (cw g k u)) A) [.int x].toArray s 0 0 A) 0 0 (cw g k u) [(0, .int x)] [] 0
  refine j_iload_n hC d_H_isConstant_0 rfl 0 rfl ?_
  refine j_if_lt (tgt := 14) hC d_H_isConstant_1 (by decide) (fun h1 => ?_) (fun h1 => ?_)
  · refine j_iconst (v := 0) hC d_H_isConstant_14 (by decide) ?_
    exact j_zret hC hr (rfl) ⟨rfl, congrArg (fun z => some (Value.int z)) (by simp [pCon, b2i, h1]), rfl⟩ d_H_isConstant_15
  · refine j_iload_n hC d_H_isConstant_4 rfl 0 rfl ?_
    refine j_bipush (v := 12) hC d_H_isConstant_5 (by decide) ?_
    refine j_icmp_ge (tgt := 14) hC d_H_isConstant_7 (by decide) (fun h7 => ?_) (fun h7 => ?_)
    · refine j_iconst (v := 0) hC d_H_isConstant_14 (by decide) ?_
      exact j_zret hC hr (rfl) ⟨rfl, congrArg (fun z => some (Value.int z)) (by simp [pCon, b2i, h1, h7]), rfl⟩ d_H_isConstant_15
    · refine j_iconst (v := 1) hC d_H_isConstant_10 (by decide) ?_
      refine j_goto (tgt := 15) hC d_H_isConstant_11 (by decide) ?_
      exact j_zret hC hr (rfl) ⟨rfl, congrArg (fun z => some (Value.int z)) (by simp [pCon, b2i, h1, h7]), rfl⟩ d_H_isConstant_15

set_option maxHeartbeats 4000000 in
set_option maxRecDepth 100000 in
theorem k_term (l : Launch) (dC : Nat → ClassId) (dI : Nat → Nat → Nat) (g k : Nat → Nat) (tl : List (ClassId × FieldType)) (u : jU) (x : Int32) : jMet l y_H_isTerm (.code y_H_isTerm c_H_isTerm 1 (some .boolean)) ({ frames := 1, cells := 0, slots := 0, locals := 20 }) (dC, dI) jcl (ctys k tl) jTs [.int x] (cw g k u) 0 0 (jRet (some (.int (b2i (pTerm x)))) (cw g k u)) := by
  refine jMet.of (by decide) (Nat.le_of_ble_eq_true rfl) ?_
  intro p e s m below meth c A hC hex hr hnm htr
  show jJ p l e ({ frames := 1, cells := 0, slots := 0, locals := 20 }) s m [.int x].toArray below meth c 1 (dC, dI) jcl A (hxQ below (jQ (dC, dI) jcl (jRet (some (.int (b2i (pTerm x)))) (cw g k u)) A) [.int x].toArray s 0 0 A) 0 0 (cw g k u) [(0, .int x)] [] 0
  refine j_iload_n hC d_H_isTerm_0 rfl 0 rfl ?_
  refine j_callSr (As := [.int x]) (rest := []) (st1 := [.int (b2i (pCon x))]) hC (k_con l dC dI g k tl u x) rfl rfl ww_H_156 yn_H_isConstant rfl d_H_isTerm_1 (Nat.le_of_ble_eq_true rfl) (by decide) ⟨Nat.zero_le _, Nat.zero_le _⟩ rfl ?_
  refine j_if_ne (tgt := 19) hC d_H_isTerm_4 (by decide) (fun h4 => ?_) (fun h4 => ?_)
  · refine j_iconst (v := 1) hC d_H_isTerm_19 (by decide) ?_
    refine j_goto (tgt := 24) hC d_H_isTerm_20 (by decide) ?_
    exact j_zret hC hr (rfl) ⟨rfl, congrArg (fun z => some (Value.int z)) (by have e9 : pTerm x = true := (by unfold pTerm; simp only [decide_eq_true_eq, decide_eq_false_iff_not]; first | exact Or.inl h4 | (have := h4; simp_all)); rw [e9]; rfl), rfl⟩ d_H_isTerm_24
  · refine j_iload_n hC d_H_isTerm_7 rfl 0 rfl ?_
    refine j_bipush (v := 20) hC d_H_isTerm_8 (by decide) ?_
    refine j_icmp_lt (tgt := 23) hC d_H_isTerm_10 (by decide) (fun h10 => ?_) (fun h10 => ?_)
    · refine j_iconst (v := 0) hC d_H_isTerm_23 (by decide) ?_
      exact j_zret hC hr (rfl) ⟨rfl, congrArg (fun z => some (Value.int z)) (by have e9 : pTerm x = false := (by unfold pTerm; simp only [decide_eq_true_eq, decide_eq_false_iff_not]; first | exact Or.inl h4 | (have := h10; simp_all)); rw [e9]; rfl), rfl⟩ d_H_isTerm_24
    · refine j_iload_n hC d_H_isTerm_13 rfl 0 rfl ?_
      refine j_bipush (v := 24) hC d_H_isTerm_14 (by decide) ?_
      refine j_icmp_ge (tgt := 23) hC d_H_isTerm_16 (by decide) (fun h16 => ?_) (fun h16 => ?_)
      · refine j_iconst (v := 0) hC d_H_isTerm_23 (by decide) ?_
        exact j_zret hC hr (rfl) ⟨rfl, congrArg (fun z => some (Value.int z)) (by have e9 : pTerm x = false := (by unfold pTerm; simp only [decide_eq_true_eq, decide_eq_false_iff_not]; first | exact Or.inl h4 | (have := h16; simp_all)); rw [e9]; rfl), rfl⟩ d_H_isTerm_24
      · refine j_iconst (v := 1) hC d_H_isTerm_19 (by decide) ?_
        refine j_goto (tgt := 24) hC d_H_isTerm_20 (by decide) ?_
        exact j_zret hC hr (rfl) ⟨rfl, congrArg (fun z => some (Value.int z)) (by have e9 : pTerm x = true := (by unfold pTerm; simp only [decide_eq_true_eq, decide_eq_false_iff_not]; first | exact Or.inl h4 | (have := h16; simp_all)); rw [e9]; rfl), rfl⟩ d_H_isTerm_24

set_option maxHeartbeats 4000000 in
set_option maxRecDepth 100000 in
theorem k_factAt (l : Launch) (dC : Nat → ClassId) (dI : Nat → Nat → Nat) (g k : Nat → Nat) (tl : List (ClassId × FieldType)) (u : jU) (r a b : Int32) : jMet l y_H_factAt (.code y_H_factAt c_H_factAt 3 (some .int)) ({ frames := 1, cells := 0, slots := 0, locals := 21 }) (dC, dI) jcl (ctys k tl) jTs [.int r, .int a, .int b] (cw g k u) 0 0 (jRet (some (.int ((r * 12 + a) * 12 + b))) (cw g k u)) := by
  refine jMet.of (by decide) (Nat.le_of_ble_eq_true rfl) ?_
  intro p e s m below meth c A hC hex hr hnm htr
  show jJ p l e ({ frames := 1, cells := 0, slots := 0, locals := 21 }) s m [.int r, .int a, .int b].toArray below meth c 3 (dC, dI) jcl A (hxQ below (jQ (dC, dI) jcl (jRet (some (.int ((r * 12 + a) * 12 + b))) (cw g k u)) A) [.int r, .int a, .int b].toArray s 0 0 A) 0 0 (cw g k u) [(0, .int r), (1, .int a), (2, .int b)] [] 0
  refine j_iload_n hC d_H_factAt_0 rfl 0 rfl ?_
  refine j_iload_n hC d_H_factAt_1 rfl 1 rfl ?_
  refine j_callSr (As := [.int r, .int a]) (rest := []) (st1 := [.int (r * 12 + a)]) hC (k_rowAt l dC dI g k tl u r a) rfl rfl ww_H_174 yn_H_rowAt rfl d_H_factAt_2 (Nat.le_of_ble_eq_true rfl) (by decide) ⟨Nat.zero_le _, Nat.zero_le _⟩ rfl ?_
  refine j_bipush (v := 12) hC d_H_factAt_5 (by decide) ?_
  refine j_imul hC d_H_factAt_7 ?_
  refine j_iload_n hC d_H_factAt_8 rfl 2 rfl ?_
  refine j_iadd hC d_H_factAt_9 ?_
  exact j_iret hC hr ⟨rfl, rfl, rfl⟩ d_H_factAt_10

set_option maxHeartbeats 4000000 in
set_option maxRecDepth 100000 in
theorem k_stale (l : Launch) (dC : Nat → ClassId) (dI : Nat → Nat → Nat) (g k : Nat → Nat) (tl : List (ClassId × FieldType)) (u : jU)  : jMet l y_H_rulesChanged (.code y_H_rulesChanged c_H_rulesChanged 1 none) ({ frames := 0, cells := 0, slots := 0, locals := 0 }) (dC, dI) jcl (ctys k tl) jTs [.ref (g 0)] (cw g k u) 0 0 (jRet none (cw g k (pStale u))) := by
  refine jMet.of (by decide) (Nat.le_of_ble_eq_true rfl) ?_
  intro p e s m below meth c A hC hex hr hnm htr
  show jJ p l e ({ frames := 0, cells := 0, slots := 0, locals := 0 }) s m [.ref (g 0)].toArray below meth c 1 (dC, dI) jcl A (hxQ below (jQ (dC, dI) jcl (jRet none (cw g k (pStale u))) A) [.ref (g 0)].toArray s 0 0 A) 0 0 (cw g k u) [(0, .ref (g 0))] [] 0
  refine j_aload_n hC d_H_rulesChanged_0 rfl 0 rfl ?_
  refine j_iconst (v := 0) hC d_H_rulesChanged_1 (by decide) ?_
  refine j_put (ty := .boolean) (ws' := cw g k (up u 0 3 0)) hC hin_H tyX4 tyX4_ok nmX4 (0) (cw_house g k u) rfl 10 (by decide) (hC.2.2.2.2.1 _ wf_H_177) (fun _ h9 => h9) rfl (by decide +kernel) (rfl) (rfl) (Nat.le_of_ble_eq_true rfl) (cw_set_judged g k u 0) d_H_rulesChanged_2 ?_
  refine j_aload_n hC d_H_rulesChanged_5 rfl 0 rfl ?_
  refine j_iconst (v := 0) hC d_H_rulesChanged_6 (by decide) ?_
  refine j_put (ty := .boolean) (ws' := cw g k (up (up u 0 3 0) 0 4 0)) hC hin_H tyX4 tyX4_ok nmX4 (0) (cw_house g k (up u 0 3 0)) rfl 11 (by decide) (hC.2.2.2.2.1 _ wf_H_181) (fun _ h9 => h9) rfl (by decide +kernel) (rfl) (rfl) (Nat.le_of_ble_eq_true rfl) (cw_set_settled g k (up u 0 3 0) 0) d_H_rulesChanged_7 ?_
  exact j_vret hC hr ⟨rfl, rfl, rfl⟩ d_H_rulesChanged_10

set_option maxHeartbeats 4000000 in
set_option maxRecDepth 100000 in
theorem k_unsafe (l : Launch) (dC : Nat → ClassId) (dI : Nat → Nat → Nat) (g k : Nat → Nat) (tl : List (ClassId × FieldType)) (u : jU) (hH : wfH u) : jMet l y_H_firstUnsafe (.code y_H_firstUnsafe c_H_firstUnsafe 2 (some .int)) ({ frames := 1, cells := 0, slots := 0, locals := 20 }) (dC, dI) jcl (ctys k tl) jTs [.ref (g 0)] (cw g k u) 0 0 (jRet (some (.int (pUns u (tn (u 0 1)) 0))) (cw g k u)) := by
  refine jMet.of (by decide) (Nat.le_of_ble_eq_true rfl) ?_
  intro p e s m below meth c A hC hex hr hnm htr
  show jJ p l e ({ frames := 1, cells := 0, slots := 0, locals := 20 }) s m [.ref (g 0)].toArray below meth c 2 (dC, dI) jcl A (hxQ below (jQ (dC, dI) jcl (jRet (some (.int (pUns u (tn (u 0 1)) 0))) (cw g k u)) A) [.ref (g 0)].toArray s 0 0 A) 0 0 (cw g k u) [(0, .ref (g 0))] [] 0
  have hk17 := hH.2.2
  have hk := hk17.2
  have loop : ∀ (n i : Nat), i ≤ tn (u 0 1) → tn (u 0 1) < i + n → pUns u (tn (u 0 1) - i) i = pUns u (tn (u 0 1)) 0 → jJ p l e ({ frames := 1, cells := 0, slots := 0, locals := 20 }) s m [.ref (g 0)].toArray below meth c 2 (dC, dI) jcl A (hxQ below (jQ (dC, dI) jcl (jRet (some (.int (pUns u (tn (u 0 1)) 0))) (cw g k u)) A) [.ref (g 0)].toArray s 0 0 A) 0 0 (cw g k u) [(0, .ref (g 0)), (1, .int (nI i))] [] 2 := by
    intro n
    induction n with
    | zero => intro i h1 h2; exact absurd h2 (by omega)
    | succ n ih =>
      intro i hi hn hinv
      refine j_iload_n hC d_H_firstUnsafe_2 rfl 1 rfl ?_
      refine j_aload_n hC d_H_firstUnsafe_3 rfl 0 rfl ?_
      refine j_get hC hin_H (0) (cw_house g k u) rfl 4 (by decide) (hC.2.2.2.2.1 _ wf_H_54) (fun _ h9 => h9) rfl d_H_firstUnsafe_4 ?_
      refine j_icmp_ge (tgt := 30) hC d_H_firstUnsafe_7 (by decide) (fun h7 => ?_) (fun h7 => ?_)
      · have hge : tn (u 0 1) ≤ i := (inN_leN hk17 (by decide) (by omega)).mp h7
        have hie : tn (u 0 1) - i = 0 := by omega
        refine j_iconst (v := -1) hC d_H_firstUnsafe_30 (by decide) ?_
        exact j_iret hC hr ⟨rfl, congrArg (fun z => some (Value.int z)) (by rw [← hinv, hie]; rfl), rfl⟩ d_H_firstUnsafe_31
      · have hlt : i < tn (u 0 1) := Nat.not_le.mp (fun z => h7 ((inN_leN hk17 (by decide) (by omega)).mpr z))
        have hi16 : i < 16 := by omega
        have e12 : pUns u (tn (u 0 1) - i) i = pUns u ((tn (u 0 1) - (i + 1)) + 1) i := by rw [show tn (u 0 1) - i = (tn (u 0 1) - (i + 1)) + 1 by omega]
        refine j_aload_n hC d_H_firstUnsafe_10 rfl 0 rfl ?_
        refine j_get hC hin_H (0) (cw_house g k u) rfl 2 (by decide) (hC.2.2.2.2.1 _ wf_H_20) (fun _ h9 => h9) rfl d_H_firstUnsafe_11 ?_
        refine j_iload_n hC d_H_firstUnsafe_14 rfl 1 rfl ?_
        refine j_aaldN (v := g (15 + i)) hC (3) 2 (cw_rules g k u) rfl (n := i) (rfl) (hi16) (by decide) (if_pos (hi16)) d_H_firstUnsafe_15 ?_
        refine j_callNr (As := []) (rest := []) (st1 := [.int (b2i (pSafe u i))]) hC (k_safe l dC dI g k tl u (i := i) hi16) rfl rfl ww_H_195 yn_R_isSafe (cw_rule g k u (by omega)) rfl rfl d_H_firstUnsafe_16 (Nat.le_of_ble_eq_true rfl) (by decide) ⟨Nat.zero_le _, Nat.zero_le _⟩ rfl ?_
        refine j_if_ne (tgt := 24) hC d_H_firstUnsafe_19 (by decide) (fun h19 => ?_) (fun h19 => ?_)
        · refine j_iinc (lv' := [(0, .ref (g 0)), (1, .int (nI (i + 1)))]) hC d_H_firstUnsafe_24 1 rfl (nI_1 _) (by decide) rfl rfl ?_
          refine j_goto (tgt := 2) hC d_H_firstUnsafe_27 (by decide) ?_
          exact ih (i + 1) (by omega) (by omega) (by rw [← hinv, e12, pUns, if_neg h19])
        · refine j_iload_n hC d_H_firstUnsafe_22 rfl 1 rfl ?_
          exact j_iret hC hr ⟨rfl, congrArg (fun z => some (Value.int z)) (by rw [← hinv, e12, pUns, if_pos h19]), rfl⟩ d_H_firstUnsafe_23
  refine j_iconst (v := 0) hC d_H_firstUnsafe_0 (by decide) ?_
  refine j_istore_n (lv' := [(0, .ref (g 0)), (1, .int 0)]) hC d_H_firstUnsafe_1 rfl (by decide) rfl rfl ?_
  exact loop 18 0 (by omega) (by omega) rfl

set_option maxHeartbeats 4000000 in
set_option maxRecDepth 100000 in
theorem k_raise (l : Launch) (dC : Nat → ClassId) (dI : Nat → Nat → Nat) (g k : Nat → Nat) (tl : List (ClassId × FieldType)) (u : jU) (hH : wfH u) : jMet l y_H_raiseLayers (.code y_H_raiseLayers c_H_raiseLayers 5 (some .boolean)) ({ frames := 2, cells := 0, slots := 0, locals := 37 }) (dC, dI) jcl (ctys k tl) jTs [.ref (g 0)] (cw g k u) 0 0 (jRet (some (.int ((pRs u (tn (u 0 1))).1))) (cw g k ((pRs u (tn (u 0 1))).2))) := by
  refine jMet.of (by decide) (Nat.le_of_ble_eq_true rfl) ?_
  intro p e s m below meth c A hC hex hr hnm htr
  show jJ p l e ({ frames := 2, cells := 0, slots := 0, locals := 37 }) s m [.ref (g 0)].toArray below meth c 5 (dC, dI) jcl A (hxQ below (jQ (dC, dI) jcl (jRet (some (.int ((pRs u (tn (u 0 1))).1))) (cw g k ((pRs u (tn (u 0 1))).2))) A) [.ref (g 0)].toArray s 0 0 A) 0 0 (cw g k u) [(0, .ref (g 0))] [] 0
  have hk17 := hH.2.2
  have hk := hk17.2
  have loop : ∀ (n i : Nat), i ≤ tn (u 0 1) → tn (u 0 1) < i + n → jJ p l e ({ frames := 2, cells := 0, slots := 0, locals := 37 }) s m [.ref (g 0)].toArray below meth c 5 (dC, dI) jcl A (hxQ below (jQ (dC, dI) jcl (jRet (some (.int ((pRs u (tn (u 0 1))).1))) (cw g k ((pRs u (tn (u 0 1))).2))) A) [.ref (g 0)].toArray s 0 0 A) 0 0 (cw g k (pRs u i).2) [(0, .ref (g 0)), (1, .int ((pRs u i).1)), (2, .int (nI i))] [] 4 := by
    intro n
    induction n with
    | zero => intro i h1 h2; exact absurd h2 (by omega)
    | succ n ih =>
      intro i hi hn
      have hks := pRs_kp u i
      have hHs : wfH (pRs u i).2 := hH.kp hks (by decide) (wfV_of hH.1.2.2 (hks 6 (by decide)))
      have hMs := hHs.1
      have hk0 : (pRs u i).2 0 1 = u 0 1 := by rw [hks 0 (by decide)]
      refine j_iload_n hC d_H_raiseLayers_4 rfl 2 rfl ?_
      refine j_aload_n hC d_H_raiseLayers_5 rfl 0 rfl ?_
      refine j_get hC hin_H (0) (cw_house g k ((pRs u i).2)) rfl 4 (by decide) (hC.2.2.2.2.1 _ wf_H_54) (fun _ h9 => h9) rfl d_H_raiseLayers_6 ?_
      refine j_icmp_ge (tgt := 67) hC d_H_raiseLayers_9 (by decide) (fun h9 => ?_) (fun h9 => ?_)
      · have hge : tn (u 0 1) ≤ i := (inN_leN hk17 (by decide) (by omega)).mp (by rw [← hk0]; exact h9)
        have hie : i = tn (u 0 1) := by omega
        refine j_iload_n hC d_H_raiseLayers_67 rfl 1 rfl ?_
        exact j_zret hC hr (z01_n (pRs_01 u i)) (by rw [hie]; exact ⟨rfl, rfl, rfl⟩) d_H_raiseLayers_68
      · have hlt : i < tn (u 0 1) := Nat.not_le.mp (fun z => h9 (by rw [hk0]; exact (inN_leN hk17 (by decide) (by omega)).mpr z))
        have hi16 : i < 16 := by omega
        refine j_aload_n hC d_H_raiseLayers_12 rfl 0 rfl ?_
        refine j_get hC hin_H (0) (cw_house g k ((pRs u i).2)) rfl 2 (by decide) (hC.2.2.2.2.1 _ wf_H_20) (fun _ h9 => h9) rfl d_H_raiseLayers_13 ?_
        refine j_iload_n hC d_H_raiseLayers_16 rfl 2 rfl ?_
        refine j_aaldN (v := g (15 + i)) hC (3) 2 (cw_rules g k ((pRs u i).2)) rfl (n := i) (rfl) (hi16) (by decide) (if_pos (hi16)) d_H_raiseLayers_17 ?_
        refine j_getN hC hin_R (15 + i) (cw_rule g k ((pRs u i).2) (by omega)) rfl 0 (by decide) (hC.2.2.2.2.1 _ wf_H_201) (fun _ h9 => h9) rfl d_H_raiseLayers_18 ?_
        refine j_getN hC hin_A (47 + (5 * i)) (cw_atom g k ((pRs u i).2) (j := 5 * i) (by omega)) rfl 0 (by decide) (hC.2.2.2.2.1 _ wf_H_205) (fun _ h9 => h9) rfl d_H_raiseLayers_21 ?_
        refine j_istore_n (lv' := [(0, .ref (g 0)), (1, .int ((pRs u i).1)), (2, .int (nI i)), (3, .int (((pRs u i).2) 16 (5 * i)))]) hC d_H_raiseLayers_24 rfl (by decide) rfl rfl ?_
        refine j_aload_n hC d_H_raiseLayers_25 rfl 0 rfl ?_
        refine j_get hC hin_H (0) (cw_house g k ((pRs u i).2)) rfl 2 (by decide) (hC.2.2.2.2.1 _ wf_H_20) (fun _ h9 => h9) rfl d_H_raiseLayers_26 ?_
        refine j_iload_n hC d_H_raiseLayers_29 rfl 2 rfl ?_
        refine j_aaldN (v := g (15 + i)) hC (3) 2 (cw_rules g k ((pRs u i).2)) rfl (n := i) (rfl) (hi16) (by decide) (if_pos (hi16)) d_H_raiseLayers_30 ?_
        refine j_aload_n hC d_H_raiseLayers_31 rfl 0 rfl ?_
        refine j_get hC hin_H (0) (cw_house g k ((pRs u i).2)) rfl 5 (by decide) (hC.2.2.2.2.1 _ wf_H_24) (fun _ h9 => h9) rfl d_H_raiseLayers_32 ?_
        refine j_callNr (As := [.ref (g 4)]) (rest := []) (st1 := [.int (pLeast ((pRs u i).2) i (tn (((pRs u i).2) 12 i)))]) hC (k_least l dC dI g k tl ((pRs u i).2) (i := i) hi16 hMs) rfl rfl ww_H_210 yn_R_leastLayer (cw_rule g k ((pRs u i).2) (by omega)) rfl rfl d_H_raiseLayers_35 (Nat.le_of_ble_eq_true rfl) (by decide) ⟨Nat.zero_le _, Nat.zero_le _⟩ rfl ?_
        refine j_istore (lv' := [(0, .ref (g 0)), (1, .int ((pRs u i).1)), (2, .int (nI i)), (3, .int (((pRs u i).2) 16 (5 * i))), (4, .int (pLeast ((pRs u i).2) i (tn (((pRs u i).2) 12 i))))]) hC d_H_raiseLayers_38 (by decide) rfl rfl ?_
        refine j_aload_n hC d_H_raiseLayers_40 rfl 0 rfl ?_
        refine j_get hC hin_H (0) (cw_house g k ((pRs u i).2)) rfl 5 (by decide) (hC.2.2.2.2.1 _ wf_H_24) (fun _ h9 => h9) rfl d_H_raiseLayers_41 ?_
        refine j_iload_n hC d_H_raiseLayers_44 rfl 3 rfl ?_
        refine j_ialdN hC (4) 0 (cw_layers g k ((pRs u i).2)) rfl (n := tn ((pRs u i).2 16 (5 * i))) ((hMs.2.1 (5 * i) (by omega)).1.1) ((hMs.2.1 (5 * i) (by omega)).1.2) (by decide) d_H_raiseLayers_45 ?_
        refine j_iload hC d_H_raiseLayers_46 4 rfl ?_
        refine j_icmp_ge (tgt := 61) hC d_H_raiseLayers_48 (by decide) (fun h48 => ?_) (fun h48 => ?_)
        · refine j_iinc (lv' := [(0, .ref (g 0)), (1, .int ((pRs u i).1)), (2, .int (nI (i + 1))), (3, .int (((pRs u i).2) 16 (5 * i))), (4, .int (pLeast ((pRs u i).2) i (tn (((pRs u i).2) 12 i))))]) hC d_H_raiseLayers_61 2 rfl (nI_1 _) (by decide) rfl rfl ?_
          refine j_goto (tgt := 4) hC d_H_raiseLayers_64 (by decide) ?_
          have e9 : pRs u (i + 1) = (pRs u i) := if_pos h48
          have k9 := ih (i + 1) (by omega) (by omega)
          rw [e9] at k9
          exact j_locals [0, 1, 2] rfl k9
        · refine j_aload_n hC d_H_raiseLayers_51 rfl 0 rfl ?_
          refine j_get hC hin_H (0) (cw_house g k ((pRs u i).2)) rfl 5 (by decide) (hC.2.2.2.2.1 _ wf_H_24) (fun _ h9 => h9) rfl d_H_raiseLayers_52 ?_
          refine j_iload_n hC d_H_raiseLayers_55 rfl 3 rfl ?_
          refine j_iload hC d_H_raiseLayers_56 4 rfl ?_
          refine j_iastN (ws' := cw g k (up ((pRs u i).2) 3 (tn ((pRs u i).2 16 (5 * i))) (pLeast ((pRs u i).2) i (tn (((pRs u i).2) 12 i))))) hC (4) 0 (cw_layers g k ((pRs u i).2)) rfl (n := tn ((pRs u i).2 16 (5 * i))) ((hMs.2.1 (5 * i) (by omega)).1.1) ((hMs.2.1 (5 * i) (by omega)).1.2) (by decide) (cw_set_layers g k ((pRs u i).2) (tn ((pRs u i).2 16 (5 * i))) (pLeast ((pRs u i).2) i (tn (((pRs u i).2) 12 i)))) d_H_raiseLayers_58 ?_
          refine j_iconst (v := 1) hC d_H_raiseLayers_59 (by decide) ?_
          refine j_istore_n (lv' := [(0, .ref (g 0)), (1, .int 1), (2, .int (nI i)), (3, .int (((pRs u i).2) 16 (5 * i))), (4, .int (pLeast ((pRs u i).2) i (tn (((pRs u i).2) 12 i))))]) hC d_H_raiseLayers_60 rfl (by decide) rfl rfl ?_
          refine j_iinc (lv' := [(0, .ref (g 0)), (1, .int 1), (2, .int (nI (i + 1))), (3, .int (((pRs u i).2) 16 (5 * i))), (4, .int (pLeast ((pRs u i).2) i (tn (((pRs u i).2) 12 i))))]) hC d_H_raiseLayers_61 2 rfl (nI_1 _) (by decide) rfl rfl ?_
          refine j_goto (tgt := 4) hC d_H_raiseLayers_64 (by decide) ?_
          have e9 : pRs u (i + 1) = (1, up ((pRs u i).2) 3 (tn ((pRs u i).2 16 (5 * i))) (pLeast ((pRs u i).2) i (tn (((pRs u i).2) 12 i)))) := if_neg h48
          have k9 := ih (i + 1) (by omega) (by omega)
          rw [e9] at k9
          exact j_locals [0, 1, 2] rfl k9
  refine j_iconst (v := 0) hC d_H_raiseLayers_0 (by decide) ?_
  refine j_istore_n (lv' := [(0, .ref (g 0)), (1, .int 0)]) hC d_H_raiseLayers_1 rfl (by decide) rfl rfl ?_
  refine j_iconst (v := 0) hC d_H_raiseLayers_2 (by decide) ?_
  refine j_istore_n (lv' := [(0, .ref (g 0)), (1, .int 0), (2, .int 0)]) hC d_H_raiseLayers_3 rfl (by decide) rfl rfl ?_
  exact loop 18 0 (by omega) (by omega)

set_option maxHeartbeats 4000000 in
set_option maxRecDepth 100000 in
theorem k_layers (l : Launch) (dC : Nat → ClassId) (dI : Nat → Nat → Nat) (g k : Nat → Nat) (tl : List (ClassId × FieldType)) (u : jU) (hH : wfH u) : jMet l y_H_findLayers (.code y_H_findLayers c_H_findLayers 2 (some .boolean)) ({ frames := 3, cells := 0, slots := 0, locals := 61 }) (dC, dI) jcl (ctys k tl) jTs [.ref (g 0)] (cw g k u) 0 0 (jRet (some (.int (b2i (pLayers u).1))) (cw g k ((pLayers u).2))) := by
  refine jMet.of (by decide) (Nat.le_of_ble_eq_true rfl) ?_
  intro p e s m below meth c A hC hex hr hnm htr
  show jJ p l e ({ frames := 3, cells := 0, slots := 0, locals := 61 }) s m [.ref (g 0)].toArray below meth c 2 (dC, dI) jcl A (hxQ below (jQ (dC, dI) jcl (jRet (some (.int (b2i (pLayers u).1))) (cw g k ((pLayers u).2))) A) [.ref (g 0)].toArray s 0 0 A) 0 0 (cw g k u) [(0, .ref (g 0))] [] 0
  have loop : ∀ (n q : Nat) (v : jU), q ≤ 8 → 8 < q + n → kp [3] u v → pFL (8 - q) v = pFL 8 (pFill u 3 8) → jJ p l e ({ frames := 3, cells := 0, slots := 0, locals := 61 }) s m [.ref (g 0)].toArray below meth c 2 (dC, dI) jcl A (hxQ below (jQ (dC, dI) jcl (jRet (some (.int (b2i (pLayers u).1))) (cw g k ((pLayers u).2))) A) [.ref (g 0)].toArray s 0 0 A) 0 0 (cw g k v) [(0, .ref (g 0)), (1, .int (nI q))] [] 10 := by
    intro n
    induction n with
    | zero => intro q v h1 h2; exact absurd h2 (by omega)
    | succ n ih =>
      intro q v hq hn hkv hinv
      refine j_iload_n hC d_H_findLayers_10 rfl 1 rfl ?_
      refine j_bipush (v := 8) hC d_H_findLayers_11 (by decide) ?_
      refine j_icmp_ge (tgt := 31) hC d_H_findLayers_13 (by decide) (fun h13 => ?_) (fun h13 => ?_)
      · have hge : 8 ≤ q := (nI_leI (a := 8) (by decide) (by omega)).mp h13
        have hqe : 8 - q = 0 := by omega
        refine j_iconst (v := 0) hC d_H_findLayers_31 (by decide) ?_
        exact j_zret hC hr (rfl) (by rw [pLayers, ← hinv, hqe]; exact ⟨rfl, rfl, rfl⟩) d_H_findLayers_32
      · have hlt : q < 8 := Nat.not_le.mp (fun z => h13 ((nI_leI (a := 8) (by decide) (by omega)).mpr z))
        have e12 : pFL (8 - q) v = pFL ((8 - (q + 1)) + 1) v := by rw [show 8 - q = (8 - (q + 1)) + 1 by omega]
        refine j_aload_n hC d_H_findLayers_16 rfl 0 rfl ?_
        refine j_callVr (As := []) (rest := []) (st1 := [.int ((pRs v (tn (v 0 1))).1)]) hC (k_raise l dC dI g k tl v (hH.kp hkv (by decide) (wfV_of hH.1.2.2 (hkv 6 (by decide))))) rfl rfl ww_H_198 yn_H_raiseLayers (cw_house g k v) rfl rfl d_H_findLayers_17 (Nat.le_of_ble_eq_true rfl) (by decide) ⟨Nat.zero_le _, Nat.zero_le _⟩ rfl ?_
        refine j_if_ne (tgt := 25) hC d_H_findLayers_20 (by decide) (fun h20 => ?_) (fun h20 => ?_)
        · refine j_iinc (lv' := [(0, .ref (g 0)), (1, .int (nI (q + 1)))]) hC d_H_findLayers_25 1 rfl (nI_1 _) (by decide) rfl rfl ?_
          refine j_goto (tgt := 10) hC d_H_findLayers_28 (by decide) ?_
          exact ih (q + 1) (pRs v (tn (v 0 1))).2 (by omega) (by omega) (hkv.tr (pRs_kp v _)) (by rw [← hinv, e12, pFL, if_neg h20])
        · refine j_iconst (v := 1) hC d_H_findLayers_23 (by decide) ?_
          exact j_zret hC hr (rfl) (by rw [pLayers, ← hinv, e12, pFL, if_pos h20]; exact ⟨rfl, rfl, rfl⟩) d_H_findLayers_24
  refine j_aload_n hC d_H_findLayers_0 rfl 0 rfl ?_
  refine j_get hC hin_H (0) (cw_house g k u) rfl 5 (by decide) (hC.2.2.2.2.1 _ wf_H_24) (fun _ h9 => h9) rfl d_H_findLayers_1 ?_
  refine j_iconst (v := 0) hC d_H_findLayers_4 (by decide) ?_
  refine j_callSr (As := [.ref (g 4), .int 0]) (rest := []) (st1 := []) hC (k_fill_layers l dC dI g k tl u) rfl rfl ww_H_45 yn_Arrays_fill rfl d_H_findLayers_5 (Nat.le_of_ble_eq_true rfl) (by decide) ⟨Nat.zero_le _, Nat.zero_le _⟩ rfl ?_
  refine j_iconst (v := 0) hC d_H_findLayers_8 (by decide) ?_
  refine j_istore_n (lv' := [(0, .ref (g 0)), (1, .int 0)]) hC d_H_findLayers_9 rfl (by decide) rfl rfl ?_
  exact loop 9 0 (pFill u 3 8) (by omega) (by omega) (kp_fill u 8 (by decide)) rfl

set_option maxHeartbeats 4000000 in
set_option maxRecDepth 100000 in
theorem k_judge (l : Launch) (dC : Nat → ClassId) (dI : Nat → Nat → Nat) (g k : Nat → Nat) (tl : List (ClassId × FieldType)) (u : jU) (hH : wfH u) : jMet l y_H_judge (.code y_H_judge c_H_judge 1 none) ({ frames := 4, cells := 0, slots := 0, locals := 82 }) (dC, dI) jcl (ctys k tl) jTs [.ref (g 0)] (cw g k u) 0 0 (jRet none (cw g k (pJudge u))) := by
  refine jMet.of (by decide) (Nat.le_of_ble_eq_true rfl) ?_
  intro p e s m below meth c A hC hex hr hnm htr
  show jJ p l e ({ frames := 4, cells := 0, slots := 0, locals := 82 }) s m [.ref (g 0)].toArray below meth c 1 (dC, dI) jcl A (hxQ below (jQ (dC, dI) jcl (jRet none (cw g k (pJudge u))) A) [.ref (g 0)].toArray s 0 0 A) 0 0 (cw g k u) [(0, .ref (g 0))] [] 0
  have hH1 : wfH (pJudge1 u) := ⟨hH.1.ofc rfl rfl rfl rfl rfl hH.1.2.2, hH.2.1, hH.2.2⟩
  refine j_aload_n hC d_H_judge_0 rfl 0 rfl ?_
  refine j_get hC hin_H (0) (cw_house g k u) rfl 10 (by decide) (hC.2.2.2.2.1 _ wf_H_177) (fun _ h9 => h9) rfl d_H_judge_1 ?_
  refine j_if_eq (tgt := 8) hC d_H_judge_4 (by decide) (fun h4 => ?_) (fun h4 => ?_)
  · refine j_aload_n hC d_H_judge_8 rfl 0 rfl ?_
    refine j_aload_n hC d_H_judge_9 rfl 0 rfl ?_
    refine j_callVr (As := []) (rest := [.ref (g 0)]) (st1 := [.int (pUns u (tn (u 0 1)) 0), .ref (g 0)]) hC (k_unsafe l dC dI g k tl u hH) rfl rfl ww_H_188 yn_H_firstUnsafe (cw_house g k u) rfl rfl d_H_judge_10 (Nat.le_of_ble_eq_true rfl) (by decide) ⟨Nat.zero_le _, Nat.zero_le _⟩ rfl ?_
    refine j_put (ty := .int) (ws' := cw g k (up u 0 2 (pUns u (tn (u 0 1)) 0))) hC hin_H tyX4 tyX4_ok nmX4 (0) (cw_house g k u) rfl 9 (by decide) (hC.2.2.2.2.1 _ wf_H_40) (fun _ h9 => h9) rfl (by decide +kernel) (rfl) (rfl) (Nat.le_of_ble_eq_true rfl) (cw_set_faultFound g k u (pUns u (tn (u 0 1)) 0)) d_H_judge_13 ?_
    refine j_aload_n hC d_H_judge_16 rfl 0 rfl ?_
    refine j_get hC hin_H (0) (cw_house g k (pJudge1 u)) rfl 9 (by decide) (hC.2.2.2.2.1 _ wf_H_40) (fun _ h9 => h9) rfl d_H_judge_17 ?_
    refine j_iconst (v := -1) hC d_H_judge_20 (by decide) ?_
    refine j_icmp_ne (tgt := 37) hC d_H_judge_21 (by decide) (fun h21 => ?_) (fun h21 => ?_)
    · refine j_aload_n hC d_H_judge_37 rfl 0 rfl ?_
      refine j_iconst (v := 1) hC d_H_judge_38 (by decide) ?_
      refine j_put (ty := .boolean) (ws' := cw g k (up (pJudge1 u) 0 3 1)) hC hin_H tyX4 tyX4_ok nmX4 (0) (cw_house g k (pJudge1 u)) rfl 10 (by decide) (hC.2.2.2.2.1 _ wf_H_177) (fun _ h9 => h9) rfl (by decide +kernel) (rfl) (rfl) (Nat.le_of_ble_eq_true rfl) (cw_set_judged g k (pJudge1 u) 1) d_H_judge_39 ?_
      exact j_vret hC hr ⟨rfl, rfl, congrArg (cw g k) (by rw [pJudge, if_pos h4, if_neg h21] <;> rfl)⟩ d_H_judge_42
    · refine j_aload_n hC d_H_judge_24 rfl 0 rfl ?_
      refine j_callVr (As := []) (rest := []) (st1 := [.int (b2i (pLayers (pJudge1 u)).1)]) hC (k_layers l dC dI g k tl (pJudge1 u) hH1) rfl rfl ww_H_192 yn_H_findLayers (cw_house g k (pJudge1 u)) rfl rfl d_H_judge_25 (Nat.le_of_ble_eq_true rfl) (by decide) ⟨Nat.zero_le _, Nat.zero_le _⟩ rfl ?_
      refine j_if_ne (tgt := 37) hC d_H_judge_28 (by decide) (fun h28 => ?_) (fun h28 => ?_)
      · refine j_aload_n hC d_H_judge_37 rfl 0 rfl ?_
        refine j_iconst (v := 1) hC d_H_judge_38 (by decide) ?_
        refine j_put (ty := .boolean) (ws' := cw g k (up ((pLayers (pJudge1 u)).2) 0 3 1)) hC hin_H tyX4 tyX4_ok nmX4 (0) (cw_house g k ((pLayers (pJudge1 u)).2)) rfl 10 (by decide) (hC.2.2.2.2.1 _ wf_H_177) (fun _ h9 => h9) rfl (by decide +kernel) (rfl) (rfl) (Nat.le_of_ble_eq_true rfl) (cw_set_judged g k ((pLayers (pJudge1 u)).2) 1) d_H_judge_39 ?_
        exact j_vret hC hr ⟨rfl, rfl, congrArg (cw g k) (by rw [pJudge, if_pos h4, if_pos h21, if_neg h28] <;> rfl)⟩ d_H_judge_42
      · refine j_aload_n hC d_H_judge_31 rfl 0 rfl ?_
        refine j_bipush (v := 100) hC d_H_judge_32 (by decide) ?_
        refine j_put (ty := .int) (ws' := cw g k (up ((pLayers (pJudge1 u)).2) 0 2 100)) hC hin_H tyX4 tyX4_ok nmX4 (0) (cw_house g k ((pLayers (pJudge1 u)).2)) rfl 9 (by decide) (hC.2.2.2.2.1 _ wf_H_40) (fun _ h9 => h9) rfl (by decide +kernel) (rfl) (rfl) (Nat.le_of_ble_eq_true rfl) (cw_set_faultFound g k ((pLayers (pJudge1 u)).2) 100) d_H_judge_34 ?_
        refine j_aload_n hC d_H_judge_37 rfl 0 rfl ?_
        refine j_iconst (v := 1) hC d_H_judge_38 (by decide) ?_
        refine j_put (ty := .boolean) (ws' := cw g k (up (up ((pLayers (pJudge1 u)).2) 0 2 100) 0 3 1)) hC hin_H tyX4 tyX4_ok nmX4 (0) (cw_house g k (up ((pLayers (pJudge1 u)).2) 0 2 100)) rfl 10 (by decide) (hC.2.2.2.2.1 _ wf_H_177) (fun _ h9 => h9) rfl (by decide +kernel) (rfl) (rfl) (Nat.le_of_ble_eq_true rfl) (cw_set_judged g k (up ((pLayers (pJudge1 u)).2) 0 2 100) 1) d_H_judge_39 ?_
        exact j_vret hC hr ⟨rfl, rfl, congrArg (cw g k) (by rw [pJudge, if_pos h4, if_pos h21, if_pos h28] <;> rfl)⟩ d_H_judge_42
  · exact j_vret hC hr ⟨rfl, rfl, congrArg (cw g k) (if_neg h4).symm⟩ d_H_judge_7

set_option maxHeartbeats 4000000 in
set_option maxRecDepth 100000 in
theorem k_top (l : Launch) (dC : Nat → ClassId) (dI : Nat → Nat → Nat) (g k : Nat → Nat) (tl : List (ClassId × FieldType)) (u : jU) (hH : wfH u) : jMet l y_H_topLayer (.code y_H_topLayer c_H_topLayer 3 (some .int)) ({ frames := 1, cells := 0, slots := 0, locals := 13 }) (dC, dI) jcl (ctys k tl) jTs [.ref (g 0)] (cw g k u) 0 0 (jRet (some (.int (pTop u (tn (u 0 0))))) (cw g k u)) := by
  refine jMet.of (by decide) (Nat.le_of_ble_eq_true rfl) ?_
  intro p e s m below meth c A hC hex hr hnm htr
  show jJ p l e ({ frames := 1, cells := 0, slots := 0, locals := 13 }) s m [.ref (g 0)].toArray below meth c 3 (dC, dI) jcl A (hxQ below (jQ (dC, dI) jcl (jRet (some (.int (pTop u (tn (u 0 0))))) (cw g k u)) A) [.ref (g 0)].toArray s 0 0 A) 0 0 (cw g k u) [(0, .ref (g 0))] [] 0
  have hk9 := hH.2.1
  have hk := hk9.2
  have loop : ∀ (n i : Nat), i ≤ tn (u 0 0) → tn (u 0 0) < i + n → jJ p l e ({ frames := 1, cells := 0, slots := 0, locals := 13 }) s m [.ref (g 0)].toArray below meth c 3 (dC, dI) jcl A (hxQ below (jQ (dC, dI) jcl (jRet (some (.int (pTop u (tn (u 0 0))))) (cw g k u)) A) [.ref (g 0)].toArray s 0 0 A) 0 0 (cw g k u) [(0, .ref (g 0)), (1, .int (pTop u i)), (2, .int (nI i))] [] 4 := by
    intro n
    induction n with
    | zero => intro i h1 h2; exact absurd h2 (by omega)
    | succ n ih =>
      intro i hi hn
      refine j_iload_n hC d_H_topLayer_4 rfl 2 rfl ?_
      refine j_aload_n hC d_H_topLayer_5 rfl 0 rfl ?_
      refine j_get hC hin_H (0) (cw_house g k u) rfl 3 (by decide) (hC.2.2.2.2.1 _ wf_H_51) (fun _ h9 => h9) rfl d_H_topLayer_6 ?_
      refine j_icmp_ge (tgt := 29) hC d_H_topLayer_9 (by decide) (fun h9 => ?_) (fun h9 => ?_)
      · have hge : tn (u 0 0) ≤ i := (inN_leN hk9 (by decide) (by omega)).mp h9
        have hie : i = tn (u 0 0) := by omega
        refine j_iload_n hC d_H_topLayer_29 rfl 1 rfl ?_
        exact j_iret hC hr ⟨rfl, congrArg (fun z => some (Value.int z)) (by rw [hie]), rfl⟩ d_H_topLayer_30
      · have hlt : i < tn (u 0 0) := Nat.not_le.mp (fun z => h9 ((inN_leN hk9 (by decide) (by omega)).mpr z))
        refine j_iload_n hC d_H_topLayer_12 rfl 1 rfl ?_
        refine j_aload_n hC d_H_topLayer_13 rfl 0 rfl ?_
        refine j_get hC hin_H (0) (cw_house g k u) rfl 5 (by decide) (hC.2.2.2.2.1 _ wf_H_24) (fun _ h9 => h9) rfl d_H_topLayer_14 ?_
        refine j_iload_n hC d_H_topLayer_17 rfl 2 rfl ?_
        refine j_ialdN hC (4) 0 (cw_layers g k u) rfl (n := i) (rfl) (by omega) (by decide) d_H_topLayer_18 ?_
        refine j_mmax hC wm_H d_H_topLayer_19 (by decide) (Nat.le_of_ble_eq_true rfl) ⟨Nat.zero_le _, Nat.zero_le _⟩ ?_
        refine j_istore_n (lv' := [(0, .ref (g 0)), (1, .int (if pTop u i < u 3 i then u 3 i else pTop u i)), (2, .int (nI i))]) hC d_H_topLayer_22 rfl (by decide) rfl rfl ?_
        refine j_iinc (lv' := [(0, .ref (g 0)), (1, .int (if pTop u i < u 3 i then u 3 i else pTop u i)), (2, .int (nI (i + 1)))]) hC d_H_topLayer_23 2 rfl (nI_1 _) (by decide) rfl rfl ?_
        refine j_goto (tgt := 4) hC d_H_topLayer_26 (by decide) ?_
        exact ih (i + 1) (by omega) (by omega)
  refine j_iconst (v := 0) hC d_H_topLayer_0 (by decide) ?_
  refine j_istore_n (lv' := [(0, .ref (g 0)), (1, .int 0)]) hC d_H_topLayer_1 rfl (by decide) rfl rfl ?_
  refine j_iconst (v := 0) hC d_H_topLayer_2 (by decide) ?_
  refine j_istore_n (lv' := [(0, .ref (g 0)), (1, .int 0), (2, .int 0)]) hC d_H_topLayer_3 rfl (by decide) rfl rfl ?_
  exact loop 10 0 (by omega) (by omega)
end
section
set_option maxHeartbeats 4000000 in
set_option maxRecDepth 100000 in
theorem k_rankGiven (l : Launch) (dC : Nat → ClassId) (dI : Nat → Nat → Nat) (g k : Nat → Nat) (tl : List (ClassId × FieldType)) (u : jU)  : jMet l y_H_rankGiven (.code y_H_rankGiven c_H_rankGiven 3 none) ({ frames := 1, cells := 0, slots := 0, locals := 21 }) (dC, dI) jcl (ctys k tl) jTs [.ref (g 0)] (cw g k u) 0 0 (jRet none (cw g k (pRankGiven u))) := by
  refine jMet.of (by decide) (Nat.le_of_ble_eq_true rfl) ?_
  intro p e s m below meth c A hC hex hr hnm htr
  show jJ p l e ({ frames := 1, cells := 0, slots := 0, locals := 21 }) s m [.ref (g 0)].toArray below meth c 3 (dC, dI) jcl A (hxQ below (jQ (dC, dI) jcl (jRet none (cw g k (pRankGiven u))) A) [.ref (g 0)].toArray s 0 0 A) 0 0 (cw g k u) [(0, .ref (g 0))] [] 0
  have inner : ∀ (row : Nat), row < 96 → ∀ (w : jU), jJ p l e ({ frames := 1, cells := 0, slots := 0, locals := 21 }) s m [.ref (g 0)].toArray below meth c 3 (dC, dI) jcl A (hxQ below (jQ (dC, dI) jcl (jRet none (cw g k (pRankGiven u))) A) [.ref (g 0)].toArray s 0 0 A) 0 0 (cw g k (itN (pRG row) 12 w)) [(0, .ref (g 0)), (1, .int (nI row))] [] 51 → ∀ (n q : Nat), q ≤ 12 → 12 < q + n → jJ p l e ({ frames := 1, cells := 0, slots := 0, locals := 21 }) s m [.ref (g 0)].toArray below meth c 3 (dC, dI) jcl A (hxQ below (jQ (dC, dI) jcl (jRet none (cw g k (pRankGiven u))) A) [.ref (g 0)].toArray s 0 0 A) 0 0 (cw g k (itN (pRG row) q w)) [(0, .ref (g 0)), (1, .int (nI row)), (2, .int (nI q))] [] 10 := by
    intro row hrow w hk n
    induction n with
    | zero => intro q h1 h2; exact absurd h2 (by omega)
    | succ n ih =>
      intro q hq hn
      refine j_iload_n hC d_H_rankGiven_10 rfl 2 rfl ?_
      refine j_bipush (v := 12) hC d_H_rankGiven_11 (by decide) ?_
      refine j_icmp_ge (tgt := 51) hC d_H_rankGiven_13 (by decide) (fun h13 => ?_) (fun h13 => ?_)
      · have hge : 12 ≤ q := (nI_leI (a := 12) (by decide) (by omega)).mp h13
        have hqe : q = 12 := by omega
        subst hqe
        exact j_locals [0, 1] rfl hk
      · have hlt : q < 12 := Nat.not_le.mp (fun z => h13 ((nI_leI (a := 12) (by decide) (by omega)).mpr z))
        refine j_aload_n hC d_H_rankGiven_16 rfl 0 rfl ?_
        refine j_get hC hin_H (0) (cw_house g k (itN (pRG row) q w)) rfl 6 (by decide) (hC.2.2.2.2.1 _ wf_H_27) (fun _ h9 => h9) rfl d_H_rankGiven_17 ?_
        refine j_iload_n hC d_H_rankGiven_20 rfl 1 rfl ?_
        refine j_bipush (v := 12) hC d_H_rankGiven_21 (by decide) ?_
        refine j_imul hC d_H_rankGiven_23 ?_
        refine j_iload_n hC d_H_rankGiven_24 rfl 2 rfl ?_
        refine j_iadd hC d_H_rankGiven_25 ?_
        refine j_aload_n hC d_H_rankGiven_26 rfl 0 rfl ?_
        refine j_get hC hin_H (0) (cw_house g k (itN (pRG row) q w)) rfl 1 (by decide) (hC.2.2.2.2.1 _ wf_H_15) (fun _ h9 => h9) rfl d_H_rankGiven_27 ?_
        refine j_iload_n hC d_H_rankGiven_30 rfl 1 rfl ?_
        refine j_ialdN hC (2) 0 (cw_given g k (itN (pRG row) q w)) rfl (n := row) (rfl) (hrow) (by decide) d_H_rankGiven_31 ?_
        refine j_iload_n hC d_H_rankGiven_32 rfl 2 rfl ?_
        refine j_callSr (As := [.int ((itN (pRG row) q w) 2 row), .int (nI q)]) (rest := [.int (((nI row) * 12) + (nI q)), .ref (g 5)]) (st1 := [.int (b2i (hb ((itN (pRG row) q w) 2 row) (nI q))), .int (((nI row) * 12) + (nI q)), .ref (g 5)]) hC (k_hasBit l dC dI g k tl (itN (pRG row) q w) ((itN (pRG row) q w) 2 row) (nI q)) rfl rfl ww_H_184 yn_H_hasBit rfl d_H_rankGiven_33 (Nat.le_of_ble_eq_true rfl) (by decide) ⟨Nat.zero_le _, Nat.zero_le _⟩ rfl ?_
        refine j_if_eq (tgt := 43) hC d_H_rankGiven_36 (by decide) (fun h36 => ?_) (fun h36 => ?_)
        · refine j_iconst (v := -1) hC d_H_rankGiven_43 (by decide) ?_
          refine j_iastN (ws' := cw g k (up (itN (pRG row) q w) 4 (row * 12 + q) (-1))) hC (5) 0 (cw_ranks g k (itN (pRG row) q w)) rfl (n := row * 12 + q) (nI_row row q) (by omega) (by decide) (cw_set_ranks g k (itN (pRG row) q w) (row * 12 + q) (-1)) d_H_rankGiven_44 ?_
          refine j_iinc (lv' := [(0, .ref (g 0)), (1, .int (nI row)), (2, .int (nI (q + 1)))]) hC d_H_rankGiven_45 2 rfl (nI_1 _) (by decide) rfl rfl ?_
          refine j_goto (tgt := 10) hC d_H_rankGiven_48 (by decide) ?_
          have e9 : itN (pRG row) (q + 1) w = up (itN (pRG row) q w) 4 (row * 12 + q) (-1) := by rw [itN_s, pRG, if_pos h36]
          have k9 := ih (q + 1) (by omega) (by omega)
          rw [e9] at k9
          exact k9
        · refine j_iconst (v := 0) hC d_H_rankGiven_39 (by decide) ?_
          refine j_goto (tgt := 44) hC d_H_rankGiven_40 (by decide) ?_
          refine j_iastN (ws' := cw g k (up (itN (pRG row) q w) 4 (row * 12 + q) 0)) hC (5) 0 (cw_ranks g k (itN (pRG row) q w)) rfl (n := row * 12 + q) (nI_row row q) (by omega) (by decide) (cw_set_ranks g k (itN (pRG row) q w) (row * 12 + q) 0) d_H_rankGiven_44 ?_
          refine j_iinc (lv' := [(0, .ref (g 0)), (1, .int (nI row)), (2, .int (nI (q + 1)))]) hC d_H_rankGiven_45 2 rfl (nI_1 _) (by decide) rfl rfl ?_
          refine j_goto (tgt := 10) hC d_H_rankGiven_48 (by decide) ?_
          have e9 : itN (pRG row) (q + 1) w = up (itN (pRG row) q w) 4 (row * 12 + q) 0 := by rw [itN_s, pRG, if_neg h36]
          have k9 := ih (q + 1) (by omega) (by omega)
          rw [e9] at k9
          exact k9
  have outer : ∀ (n row : Nat), row ≤ 96 → 96 < row + n → jJ p l e ({ frames := 1, cells := 0, slots := 0, locals := 21 }) s m [.ref (g 0)].toArray below meth c 3 (dC, dI) jcl A (hxQ below (jQ (dC, dI) jcl (jRet none (cw g k (pRankGiven u))) A) [.ref (g 0)].toArray s 0 0 A) 0 0 (cw g k (itN pRow row u)) [(0, .ref (g 0)), (1, .int (nI row))] [] 2 := by
    intro n
    induction n with
    | zero => intro row h1 h2; exact absurd h2 (by omega)
    | succ n ih =>
      intro row hrow hn
      refine j_iload_n hC d_H_rankGiven_2 rfl 1 rfl ?_
      refine j_bipush (v := 96) hC d_H_rankGiven_3 (by decide) ?_
      refine j_icmp_ge (tgt := 57) hC d_H_rankGiven_5 (by decide) (fun h5 => ?_) (fun h5 => ?_)
      · have hge : 96 ≤ row := (nI_leI (a := 96) (by decide) (by omega)).mp h5
        have hqe : row = 96 := by omega
        subst hqe
        exact j_vret hC hr ⟨rfl, rfl, rfl⟩ d_H_rankGiven_57
      · have hlt : row < 96 := Nat.not_le.mp (fun z => h5 ((nI_leI (a := 96) (by decide) (by omega)).mpr z))
        refine j_iconst (v := 0) hC d_H_rankGiven_8 (by decide) ?_
        refine j_istore_n (lv' := [(0, .ref (g 0)), (1, .int (nI row)), (2, .int 0)]) hC d_H_rankGiven_9 rfl (by decide) rfl rfl ?_
        rw [← itN_0 (pRG row) (itN pRow row u)]
        refine inner row hlt (itN pRow row u) ?_ 13 0 (by omega) (by omega)
        refine j_iinc (lv' := [(0, .ref (g 0)), (1, .int (nI (row + 1)))]) hC d_H_rankGiven_51 1 rfl (nI_1 _) (by decide) rfl rfl ?_
        refine j_goto (tgt := 2) hC d_H_rankGiven_54 (by decide) ?_
        have k9 := ih (row + 1) (by omega) (by omega)
        rw [itN_s, pRow] at k9
        exact k9
  refine j_iconst (v := 0) hC d_H_rankGiven_0 (by decide) ?_
  refine j_istore_n (lv' := [(0, .ref (g 0)), (1, .int 0)]) hC d_H_rankGiven_1 rfl (by decide) rfl rfl ?_
  exact outer 97 0 (by omega) (by omega)

set_option maxHeartbeats 4000000 in
set_option maxRecDepth 100000 in
theorem k_lookAt (l : Launch) (dC : Nat → ClassId) (dI : Nat → Nat → Nat) (g k : Nat → Nat) (tl : List (ClassId × FieldType)) (u : jU) {r : Nat} (hr8 : r < 8) (lim : Int32) : jMet l y_H_lookAt (.code y_H_lookAt c_H_lookAt 6 none) ({ frames := 2, cells := 0, slots := 0, locals := 44 }) (dC, dI) jcl (ctys k tl) jTs [.ref (g 0), .int (nI r), .int lim] (cw g k u) 0 0 (jRet none (cw g k (pLookAt r lim u))) := by
  refine jMet.of (by decide) (Nat.le_of_ble_eq_true rfl) ?_
  intro p e s m below meth c A hC hex hr hnm htr
  show jJ p l e ({ frames := 2, cells := 0, slots := 0, locals := 44 }) s m [.ref (g 0), .int (nI r), .int lim].toArray below meth c 6 (dC, dI) jcl A (hxQ below (jQ (dC, dI) jcl (jRet none (cw g k (pLookAt r lim u))) A) [.ref (g 0), .int (nI r), .int lim].toArray s 0 0 A) 0 0 (cw g k u) [(0, .ref (g 0)), (1, .int (nI r)), (2, .int lim)] [] 0
  have inner : ∀ (a : Nat), a < 12 → ∀ (w : jU), jJ p l e ({ frames := 2, cells := 0, slots := 0, locals := 44 }) s m [.ref (g 0), .int (nI r), .int lim].toArray below meth c 6 (dC, dI) jcl A (hxQ below (jQ (dC, dI) jcl (jRet none (cw g k (pLookAt r lim u))) A) [.ref (g 0), .int (nI r), .int lim].toArray s 0 0 A) 0 0 (cw g k (itN (pLk r lim a) 12 w)) [(0, .ref (g 0)), (1, .int (nI r)), (2, .int lim), (3, .int (nI a))] [] 64 → ∀ (n b : Nat), b ≤ 12 → 12 < b + n → jJ p l e ({ frames := 2, cells := 0, slots := 0, locals := 44 }) s m [.ref (g 0), .int (nI r), .int lim].toArray below meth c 6 (dC, dI) jcl A (hxQ below (jQ (dC, dI) jcl (jRet none (cw g k (pLookAt r lim u))) A) [.ref (g 0), .int (nI r), .int lim].toArray s 0 0 A) 0 0 (cw g k (itN (pLk r lim a) b w)) [(0, .ref (g 0)), (1, .int (nI r)), (2, .int lim), (3, .int (nI a)), (4, .int (nI b))] [] 11 := by
    intro a ha w hk n
    induction n with
    | zero => intro b h1 h2; exact absurd h2 (by omega)
    | succ n ih =>
      intro b hq hn
      refine j_iload hC d_H_lookAt_11 4 rfl ?_
      refine j_bipush (v := 12) hC d_H_lookAt_13 (by decide) ?_
      refine j_icmp_ge (tgt := 64) hC d_H_lookAt_15 (by decide) (fun h15 => ?_) (fun h15 => ?_)
      · have hge : 12 ≤ b := (nI_leI (a := 12) (by decide) (by omega)).mp h15
        have hqe : b = 12 := by omega
        subst hqe
        exact j_locals [0, 1, 2, 3] rfl hk
      · have hlt : b < 12 := Nat.not_le.mp (fun z => h15 ((nI_leI (a := 12) (by decide) (by omega)).mpr z))
        refine j_aload_n hC d_H_lookAt_18 rfl 0 rfl ?_
        refine j_get hC hin_H (0) (cw_house g k (itN (pLk r lim a) b w)) rfl 6 (by decide) (hC.2.2.2.2.1 _ wf_H_27) (fun _ h9 => h9) rfl d_H_lookAt_19 ?_
        refine j_iload_n hC d_H_lookAt_22 rfl 1 rfl ?_
        refine j_iload_n hC d_H_lookAt_23 rfl 3 rfl ?_
        refine j_iload hC d_H_lookAt_24 4 rfl ?_
        refine j_callSr (As := [.int (nI r), .int (nI a), .int (nI b)]) (rest := [.ref (g 5)]) (st1 := [.int ((nI r * 12 + nI a) * 12 + nI b), .ref (g 5)]) hC (k_factAt l dC dI g k tl (itN (pLk r lim a) b w) (nI r) (nI a) (nI b)) rfl rfl ww_H_124 yn_H_factAt rfl d_H_lookAt_26 (Nat.le_of_ble_eq_true rfl) (by decide) ⟨Nat.zero_le _, Nat.zero_le _⟩ rfl ?_
        refine j_ialdN hC (5) 0 (cw_ranks g k (itN (pLk r lim a) b w)) rfl (n := (r * 12 + a) * 12 + b) (by rw [nI_row, nI_row]) (by omega) (by decide) d_H_lookAt_29 ?_
        refine j_istore (lv' := [(0, .ref (g 0)), (1, .int (nI r)), (2, .int lim), (3, .int (nI a)), (4, .int (nI b)), (5, .int ((itN (pLk r lim a) b w) 4 ((r * 12 + a) * 12 + b)))]) hC d_H_lookAt_30 (by decide) rfl rfl ?_
        refine j_iload hC d_H_lookAt_32 5 rfl ?_
        refine j_iconst (v := -1) hC d_H_lookAt_34 (by decide) ?_
        refine j_icmp_eq (tgt := 58) hC d_H_lookAt_35 (by decide) (fun h35 => ?_) (fun h35 => ?_)
        · refine j_iinc (lv' := [(0, .ref (g 0)), (1, .int (nI r)), (2, .int lim), (3, .int (nI a)), (4, .int (nI (b + 1))), (5, .int ((itN (pLk r lim a) b w) 4 ((r * 12 + a) * 12 + b)))]) hC d_H_lookAt_58 4 rfl (nI_1 _) (by decide) rfl rfl ?_
          refine j_goto (tgt := 11) hC d_H_lookAt_61 (by decide) ?_
          have e9 : itN (pLk r lim a) (b + 1) w = itN (pLk r lim a) b w := by rw [itN_s, pLk, if_pos h35]
          have k9 := ih (b + 1) (by omega) (by omega)
          rw [e9] at k9
          exact j_locals [0, 1, 2, 3, 4] rfl k9
        · refine j_iload hC d_H_lookAt_38 5 rfl ?_
          refine j_iload_n hC d_H_lookAt_40 rfl 2 rfl ?_
          refine j_icmp_ge (tgt := 58) hC d_H_lookAt_41 (by decide) (fun h41 => ?_) (fun h41 => ?_)
          · refine j_iinc (lv' := [(0, .ref (g 0)), (1, .int (nI r)), (2, .int lim), (3, .int (nI a)), (4, .int (nI (b + 1))), (5, .int ((itN (pLk r lim a) b w) 4 ((r * 12 + a) * 12 + b)))]) hC d_H_lookAt_58 4 rfl (nI_1 _) (by decide) rfl rfl ?_
            refine j_goto (tgt := 11) hC d_H_lookAt_61 (by decide) ?_
            have e9 : itN (pLk r lim a) (b + 1) w = itN (pLk r lim a) b w := by rw [itN_s, pLk, if_neg h35, if_pos h41]
            have k9 := ih (b + 1) (by omega) (by omega)
            rw [e9] at k9
            exact j_locals [0, 1, 2, 3, 4] rfl k9
          · refine j_aload_n hC d_H_lookAt_44 rfl 0 rfl ?_
            refine j_get hC hin_H (0) (cw_house g k (itN (pLk r lim a) b w)) rfl 8 (by decide) (hC.2.2.2.2.1 _ wf_H_36) (fun _ h9 => h9) rfl d_H_lookAt_45 ?_
            refine j_getN hC hin_M (7) (cw_match g k (itN (pLk r lim a) b w)) rfl 0 (by decide) (hC.2.2.2.2.1 _ wf_H_247) (fun _ h9 => h9) rfl d_H_lookAt_48 ?_
            refine j_iload_n hC d_H_lookAt_51 rfl 1 rfl ?_
            refine j_iload_n hC d_H_lookAt_52 rfl 3 rfl ?_
            refine j_iload hC d_H_lookAt_53 4 rfl ?_
            refine j_callNr (As := [.int (nI r), .int (nI a), .int (nI b)]) (rest := []) (st1 := []) hC (k_show l dC dI g k tl (itN (pLk r lim a) b w) (nI r) (nI a) (nI b) (inN_nI hr8 (by decide)) (inN_nI ha (by decide)) (inN_nI hlt (by decide))) rfl rfl ww_H_266 yn_S_show (cw_sight g k (itN (pLk r lim a) b w)) rfl rfl d_H_lookAt_55 (Nat.le_of_ble_eq_true rfl) (by decide) ⟨Nat.zero_le _, Nat.zero_le _⟩ rfl ?_
            refine j_iinc (lv' := [(0, .ref (g 0)), (1, .int (nI r)), (2, .int lim), (3, .int (nI a)), (4, .int (nI (b + 1))), (5, .int ((itN (pLk r lim a) b w) 4 ((r * 12 + a) * 12 + b)))]) hC d_H_lookAt_58 4 rfl (nI_1 _) (by decide) rfl rfl ?_
            refine j_goto (tgt := 11) hC d_H_lookAt_61 (by decide) ?_
            have e9 : itN (pLk r lim a) (b + 1) w = pShow (itN (pLk r lim a) b w) (nI r) (nI a) (nI b) := by rw [itN_s, pLk, if_neg h35, if_neg h41]
            have k9 := ih (b + 1) (by omega) (by omega)
            rw [e9] at k9
            exact j_locals [0, 1, 2, 3, 4] rfl k9
  have outer : ∀ (n a : Nat), a ≤ 12 → 12 < a + n → jJ p l e ({ frames := 2, cells := 0, slots := 0, locals := 44 }) s m [.ref (g 0), .int (nI r), .int lim].toArray below meth c 6 (dC, dI) jcl A (hxQ below (jQ (dC, dI) jcl (jRet none (cw g k (pLookAt r lim u))) A) [.ref (g 0), .int (nI r), .int lim].toArray s 0 0 A) 0 0 (cw g k (itN (pLk1 r lim) a u)) [(0, .ref (g 0)), (1, .int (nI r)), (2, .int lim), (3, .int (nI a))] [] 2 := by
    intro n
    induction n with
    | zero => intro a h1 h2; exact absurd h2 (by omega)
    | succ n ih =>
      intro a hrow hn
      refine j_iload_n hC d_H_lookAt_2 rfl 3 rfl ?_
      refine j_bipush (v := 12) hC d_H_lookAt_3 (by decide) ?_
      refine j_icmp_ge (tgt := 70) hC d_H_lookAt_5 (by decide) (fun h5 => ?_) (fun h5 => ?_)
      · have hge : 12 ≤ a := (nI_leI (a := 12) (by decide) (by omega)).mp h5
        have hqe : a = 12 := by omega
        subst hqe
        exact j_vret hC hr ⟨rfl, rfl, rfl⟩ d_H_lookAt_70
      · have hlt : a < 12 := Nat.not_le.mp (fun z => h5 ((nI_leI (a := 12) (by decide) (by omega)).mpr z))
        refine j_iconst (v := 0) hC d_H_lookAt_8 (by decide) ?_
        refine j_istore (lv' := [(0, .ref (g 0)), (1, .int (nI r)), (2, .int lim), (3, .int (nI a)), (4, .int 0)]) hC d_H_lookAt_9 (by decide) rfl rfl ?_
        rw [← itN_0 (pLk r lim a) (itN (pLk1 r lim) a u)]
        refine inner a hlt (itN (pLk1 r lim) a u) ?_ 13 0 (by omega) (by omega)
        refine j_iinc (lv' := [(0, .ref (g 0)), (1, .int (nI r)), (2, .int lim), (3, .int (nI (a + 1)))]) hC d_H_lookAt_64 3 rfl (nI_1 _) (by decide) rfl rfl ?_
        refine j_goto (tgt := 2) hC d_H_lookAt_67 (by decide) ?_
        have k9 := ih (a + 1) (by omega) (by omega)
        rw [itN_s, pLk1] at k9
        exact k9
  refine j_iconst (v := 0) hC d_H_lookAt_0 (by decide) ?_
  refine j_istore_n (lv' := [(0, .ref (g 0)), (1, .int (nI r)), (2, .int lim), (3, .int 0)]) hC d_H_lookAt_1 rfl (by decide) rfl rfl ?_
  exact outer 13 0 (by omega) (by omega)

set_option maxHeartbeats 4000000 in
set_option maxRecDepth 100000 in
theorem k_look (l : Launch) (dC : Nat → ClassId) (dI : Nat → Nat → Nat) (g k : Nat → Nat) (tl : List (ClassId × FieldType)) (u : jU) (hH : wfH u) (ly lim : Int32) : jMet l y_H_look (.code y_H_look c_H_look 4 none) ({ frames := 3, cells := 0, slots := 0, locals := 69 }) (dC, dI) jcl (ctys k tl) jTs [.ref (g 0), .int ly, .int lim] (cw g k u) 0 0 (jRet none (cw g k (pLook ly lim u))) := by
  refine jMet.of (by decide) (Nat.le_of_ble_eq_true rfl) ?_
  intro p e s m below meth c A hC hex hr hnm htr
  show jJ p l e ({ frames := 3, cells := 0, slots := 0, locals := 69 }) s m [.ref (g 0), .int ly, .int lim].toArray below meth c 4 (dC, dI) jcl A (hxQ below (jQ (dC, dI) jcl (jRet none (cw g k (pLook ly lim u))) A) [.ref (g 0), .int ly, .int lim].toArray s 0 0 A) 0 0 (cw g k u) [(0, .ref (g 0)), (1, .int ly), (2, .int lim)] [] 0
  have hk9 := hH.2.1
  have hk := hk9.2
  have loop : ∀ (n i : Nat), i ≤ tn (u 0 0) → tn (u 0 0) < i + n → jJ p l e ({ frames := 3, cells := 0, slots := 0, locals := 69 }) s m [.ref (g 0), .int ly, .int lim].toArray below meth c 4 (dC, dI) jcl A (hxQ below (jQ (dC, dI) jcl (jRet none (cw g k (pLook ly lim u))) A) [.ref (g 0), .int ly, .int lim].toArray s 0 0 A) 0 0 (cw g k (itN (pLook1 ly lim) i (pBlind u))) [(0, .ref (g 0)), (1, .int ly), (2, .int lim), (3, .int (nI i))] [] 12 := by
    intro n
    induction n with
    | zero => intro i h1 h2; exact absurd h2 (by omega)
    | succ n ih =>
      intro i hi hn
      have hkv : kp [7, 8, 9, 10, 11] u (itN (pLook1 ly lim) i (pBlind u)) := itN_inv (P := fun w => kp [7, 8, 9, 10, 11] u w) (pBlind_kp u) i (fun q w _ hw => hw.tr (pLook1_kp ly lim q w))
      have hk0 : (itN (pLook1 ly lim) i (pBlind u)) 0 0 = u 0 0 := by rw [hkv 0 (by decide)]
      refine j_iload_n hC d_H_look_12 rfl 3 rfl ?_
      refine j_aload_n hC d_H_look_13 rfl 0 rfl ?_
      refine j_get hC hin_H (0) (cw_house g k (itN (pLook1 ly lim) i (pBlind u))) rfl 3 (by decide) (hC.2.2.2.2.1 _ wf_H_51) (fun _ h9 => h9) rfl d_H_look_14 ?_
      refine j_icmp_ge (tgt := 57) hC d_H_look_17 (by decide) (fun h17 => ?_) (fun h17 => ?_)
      · have hge : tn (u 0 0) ≤ i := (inN_leN hk9 (by decide) (by omega)).mp (by rw [← hk0]; exact h17)
        have hie : i = tn (u 0 0) := by omega
        exact j_vret hC hr ⟨rfl, rfl, by rw [hie]; rfl⟩ d_H_look_57
      · have hlt : i < tn (u 0 0) := Nat.not_le.mp (fun z => h17 (by rw [hk0]; exact (inN_leN hk9 (by decide) (by omega)).mpr z))
        have hi8 : i < 8 := by omega
        refine j_aload_n hC d_H_look_20 rfl 0 rfl ?_
        refine j_get hC hin_H (0) (cw_house g k (itN (pLook1 ly lim) i (pBlind u))) rfl 5 (by decide) (hC.2.2.2.2.1 _ wf_H_24) (fun _ h9 => h9) rfl d_H_look_21 ?_
        refine j_iload_n hC d_H_look_24 rfl 3 rfl ?_
        refine j_ialdN hC (4) 0 (cw_layers g k (itN (pLook1 ly lim) i (pBlind u))) rfl (n := i) (rfl) (hi8) (by decide) d_H_look_25 ?_
        refine j_iload_n hC d_H_look_26 rfl 1 rfl ?_
        refine j_icmp_gt (tgt := 51) hC d_H_look_27 (by decide) (fun h27 => ?_) (fun h27 => ?_)
        · refine j_iinc (lv' := [(0, .ref (g 0)), (1, .int ly), (2, .int lim), (3, .int (nI (i + 1)))]) hC d_H_look_51 3 rfl (nI_1 _) (by decide) rfl rfl ?_
          refine j_goto (tgt := 12) hC d_H_look_54 (by decide) ?_
          have e9 : itN (pLook1 ly lim) (i + 1) (pBlind u) = itN (pLook1 ly lim) i (pBlind u) := by rw [itN_s, pLook1, if_pos h27]
          have k9 := ih (i + 1) (by omega) (by omega)
          rw [e9] at k9
          exact k9
        · refine j_aload_n hC d_H_look_30 rfl 0 rfl ?_
          refine j_iload_n hC d_H_look_31 rfl 3 rfl ?_
          refine j_aload_n hC d_H_look_32 rfl 0 rfl ?_
          refine j_get hC hin_H (0) (cw_house g k (itN (pLook1 ly lim) i (pBlind u))) rfl 5 (by decide) (hC.2.2.2.2.1 _ wf_H_24) (fun _ h9 => h9) rfl d_H_look_33 ?_
          refine j_iload_n hC d_H_look_36 rfl 3 rfl ?_
          refine j_ialdN hC (4) 0 (cw_layers g k (itN (pLook1 ly lim) i (pBlind u))) rfl (n := i) (rfl) (hi8) (by decide) d_H_look_37 ?_
          refine j_iload_n hC d_H_look_38 rfl 1 rfl ?_
          refine j_icmp_ge (tgt := 47) hC d_H_look_39 (by decide) (fun h39 => ?_) (fun h39 => ?_)
          · refine j_iload_n hC d_H_look_47 rfl 2 rfl ?_
            refine j_callVr (As := [.int (nI i), .int lim]) (rest := []) (st1 := []) hC (k_lookAt l dC dI g k tl (itN (pLook1 ly lim) i (pBlind u)) (r := i) hi8 lim) rfl rfl ww_H_270 yn_H_lookAt (cw_house g k (itN (pLook1 ly lim) i (pBlind u))) rfl rfl d_H_look_48 (Nat.le_of_ble_eq_true rfl) (by decide) ⟨Nat.zero_le _, Nat.zero_le _⟩ rfl ?_
            refine j_iinc (lv' := [(0, .ref (g 0)), (1, .int ly), (2, .int lim), (3, .int (nI (i + 1)))]) hC d_H_look_51 3 rfl (nI_1 _) (by decide) rfl rfl ?_
            refine j_goto (tgt := 12) hC d_H_look_54 (by decide) ?_
            have e9 : itN (pLook1 ly lim) (i + 1) (pBlind u) = pLookAt i lim (itN (pLook1 ly lim) i (pBlind u)) := by rw [itN_s, pLook1, if_neg h27, if_pos h39]
            have k9 := ih (i + 1) (by omega) (by omega)
            rw [e9] at k9
            exact k9
          · refine j_ldc (v := 2147483647) hC (hC.2.2.2.2.1 _ wc_H_128) d_H_look_42 ?_
            refine j_goto (tgt := 48) hC d_H_look_44 (by decide) ?_
            refine j_callVr (As := [.int (nI i), .int 2147483647]) (rest := []) (st1 := []) hC (k_lookAt l dC dI g k tl (itN (pLook1 ly lim) i (pBlind u)) (r := i) hi8 2147483647) rfl rfl ww_H_270 yn_H_lookAt (cw_house g k (itN (pLook1 ly lim) i (pBlind u))) rfl rfl d_H_look_48 (Nat.le_of_ble_eq_true rfl) (by decide) ⟨Nat.zero_le _, Nat.zero_le _⟩ rfl ?_
            refine j_iinc (lv' := [(0, .ref (g 0)), (1, .int ly), (2, .int lim), (3, .int (nI (i + 1)))]) hC d_H_look_51 3 rfl (nI_1 _) (by decide) rfl rfl ?_
            refine j_goto (tgt := 12) hC d_H_look_54 (by decide) ?_
            have e9 : itN (pLook1 ly lim) (i + 1) (pBlind u) = pLookAt i 2147483647 (itN (pLook1 ly lim) i (pBlind u)) := by rw [itN_s, pLook1, if_neg h27, if_neg h39]
            have k9 := ih (i + 1) (by omega) (by omega)
            rw [e9] at k9
            exact k9
  refine j_aload_n hC d_H_look_0 rfl 0 rfl ?_
  refine j_get hC hin_H (0) (cw_house g k u) rfl 8 (by decide) (hC.2.2.2.2.1 _ wf_H_36) (fun _ h9 => h9) rfl d_H_look_1 ?_
  refine j_getN hC hin_M (7) (cw_match g k u) rfl 0 (by decide) (hC.2.2.2.2.1 _ wf_H_247) (fun _ h9 => h9) rfl d_H_look_4 ?_
  refine j_callNr (As := []) (rest := []) (st1 := []) hC (k_blind l dC dI g k tl u) rfl rfl ww_H_269 yn_S_forget (cw_sight g k u) rfl rfl d_H_look_7 (Nat.le_of_ble_eq_true rfl) (by decide) ⟨Nat.zero_le _, Nat.zero_le _⟩ rfl ?_
  refine j_iconst (v := 0) hC d_H_look_10 (by decide) ?_
  refine j_istore_n (lv' := [(0, .ref (g 0)), (1, .int ly), (2, .int lim), (3, .int 0)]) hC d_H_look_11 rfl (by decide) rfl rfl ?_
  exact loop 10 0 (by omega) (by omega)
end
section
-- the class's own work, fourth part: rounds
theorem hb0 (i : Int32) : hb 0 i = false := by simp [hb]
/-- what the round brought is shown, row by row: the relations that changed, the state -/
def pSh (row : Nat) (q : Nat) (w : Int32 × jU) : Int32 × jU := if b2i (hb (w.2 5 row) (nI q)) = 0 then w else (w.1 ||| 1 <<< (nI (row / 12) &&& 31), pShow w.2 (nI (row / 12)) (nI (row % 12)) (nI q))
def itS (f : Nat → Int32 × jU → Int32 × jU) : Nat → Int32 × jU → Int32 × jU
  | 0, u => u
  | n + 1, u => f n (itS f n u)
theorem itS_0 (f : Nat → Int32 × jU → Int32 × jU) (u : Int32 × jU) : itS f 0 u = u := rfl
theorem itS_s (f : Nat → Int32 × jU → Int32 × jU) (n : Nat) (u : Int32 × jU) : itS f (n + 1) u = f n (itS f n u) := rfl
theorem pSh_kp (row : Nat) (w : Int32 × jU) : ∀ n, kp [7, 8, 9, 10, 11] w.2 (itS (pSh row) n w).2 := by
  intro n
  induction n with
  | zero => exact kp.rf _ _
  | succ n ih =>
    rw [itS_s, pSh]
    split
    · exact ih
    · exact ih.tr (pShow_kp _ _ _ _)
theorem pSh_zero {row : Nat} {w : Int32 × jU} (h : w.2 5 row = 0) : ∀ n, itS (pSh row) n w = w := by
  intro n
  induction n with
  | zero => rfl
  | succ n ih => rw [itS_s, ih, pSh, h, hb0]; rfl
def pSh1 (row : Nat) (w : Int32 × jU) : Int32 × jU := ((itS (pSh row) 12 w).1, up (itS (pSh row) 12 w).2 5 row 0)
def pShowFresh (u : jU) : Int32 × jU := itS pSh1 96 (0, u)
theorem pSh1_kp (row : Nat) (w : Int32 × jU) : kp [5, 7, 8, 9, 10, 11] w.2 (pSh1 row w).2 :=
  fun c hc => (up_rows _ _ _ (fun e => hc (by rw [e]; decide))).trans (pSh_kp row w 12 c (fun h => hc (List.mem_cons_of_mem _ h)))
theorem pShowFresh_kp (u : jU) : kp [5, 7, 8, 9, 10, 11] u (pShowFresh u).2 := by
  have : ∀ n, kp [5, 7, 8, 9, 10, 11] u (itS pSh1 n (0, u)).2 := by
    intro n
    induction n with
    | zero => exact kp.rf _ _
    | succ n ih => rw [itS_s]; exact ih.tr (pSh1_kp _ _)
  exact this 96
def pMark (w : jU) (row q : Nat) (rd : Int32) : jU := up (up w 4 (row * 12 + q) rd) 5 row (up w 4 (row * 12 + q) rd 5 row ||| 1 <<< (nI q &&& 31))
def pB2 (i : Nat) (rd : Int32) (a row : Nat) (sc : Int32) (q : Nat) (w : jU) : jU :=
  if b2i (hb sc (nI q)) = 0 then w else
  if b2i (pMeets w i (w 16 (5 * i)) (nI a) (nI q)).1 = 0 then (pMeets w i (w 16 (5 * i)) (nI a) (nI q)).2 else
  if b2i (pFind i 5 20 (pMeets w i (w 16 (5 * i)) (nI a) (nI q)).2).1 = 0 then (pFind i 5 20 (pMeets w i (w 16 (5 * i)) (nI a) (nI q)).2).2 else
  pMark (pFind i 5 20 (pMeets w i (w 16 (5 * i)) (nI a) (nI q)).2).2 row q rd
theorem pMeets_ok {u : jU} (i : Nat) (r a b : Int32) (ha : inN a 12) (hb12 : inN b 12) : only6 u (pMeets u i r a b).2 ∧ (wfV u → wfV (pMeets u i r a b).2) := by
  have o1 : only6 u (pMeets1 u i a) := (only6_forget u).tr (only6_bind _ _ _)
  have o2 : only6 u (pMeets2 u i a b) := o1.tr (only6_bind _ _ _)
  unfold pMeets
  split
  · split
    · exact ⟨o1, fun h => wfV_bind (wfV_forget h) _ ha⟩
    · split
      · exact ⟨o2, fun h => wfV_bind (wfV_bind (wfV_forget h) _ ha) _ hb12⟩
      · exact ⟨o2, fun h => wfV_bind (wfV_bind (wfV_forget h) _ ha) _ hb12⟩
  · exact ⟨only6_forget u, wfV_forget⟩
/-- a state of the rounds: only ranks, what is fresh and the values of terms have changed, and the values are in their bounds -/
def pR (u w : jU) : Prop := kp [4, 5, 6] u w ∧ wfV w
theorem pB2_ok {u w : jU} {i : Nat} {rd : Int32} {a row : Nat} {sc : Int32} {q : Nat} (ha : a < 12) (hq : q < 12) (h : pR u w) : pR u (pB2 i rd a row sc q w) := by
  have hm := pMeets_ok (u := w) i (w 16 (5 * i)) (nI a) (nI q) (inN_nI ha (by decide)) (inN_nI hq (by decide))
  have hf := pFind_frame i 5 20 (pMeets w i (w 16 (5 * i)) (nI a) (nI q)).2
  have km := h.1.tr (hm.1.kp (cs := [4, 5, 6]) (by decide))
  have kf := km.tr (hf.1.kp (cs := [4, 5, 6]) (by decide))
  unfold pB2
  split
  · exact h
  · split
    · exact ⟨km, hm.2 h.2⟩
    · split
      · exact ⟨kf, hf.2 (hm.2 h.2)⟩
      · exact ⟨kf.tr ((kp_up _ _ _ (by decide)).tr (kp_up _ _ _ (by decide))), wfV_of (hf.2 (hm.2 h.2)) ((up_rows _ _ _ (by decide)).trans (up_rows _ _ _ (by decide)))⟩
theorem pB2_zero (i : Nat) (rd : Int32) (a row : Nat) (w : jU) : ∀ n, itN (pB2 i rd a row 0) n w = w := by
  intro n
  induction n with
  | zero => rfl
  | succ n ih => rw [itN_s, ih, pB2, hb0]; rfl
def pRowOf (i a : Nat) (w : jU) : Nat := tn (w 16 (5 * i)) * 12 + a
def pB1w (i a : Nat) (w : jU) : jU := pBind (pForget w) (pForget w 17 (5 * i)) (nI a)
def pB1s (i a : Nat) (w : jU) : Int32 := pChoices (pB1w i a w) i (pB1w i a w 18 (5 * i)) &&& ((w 7 (pRowOf i a w) ||| w 5 (pRowOf i a w)) ^^^ (-1))
def pB1 (i : Nat) (rd fs : Int32) (a : Nat) (w : jU) : jU := if b2i (hb fs (nI a)) = 0 then w else itN (pB2 i rd a (pRowOf i a w) (pB1s i a w)) 12 (pB1w i a w)
def pBring (i : Nat) (rd : Int32) (u : jU) : jU := itN (pB1 i rd (pChoices (pForget u) i (pForget u 17 (5 * i)))) 12 (pForget u)
theorem pB1w_ok {u w : jU} {i a : Nat} (ha : a < 12) (h : pR u w) : pR u (pB1w i a w) :=
  ⟨h.1.tr (((only6_forget w).tr (only6_bind _ _ _)).kp (by decide)), wfV_bind (wfV_forget h.2) _ (inN_nI ha (by decide))⟩
theorem pB1_ok {u w : jU} {i : Nat} {rd fs : Int32} {a : Nat} (ha : a < 12) (h : pR u w) : pR u (pB1 i rd fs a w) := by
  unfold pB1
  split
  · exact h
  · exact itN_inv (P := pR u) (pB1w_ok ha h) 12 (fun q v hq hv => pB2_ok ha hq hv)
theorem pBring_ok {u w : jU} {i : Nat} {rd : Int32} (h : pR u w) : pR u (pBring i rd w) :=
  itN_inv (P := pR u) ⟨h.1.tr ((only6_forget w).kp (by decide)), wfV_forget h.2⟩ 12 (fun a v ha hv => pB1_ok ha hv)
theorem pR.wfM {u w : jU} (h : pR u w) (hM : wfM u) : wfM w := hM.ofc (h.1 12 (by decide)) (h.1 16 (by decide)) (h.1 17 (by decide)) (h.1 18 (by decide)) (h.1 19 (by decide)) h.2
theorem pR.wfH {u w : jU} (h : pR u w) (hH : wfH u) : wfH w := hH.kp h.1 (by decide) h.2
def pBR (ly rd ch : Int32) (i : Nat) (w : jU) : jU := if w 3 (tn (w 16 (5 * i))) = ly then (if rd = 1 then pBring i rd w else if w 15 i &&& ch = 0 then w else pBring i rd w) else w
def pRound (ly rd ch : Int32) (u : jU) : jU := itN (pBR ly rd ch) (tn (u 0 1)) u
theorem pBR_ok {u w : jU} {ly rd ch : Int32} {i : Nat} (h : pR u w) : pR u (pBR ly rd ch i w) := by
  unfold pBR
  split
  · split
    · exact pBring_ok h
    · split
      · exact h
      · exact pBring_ok h
  · exact h
theorem pRound_ok {u : jU} {ly rd ch : Int32} (hv : wfV u) : pR u (pRound ly rd ch u) := itN_inv (P := pR u) ⟨kp.rf _ u, hv⟩ _ (fun i w _ hw => pBR_ok hw)
/-- the rounds of a layer, from round rd on, at most n of them -/
def pRd (ly : Int32) : Nat → Nat → Int32 → jU → jU
  | 0, _, _, u => u
  | n + 1, rd, ch, u => if ch = 0 then u else pRd ly n (rd + 1) (pShowFresh (pRound ly (nI rd) ch u)).1 (pShowFresh (pRound ly (nI rd) ch u)).2
def pLayer (ly : Nat) (w : jU) : jU := pRd (nI ly) 1153 1 255 (pLook (nI ly) 1 w)
def pSettle1 (u : jU) : jU := itN pLayer (tn (pTop (pRankGiven u) (tn (pRankGiven u 0 0))) + 1) (pRankGiven u)
def pSettle (u : jU) : jU := if u 0 4 = 0 then up (pSettle1 u) 0 4 1 else u
/-- the first rule that brings the fact, its values left in the terms -/
def pLR (r a b : Int32) : Nat → Nat → jU → Int32 × jU
  | 0, _, u => (-1, u)
  | n + 1, i, u => if b2i (pMeets u i r a b).1 = 0 then pLR r a b n (i + 1) (pMeets u i r a b).2 else if b2i (pFind i 5 20 (pMeets u i r a b).2).1 = 0 then pLR r a b n (i + 1) (pFind i 5 20 (pMeets u i r a b).2).2 else (nI i, (pFind i 5 20 (pMeets u i r a b).2).2)
end
section
set_option maxHeartbeats 4000000 in
set_option maxRecDepth 100000 in
theorem k_showFresh (l : Launch) (dC : Nat → ClassId) (dI : Nat → Nat → Nat) (g k : Nat → Nat) (tl : List (ClassId × FieldType)) (u : jU)  : jMet l y_H_showFresh (.code y_H_showFresh c_H_showFresh 4 (some .int)) ({ frames := 2, cells := 0, slots := 0, locals := 44 }) (dC, dI) jcl (ctys k tl) jTs [.ref (g 0)] (cw g k u) 0 0 (jRet (some (.int ((pShowFresh u).1))) (cw g k ((pShowFresh u).2))) := by
  refine jMet.of (by decide) (Nat.le_of_ble_eq_true rfl) ?_
  intro p e s m below meth c A hC hex hr hnm htr
  show jJ p l e ({ frames := 2, cells := 0, slots := 0, locals := 44 }) s m [.ref (g 0)].toArray below meth c 4 (dC, dI) jcl A (hxQ below (jQ (dC, dI) jcl (jRet (some (.int ((pShowFresh u).1))) (cw g k ((pShowFresh u).2))) A) [.ref (g 0)].toArray s 0 0 A) 0 0 (cw g k u) [(0, .ref (g 0))] [] 0
  have inner : ∀ (row : Nat), row < 96 → ∀ (w : Int32 × jU), jJ p l e ({ frames := 2, cells := 0, slots := 0, locals := 44 }) s m [.ref (g 0)].toArray below meth c 4 (dC, dI) jcl A (hxQ below (jQ (dC, dI) jcl (jRet (some (.int ((pShowFresh u).1))) (cw g k ((pShowFresh u).2))) A) [.ref (g 0)].toArray s 0 0 A) 0 0 (cw g k (itS (pSh row) 12 w).2) [(0, .ref (g 0)), (1, .int ((itS (pSh row) 12 w).1)), (2, .int (nI row))] [] 74 → ∀ (n q : Nat), q ≤ 12 → 12 < q + n → jJ p l e ({ frames := 2, cells := 0, slots := 0, locals := 44 }) s m [.ref (g 0)].toArray below meth c 4 (dC, dI) jcl A (hxQ below (jQ (dC, dI) jcl (jRet (some (.int ((pShowFresh u).1))) (cw g k ((pShowFresh u).2))) A) [.ref (g 0)].toArray s 0 0 A) 0 0 (cw g k ((itS (pSh row) q w).2)) [(0, .ref (g 0)), (1, .int ((itS (pSh row) q w).1)), (2, .int (nI row)), (3, .int (nI q))] [] 12 := by
    intro row hrow w hk n
    induction n with
    | zero => intro q h1 h2; exact absurd h2 (by omega)
    | succ n ih =>
      intro q hq hn
      refine j_aload_n hC d_H_showFresh_12 rfl 0 rfl ?_
      refine j_get hC hin_H (0) (cw_house g k ((itS (pSh row) q w).2)) rfl 7 (by decide) (hC.2.2.2.2.1 _ wf_H_30) (fun _ h9 => h9) rfl d_H_showFresh_13 ?_
      refine j_iload_n hC d_H_showFresh_16 rfl 2 rfl ?_
      refine j_ialdN hC (6) 0 (cw_fresh g k ((itS (pSh row) q w).2)) rfl (n := row) (rfl) (hrow) (by decide) d_H_showFresh_17 ?_
      refine j_if_eq (tgt := 74) hC d_H_showFresh_18 (by decide) (fun h18 => ?_) (fun h18 => ?_)
      · have hz : w.2 5 row = 0 := by rw [← pSh_kp row w q 5 (by decide)]; exact h18
        rw [pSh_zero hz] at hk
        rw [pSh_zero hz]
        exact j_locals [0, 1, 2] rfl hk
      · refine j_iload_n hC d_H_showFresh_21 rfl 3 rfl ?_
        refine j_bipush (v := 12) hC d_H_showFresh_22 (by decide) ?_
        refine j_icmp_ge (tgt := 74) hC d_H_showFresh_24 (by decide) (fun h24 => ?_) (fun h24 => ?_)
        · have hge : 12 ≤ q := (nI_leI (a := 12) (by decide) (by omega)).mp h24
          have hqe : q = 12 := by omega
          subst hqe
          exact j_locals [0, 1, 2] rfl hk
        · have hlt : q < 12 := Nat.not_le.mp (fun z => h24 ((nI_leI (a := 12) (by decide) (by omega)).mpr z))
          refine j_aload_n hC d_H_showFresh_27 rfl 0 rfl ?_
          refine j_get hC hin_H (0) (cw_house g k ((itS (pSh row) q w).2)) rfl 7 (by decide) (hC.2.2.2.2.1 _ wf_H_30) (fun _ h9 => h9) rfl d_H_showFresh_28 ?_
          refine j_iload_n hC d_H_showFresh_31 rfl 2 rfl ?_
          refine j_ialdN hC (6) 0 (cw_fresh g k ((itS (pSh row) q w).2)) rfl (n := row) (rfl) (hrow) (by decide) d_H_showFresh_32 ?_
          refine j_iload_n hC d_H_showFresh_33 rfl 3 rfl ?_
          refine j_callSr (As := [.int (((itS (pSh row) q w).2) 5 row), .int (nI q)]) (rest := []) (st1 := [.int (b2i (hb ((itS (pSh row) q w).2 5 row) (nI q)))]) hC (k_hasBit l dC dI g k tl ((itS (pSh row) q w).2) ((itS (pSh row) q w).2 5 row) (nI q)) rfl rfl ww_H_184 yn_H_hasBit rfl d_H_showFresh_34 (Nat.le_of_ble_eq_true rfl) (by decide) ⟨Nat.zero_le _, Nat.zero_le _⟩ rfl ?_
          refine j_if_eq (tgt := 68) hC d_H_showFresh_37 (by decide) (fun h37 => ?_) (fun h37 => ?_)
          · refine j_iinc (lv' := [(0, .ref (g 0)), (1, .int ((itS (pSh row) q w).1)), (2, .int (nI row)), (3, .int (nI (q + 1)))]) hC d_H_showFresh_68 3 rfl (nI_1 _) (by decide) rfl rfl ?_
            refine j_goto (tgt := 12) hC d_H_showFresh_71 (by decide) ?_
            have e9 : itS (pSh row) (q + 1) w = itS (pSh row) q w := by rw [itS_s, pSh, if_pos h37]
            have k9 := ih (q + 1) (by omega) (by omega)
            rw [e9] at k9
            exact k9
          · refine j_aload_n hC d_H_showFresh_40 rfl 0 rfl ?_
            refine j_get hC hin_H (0) (cw_house g k ((itS (pSh row) q w).2)) rfl 8 (by decide) (hC.2.2.2.2.1 _ wf_H_36) (fun _ h9 => h9) rfl d_H_showFresh_41 ?_
            refine j_getN hC hin_M (7) (cw_match g k ((itS (pSh row) q w).2)) rfl 0 (by decide) (hC.2.2.2.2.1 _ wf_H_247) (fun _ h9 => h9) rfl d_H_showFresh_44 ?_
            refine j_iload_n hC d_H_showFresh_47 rfl 2 rfl ?_
            refine j_bipush (v := 12) hC d_H_showFresh_48 (by decide) ?_
            refine j_idiv hC d_H_showFresh_50 (by decide) ?_
            refine j_iload_n hC d_H_showFresh_51 rfl 2 rfl ?_
            refine j_bipush (v := 12) hC d_H_showFresh_52 (by decide) ?_
            refine j_irem hC d_H_showFresh_54 (by decide) ?_
            refine j_iload_n hC d_H_showFresh_55 rfl 3 rfl ?_
            rw [show nI row - nI row / 12 * 12 = nI (row % 12) from pk_rem (d := 12) (by omega) (by decide) (by decide), show nI row / 12 = nI (row / 12) from pk_div (d := 12) (by omega) (by decide) (by decide)]
            refine j_callNr (As := [.int (nI (row / 12)), .int (nI (row % 12)), .int (nI q)]) (rest := []) (st1 := []) hC (k_show l dC dI g k tl ((itS (pSh row) q w).2) (nI (row / 12)) (nI (row % 12)) (nI q) (inN_nI (by omega) (by decide)) (inN_nI (by omega) (by decide)) (inN_nI hlt (by decide))) rfl rfl ww_H_266 yn_S_show (cw_sight g k ((itS (pSh row) q w).2)) rfl rfl d_H_showFresh_56 (Nat.le_of_ble_eq_true rfl) (by decide) ⟨Nat.zero_le _, Nat.zero_le _⟩ rfl ?_
            refine j_iload_n hC d_H_showFresh_59 rfl 1 rfl ?_
            refine j_iconst (v := 1) hC d_H_showFresh_60 (by decide) ?_
            refine j_iload_n hC d_H_showFresh_61 rfl 2 rfl ?_
            refine j_bipush (v := 12) hC d_H_showFresh_62 (by decide) ?_
            refine j_idiv hC d_H_showFresh_64 (by decide) ?_
            rw [show nI row / 12 = nI (row / 12) from pk_div (d := 12) (by omega) (by decide) (by decide)]
            refine j_ishl hC d_H_showFresh_65 ?_
            refine j_ior hC d_H_showFresh_66 ?_
            refine j_istore_n (lv' := [(0, .ref (g 0)), (1, .int (((itS (pSh row) q w).1) ||| (1 <<< ((nI (row / 12)) &&& 31)))), (2, .int (nI row)), (3, .int (nI q))]) hC d_H_showFresh_67 rfl (by decide) rfl rfl ?_
            refine j_iinc (lv' := [(0, .ref (g 0)), (1, .int (((itS (pSh row) q w).1) ||| (1 <<< ((nI (row / 12)) &&& 31)))), (2, .int (nI row)), (3, .int (nI (q + 1)))]) hC d_H_showFresh_68 3 rfl (nI_1 _) (by decide) rfl rfl ?_
            refine j_goto (tgt := 12) hC d_H_showFresh_71 (by decide) ?_
            have e9 : itS (pSh row) (q + 1) w = (((itS (pSh row) q w).1) ||| (1 <<< ((nI (row / 12)) &&& 31)), pShow ((itS (pSh row) q w).2) (nI (row / 12)) (nI (row % 12)) (nI q)) := by rw [itS_s, pSh, if_neg h37]
            have k9 := ih (q + 1) (by omega) (by omega)
            rw [e9] at k9
            exact k9
  have outer : ∀ (n row : Nat), row ≤ 96 → 96 < row + n → jJ p l e ({ frames := 2, cells := 0, slots := 0, locals := 44 }) s m [.ref (g 0)].toArray below meth c 4 (dC, dI) jcl A (hxQ below (jQ (dC, dI) jcl (jRet (some (.int ((pShowFresh u).1))) (cw g k ((pShowFresh u).2))) A) [.ref (g 0)].toArray s 0 0 A) 0 0 (cw g k (itS pSh1 row (0, u)).2) [(0, .ref (g 0)), (1, .int ((itS pSh1 row (0, u)).1)), (2, .int (nI row))] [] 4 := by
    intro n
    induction n with
    | zero => intro row h1 h2; exact absurd h2 (by omega)
    | succ n ih =>
      intro row hrow hn
      refine j_iload_n hC d_H_showFresh_4 rfl 2 rfl ?_
      refine j_bipush (v := 96) hC d_H_showFresh_5 (by decide) ?_
      refine j_icmp_ge (tgt := 87) hC d_H_showFresh_7 (by decide) (fun h7 => ?_) (fun h7 => ?_)
      · have hge : 96 ≤ row := (nI_leI (a := 96) (by decide) (by omega)).mp h7
        have hqe : row = 96 := by omega
        subst hqe
        refine j_iload_n hC d_H_showFresh_87 rfl 1 rfl ?_
        exact j_iret hC hr ⟨rfl, rfl, rfl⟩ d_H_showFresh_88
      · have hlt : row < 96 := Nat.not_le.mp (fun z => h7 ((nI_leI (a := 96) (by decide) (by omega)).mpr z))
        refine j_iconst (v := 0) hC d_H_showFresh_10 (by decide) ?_
        refine j_istore_n (lv' := [(0, .ref (g 0)), (1, .int ((itS pSh1 row (0, u)).1)), (2, .int (nI row)), (3, .int 0)]) hC d_H_showFresh_11 rfl (by decide) rfl rfl ?_
        rw [← itS_0 (pSh row) (itS pSh1 row (0, u))]
        refine inner row hlt (itS pSh1 row (0, u)) ?_ 13 0 (by omega) (by omega)
        refine j_aload_n hC d_H_showFresh_74 rfl 0 rfl ?_
        refine j_get hC hin_H (0) (cw_house g k ((itS (pSh row) 12 (itS pSh1 row (0, u))).2)) rfl 7 (by decide) (hC.2.2.2.2.1 _ wf_H_30) (fun _ h9 => h9) rfl d_H_showFresh_75 ?_
        refine j_iload_n hC d_H_showFresh_78 rfl 2 rfl ?_
        refine j_iconst (v := 0) hC d_H_showFresh_79 (by decide) ?_
        refine j_iastN (ws' := cw g k (up ((itS (pSh row) 12 (itS pSh1 row (0, u))).2) 5 row 0)) hC (6) 0 (cw_fresh g k ((itS (pSh row) 12 (itS pSh1 row (0, u))).2)) rfl (n := row) (rfl) (hlt) (by decide) (cw_set_fresh g k ((itS (pSh row) 12 (itS pSh1 row (0, u))).2) row 0) d_H_showFresh_80 ?_
        refine j_iinc (lv' := [(0, .ref (g 0)), (1, .int ((itS (pSh row) 12 (itS pSh1 row (0, u))).1)), (2, .int (nI (row + 1)))]) hC d_H_showFresh_81 2 rfl (nI_1 _) (by decide) rfl rfl ?_
        refine j_goto (tgt := 4) hC d_H_showFresh_84 (by decide) ?_
        have k9 := ih (row + 1) (by omega) (by omega)
        rw [itS_s, pSh1] at k9
        exact k9
  refine j_iconst (v := 0) hC d_H_showFresh_0 (by decide) ?_
  refine j_istore_n (lv' := [(0, .ref (g 0)), (1, .int 0)]) hC d_H_showFresh_1 rfl (by decide) rfl rfl ?_
  refine j_iconst (v := 0) hC d_H_showFresh_2 (by decide) ?_
  refine j_istore_n (lv' := [(0, .ref (g 0)), (1, .int 0), (2, .int 0)]) hC d_H_showFresh_3 rfl (by decide) rfl rfl ?_
  exact outer 97 0 (by omega) (by omega)
end
section
set_option maxHeartbeats 4000000 in
set_option maxRecDepth 100000 in
theorem k_bring (l : Launch) (dC : Nat → ClassId) (dI : Nat → Nat → Nat) (g k : Nat → Nat) (tl : List (ClassId × FieldType)) (u : jU) {i : Nat} (hi : i < 16) (hM : wfM u) (rd : Int32) : jMet l y_H_bringByRule (.code y_H_bringByRule c_H_bringByRule 10 none) ({ frames := 8, cells := 0, slots := 0, locals := 375 }) (dC, dI) jcl (ctys k tl) jTs [.ref (g 0), .ref (g (15 + i)), .int rd] (cw g k u) 0 0 (jRet none (cw g k (pBring i rd u))) := by
  refine jMet.of (by decide) (Nat.le_of_ble_eq_true rfl) ?_
  intro p e s m below meth c A hC hex hr hnm htr
  show jJ p l e ({ frames := 8, cells := 0, slots := 0, locals := 375 }) s m [.ref (g 0), .ref (g (15 + i)), .int rd].toArray below meth c 10 (dC, dI) jcl A (hxQ below (jQ (dC, dI) jcl (jRet none (cw g k (pBring i rd u))) A) [.ref (g 0), .ref (g (15 + i)), .int rd].toArray s 0 0 A) 0 0 (cw g k u) [(0, .ref (g 0)), (1, .ref (g (15 + i))), (2, .int rd)] [] 0
  have inner : ∀ (a : Nat), a < 12 → ∀ (fs : Int32) (row : Nat), row < 96 → ∀ (hd sc : Int32) (w : jU), pR u w → jJ p l e ({ frames := 8, cells := 0, slots := 0, locals := 375 }) s m [.ref (g 0), .ref (g (15 + i)), .int rd].toArray below meth c 10 (dC, dI) jcl A (hxQ below (jQ (dC, dI) jcl (jRet none (cw g k (pBring i rd u))) A) [.ref (g 0), .ref (g (15 + i)), .int rd].toArray s 0 0 A) 0 0 (cw g k (itN (pB2 i rd a row sc) 12 w)) [(0, .ref (g 0)), (1, .ref (g (15 + i))), (2, .int rd), (3, .ref (g (47 + (5 * i)))), (4, .int fs), (5, .int (nI a))] [] 214 → ∀ (n q : Nat), q ≤ 12 → 12 < q + n → jJ p l e ({ frames := 8, cells := 0, slots := 0, locals := 375 }) s m [.ref (g 0), .ref (g (15 + i)), .int rd].toArray below meth c 10 (dC, dI) jcl A (hxQ below (jQ (dC, dI) jcl (jRet none (cw g k (pBring i rd u))) A) [.ref (g 0), .ref (g (15 + i)), .int rd].toArray s 0 0 A) 0 0 (cw g k (itN (pB2 i rd a row sc) q w)) [(0, .ref (g 0)), (1, .ref (g (15 + i))), (2, .int rd), (3, .ref (g (47 + (5 * i)))), (4, .int fs), (5, .int (nI a)), (6, .int (nI row)), (7, .int hd), (8, .int sc), (9, .int (nI q))] [] 126 := by
    intro a ha fs row hrow hd sc w hw hk n
    induction n with
    | zero => intro q h1 h2; exact absurd h2 (by omega)
    | succ n ih =>
      intro q hq hn
      have hRv : pR u (itN (pB2 i rd a row sc) q w) := itN_inv (P := pR u) hw q (fun z v hz hv => pB2_ok ha (by omega) hv)
      have hMv := hRv.wfM hM
      refine j_iload hC d_H_bringByRule_126 8 rfl ?_
      refine j_if_eq (tgt := 214) hC d_H_bringByRule_128 (by decide) (fun h128 => ?_) (fun h128 => ?_)
      · subst h128
        rw [pB2_zero] at hk
        rw [pB2_zero]
        exact j_locals [0, 1, 2, 3, 4, 5] rfl hk
      · refine j_iload hC d_H_bringByRule_131 9 rfl ?_
        refine j_bipush (v := 12) hC d_H_bringByRule_133 (by decide) ?_
        refine j_icmp_ge (tgt := 214) hC d_H_bringByRule_135 (by decide) (fun h135 => ?_) (fun h135 => ?_)
        · have hge : 12 ≤ q := (nI_leI (a := 12) (by decide) (by omega)).mp h135
          have hqe : q = 12 := by omega
          subst hqe
          exact j_locals [0, 1, 2, 3, 4, 5] rfl hk
        · have hq12 : q < 12 := Nat.not_le.mp (fun z => h135 ((nI_leI (a := 12) (by decide) (by omega)).mpr z))
          refine j_iload hC d_H_bringByRule_138 8 rfl ?_
          refine j_iload hC d_H_bringByRule_140 9 rfl ?_
          refine j_callSr (As := [.int sc, .int (nI q)]) (rest := []) (st1 := [.int (b2i (hb sc (nI q)))]) hC (k_hasBit l dC dI g k tl (itN (pB2 i rd a row sc) q w) sc (nI q)) rfl rfl ww_H_184 yn_H_hasBit rfl d_H_bringByRule_142 (Nat.le_of_ble_eq_true rfl) (by decide) ⟨Nat.zero_le _, Nat.zero_le _⟩ rfl ?_
          refine j_if_eq (tgt := 208) hC d_H_bringByRule_145 (by decide) (fun h145 => ?_) (fun h145 => ?_)
          · refine j_iinc (lv' := [(0, .ref (g 0)), (1, .ref (g (15 + i))), (2, .int rd), (3, .ref (g (47 + (5 * i)))), (4, .int fs), (5, .int (nI a)), (6, .int (nI row)), (7, .int hd), (8, .int sc), (9, .int (nI (q + 1)))]) hC d_H_bringByRule_208 9 rfl (nI_1 _) (by decide) rfl rfl ?_
            refine j_goto (tgt := 126) hC d_H_bringByRule_211 (by decide) ?_
            have e9 : itN (pB2 i rd a row sc) (q + 1) w = itN (pB2 i rd a row sc) q w := by rw [itN_s, pB2, if_pos h145]
            have k9 := ih (q + 1) (by omega) (by omega)
            rw [e9] at k9
            exact k9
          · refine j_aload_n hC d_H_bringByRule_148 rfl 0 rfl ?_
            refine j_get hC hin_H (0) (cw_house g k (itN (pB2 i rd a row sc) q w)) rfl 8 (by decide) (hC.2.2.2.2.1 _ wf_H_36) (fun _ h9 => h9) rfl d_H_bringByRule_149 ?_
            refine j_aload_n hC d_H_bringByRule_152 rfl 1 rfl ?_
            refine j_aload_n hC d_H_bringByRule_153 rfl 3 rfl ?_
            refine j_getN hC hin_A (47 + (5 * i)) (cw_atom g k (itN (pB2 i rd a row sc) q w) (j := 5 * i) (by omega)) rfl 0 (by decide) (hC.2.2.2.2.1 _ wf_H_205) (fun _ h9 => h9) rfl d_H_bringByRule_154 ?_
            refine j_iload hC d_H_bringByRule_157 5 rfl ?_
            refine j_iload hC d_H_bringByRule_159 9 rfl ?_
            refine j_callNr (As := [.ref (g (15 + i)), .int ((itN (pB2 i rd a row sc) q w) 16 (5 * i)), .int (nI a), .int (nI q)]) (rest := []) (st1 := [.int (b2i (pMeets (itN (pB2 i rd a row sc) q w) i ((itN (pB2 i rd a row sc) q w) 16 (5 * i)) (nI a) (nI q)).1)]) hC (k_meets l dC dI g k tl (itN (pB2 i rd a row sc) q w) hi hMv ((itN (pB2 i rd a row sc) q w) 16 (5 * i)) (nI a) (nI q) (inN_nI ha (by decide)) (inN_nI hq12 (by decide))) rfl rfl ww_H_133 yn_M_meets (cw_match g k (itN (pB2 i rd a row sc) q w)) rfl rfl d_H_bringByRule_161 (Nat.le_of_ble_eq_true rfl) (by decide) ⟨Nat.zero_le _, Nat.zero_le _⟩ rfl ?_
            refine j_if_eq (tgt := 208) hC d_H_bringByRule_164 (by decide) (fun h164 => ?_) (fun h164 => ?_)
            · refine j_iinc (lv' := [(0, .ref (g 0)), (1, .ref (g (15 + i))), (2, .int rd), (3, .ref (g (47 + (5 * i)))), (4, .int fs), (5, .int (nI a)), (6, .int (nI row)), (7, .int hd), (8, .int sc), (9, .int (nI (q + 1)))]) hC d_H_bringByRule_208 9 rfl (nI_1 _) (by decide) rfl rfl ?_
              refine j_goto (tgt := 126) hC d_H_bringByRule_211 (by decide) ?_
              have e9 : itN (pB2 i rd a row sc) (q + 1) w = (pMeets (itN (pB2 i rd a row sc) q w) i ((itN (pB2 i rd a row sc) q w) 16 (5 * i)) (nI a) (nI q)).2 := by rw [itN_s, pB2, if_neg h145, if_pos h164]
              have k9 := ih (q + 1) (by omega) (by omega)
              rw [e9] at k9
              exact k9
            · refine j_aload_n hC d_H_bringByRule_167 rfl 0 rfl ?_
              refine j_get hC hin_H (0) (cw_house g k ((pMeets (itN (pB2 i rd a row sc) q w) i ((itN (pB2 i rd a row sc) q w) 16 (5 * i)) (nI a) (nI q)).2)) rfl 8 (by decide) (hC.2.2.2.2.1 _ wf_H_36) (fun _ h9 => h9) rfl d_H_bringByRule_168 ?_
              refine j_aload_n hC d_H_bringByRule_171 rfl 1 rfl ?_
              refine j_bipush (v := 20) hC d_H_bringByRule_172 (by decide) ?_
              have hmo := pMeets_ok (u := itN (pB2 i rd a row sc) q w) i ((itN (pB2 i rd a row sc) q w) 16 (5 * i)) (nI a) (nI q) (inN_nI ha (by decide)) (inN_nI hq12 (by decide))
              refine j_callNr (As := [.ref (g (15 + i)), .int 20]) (rest := []) (st1 := [.int (b2i (pFind i 5 20 (pMeets (itN (pB2 i rd a row sc) q w) i ((itN (pB2 i rd a row sc) q w) 16 (5 * i)) (nI a) (nI q)).2).1)]) hC (k_find l dC dI g k tl hi 5 (pMeets (itN (pB2 i rd a row sc) q w) i ((itN (pB2 i rd a row sc) q w) 16 (5 * i)) (nI a) (nI q)).2 20 (by decide) (by decide) (hMv.of hmo.1 (hmo.2 hMv.2.2))) rfl rfl ww_H_262 yn_M_findLeast (cw_match g k ((pMeets (itN (pB2 i rd a row sc) q w) i ((itN (pB2 i rd a row sc) q w) 16 (5 * i)) (nI a) (nI q)).2)) rfl rfl d_H_bringByRule_174 (Nat.le_of_ble_eq_true rfl) (by decide) ⟨Nat.zero_le _, Nat.zero_le _⟩ rfl ?_
              refine j_if_eq (tgt := 208) hC d_H_bringByRule_177 (by decide) (fun h177 => ?_) (fun h177 => ?_)
              · refine j_iinc (lv' := [(0, .ref (g 0)), (1, .ref (g (15 + i))), (2, .int rd), (3, .ref (g (47 + (5 * i)))), (4, .int fs), (5, .int (nI a)), (6, .int (nI row)), (7, .int hd), (8, .int sc), (9, .int (nI (q + 1)))]) hC d_H_bringByRule_208 9 rfl (nI_1 _) (by decide) rfl rfl ?_
                refine j_goto (tgt := 126) hC d_H_bringByRule_211 (by decide) ?_
                have e9 : itN (pB2 i rd a row sc) (q + 1) w = (pFind i 5 20 (pMeets (itN (pB2 i rd a row sc) q w) i ((itN (pB2 i rd a row sc) q w) 16 (5 * i)) (nI a) (nI q)).2).2 := by rw [itN_s, pB2, if_neg h145, if_neg h164, if_pos h177]
                have k9 := ih (q + 1) (by omega) (by omega)
                rw [e9] at k9
                exact k9
              · refine j_aload_n hC d_H_bringByRule_180 rfl 0 rfl ?_
                refine j_get hC hin_H (0) (cw_house g k ((pFind i 5 20 (pMeets (itN (pB2 i rd a row sc) q w) i ((itN (pB2 i rd a row sc) q w) 16 (5 * i)) (nI a) (nI q)).2).2)) rfl 6 (by decide) (hC.2.2.2.2.1 _ wf_H_27) (fun _ h9 => h9) rfl d_H_bringByRule_181 ?_
                refine j_iload hC d_H_bringByRule_184 6 rfl ?_
                refine j_bipush (v := 12) hC d_H_bringByRule_186 (by decide) ?_
                refine j_imul hC d_H_bringByRule_188 ?_
                refine j_iload hC d_H_bringByRule_189 9 rfl ?_
                refine j_iadd hC d_H_bringByRule_191 ?_
                refine j_iload_n hC d_H_bringByRule_192 rfl 2 rfl ?_
                refine j_iastN (ws' := cw g k (up ((pFind i 5 20 (pMeets (itN (pB2 i rd a row sc) q w) i ((itN (pB2 i rd a row sc) q w) 16 (5 * i)) (nI a) (nI q)).2).2) 4 (row * 12 + q) rd)) hC (5) 0 (cw_ranks g k ((pFind i 5 20 (pMeets (itN (pB2 i rd a row sc) q w) i ((itN (pB2 i rd a row sc) q w) 16 (5 * i)) (nI a) (nI q)).2).2)) rfl (n := row * 12 + q) (nI_row row q) (by omega) (by decide) (cw_set_ranks g k ((pFind i 5 20 (pMeets (itN (pB2 i rd a row sc) q w) i ((itN (pB2 i rd a row sc) q w) 16 (5 * i)) (nI a) (nI q)).2).2) (row * 12 + q) rd) d_H_bringByRule_193 ?_
                refine j_aload_n hC d_H_bringByRule_194 rfl 0 rfl ?_
                refine j_get hC hin_H (0) (cw_house g k (up ((pFind i 5 20 (pMeets (itN (pB2 i rd a row sc) q w) i ((itN (pB2 i rd a row sc) q w) 16 (5 * i)) (nI a) (nI q)).2).2) 4 (row * 12 + q) rd)) rfl 7 (by decide) (hC.2.2.2.2.1 _ wf_H_30) (fun _ h9 => h9) rfl d_H_bringByRule_195 ?_
                refine j_iload hC d_H_bringByRule_198 6 rfl ?_
                refine j_dup2_11 hC d_H_bringByRule_200 rfl rfl ?_
                refine j_ialdN hC (6) 0 (cw_fresh g k (up ((pFind i 5 20 (pMeets (itN (pB2 i rd a row sc) q w) i ((itN (pB2 i rd a row sc) q w) 16 (5 * i)) (nI a) (nI q)).2).2) 4 (row * 12 + q) rd)) rfl (n := row) (rfl) (hrow) (by decide) d_H_bringByRule_201 ?_
                refine j_iconst (v := 1) hC d_H_bringByRule_202 (by decide) ?_
                refine j_iload hC d_H_bringByRule_203 9 rfl ?_
                refine j_ishl hC d_H_bringByRule_205 ?_
                refine j_ior hC d_H_bringByRule_206 ?_
                refine j_iastN (ws' := cw g k (up (up ((pFind i 5 20 (pMeets (itN (pB2 i rd a row sc) q w) i ((itN (pB2 i rd a row sc) q w) 16 (5 * i)) (nI a) (nI q)).2).2) 4 (row * 12 + q) rd) 5 row (((up ((pFind i 5 20 (pMeets (itN (pB2 i rd a row sc) q w) i ((itN (pB2 i rd a row sc) q w) 16 (5 * i)) (nI a) (nI q)).2).2) 4 (row * 12 + q) rd) 5 row) ||| (1 <<< ((nI q) &&& 31))))) hC (6) 0 (cw_fresh g k (up ((pFind i 5 20 (pMeets (itN (pB2 i rd a row sc) q w) i ((itN (pB2 i rd a row sc) q w) 16 (5 * i)) (nI a) (nI q)).2).2) 4 (row * 12 + q) rd)) rfl (n := row) (rfl) (hrow) (by decide) (cw_set_fresh g k (up ((pFind i 5 20 (pMeets (itN (pB2 i rd a row sc) q w) i ((itN (pB2 i rd a row sc) q w) 16 (5 * i)) (nI a) (nI q)).2).2) 4 (row * 12 + q) rd) row (((up ((pFind i 5 20 (pMeets (itN (pB2 i rd a row sc) q w) i ((itN (pB2 i rd a row sc) q w) 16 (5 * i)) (nI a) (nI q)).2).2) 4 (row * 12 + q) rd) 5 row) ||| (1 <<< ((nI q) &&& 31)))) d_H_bringByRule_207 ?_
                refine j_iinc (lv' := [(0, .ref (g 0)), (1, .ref (g (15 + i))), (2, .int rd), (3, .ref (g (47 + (5 * i)))), (4, .int fs), (5, .int (nI a)), (6, .int (nI row)), (7, .int hd), (8, .int sc), (9, .int (nI (q + 1)))]) hC d_H_bringByRule_208 9 rfl (nI_1 _) (by decide) rfl rfl ?_
                refine j_goto (tgt := 126) hC d_H_bringByRule_211 (by decide) ?_
                have e9 : itN (pB2 i rd a row sc) (q + 1) w = up (up ((pFind i 5 20 (pMeets (itN (pB2 i rd a row sc) q w) i ((itN (pB2 i rd a row sc) q w) 16 (5 * i)) (nI a) (nI q)).2).2) 4 (row * 12 + q) rd) 5 row (((up ((pFind i 5 20 (pMeets (itN (pB2 i rd a row sc) q w) i ((itN (pB2 i rd a row sc) q w) 16 (5 * i)) (nI a) (nI q)).2).2) 4 (row * 12 + q) rd) 5 row) ||| (1 <<< ((nI q) &&& 31))) := by rw [itN_s, pB2, if_neg h145, if_neg h164, if_neg h177] <;> rfl
                have k9 := ih (q + 1) (by omega) (by omega)
                rw [e9] at k9
                exact k9
  have outer : ∀ (n a : Nat), a ≤ 12 → 12 < a + n → jJ p l e ({ frames := 8, cells := 0, slots := 0, locals := 375 }) s m [.ref (g 0), .ref (g (15 + i)), .int rd].toArray below meth c 10 (dC, dI) jcl A (hxQ below (jQ (dC, dI) jcl (jRet none (cw g k (pBring i rd u))) A) [.ref (g 0), .ref (g (15 + i)), .int rd].toArray s 0 0 A) 0 0 (cw g k (itN (pB1 i rd (pChoices (pForget u) i (pForget u 17 (5 * i)))) a (pForget u))) [(0, .ref (g 0)), (1, .ref (g (15 + i))), (2, .int rd), (3, .ref (g (47 + (5 * i)))), (4, .int (pChoices (pForget u) i (pForget u 17 (5 * i)))), (5, .int (nI a))] [] 29 := by
    intro n
    induction n with
    | zero => intro a h1 h2; exact absurd h2 (by omega)
    | succ n ih =>
      intro a ha12 hn
      have hRw : pR u (itN (pB1 i rd (pChoices (pForget u) i (pForget u 17 (5 * i)))) a (pForget u)) := itN_inv (P := pR u) ⟨(only6_forget u).kp (by decide), wfV_forget hM.2.2⟩ a (fun z v hz hv => pB1_ok (by omega) hv)
      have hMw := hRw.wfM hM
      refine j_iload hC d_H_bringByRule_29 5 rfl ?_
      refine j_bipush (v := 12) hC d_H_bringByRule_31 (by decide) ?_
      refine j_icmp_ge (tgt := 220) hC d_H_bringByRule_33 (by decide) (fun h33 => ?_) (fun h33 => ?_)
      · have hge : 12 ≤ a := (nI_leI (a := 12) (by decide) (by omega)).mp h33
        have hqe : a = 12 := by omega
        subst hqe
        exact j_vret hC hr ⟨rfl, rfl, rfl⟩ d_H_bringByRule_220
      · have hlt : a < 12 := Nat.not_le.mp (fun z => h33 ((nI_leI (a := 12) (by decide) (by omega)).mpr z))
        refine j_iload hC d_H_bringByRule_36 4 rfl ?_
        refine j_iload hC d_H_bringByRule_38 5 rfl ?_
        refine j_callSr (As := [.int (pChoices (pForget u) i (pForget u 17 (5 * i))), .int (nI a)]) (rest := []) (st1 := [.int (b2i (hb (pChoices (pForget u) i (pForget u 17 (5 * i))) (nI a)))]) hC (k_hasBit l dC dI g k tl (itN (pB1 i rd (pChoices (pForget u) i (pForget u 17 (5 * i)))) a (pForget u)) (pChoices (pForget u) i (pForget u 17 (5 * i))) (nI a)) rfl rfl ww_H_184 yn_H_hasBit rfl d_H_bringByRule_40 (Nat.le_of_ble_eq_true rfl) (by decide) ⟨Nat.zero_le _, Nat.zero_le _⟩ rfl ?_
        refine j_if_ne (tgt := 49) hC d_H_bringByRule_43 (by decide) (fun h43 => ?_) (fun h43 => ?_)
        · refine j_aload_n hC d_H_bringByRule_49 rfl 3 rfl ?_
          refine j_getN hC hin_A (47 + (5 * i)) (cw_atom g k (itN (pB1 i rd (pChoices (pForget u) i (pForget u 17 (5 * i)))) a (pForget u)) (j := 5 * i) (by omega)) rfl 0 (by decide) (hC.2.2.2.2.1 _ wf_H_205) (fun _ h9 => h9) rfl d_H_bringByRule_50 ?_
          refine j_iload hC d_H_bringByRule_53 5 rfl ?_
          refine j_callSr (As := [.int ((itN (pB1 i rd (pChoices (pForget u) i (pForget u 17 (5 * i)))) a (pForget u)) 16 (5 * i)), .int (nI a)]) (rest := []) (st1 := [.int ((itN (pB1 i rd (pChoices (pForget u) i (pForget u 17 (5 * i)))) a (pForget u)) 16 (5 * i) * 12 + nI a)]) hC (k_rowAt l dC dI g k tl (itN (pB1 i rd (pChoices (pForget u) i (pForget u 17 (5 * i)))) a (pForget u)) ((itN (pB1 i rd (pChoices (pForget u) i (pForget u 17 (5 * i)))) a (pForget u)) 16 (5 * i)) (nI a)) rfl rfl ww_H_174 yn_H_rowAt rfl d_H_bringByRule_55 (Nat.le_of_ble_eq_true rfl) (by decide) ⟨Nat.zero_le _, Nat.zero_le _⟩ rfl ?_
          have hr8 : inN ((itN (pB1 i rd (pChoices (pForget u) i (pForget u 17 (5 * i)))) a (pForget u)) 16 (5 * i)) 8 := (hMw.2.1 (5 * i) (by omega)).1
          have hrow : pRowOf i a (itN (pB1 i rd (pChoices (pForget u) i (pForget u 17 (5 * i)))) a (pForget u)) < 96 := by have := hr8.2; unfold pRowOf; omega
          rw [show (itN (pB1 i rd (pChoices (pForget u) i (pForget u 17 (5 * i)))) a (pForget u)) 16 (5 * i) * 12 + nI a = nI (pRowOf i a (itN (pB1 i rd (pChoices (pForget u) i (pForget u 17 (5 * i)))) a (pForget u))) from in_rowN hr8 a]
          refine j_istore (lv' := [(0, .ref (g 0)), (1, .ref (g (15 + i))), (2, .int rd), (3, .ref (g (47 + (5 * i)))), (4, .int (pChoices (pForget u) i (pForget u 17 (5 * i)))), (5, .int (nI a)), (6, .int (nI (pRowOf i a (itN (pB1 i rd (pChoices (pForget u) i (pForget u 17 (5 * i)))) a (pForget u)))))]) hC d_H_bringByRule_58 (by decide) rfl rfl ?_
          refine j_aload_n hC d_H_bringByRule_60 rfl 0 rfl ?_
          refine j_get hC hin_H (0) (cw_house g k (itN (pB1 i rd (pChoices (pForget u) i (pForget u 17 (5 * i)))) a (pForget u))) rfl 8 (by decide) (hC.2.2.2.2.1 _ wf_H_36) (fun _ h9 => h9) rfl d_H_bringByRule_61 ?_
          refine j_getN hC hin_M (7) (cw_match g k (itN (pB1 i rd (pChoices (pForget u) i (pForget u 17 (5 * i)))) a (pForget u))) rfl 0 (by decide) (hC.2.2.2.2.1 _ wf_H_247) (fun _ h9 => h9) rfl d_H_bringByRule_64 ?_
          refine j_getN hC hin_S (8) (cw_sight g k (itN (pB1 i rd (pChoices (pForget u) i (pForget u 17 (5 * i)))) a (pForget u))) rfl 0 (by decide) (hC.2.2.2.2.1 _ wf_H_251) (fun _ h9 => h9) rfl d_H_bringByRule_67 ?_
          refine j_iload hC d_H_bringByRule_70 6 rfl ?_
          refine j_ialdN hC (10) 0 (cw_secondsByFirst g k (itN (pB1 i rd (pChoices (pForget u) i (pForget u 17 (5 * i)))) a (pForget u))) rfl (n := pRowOf i a (itN (pB1 i rd (pChoices (pForget u) i (pForget u 17 (5 * i)))) a (pForget u))) (rfl) (hrow) (by decide) d_H_bringByRule_72 ?_
          refine j_aload_n hC d_H_bringByRule_73 rfl 0 rfl ?_
          refine j_get hC hin_H (0) (cw_house g k (itN (pB1 i rd (pChoices (pForget u) i (pForget u 17 (5 * i)))) a (pForget u))) rfl 7 (by decide) (hC.2.2.2.2.1 _ wf_H_30) (fun _ h9 => h9) rfl d_H_bringByRule_74 ?_
          refine j_iload hC d_H_bringByRule_77 6 rfl ?_
          refine j_ialdN hC (6) 0 (cw_fresh g k (itN (pB1 i rd (pChoices (pForget u) i (pForget u 17 (5 * i)))) a (pForget u))) rfl (n := pRowOf i a (itN (pB1 i rd (pChoices (pForget u) i (pForget u 17 (5 * i)))) a (pForget u))) (rfl) (hrow) (by decide) d_H_bringByRule_79 ?_
          refine j_ior hC d_H_bringByRule_80 ?_
          refine j_istore (lv' := [(0, .ref (g 0)), (1, .ref (g (15 + i))), (2, .int rd), (3, .ref (g (47 + (5 * i)))), (4, .int (pChoices (pForget u) i (pForget u 17 (5 * i)))), (5, .int (nI a)), (6, .int (nI (pRowOf i a (itN (pB1 i rd (pChoices (pForget u) i (pForget u 17 (5 * i)))) a (pForget u))))), (7, .int (((itN (pB1 i rd (pChoices (pForget u) i (pForget u 17 (5 * i)))) a (pForget u)) 7 (pRowOf i a (itN (pB1 i rd (pChoices (pForget u) i (pForget u 17 (5 * i)))) a (pForget u)))) ||| ((itN (pB1 i rd (pChoices (pForget u) i (pForget u 17 (5 * i)))) a (pForget u)) 5 (pRowOf i a (itN (pB1 i rd (pChoices (pForget u) i (pForget u 17 (5 * i)))) a (pForget u))))))]) hC d_H_bringByRule_81 (by decide) rfl rfl ?_
          refine j_aload_n hC d_H_bringByRule_83 rfl 0 rfl ?_
          refine j_get hC hin_H (0) (cw_house g k (itN (pB1 i rd (pChoices (pForget u) i (pForget u 17 (5 * i)))) a (pForget u))) rfl 8 (by decide) (hC.2.2.2.2.1 _ wf_H_36) (fun _ h9 => h9) rfl d_H_bringByRule_84 ?_
          refine j_callNr (As := []) (rest := []) (st1 := []) hC (k_forget l dC dI g k tl (itN (pB1 i rd (pChoices (pForget u) i (pForget u 17 (5 * i)))) a (pForget u))) rfl rfl ww_H_238 yn_M_forget (cw_match g k (itN (pB1 i rd (pChoices (pForget u) i (pForget u 17 (5 * i)))) a (pForget u))) rfl rfl d_H_bringByRule_87 (Nat.le_of_ble_eq_true rfl) (by decide) ⟨Nat.zero_le _, Nat.zero_le _⟩ rfl ?_
          refine j_aload_n hC d_H_bringByRule_90 rfl 0 rfl ?_
          refine j_get hC hin_H (0) (cw_house g k (pForget (itN (pB1 i rd (pChoices (pForget u) i (pForget u 17 (5 * i)))) a (pForget u)))) rfl 8 (by decide) (hC.2.2.2.2.1 _ wf_H_36) (fun _ h9 => h9) rfl d_H_bringByRule_91 ?_
          refine j_aload_n hC d_H_bringByRule_94 rfl 3 rfl ?_
          refine j_getN hC hin_A (47 + (5 * i)) (cw_atom g k (pForget (itN (pB1 i rd (pChoices (pForget u) i (pForget u 17 (5 * i)))) a (pForget u))) (j := 5 * i) (by omega)) rfl 1 (by decide) (hC.2.2.2.2.1 _ wf_H_241) (fun _ h9 => h9) rfl d_H_bringByRule_95 ?_
          refine j_iload hC d_H_bringByRule_98 5 rfl ?_
          refine j_callNr (As := [.int ((pForget (itN (pB1 i rd (pChoices (pForget u) i (pForget u 17 (5 * i)))) a (pForget u))) 17 (5 * i)), .int (nI a)]) (rest := []) (st1 := [.int (b2i (pBound (pForget (itN (pB1 i rd (pChoices (pForget u) i (pForget u 17 (5 * i)))) a (pForget u))) (pForget (itN (pB1 i rd (pChoices (pForget u) i (pForget u 17 (5 * i)))) a (pForget u)) 17 (5 * i)) (nI a)))]) hC (k_bind l dC dI g k tl (pForget (itN (pB1 i rd (pChoices (pForget u) i (pForget u 17 (5 * i)))) a (pForget u))) (pForget (itN (pB1 i rd (pChoices (pForget u) i (pForget u 17 (5 * i)))) a (pForget u)) 17 (5 * i)) (nI a) (by rw [only6_forget _ 17 (by decide)]; exact (hMw.2.1 (5 * i) (by omega)).2.1)) rfl rfl ww_H_256 yn_M_bind (cw_match g k (pForget (itN (pB1 i rd (pChoices (pForget u) i (pForget u 17 (5 * i)))) a (pForget u)))) rfl rfl d_H_bringByRule_100 (Nat.le_of_ble_eq_true rfl) (by decide) ⟨Nat.zero_le _, Nat.zero_le _⟩ rfl ?_
          refine j_pop hC d_H_bringByRule_103 rfl ?_
          refine j_aload_n hC d_H_bringByRule_104 rfl 0 rfl ?_
          refine j_get hC hin_H (0) (cw_house g k (pB1w i a (itN (pB1 i rd (pChoices (pForget u) i (pForget u 17 (5 * i)))) a (pForget u)))) rfl 8 (by decide) (hC.2.2.2.2.1 _ wf_H_36) (fun _ h9 => h9) rfl d_H_bringByRule_105 ?_
          refine j_aload_n hC d_H_bringByRule_108 rfl 1 rfl ?_
          refine j_aload_n hC d_H_bringByRule_109 rfl 3 rfl ?_
          refine j_getN hC hin_A (47 + (5 * i)) (cw_atom g k (pB1w i a (itN (pB1 i rd (pChoices (pForget u) i (pForget u 17 (5 * i)))) a (pForget u))) (j := 5 * i) (by omega)) rfl 2 (by decide) (hC.2.2.2.2.1 _ wf_H_259) (fun _ h9 => h9) rfl d_H_bringByRule_110 ?_
          have hR1 : pR u (pB1w i a (itN (pB1 i rd (pChoices (pForget u) i (pForget u 17 (5 * i)))) a (pForget u))) := pB1w_ok hlt hRw
          have hM1 := hR1.wfM hM
          refine j_callNr (As := [.ref (g (15 + i)), .int ((pB1w i a (itN (pB1 i rd (pChoices (pForget u) i (pForget u 17 (5 * i)))) a (pForget u))) 18 (5 * i))]) (rest := []) (st1 := [.int (pChoices (pB1w i a (itN (pB1 i rd (pChoices (pForget u) i (pForget u 17 (5 * i)))) a (pForget u))) i (pB1w i a (itN (pB1 i rd (pChoices (pForget u) i (pForget u 17 (5 * i)))) a (pForget u)) 18 (5 * i)))]) hC (k_choices l dC dI g k tl (pB1w i a (itN (pB1 i rd (pChoices (pForget u) i (pForget u 17 (5 * i)))) a (pForget u))) hi hM1 (pB1w i a (itN (pB1 i rd (pChoices (pForget u) i (pForget u 17 (5 * i)))) a (pForget u)) 18 (5 * i)) (hM1.2.1 (5 * i) (by omega)).2.2.1) rfl rfl ww_H_244 yn_M_choices (cw_match g k (pB1w i a (itN (pB1 i rd (pChoices (pForget u) i (pForget u 17 (5 * i)))) a (pForget u)))) rfl rfl d_H_bringByRule_113 (Nat.le_of_ble_eq_true rfl) (by decide) ⟨Nat.zero_le _, Nat.zero_le _⟩ rfl ?_
          refine j_iload hC d_H_bringByRule_116 7 rfl ?_
          refine j_iconst (v := -1) hC d_H_bringByRule_118 (by decide) ?_
          refine j_ixor hC d_H_bringByRule_119 ?_
          refine j_iand hC d_H_bringByRule_120 ?_
          refine j_istore (lv' := [(0, .ref (g 0)), (1, .ref (g (15 + i))), (2, .int rd), (3, .ref (g (47 + (5 * i)))), (4, .int (pChoices (pForget u) i (pForget u 17 (5 * i)))), (5, .int (nI a)), (6, .int (nI (pRowOf i a (itN (pB1 i rd (pChoices (pForget u) i (pForget u 17 (5 * i)))) a (pForget u))))), (7, .int (((itN (pB1 i rd (pChoices (pForget u) i (pForget u 17 (5 * i)))) a (pForget u)) 7 (pRowOf i a (itN (pB1 i rd (pChoices (pForget u) i (pForget u 17 (5 * i)))) a (pForget u)))) ||| ((itN (pB1 i rd (pChoices (pForget u) i (pForget u 17 (5 * i)))) a (pForget u)) 5 (pRowOf i a (itN (pB1 i rd (pChoices (pForget u) i (pForget u 17 (5 * i)))) a (pForget u)))))), (8, .int ((pChoices (pB1w i a (itN (pB1 i rd (pChoices (pForget u) i (pForget u 17 (5 * i)))) a (pForget u))) i (pB1w i a (itN (pB1 i rd (pChoices (pForget u) i (pForget u 17 (5 * i)))) a (pForget u)) 18 (5 * i))) &&& ((((itN (pB1 i rd (pChoices (pForget u) i (pForget u 17 (5 * i)))) a (pForget u)) 7 (pRowOf i a (itN (pB1 i rd (pChoices (pForget u) i (pForget u 17 (5 * i)))) a (pForget u)))) ||| ((itN (pB1 i rd (pChoices (pForget u) i (pForget u 17 (5 * i)))) a (pForget u)) 5 (pRowOf i a (itN (pB1 i rd (pChoices (pForget u) i (pForget u 17 (5 * i)))) a (pForget u))))) ^^^ (-1))))]) hC d_H_bringByRule_121 (by decide) rfl rfl ?_
          refine j_iconst (v := 0) hC d_H_bringByRule_123 (by decide) ?_
          refine j_istore (lv' := [(0, .ref (g 0)), (1, .ref (g (15 + i))), (2, .int rd), (3, .ref (g (47 + (5 * i)))), (4, .int (pChoices (pForget u) i (pForget u 17 (5 * i)))), (5, .int (nI a)), (6, .int (nI (pRowOf i a (itN (pB1 i rd (pChoices (pForget u) i (pForget u 17 (5 * i)))) a (pForget u))))), (7, .int (((itN (pB1 i rd (pChoices (pForget u) i (pForget u 17 (5 * i)))) a (pForget u)) 7 (pRowOf i a (itN (pB1 i rd (pChoices (pForget u) i (pForget u 17 (5 * i)))) a (pForget u)))) ||| ((itN (pB1 i rd (pChoices (pForget u) i (pForget u 17 (5 * i)))) a (pForget u)) 5 (pRowOf i a (itN (pB1 i rd (pChoices (pForget u) i (pForget u 17 (5 * i)))) a (pForget u)))))), (8, .int ((pChoices (pB1w i a (itN (pB1 i rd (pChoices (pForget u) i (pForget u 17 (5 * i)))) a (pForget u))) i (pB1w i a (itN (pB1 i rd (pChoices (pForget u) i (pForget u 17 (5 * i)))) a (pForget u)) 18 (5 * i))) &&& ((((itN (pB1 i rd (pChoices (pForget u) i (pForget u 17 (5 * i)))) a (pForget u)) 7 (pRowOf i a (itN (pB1 i rd (pChoices (pForget u) i (pForget u 17 (5 * i)))) a (pForget u)))) ||| ((itN (pB1 i rd (pChoices (pForget u) i (pForget u 17 (5 * i)))) a (pForget u)) 5 (pRowOf i a (itN (pB1 i rd (pChoices (pForget u) i (pForget u 17 (5 * i)))) a (pForget u))))) ^^^ (-1)))), (9, .int 0)]) hC d_H_bringByRule_124 (by decide) rfl rfl ?_
          rw [← itN_0 (pB2 i rd a (pRowOf i a (itN (pB1 i rd (pChoices (pForget u) i (pForget u 17 (5 * i)))) a (pForget u))) (pB1s i a (itN (pB1 i rd (pChoices (pForget u) i (pForget u 17 (5 * i)))) a (pForget u)))) (pB1w i a (itN (pB1 i rd (pChoices (pForget u) i (pForget u 17 (5 * i)))) a (pForget u)))]
          refine inner a hlt (pChoices (pForget u) i (pForget u 17 (5 * i))) (pRowOf i a (itN (pB1 i rd (pChoices (pForget u) i (pForget u 17 (5 * i)))) a (pForget u))) hrow _ (pB1s i a (itN (pB1 i rd (pChoices (pForget u) i (pForget u 17 (5 * i)))) a (pForget u))) (pB1w i a (itN (pB1 i rd (pChoices (pForget u) i (pForget u 17 (5 * i)))) a (pForget u))) hR1 ?_ 13 0 (by omega) (by omega)
          refine j_iinc (lv' := [(0, .ref (g 0)), (1, .ref (g (15 + i))), (2, .int rd), (3, .ref (g (47 + (5 * i)))), (4, .int (pChoices (pForget u) i (pForget u 17 (5 * i)))), (5, .int (nI (a + 1)))]) hC d_H_bringByRule_214 5 rfl (nI_1 _) (by decide) rfl rfl ?_
          refine j_goto (tgt := 29) hC d_H_bringByRule_217 (by decide) ?_
          have e9 : itN (pB1 i rd (pChoices (pForget u) i (pForget u 17 (5 * i)))) (a + 1) (pForget u) = itN (pB2 i rd a (pRowOf i a (itN (pB1 i rd (pChoices (pForget u) i (pForget u 17 (5 * i)))) a (pForget u))) (pB1s i a (itN (pB1 i rd (pChoices (pForget u) i (pForget u 17 (5 * i)))) a (pForget u)))) 12 (pB1w i a (itN (pB1 i rd (pChoices (pForget u) i (pForget u 17 (5 * i)))) a (pForget u))) := by rw [itN_s, pB1, if_neg h43]
          have k9 := ih (a + 1) (by omega) (by omega)
          rw [e9] at k9
          exact k9
        · refine j_goto (tgt := 214) hC d_H_bringByRule_46 (by decide) ?_
          refine j_iinc (lv' := [(0, .ref (g 0)), (1, .ref (g (15 + i))), (2, .int rd), (3, .ref (g (47 + (5 * i)))), (4, .int (pChoices (pForget u) i (pForget u 17 (5 * i)))), (5, .int (nI (a + 1)))]) hC d_H_bringByRule_214 5 rfl (nI_1 _) (by decide) rfl rfl ?_
          refine j_goto (tgt := 29) hC d_H_bringByRule_217 (by decide) ?_
          have e9 : itN (pB1 i rd (pChoices (pForget u) i (pForget u 17 (5 * i)))) (a + 1) (pForget u) = itN (pB1 i rd (pChoices (pForget u) i (pForget u 17 (5 * i)))) a (pForget u) := by rw [itN_s, pB1, if_pos h43]
          have k9 := ih (a + 1) (by omega) (by omega)
          rw [e9] at k9
          exact k9
  refine j_aload_n hC d_H_bringByRule_0 rfl 1 rfl ?_
  refine j_getN hC hin_R (15 + i) (cw_rule g k u (by omega)) rfl 0 (by decide) (hC.2.2.2.2.1 _ wf_H_201) (fun _ h9 => h9) rfl d_H_bringByRule_1 ?_
  refine j_astore_n (lv' := [(0, .ref (g 0)), (1, .ref (g (15 + i))), (2, .int rd), (3, .ref (g (47 + (5 * i))))]) hC d_H_bringByRule_4 rfl (by decide) rfl rfl ?_
  refine j_aload_n hC d_H_bringByRule_5 rfl 0 rfl ?_
  refine j_get hC hin_H (0) (cw_house g k u) rfl 8 (by decide) (hC.2.2.2.2.1 _ wf_H_36) (fun _ h9 => h9) rfl d_H_bringByRule_6 ?_
  refine j_callNr (As := []) (rest := []) (st1 := []) hC (k_forget l dC dI g k tl u) rfl rfl ww_H_238 yn_M_forget (cw_match g k u) rfl rfl d_H_bringByRule_9 (Nat.le_of_ble_eq_true rfl) (by decide) ⟨Nat.zero_le _, Nat.zero_le _⟩ rfl ?_
  refine j_aload_n hC d_H_bringByRule_12 rfl 0 rfl ?_
  refine j_get hC hin_H (0) (cw_house g k (pForget u)) rfl 8 (by decide) (hC.2.2.2.2.1 _ wf_H_36) (fun _ h9 => h9) rfl d_H_bringByRule_13 ?_
  refine j_aload_n hC d_H_bringByRule_16 rfl 1 rfl ?_
  refine j_aload_n hC d_H_bringByRule_17 rfl 3 rfl ?_
  refine j_getN hC hin_A (47 + (5 * i)) (cw_atom g k (pForget u) (j := 5 * i) (by omega)) rfl 1 (by decide) (hC.2.2.2.2.1 _ wf_H_241) (fun _ h9 => h9) rfl d_H_bringByRule_18 ?_
  refine j_callNr (As := [.ref (g (15 + i)), .int ((pForget u) 17 (5 * i))]) (rest := []) (st1 := [.int (pChoices (pForget u) i (pForget u 17 (5 * i)))]) hC (k_choices l dC dI g k tl (pForget u) hi (hM.of (only6_forget u) (wfV_forget hM.2.2)) (pForget u 17 (5 * i)) (by rw [only6_forget u 17 (by decide)]; exact (hM.2.1 (5 * i) (by omega)).2.1)) rfl rfl ww_H_244 yn_M_choices (cw_match g k (pForget u)) rfl rfl d_H_bringByRule_21 (Nat.le_of_ble_eq_true rfl) (by decide) ⟨Nat.zero_le _, Nat.zero_le _⟩ rfl ?_
  refine j_istore (lv' := [(0, .ref (g 0)), (1, .ref (g (15 + i))), (2, .int rd), (3, .ref (g (47 + (5 * i)))), (4, .int (pChoices (pForget u) i (pForget u 17 (5 * i))))]) hC d_H_bringByRule_24 (by decide) rfl rfl ?_
  refine j_iconst (v := 0) hC d_H_bringByRule_26 (by decide) ?_
  refine j_istore (lv' := [(0, .ref (g 0)), (1, .ref (g (15 + i))), (2, .int rd), (3, .ref (g (47 + (5 * i)))), (4, .int (pChoices (pForget u) i (pForget u 17 (5 * i)))), (5, .int 0)]) hC d_H_bringByRule_27 (by decide) rfl rfl ?_
  exact outer 13 0 (by omega) (by omega)

set_option maxHeartbeats 4000000 in
set_option maxRecDepth 100000 in
theorem k_round (l : Launch) (dC : Nat → ClassId) (dI : Nat → Nat → Nat) (g k : Nat → Nat) (tl : List (ClassId × FieldType)) (u : jU) (hH : wfH u) (ly rd ch : Int32) : jMet l y_H_bringRound (.code y_H_bringRound c_H_bringRound 6 none) ({ frames := 9, cells := 0, slots := 0, locals := 404 }) (dC, dI) jcl (ctys k tl) jTs [.ref (g 0), .int ly, .int rd, .int ch] (cw g k u) 0 0 (jRet none (cw g k (pRound ly rd ch u))) := by
  refine jMet.of (by decide) (Nat.le_of_ble_eq_true rfl) ?_
  intro p e s m below meth c A hC hex hr hnm htr
  show jJ p l e ({ frames := 9, cells := 0, slots := 0, locals := 404 }) s m [.ref (g 0), .int ly, .int rd, .int ch].toArray below meth c 6 (dC, dI) jcl A (hxQ below (jQ (dC, dI) jcl (jRet none (cw g k (pRound ly rd ch u))) A) [.ref (g 0), .int ly, .int rd, .int ch].toArray s 0 0 A) 0 0 (cw g k u) [(0, .ref (g 0)), (1, .int ly), (2, .int rd), (3, .int ch)] [] 0
  have hk17 := hH.2.2
  have hk := hk17.2
  have loop : ∀ (n i : Nat), i ≤ tn (u 0 1) → tn (u 0 1) < i + n → jJ p l e ({ frames := 9, cells := 0, slots := 0, locals := 404 }) s m [.ref (g 0), .int ly, .int rd, .int ch].toArray below meth c 6 (dC, dI) jcl A (hxQ below (jQ (dC, dI) jcl (jRet none (cw g k (pRound ly rd ch u))) A) [.ref (g 0), .int ly, .int rd, .int ch].toArray s 0 0 A) 0 0 (cw g k (itN (pBR ly rd ch) i u)) [(0, .ref (g 0)), (1, .int ly), (2, .int rd), (3, .int ch), (4, .int (nI i))] [] 3 := by
    intro n
    induction n with
    | zero => intro i h1 h2; exact absurd h2 (by omega)
    | succ n ih =>
      intro i hi hn
      have hRv : pR u (itN (pBR ly rd ch) i u) := itN_inv (P := pR u) ⟨kp.rf _ u, hH.1.2.2⟩ i (fun q w _ hw => pBR_ok hw)
      have hMv := hRv.wfM hH.1
      have hk0 : (itN (pBR ly rd ch) i u) 0 1 = u 0 1 := by rw [hRv.1 0 (by decide)]
      refine j_iload hC d_H_bringRound_3 4 rfl ?_
      refine j_aload_n hC d_H_bringRound_5 rfl 0 rfl ?_
      refine j_get hC hin_H (0) (cw_house g k (itN (pBR ly rd ch) i u)) rfl 4 (by decide) (hC.2.2.2.2.1 _ wf_H_54) (fun _ h9 => h9) rfl d_H_bringRound_6 ?_
      refine j_icmp_ge (tgt := 66) hC d_H_bringRound_9 (by decide) (fun h9 => ?_) (fun h9 => ?_)
      · have hge : tn (u 0 1) ≤ i := (inN_leN hk17 (by decide) (by omega)).mp (by rw [← hk0]; exact h9)
        have hie : i = tn (u 0 1) := by omega
        exact j_vret hC hr ⟨rfl, rfl, by rw [hie]; rfl⟩ d_H_bringRound_66
      · have hlt : i < tn (u 0 1) := Nat.not_le.mp (fun z => h9 (by rw [hk0]; exact (inN_leN hk17 (by decide) (by omega)).mpr z))
        have hi16 : i < 16 := by omega
        refine j_aload_n hC d_H_bringRound_12 rfl 0 rfl ?_
        refine j_get hC hin_H (0) (cw_house g k (itN (pBR ly rd ch) i u)) rfl 2 (by decide) (hC.2.2.2.2.1 _ wf_H_20) (fun _ h9 => h9) rfl d_H_bringRound_13 ?_
        refine j_iload hC d_H_bringRound_16 4 rfl ?_
        refine j_aaldN (v := g (15 + i)) hC (3) 2 (cw_rules g k (itN (pBR ly rd ch) i u)) rfl (n := i) (rfl) (hi16) (by decide) (if_pos (hi16)) d_H_bringRound_18 ?_
        refine j_astore (lv' := [(0, .ref (g 0)), (1, .int ly), (2, .int rd), (3, .int ch), (4, .int (nI i)), (5, .ref (g (15 + i)))]) hC d_H_bringRound_19 (by decide) rfl rfl ?_
        refine j_aload_n hC d_H_bringRound_21 rfl 0 rfl ?_
        refine j_get hC hin_H (0) (cw_house g k (itN (pBR ly rd ch) i u)) rfl 5 (by decide) (hC.2.2.2.2.1 _ wf_H_24) (fun _ h9 => h9) rfl d_H_bringRound_22 ?_
        refine j_aload hC d_H_bringRound_25 5 rfl ?_
        refine j_getN hC hin_R (15 + i) (cw_rule g k (itN (pBR ly rd ch) i u) (by omega)) rfl 0 (by decide) (hC.2.2.2.2.1 _ wf_H_201) (fun _ h9 => h9) rfl d_H_bringRound_27 ?_
        refine j_getN hC hin_A (47 + (5 * i)) (cw_atom g k (itN (pBR ly rd ch) i u) (j := 5 * i) (by omega)) rfl 0 (by decide) (hC.2.2.2.2.1 _ wf_H_205) (fun _ h9 => h9) rfl d_H_bringRound_30 ?_
        refine j_ialdN hC (4) 0 (cw_layers g k (itN (pBR ly rd ch) i u)) rfl (n := tn ((itN (pBR ly rd ch) i u) 16 (5 * i))) ((hMv.2.1 (5 * i) (by omega)).1.1) ((hMv.2.1 (5 * i) (by omega)).1.2) (by decide) d_H_bringRound_33 ?_
        refine j_iload_n hC d_H_bringRound_34 rfl 1 rfl ?_
        refine j_icmp_ne (tgt := 60) hC d_H_bringRound_35 (by decide) (fun h35 => ?_) (fun h35 => ?_)
        · refine j_iinc (lv' := [(0, .ref (g 0)), (1, .int ly), (2, .int rd), (3, .int ch), (4, .int (nI (i + 1))), (5, .ref (g (15 + i)))]) hC d_H_bringRound_60 4 rfl (nI_1 _) (by decide) rfl rfl ?_
          refine j_goto (tgt := 3) hC d_H_bringRound_63 (by decide) ?_
          have e9 : itN (pBR ly rd ch) (i + 1) u = itN (pBR ly rd ch) i u := by rw [itN_s, pBR, if_neg h35]
          have k9 := ih (i + 1) (by omega) (by omega)
          rw [e9] at k9
          exact j_locals [0, 1, 2, 3, 4] rfl k9
        · refine j_iload_n hC d_H_bringRound_38 rfl 2 rfl ?_
          refine j_iconst (v := 1) hC d_H_bringRound_39 (by decide) ?_
          refine j_icmp_eq (tgt := 53) hC d_H_bringRound_40 (by decide) (fun h40 => ?_) (fun h40 => ?_)
          · refine j_aload_n hC d_H_bringRound_53 rfl 0 rfl ?_
            refine j_aload hC d_H_bringRound_54 5 rfl ?_
            refine j_iload_n hC d_H_bringRound_56 rfl 2 rfl ?_
            refine j_callVr (As := [.ref (g (15 + i)), .int rd]) (rest := []) (st1 := []) hC (k_bring l dC dI g k tl (itN (pBR ly rd ch) i u) (i := i) hi16 hMv rd) rfl rfl ww_H_234 yn_H_bringByRule (cw_house g k (itN (pBR ly rd ch) i u)) rfl rfl d_H_bringRound_57 (Nat.le_of_ble_eq_true rfl) (by decide) ⟨Nat.zero_le _, Nat.zero_le _⟩ rfl ?_
            refine j_iinc (lv' := [(0, .ref (g 0)), (1, .int ly), (2, .int rd), (3, .int ch), (4, .int (nI (i + 1))), (5, .ref (g (15 + i)))]) hC d_H_bringRound_60 4 rfl (nI_1 _) (by decide) rfl rfl ?_
            refine j_goto (tgt := 3) hC d_H_bringRound_63 (by decide) ?_
            have e9 : itN (pBR ly rd ch) (i + 1) u = pBring i rd (itN (pBR ly rd ch) i u) := by rw [itN_s, pBR, if_pos h35, if_pos h40]
            have k9 := ih (i + 1) (by omega) (by omega)
            rw [e9] at k9
            exact j_locals [0, 1, 2, 3, 4] rfl k9
          · refine j_aload hC d_H_bringRound_43 5 rfl ?_
            refine j_getN hC hin_R (15 + i) (cw_rule g k (itN (pBR ly rd ch) i u) (by omega)) rfl 5 (by decide) (hC.2.2.2.2.1 _ wf_H_231) (fun _ h9 => h9) rfl d_H_bringRound_45 ?_
            refine j_iload_n hC d_H_bringRound_48 rfl 3 rfl ?_
            refine j_iand hC d_H_bringRound_49 ?_
            refine j_if_eq (tgt := 60) hC d_H_bringRound_50 (by decide) (fun h50 => ?_) (fun h50 => ?_)
            · refine j_iinc (lv' := [(0, .ref (g 0)), (1, .int ly), (2, .int rd), (3, .int ch), (4, .int (nI (i + 1))), (5, .ref (g (15 + i)))]) hC d_H_bringRound_60 4 rfl (nI_1 _) (by decide) rfl rfl ?_
              refine j_goto (tgt := 3) hC d_H_bringRound_63 (by decide) ?_
              have e9 : itN (pBR ly rd ch) (i + 1) u = itN (pBR ly rd ch) i u := by rw [itN_s, pBR, if_pos h35, if_neg h40, if_pos h50]
              have k9 := ih (i + 1) (by omega) (by omega)
              rw [e9] at k9
              exact j_locals [0, 1, 2, 3, 4] rfl k9
            · refine j_aload_n hC d_H_bringRound_53 rfl 0 rfl ?_
              refine j_aload hC d_H_bringRound_54 5 rfl ?_
              refine j_iload_n hC d_H_bringRound_56 rfl 2 rfl ?_
              refine j_callVr (As := [.ref (g (15 + i)), .int rd]) (rest := []) (st1 := []) hC (k_bring l dC dI g k tl (itN (pBR ly rd ch) i u) (i := i) hi16 hMv rd) rfl rfl ww_H_234 yn_H_bringByRule (cw_house g k (itN (pBR ly rd ch) i u)) rfl rfl d_H_bringRound_57 (Nat.le_of_ble_eq_true rfl) (by decide) ⟨Nat.zero_le _, Nat.zero_le _⟩ rfl ?_
              refine j_iinc (lv' := [(0, .ref (g 0)), (1, .int ly), (2, .int rd), (3, .int ch), (4, .int (nI (i + 1))), (5, .ref (g (15 + i)))]) hC d_H_bringRound_60 4 rfl (nI_1 _) (by decide) rfl rfl ?_
              refine j_goto (tgt := 3) hC d_H_bringRound_63 (by decide) ?_
              have e9 : itN (pBR ly rd ch) (i + 1) u = pBring i rd (itN (pBR ly rd ch) i u) := by rw [itN_s, pBR, if_pos h35, if_neg h40, if_neg h50]
              have k9 := ih (i + 1) (by omega) (by omega)
              rw [e9] at k9
              exact j_locals [0, 1, 2, 3, 4] rfl k9
  refine j_iconst (v := 0) hC d_H_bringRound_0 (by decide) ?_
  refine j_istore (lv' := [(0, .ref (g 0)), (1, .int ly), (2, .int rd), (3, .int ch), (4, .int 0)]) hC d_H_bringRound_1 (by decide) rfl rfl ?_
  exact loop 18 0 (by omega) (by omega)

set_option maxHeartbeats 4000000 in
set_option maxRecDepth 100000 in
theorem k_leastRule (l : Launch) (dC : Nat → ClassId) (dI : Nat → Nat → Nat) (g k : Nat → Nat) (tl : List (ClassId × FieldType)) (u : jU) (hH : wfH u) (r a b : Int32) (ha : inN a 12) (hb12 : inN b 12) : jMet l y_H_leastRule (.code y_H_leastRule c_H_leastRule 5 (some .int)) ({ frames := 8, cells := 0, slots := 0, locals := 375 }) (dC, dI) jcl (ctys k tl) jTs [.ref (g 0), .int r, .int a, .int b] (cw g k u) 0 0 (jRet (some (.int ((pLR r a b (tn (u 0 1)) 0 u).1))) (cw g k ((pLR r a b (tn (u 0 1)) 0 u).2))) := by
  refine jMet.of (by decide) (Nat.le_of_ble_eq_true rfl) ?_
  intro p e s m below meth c A hC hex hr hnm htr
  show jJ p l e ({ frames := 8, cells := 0, slots := 0, locals := 375 }) s m [.ref (g 0), .int r, .int a, .int b].toArray below meth c 5 (dC, dI) jcl A (hxQ below (jQ (dC, dI) jcl (jRet (some (.int ((pLR r a b (tn (u 0 1)) 0 u).1))) (cw g k ((pLR r a b (tn (u 0 1)) 0 u).2))) A) [.ref (g 0), .int r, .int a, .int b].toArray s 0 0 A) 0 0 (cw g k u) [(0, .ref (g 0)), (1, .int r), (2, .int a), (3, .int b)] [] 0
  have hk17 := hH.2.2
  have hk := hk17.2
  have loop : ∀ (n i : Nat) (v : jU), i ≤ tn (u 0 1) → tn (u 0 1) < i + n → only6 u v → wfV v → pLR r a b (tn (u 0 1) - i) i v = pLR r a b (tn (u 0 1)) 0 u → jJ p l e ({ frames := 8, cells := 0, slots := 0, locals := 375 }) s m [.ref (g 0), .int r, .int a, .int b].toArray below meth c 5 (dC, dI) jcl A (hxQ below (jQ (dC, dI) jcl (jRet (some (.int ((pLR r a b (tn (u 0 1)) 0 u).1))) (cw g k ((pLR r a b (tn (u 0 1)) 0 u).2))) A) [.ref (g 0), .int r, .int a, .int b].toArray s 0 0 A) 0 0 (cw g k v) [(0, .ref (g 0)), (1, .int r), (2, .int a), (3, .int b), (4, .int (nI i))] [] 3 := by
    intro n
    induction n with
    | zero => intro i v h1 h2; exact absurd h2 (by omega)
    | succ n ih =>
      intro i v hi hn ho hv hinv
      have hMv : wfM v := hH.1.of ho hv
      have hk0 : v 0 1 = u 0 1 := by rw [ho 0 (by decide)]
      have hmo := pMeets_ok (u := v) i r a b ha hb12
      have hfo := pFind_frame i 5 20 (pMeets v i r a b).2
      refine j_iload hC d_H_leastRule_3 4 rfl ?_
      refine j_aload_n hC d_H_leastRule_5 rfl 0 rfl ?_
      refine j_get hC hin_H (0) (cw_house g k v) rfl 4 (by decide) (hC.2.2.2.2.1 _ wf_H_54) (fun _ h9 => h9) rfl d_H_leastRule_6 ?_
      refine j_icmp_ge (tgt := 60) hC d_H_leastRule_9 (by decide) (fun h9 => ?_) (fun h9 => ?_)
      · have hge : tn (u 0 1) ≤ i := (inN_leN hk17 (by decide) (by omega)).mp (by rw [← hk0]; exact h9)
        have hie : tn (u 0 1) - i = 0 := by omega
        refine j_iconst (v := -1) hC d_H_leastRule_60 (by decide) ?_
        exact j_iret hC hr (by rw [← hinv, hie]; exact ⟨rfl, rfl, rfl⟩) d_H_leastRule_61
      · have hlt : i < tn (u 0 1) := Nat.not_le.mp (fun z => h9 (by rw [hk0]; exact (inN_leN hk17 (by decide) (by omega)).mpr z))
        have hi16 : i < 16 := by omega
        have e12 : pLR r a b (tn (u 0 1) - i) i v = pLR r a b ((tn (u 0 1) - (i + 1)) + 1) i v := by rw [show tn (u 0 1) - i = (tn (u 0 1) - (i + 1)) + 1 by omega]
        refine j_aload_n hC d_H_leastRule_12 rfl 0 rfl ?_
        refine j_get hC hin_H (0) (cw_house g k v) rfl 8 (by decide) (hC.2.2.2.2.1 _ wf_H_36) (fun _ h9 => h9) rfl d_H_leastRule_13 ?_
        refine j_aload_n hC d_H_leastRule_16 rfl 0 rfl ?_
        refine j_get hC hin_H (0) (cw_house g k v) rfl 2 (by decide) (hC.2.2.2.2.1 _ wf_H_20) (fun _ h9 => h9) rfl d_H_leastRule_17 ?_
        refine j_iload hC d_H_leastRule_20 4 rfl ?_
        refine j_aaldN (v := g (15 + i)) hC (3) 2 (cw_rules g k v) rfl (n := i) (rfl) (hi16) (by decide) (if_pos (hi16)) d_H_leastRule_22 ?_
        refine j_iload_n hC d_H_leastRule_23 rfl 1 rfl ?_
        refine j_iload_n hC d_H_leastRule_24 rfl 2 rfl ?_
        refine j_iload_n hC d_H_leastRule_25 rfl 3 rfl ?_
        refine j_callNr (As := [.ref (g (15 + i)), .int r, .int a, .int b]) (rest := []) (st1 := [.int (b2i (pMeets v i r a b).1)]) hC (k_meets l dC dI g k tl v (i := i) hi16 hMv r a b ha hb12) rfl rfl ww_H_133 yn_M_meets (cw_match g k v) rfl rfl d_H_leastRule_26 (Nat.le_of_ble_eq_true rfl) (by decide) ⟨Nat.zero_le _, Nat.zero_le _⟩ rfl ?_
        refine j_if_eq (tgt := 54) hC d_H_leastRule_29 (by decide) (fun h29 => ?_) (fun h29 => ?_)
        · refine j_iinc (lv' := [(0, .ref (g 0)), (1, .int r), (2, .int a), (3, .int b), (4, .int (nI (i + 1)))]) hC d_H_leastRule_54 4 rfl (nI_1 _) (by decide) rfl rfl ?_
          refine j_goto (tgt := 3) hC d_H_leastRule_57 (by decide) ?_
          exact ih (i + 1) (pMeets v i r a b).2 (by omega) (by omega) (ho.tr hmo.1) (hmo.2 hv) (by rw [← hinv, e12, pLR, if_pos h29])
        · refine j_aload_n hC d_H_leastRule_32 rfl 0 rfl ?_
          refine j_get hC hin_H (0) (cw_house g k ((pMeets v i r a b).2)) rfl 8 (by decide) (hC.2.2.2.2.1 _ wf_H_36) (fun _ h9 => h9) rfl d_H_leastRule_33 ?_
          refine j_aload_n hC d_H_leastRule_36 rfl 0 rfl ?_
          refine j_get hC hin_H (0) (cw_house g k ((pMeets v i r a b).2)) rfl 2 (by decide) (hC.2.2.2.2.1 _ wf_H_20) (fun _ h9 => h9) rfl d_H_leastRule_37 ?_
          refine j_iload hC d_H_leastRule_40 4 rfl ?_
          refine j_aaldN (v := g (15 + i)) hC (3) 2 (cw_rules g k ((pMeets v i r a b).2)) rfl (n := i) (rfl) (hi16) (by decide) (if_pos (hi16)) d_H_leastRule_42 ?_
          refine j_bipush (v := 20) hC d_H_leastRule_43 (by decide) ?_
          refine j_callNr (As := [.ref (g (15 + i)), .int 20]) (rest := []) (st1 := [.int (b2i (pFind i 5 20 (pMeets v i r a b).2).1)]) hC (k_find l dC dI g k tl hi16 5 (pMeets v i r a b).2 20 (by decide) (by decide) (hMv.of hmo.1 (hmo.2 hv))) rfl rfl ww_H_262 yn_M_findLeast (cw_match g k ((pMeets v i r a b).2)) rfl rfl d_H_leastRule_45 (Nat.le_of_ble_eq_true rfl) (by decide) ⟨Nat.zero_le _, Nat.zero_le _⟩ rfl ?_
          refine j_if_eq (tgt := 54) hC d_H_leastRule_48 (by decide) (fun h48 => ?_) (fun h48 => ?_)
          · refine j_iinc (lv' := [(0, .ref (g 0)), (1, .int r), (2, .int a), (3, .int b), (4, .int (nI (i + 1)))]) hC d_H_leastRule_54 4 rfl (nI_1 _) (by decide) rfl rfl ?_
            refine j_goto (tgt := 3) hC d_H_leastRule_57 (by decide) ?_
            exact ih (i + 1) (pFind i 5 20 (pMeets v i r a b).2).2 (by omega) (by omega) ((ho.tr hmo.1).tr hfo.1) (hfo.2 (hmo.2 hv)) (by rw [← hinv, e12, pLR, if_neg h29, if_pos h48])
          · refine j_iload hC d_H_leastRule_51 4 rfl ?_
            exact j_iret hC hr (by rw [← hinv, e12, pLR, if_neg h29, if_neg h48]; exact ⟨rfl, rfl, rfl⟩) d_H_leastRule_53
  refine j_iconst (v := 0) hC d_H_leastRule_0 (by decide) ?_
  refine j_istore (lv' := [(0, .ref (g 0)), (1, .int r), (2, .int a), (3, .int b), (4, .int 0)]) hC d_H_leastRule_1 (by decide) rfl rfl ?_
  exact loop 18 0 u (by omega) (by omega) (only6.rf u) hH.1.2.2 rfl
end
section
-- contracts that throw, called where nothing catches
/-- a contract's end: thrown c, or (c none) this value; these cells -/
def jE (c : Option String) (v : Option Value) (w : va_W) : Option String → Option Value → va_W → Prop := fun o v' w' => o = c ∧ (o = none → v' = v) ∧ w' = w
section JEX
variable {p : Program} {l : Launch} {e : Env} {R : Room} {s : State} {m : MethodId} {args : Array Value} {below : List Frame} {meth : Method} {c : Code} {Q : State → Prop} {cells slots : Nat}
variable {cc : ByteArray} {nL : Nat} {own : String} {Ts : List Cond} {D : va_G} {cl : List vw_C} {tys : List (ClassId × FieldType)} {A : Nat → Prop}
variable {pc : Nat} {lv : List (Nat × Value)} {st : List Value} {ws w1 w2 : va_W}
variable {y : MethodName} {bytes : ByteArray} {maxL index mc ms MC MS : Nat} {ret : Option FieldType} {rm : Room} {As rest st0 : List Value} {r r2 : Option Value} {c0 c1 : Option String}
theorem jT_widen {cells' slots' : Nat} {cn : String} (h1 : cells ≤ cells') (h2 : slots ≤ slots') (k : jT p l e R s m args below meth c nL D cl A Q cells' slots' cn ws lv pc) : jT p l e R s m args below meth c nL D cl A Q cells slots cn ws lv pc :=
  fun H locs ls x st hP hD hS hl hx T hT X => k H locs ls x st hP hD hS hl hx T hT (stand_widen X h1 h2)
/-- a call of a method that may throw, the exception going on out -/
theorem j_callVx (hC : jC p s m args meth c cc nL own Ts D cl tys A) (hex : c.exceptionTable.isEmpty = true) {C : String} {T : u_T} {N ci b q0 : Nat} {fs : List Value}
    (hM : jMet l y (.code y bytes maxL ret) rm D cl tys Ts (.ref b :: As) ws mc ms (jE c0 r w1)) (hrc : rm.cells = mc) (hrs : rm.slots = ms) (hw : ∀ w ∈ jwV own index C y (.code y bytes maxL ret), w ∈ Ts)
    (hy : y.cls ≠ "java/lang/invoke/MethodHandle" ∧ y.cls ≠ "java/lang/invoke/VarHandle" ∧ (parseMethodDescriptor y.desc).map (fun d => d.parameters.length) = some As.length)
    (he : ws[q0]? = some (b, .inr (ci, fs))) (hcl : cl[ci]? = some (C, T, N)) (hst : st0 = As.reverse ++ .ref b :: rest) (hd : decode cc pc = .ok (.invokevirtual index, 3)) (hW : (rest.map fun v => v.category).sum ≤ 8)
    (hfl : rm.frames + 1 ≤ R.frames ∧ 8 + (maxL + 11) + rm.locals ≤ R.locals) (hcs : cells + mc ≤ R.cells ∧ slots + ms ≤ R.slots) (hcs2 : cells + mc ≤ MC ∧ slots + ms ≤ MS) {st1 : List Value} (hr : r.toList ++ rest = st1)
    (hx : ∀ cn, c0 = some cn → c1 = some cn ∧ w1 = w2)
    (k : c0 = none → jJ p l e R s m args below meth c nL D cl A (hxQ below (jQ D cl (jE c1 r2 w2) A) args s MC MS A) (cells + mc) (slots + ms) w1 lv st1 (pc + 3)) :
    jJ p l e R s m args below meth c nL D cl A (hxQ below (jQ D cl (jE c1 r2 w2) A) args s MC MS A) cells slots ws lv st0 pc := by
  subst hr
  refine j_callV hC hM hrc hrs hw hy he hcl hst hd hW hfl hcs (fun v w h => ?_) (fun cn w h => ?_)
  · obtain ⟨h1, h2, rfl⟩ := h
    rw [h2 rfl]
    exact k h1.symm
  · obtain ⟨h1, h2, rfl⟩ := h
    obtain ⟨h3, h4⟩ := hx cn h1.symm
    refine jT_widen hcs2.1 hcs2.2 (j_out hC hex ⟨h3.symm, fun z => (by cases z), h4⟩)
/-- 'throw new X("..")', the room rounded up -/
theorem j_throwE (hC : jC p s m args meth c cc nL own Ts D cl tys A) (hex : c.exceptionTable.isEmpty = true) (htr : e.platform.stackTraces = false) {cls tx : String} {names : List String} {ia ib ic ix : Nat} {rx : ByteArray} (x0 : decode rx 0 = .ok (.aload_n 0, 1)) (x1 : decode rx 1 = .ok (.aload_n 1, 1)) (x2 : decode rx 2 = .ok (.invokespecial ix, 3)) (x5 : decode rx 5 = .ok (.return_, 1))
    (hd0 : decode cc pc = .ok (.new ia, 3)) (hd3 : decode cc (pc + 3) = .ok (.dup, 1)) (hd4 : decode cc (pc + 4) = .ok (.ldc ib, 2)) (hd6 : decode cc (pc + 6) = .ok (.invokespecial ic, 3)) (hd9 : decode cc (pc + 9) = .ok (.athrow, 1))
    (hcls : Bundle.fit cls = true) (hnames : ∀ n ∈ names, Bundle.fit n = true) (hw : ∀ w ∈ [Cond.classLink own ia cls, .initialized cls, .instantiable cls 6, .stringRef own ib tx], w ∈ Ts)
    (ho : ∀ w ∈ Bundle.ownAtomsX own ic cls ix rx names, w ∈ Ts ∨ w = jA1 ∨ w = jA2 ∨ w = jA3 ∨ w = jA4)
    (hRf : names.length + 3 < R.frames) (hRl : (st.map fun v => v.category).sum + 1 + (13 * (names.length + 1) + 42) ≤ R.locals) (hcells : cells + 1 ≤ MC ∧ slots + 6 ≤ MS) (hR : MC ≤ R.cells ∧ MS ≤ R.slots)
    (hp : c1 = some cls) (hw2 : ws = w2) :
    jJ p l e R s m args below meth c nL D cl A (hxQ below (jQ D cl (jE c1 r2 w2) A) args s MC MS A) cells slots ws lv st pc := by
  subst hw2
  obtain ⟨M1, hM1⟩ : ∃ M1, MC = M1 + 1 := ⟨MC - 1, by omega⟩
  obtain ⟨M2, hM2⟩ : ∃ M2, MS = M2 + 6 := ⟨MS - 6, by omega⟩
  subst hM1
  subst hM2
  refine j_widen (cells' := M1) (slots' := M2) (by omega) (by omega) ?_
  exact j_throw hC hex htr x0 x1 x2 x5 hd0 hd3 hd4 hd6 hd9 hcls hnames hw ho hRf hRl hR.1 hR.2 ⟨hp.symm, fun z => (by cases z), rfl⟩
end JEX
end
section
-- the face of the class: what each call throws, answers and leaves
def xIA : String := "java/lang/IllegalArgumentException"
def xIS : String := "java/lang/IllegalStateException"
def xUO : String := "java/lang/UnsupportedOperationException"
def xNS : String := "java/util/NoSuchElementException"
theorem if_so {c : Option String} {x : String} (h : c = some x) (a b : jU) : (if c = none then a else b) = b := by rw [h]; rfl
theorem if_no {c : Option String} (h : c = none) (a b : jU) : (if c = none then a else b) = a := if_pos h
def pcRel (u : jU) (r : Int32) : Option String := if r < 0 then some xIA else if r < u 0 0 then none else some xIA
def pcFact (u : jU) (r a b : Int32) : Option String := if pcRel u r = none then (if b2i (pCon (pFst u r a)) = 0 then some xIA else if b2i (pCon (pSnd u r b)) = 0 then some xIA else none) else some xIA
def pcTerms (u : jU) (r a b : Int32) : Option String := if pcRel u r = none then (if b2i (pTerm (pFst u r a)) = 0 then some xIA else if b2i (pTerm (pSnd u r b)) = 0 then some xIA else none) else some xIA
def pcRule (u : jU) : Option String := if u 0 1 = 0 then some xIS else none
def pcFault (u : jU) : Option String := if pJudge u 0 2 = -1 then none else some xIS
theorem pcRel_some {u : jU} {r : Int32} {cn : String} (h : pcRel u r = some cn) : cn = xIA := by
  unfold pcRel at h
  split at h
  · exact (Option.some.inj h).symm
  · split at h
    · cases h
    · exact (Option.some.inj h).symm
theorem pcFact_some {u : jU} {r a b : Int32} {cn : String} (h : pcFact u r a b = some cn) : cn = xIA := by
  unfold pcFact at h
  split at h
  · split at h
    · exact (Option.some.inj h).symm
    · split at h
      · exact (Option.some.inj h).symm
      · cases h
  · exact (Option.some.inj h).symm
theorem pcTerms_some {u : jU} {r a b : Int32} {cn : String} (h : pcTerms u r a b = some cn) : cn = xIA := by
  unfold pcTerms at h
  split at h
  · split at h
    · exact (Option.some.inj h).symm
    · split at h
      · exact (Option.some.inj h).symm
      · cases h
  · exact (Option.some.inj h).symm
theorem pcRule_some {u : jU} {cn : String} (h : pcRule u = some cn) : cn = xIS := by
  unfold pcRule at h
  split at h
  · exact (Option.some.inj h).symm
  · cases h
theorem pcFault_some {u : jU} {cn : String} (h : pcFault u = some cn) : cn = xIS := by
  unfold pcFault at h
  split at h
  · cases h
  · exact (Option.some.inj h).symm
theorem inN_of {x : Int32} {n : Nat} (h0 : ¬ x < 0) (h : x < nI n) (hn : n < 2 ^ 31) : inN x n := by
  obtain ⟨j, hj, rfl⟩ := nI_of h0
  have := (nI_ltI hj hn).mp h
  exact inN_nI this (by omega)
theorem rel_lt {u : jU} (hH : wfH u) {r : Int32} (h : pcRel u r = none) : inN r (tn (u 0 0)) := by
  unfold pcRel at h
  split at h
  · cases h
  · rename_i h0
    split at h
    · rename_i h1
      have h9 := hH.2.1
      rw [h9.1] at h1
      have h8 := h9.2
      exact inN_of h0 h1 (by omega)
    · cases h
theorem rel_in {u : jU} (hH : wfH u) {r : Int32} (h : pcRel u r = none) : inN r 8 := (rel_lt hH h).mono (by have := hH.2.1.2; omega)
theorem con_in {x : Int32} (h : ¬ b2i (pCon x) = 0) : inN x 12 := by
  have h1 := b2i_1 h
  unfold pCon at h1
  have h2 : ¬ x < 0 ∧ ¬ 12 ≤ x := by simpa using h1
  exact inN_of h2.1 (show x < 12 from Int32.not_le.mp h2.2) (by decide)
theorem fact_rel {u : jU} {r a b : Int32} (h : pcFact u r a b = none) : pcRel u r = none := by
  unfold pcFact at h
  split at h
  · assumption
  · cases h
theorem fact_fst {u : jU} {r a b : Int32} (h : pcFact u r a b = none) : inN (pFst u r a) 12 := by
  unfold pcFact at h
  split at h
  · split at h
    · cases h
    · exact con_in ‹_›
  · cases h
theorem fact_snd {u : jU} {r a b : Int32} (h : pcFact u r a b = none) : inN (pSnd u r b) 12 := by
  unfold pcFact at h
  split at h
  · split at h
    · cases h
    · split at h
      · cases h
      · exact con_in ‹_›
  · cases h
theorem terms_rel {u : jU} {r a b : Int32} (h : pcTerms u r a b = none) : pcRel u r = none := by
  unfold pcTerms at h
  split at h
  · assumption
  · cases h
def pGRow (u : jU) (r a : Int32) : Nat := tn r * 12 + tn (pFst u r a)
def pSG (u : jU) (r a b z : Int32) : Int32 × jU :=
  if b2i (hb (u 2 (pGRow u r a)) (pSnd u r b)) = z then (0, u) else (1, up (up u 2 (pGRow u r a) (u 2 (pGRow u r a) ^^^ 1 <<< (pSnd u r b &&& 31))) 0 4 0)
def pcGive (u : jU) (r a b : Int32) : Option String := pcFact u r a b
def pGive (u : jU) (r a b z : Int32) : jU := if pcFact u r a b = none then (pSG u r a b z).2 else u
def pcRelation (u : jU) (n : Int32) : Option String := if n < 0 then some xIA else if n ≤ 2 then (if u 0 0 < 8 then none else some xUO) else some xIA
def pRelation1 (u : jU) (n : Int32) : jU := up u 1 (tn (u 0 0)) n
def pRelation2 (u : jU) (n : Int32) : jU := pStale (up (pRelation1 u n) 0 0 (pRelation1 u n 0 0 + 1))
def pRelation (u : jU) (n : Int32) : jU := if pcRelation u n = none then pRelation2 u n else u
def pClear (u : jU) : jU := pStale (up (up (pFill u 2 96) 0 0 0) 0 1 0)
def pcRuleC (u : jU) (r a b : Int32) : Option String := if pcTerms u r a b = none then (if u 0 1 < 16 then none else some xUO) else some xIA
def pRule1 (u : jU) (r a b : Int32) : jU := pBegin u (tn (u 0 1)) r (pFst u r a) (pSnd u r b)
def pRule2 (u : jU) (r a b : Int32) : jU := pStale (up (pRule1 u r a b) 0 1 (pRule1 u r a b 0 1 + 1))
def pRuleC (u : jU) (r a b : Int32) : jU := if pcRuleC u r a b = none then pRule2 u r a b else u
def pcLit (u : jU) (r a b : Int32) : Option String := if pcRule u = none then (if pcTerms u r a b = none then (if b2i (pFull u (tn (u 0 1) - 1)) = 0 then none else some xUO) else some xIA) else some xIS
def pLit1 (u : jU) (r a b z : Int32) : jU := pStale (pAdd u (tn (u 0 1) - 1) r (pFst u r a) (pSnd u r b) z)
def pLit (u : jU) (r a b z : Int32) : jU := if pcLit u r a b = none then pLit1 u r a b z else u
def pUnrule (u : jU) : jU := if pcRule u = none then pStale (up u 0 1 (u 0 1 - 1)) else u
def pcLayer (u : jU) (r : Int32) : Option String := if pcRel u r = none then pcFault u else some xIA
def pQ (u : jU) (c : Option String) : jU := if c = none then pJudge u else u
theorem pSG_01 (u : jU) (r a b z : Int32) : (pSG u r a b z).1 = 0 ∨ (pSG u r a b z).1 = 1 := by
  unfold pSG
  split
  · exact Or.inl rfl
  · exact Or.inr rfl
theorem rule_pos {u : jU} (hH : wfH u) (h : pcRule u = none) : 0 < tn (u 0 1) := by
  unfold pcRule at h
  split at h
  · cases h
  · rename_i h0
    refine Nat.pos_of_ne_zero (fun e => h0 ?_)
    rw [hH.2.2.1, e]; rfl
theorem rule_lt {u : jU} (hH : wfH u) (h : pcRule u = none) : tn (u 0 1) - 1 < 16 := by
  have := hH.2.2.2; have := rule_pos hH h; omega
theorem rule_ix {u : jU} (hH : wfH u) (h : pcRule u = none) : u 0 1 - 1 = nI (tn (u 0 1) - 1) := by
  have h0 := rule_pos hH h
  have h1 := nI_pred (tn (u 0 1) - 1)
  rw [show tn (u 0 1) - 1 + 1 = tn (u 0 1) by omega, ← hH.2.2.1] at h1
  exact h1
end
section
def up2 : List String := ["java/lang/RuntimeException", "java/lang/Exception"]
abbrev rxN : ByteArray := prog_18_method_4_code
theorem wt_60_62 : ∀ w ∈ [Cond.classLink "StrataHouse" 60 xIA, .initialized xIA, .instantiable xIA 6, .stringRef "StrataHouse" 62 "a relation has 0, 1 or 2 places"], w ∈ jTs := List.forall_mem_cons.mpr ⟨jin (jt1 (List.mem_of_getElem? (i := 219) rfl)) rfl, List.forall_mem_cons.mpr ⟨jin (jt1 (List.mem_of_getElem? (i := 11) rfl)) rfl, List.forall_mem_cons.mpr ⟨jin (jt1 (List.mem_of_getElem? (i := 220) rfl)) rfl, List.forall_mem_cons.mpr ⟨jin (jt2 (List.mem_of_getElem? (i := 21) rfl)) rfl, fun _ h => absurd h List.not_mem_nil⟩⟩⟩⟩
set_option maxRecDepth 100000 in
theorem wo_64 : ∀ w ∈ Bundle.ownAtomsX "StrataHouse" 64 xIA 7 Bundle.six up2, w ∈ jTs ∨ w = jA1 ∨ w = jA2 ∨ w = jA3 ∨ w = jA4 := by
  have h1 : ∀ w ∈ Bundle.ownAtomsX "StrataHouse" 64 xIA 7 Bundle.six up2, w ∈ lw_tbl ∨ w = jA1 ∨ w = jA2 ∨ w = jA3 ∨ w = jA4 := by decide +kernel
  have h2 : ∀ w ∈ Bundle.ownAtomsX "StrataHouse" 64 xIA 7 Bundle.six up2, jkk w = true ∨ w = jA1 ∨ w = jA2 ∨ w = jA3 ∨ w = jA4 := by decide +kernel
  intro w hw
  rcases h1 w hw with h | h
  · rcases h2 w hw with g | g
    · exact Or.inl (jin h g)
    · exact Or.inr g
  · exact Or.inr h
theorem wt_67_69 : ∀ w ∈ [Cond.classLink "StrataHouse" 67 xUO, .initialized xUO, .instantiable xUO 6, .stringRef "StrataHouse" 69 "there are eight relations"], w ∈ jTs := List.forall_mem_cons.mpr ⟨jin (jt2 (List.mem_of_getElem? (i := 48) rfl)) rfl, List.forall_mem_cons.mpr ⟨jin (jt1 (List.mem_of_getElem? (i := 12) rfl)) rfl, List.forall_mem_cons.mpr ⟨jin (jt2 (List.mem_of_getElem? (i := 49) rfl)) rfl, List.forall_mem_cons.mpr ⟨jin (jt2 (List.mem_of_getElem? (i := 57) rfl)) rfl, fun _ h => absurd h List.not_mem_nil⟩⟩⟩⟩
set_option maxRecDepth 100000 in
theorem wo_71 : ∀ w ∈ Bundle.ownAtomsX "StrataHouse" 71 xUO 7 Bundle.six up2, w ∈ jTs ∨ w = jA1 ∨ w = jA2 ∨ w = jA3 ∨ w = jA4 := by
  have h1 : ∀ w ∈ Bundle.ownAtomsX "StrataHouse" 71 xUO 7 Bundle.six up2, w ∈ lw_tbl ∨ w = jA1 ∨ w = jA2 ∨ w = jA3 ∨ w = jA4 := by decide +kernel
  have h2 : ∀ w ∈ Bundle.ownAtomsX "StrataHouse" 71 xUO 7 Bundle.six up2, jkk w = true ∨ w = jA1 ∨ w = jA2 ∨ w = jA3 ∨ w = jA4 := by decide +kernel
  intro w hw
  rcases h1 w hw with h | h
  · rcases h2 w hw with g | g
    · exact Or.inl (jin h g)
    · exact Or.inr g
  · exact Or.inr h
theorem wt_67_83 : ∀ w ∈ [Cond.classLink "StrataHouse" 67 xUO, .initialized xUO, .instantiable xUO 6, .stringRef "StrataHouse" 83 "there are sixteen rules"], w ∈ jTs := List.forall_mem_cons.mpr ⟨jin (jt2 (List.mem_of_getElem? (i := 48) rfl)) rfl, List.forall_mem_cons.mpr ⟨jin (jt1 (List.mem_of_getElem? (i := 12) rfl)) rfl, List.forall_mem_cons.mpr ⟨jin (jt2 (List.mem_of_getElem? (i := 49) rfl)) rfl, List.forall_mem_cons.mpr ⟨jin (jt2 (List.mem_of_getElem? (i := 124) rfl)) rfl, fun _ h => absurd h List.not_mem_nil⟩⟩⟩⟩
theorem wt_67_102 : ∀ w ∈ [Cond.classLink "StrataHouse" 67 xUO, .initialized xUO, .instantiable xUO 6, .stringRef "StrataHouse" 102 "the latest rule has four literals"], w ∈ jTs := List.forall_mem_cons.mpr ⟨jin (jt2 (List.mem_of_getElem? (i := 48) rfl)) rfl, List.forall_mem_cons.mpr ⟨jin (jt1 (List.mem_of_getElem? (i := 12) rfl)) rfl, List.forall_mem_cons.mpr ⟨jin (jt2 (List.mem_of_getElem? (i := 49) rfl)) rfl, List.forall_mem_cons.mpr ⟨jin (jt2 (List.mem_of_getElem? (i := 170) rfl)) rfl, fun _ h => absurd h List.not_mem_nil⟩⟩⟩⟩
theorem wt_60_141 : ∀ w ∈ [Cond.classLink "StrataHouse" 60 xIA, .initialized xIA, .instantiable xIA 6, .stringRef "StrataHouse" 141 "a proof tells 0 .. 4"], w ∈ jTs := List.forall_mem_cons.mpr ⟨jin (jt1 (List.mem_of_getElem? (i := 219) rfl)) rfl, List.forall_mem_cons.mpr ⟨jin (jt1 (List.mem_of_getElem? (i := 11) rfl)) rfl, List.forall_mem_cons.mpr ⟨jin (jt1 (List.mem_of_getElem? (i := 220) rfl)) rfl, List.forall_mem_cons.mpr ⟨jin (jt3 (List.mem_of_getElem? (i := 83) rfl)) rfl, fun _ h => absurd h List.not_mem_nil⟩⟩⟩⟩
theorem wt_143_145 : ∀ w ∈ [Cond.classLink "StrataHouse" 143 xNS, .initialized xNS, .instantiable xNS 6, .stringRef "StrataHouse" 145 "the fact doesn't hold, or is given"], w ∈ jTs := List.forall_mem_cons.mpr ⟨jin (jt3 (List.mem_of_getElem? (i := 84) rfl)) rfl, List.forall_mem_cons.mpr ⟨jin (jt1 (List.mem_of_getElem? (i := 16) rfl)) rfl, List.forall_mem_cons.mpr ⟨jin (jt3 (List.mem_of_getElem? (i := 85) rfl)) rfl, List.forall_mem_cons.mpr ⟨jin (jt3 (List.mem_of_getElem? (i := 93) rfl)) rfl, fun _ h => absurd h List.not_mem_nil⟩⟩⟩⟩
set_option maxRecDepth 100000 in
theorem wo_147 : ∀ w ∈ Bundle.ownAtomsX "StrataHouse" 147 xNS 13 rxN up2, w ∈ jTs ∨ w = jA1 ∨ w = jA2 ∨ w = jA3 ∨ w = jA4 := by
  have h1 : ∀ w ∈ Bundle.ownAtomsX "StrataHouse" 147 xNS 13 rxN up2, w ∈ lw_tbl ∨ w = jA1 ∨ w = jA2 ∨ w = jA3 ∨ w = jA4 := by decide +kernel
  have h2 : ∀ w ∈ Bundle.ownAtomsX "StrataHouse" 147 xNS 13 rxN up2, jkk w = true ∨ w = jA1 ∨ w = jA2 ∨ w = jA3 ∨ w = jA4 := by decide +kernel
  intro w hw
  rcases h1 w hw with h | h
  · rcases h2 w hw with g | g
    · exact Or.inl (jin h g)
    · exact Or.inr g
  · exact Or.inr h
theorem wt_60_154 : ∀ w ∈ [Cond.classLink "StrataHouse" 60 xIA, .initialized xIA, .instantiable xIA 6, .stringRef "StrataHouse" 154 "there is no such relation"], w ∈ jTs := List.forall_mem_cons.mpr ⟨jin (jt1 (List.mem_of_getElem? (i := 219) rfl)) rfl, List.forall_mem_cons.mpr ⟨jin (jt1 (List.mem_of_getElem? (i := 11) rfl)) rfl, List.forall_mem_cons.mpr ⟨jin (jt1 (List.mem_of_getElem? (i := 220) rfl)) rfl, List.forall_mem_cons.mpr ⟨jin (jt2 (List.mem_of_getElem? (i := 79) rfl)) rfl, fun _ h => absurd h List.not_mem_nil⟩⟩⟩⟩
theorem wt_60_160 : ∀ w ∈ [Cond.classLink "StrataHouse" 60 xIA, .initialized xIA, .instantiable xIA 6, .stringRef "StrataHouse" 160 "a place's number is no constant"], w ∈ jTs := List.forall_mem_cons.mpr ⟨jin (jt1 (List.mem_of_getElem? (i := 219) rfl)) rfl, List.forall_mem_cons.mpr ⟨jin (jt1 (List.mem_of_getElem? (i := 11) rfl)) rfl, List.forall_mem_cons.mpr ⟨jin (jt1 (List.mem_of_getElem? (i := 220) rfl)) rfl, List.forall_mem_cons.mpr ⟨jin (jt2 (List.mem_of_getElem? (i := 91) rfl)) rfl, fun _ h => absurd h List.not_mem_nil⟩⟩⟩⟩
theorem wt_60_165 : ∀ w ∈ [Cond.classLink "StrataHouse" 60 xIA, .initialized xIA, .instantiable xIA 6, .stringRef "StrataHouse" 165 "a place's number is no term"], w ∈ jTs := List.forall_mem_cons.mpr ⟨jin (jt1 (List.mem_of_getElem? (i := 219) rfl)) rfl, List.forall_mem_cons.mpr ⟨jin (jt1 (List.mem_of_getElem? (i := 11) rfl)) rfl, List.forall_mem_cons.mpr ⟨jin (jt1 (List.mem_of_getElem? (i := 220) rfl)) rfl, List.forall_mem_cons.mpr ⟨jin (jt2 (List.mem_of_getElem? (i := 123) rfl)) rfl, fun _ h => absurd h List.not_mem_nil⟩⟩⟩⟩
theorem wt_167_169 : ∀ w ∈ [Cond.classLink "StrataHouse" 167 xIS, .initialized xIS, .instantiable xIS 6, .stringRef "StrataHouse" 169 "there is no rule"], w ∈ jTs := List.forall_mem_cons.mpr ⟨jin (jt2 (List.mem_of_getElem? (i := 150) rfl)) rfl, List.forall_mem_cons.mpr ⟨jin (jt1 (List.mem_of_getElem? (i := 13) rfl)) rfl, List.forall_mem_cons.mpr ⟨jin (jt2 (List.mem_of_getElem? (i := 151) rfl)) rfl, List.forall_mem_cons.mpr ⟨jin (jt2 (List.mem_of_getElem? (i := 159) rfl)) rfl, fun _ h => absurd h List.not_mem_nil⟩⟩⟩⟩
set_option maxRecDepth 100000 in
theorem wo_171 : ∀ w ∈ Bundle.ownAtomsX "StrataHouse" 171 xIS 7 Bundle.six up2, w ∈ jTs ∨ w = jA1 ∨ w = jA2 ∨ w = jA3 ∨ w = jA4 := by
  have h1 : ∀ w ∈ Bundle.ownAtomsX "StrataHouse" 171 xIS 7 Bundle.six up2, w ∈ lw_tbl ∨ w = jA1 ∨ w = jA2 ∨ w = jA3 ∨ w = jA4 := by decide +kernel
  have h2 : ∀ w ∈ Bundle.ownAtomsX "StrataHouse" 171 xIS 7 Bundle.six up2, jkk w = true ∨ w = jA1 ∨ w = jA2 ∨ w = jA3 ∨ w = jA4 := by decide +kernel
  intro w hw
  rcases h1 w hw with h | h
  · rcases h2 w hw with g | g
    · exact Or.inl (jin h g)
    · exact Or.inr g
  · exact Or.inr h
theorem wt_167_172 : ∀ w ∈ [Cond.classLink "StrataHouse" 167 xIS, .initialized xIS, .instantiable xIS 6, .stringRef "StrataHouse" 172 "the rules have a fault"], w ∈ jTs := List.forall_mem_cons.mpr ⟨jin (jt2 (List.mem_of_getElem? (i := 150) rfl)) rfl, List.forall_mem_cons.mpr ⟨jin (jt1 (List.mem_of_getElem? (i := 13) rfl)) rfl, List.forall_mem_cons.mpr ⟨jin (jt2 (List.mem_of_getElem? (i := 151) rfl)) rfl, List.forall_mem_cons.mpr ⟨jin (jt2 (List.mem_of_getElem? (i := 194) rfl)) rfl, fun _ h => absurd h List.not_mem_nil⟩⟩⟩⟩
theorem up2_fit : ∀ n ∈ up2, Bundle.fit n = true := by decide +kernel
end
section
set_option maxHeartbeats 4000000 in
set_option maxRecDepth 100000 in
theorem k_checkRel (l : Launch) (hl : l.stackTraces = false) (dC : Nat → ClassId) (dI : Nat → Nat → Nat) (g k : Nat → Nat) (tl : List (ClassId × FieldType)) (u : jU) (r : Int32) : jMet l y_H_checkRelation (.code y_H_checkRelation c_H_checkRelation 2 none) ({ frames := 6, cells := 1, slots := 6, locals := 90 }) (dC, dI) jcl (ctys k tl) jTs [.ref (g 0), .int r] (cw g k u) 1 6 (jE (pcRel u r) none (cw g k u)) := by
  refine jMet.of (by decide) (Nat.le_of_ble_eq_true rfl) ?_
  intro p e s m below meth c A hC hex hr hnm htr0
  have htr : e.platform.stackTraces = false := htr0.trans hl
  show jJ p l e ({ frames := 6, cells := 1, slots := 6, locals := 90 }) s m [.ref (g 0), .int r].toArray below meth c 2 (dC, dI) jcl A (hxQ below (jQ (dC, dI) jcl (jE (pcRel u r) none (cw g k u)) A) [.ref (g 0), .int r].toArray s 1 6 A) 0 0 (cw g k u) [(0, .ref (g 0)), (1, .int r)] [] 0
  refine j_iload_n hC d_H_checkRelation_0 rfl 1 rfl ?_
  refine j_if_lt (tgt := 12) hC d_H_checkRelation_1 (by decide) (fun h1 => ?_) (fun h1 => ?_)
  · exact j_throwE (tx := _) (names := up2) hC hex htr (by decide +kernel) (by decide +kernel) (by decide +kernel) (by decide +kernel) d_H_checkRelation_12 d_H_checkRelation_15 d_H_checkRelation_16 d_H_checkRelation_18 d_H_checkRelation_21 (by decide +kernel) up2_fit wt_60_154 wo_64 (by decide) (Nat.le_of_ble_eq_true rfl) (by decide) (by decide) (by rw [pcRel, if_pos h1] <;> rfl) (rfl)
  · refine j_iload_n hC d_H_checkRelation_4 rfl 1 rfl ?_
    refine j_aload_n hC d_H_checkRelation_5 rfl 0 rfl ?_
    refine j_get hC hin_H (0) (cw_house g k u) rfl 3 (by decide) (hC.2.2.2.2.1 _ wf_H_51) (fun _ h9 => h9) rfl d_H_checkRelation_6 ?_
    refine j_icmp_lt (tgt := 22) hC d_H_checkRelation_9 (by decide) (fun h9 => ?_) (fun h9 => ?_)
    · refine j_widen (cells' := 1) (slots' := 6) (by decide) (by decide) ?_
      exact j_vret hC hr ⟨(by rw [pcRel, if_neg h1, if_pos h9]), fun _ => rfl, rfl⟩ d_H_checkRelation_22
    · exact j_throwE (tx := _) (names := up2) hC hex htr (by decide +kernel) (by decide +kernel) (by decide +kernel) (by decide +kernel) d_H_checkRelation_12 d_H_checkRelation_15 d_H_checkRelation_16 d_H_checkRelation_18 d_H_checkRelation_21 (by decide +kernel) up2_fit wt_60_154 wo_64 (by decide) (Nat.le_of_ble_eq_true rfl) (by decide) (by decide) (by rw [pcRel, if_neg h1, if_neg h9] <;> rfl) (rfl)

set_option maxHeartbeats 4000000 in
set_option maxRecDepth 100000 in
theorem k_checkFact (l : Launch) (hl : l.stackTraces = false) (dC : Nat → ClassId) (dI : Nat → Nat → Nat) (g k : Nat → Nat) (tl : List (ClassId × FieldType)) (u : jU) (hH : wfH u) (r a b : Int32) : jMet l y_H_checkFact (.code y_H_checkFact c_H_checkFact 4 none) ({ frames := 7, cells := 2, slots := 12, locals := 111 }) (dC, dI) jcl (ctys k tl) jTs [.ref (g 0), .int r, .int a, .int b] (cw g k u) 2 12 (jE (pcFact u r a b) none (cw g k u)) := by
  refine jMet.of (by decide) (Nat.le_of_ble_eq_true rfl) ?_
  intro p e s m below meth c A hC hex hr hnm htr0
  have htr : e.platform.stackTraces = false := htr0.trans hl
  show jJ p l e ({ frames := 7, cells := 2, slots := 12, locals := 111 }) s m [.ref (g 0), .int r, .int a, .int b].toArray below meth c 4 (dC, dI) jcl A (hxQ below (jQ (dC, dI) jcl (jE (pcFact u r a b) none (cw g k u)) A) [.ref (g 0), .int r, .int a, .int b].toArray s 2 12 A) 0 0 (cw g k u) [(0, .ref (g 0)), (1, .int r), (2, .int a), (3, .int b)] [] 0
  refine j_aload_n hC d_H_checkFact_0 rfl 0 rfl ?_
  refine j_iload_n hC d_H_checkFact_1 rfl 1 rfl ?_
  refine j_callVx (As := [.int r]) (rest := []) (st1 := []) hC hex (k_checkRel l hl dC dI g k tl u r) rfl rfl ww_H_114 yn_H_checkRelation (cw_house g k u) rfl rfl d_H_checkFact_2 (Nat.le_of_ble_eq_true rfl) (by decide) (by decide) (by decide) rfl (fun cn h => ⟨by rw [pcFact, if_neg (by rw [h]; exact Option.some_ne_none _), pcRel_some h], rfl⟩) (fun hc2 => ?_)
  refine j_aload_n hC d_H_checkFact_5 rfl 0 rfl ?_
  refine j_iload_n hC d_H_checkFact_6 rfl 1 rfl ?_
  refine j_iload_n hC d_H_checkFact_7 rfl 2 rfl ?_
  refine j_callVr (As := [.int r, .int a]) (rest := []) (st1 := [.int (pFst u r a)]) hC (k_first l dC dI g k tl u r a (rel_in hH hc2)) rfl rfl ww_H_85 yn_H_firstOf (cw_house g k u) rfl rfl d_H_checkFact_8 (Nat.le_of_ble_eq_true rfl) (by decide) (by decide) rfl ?_
  refine j_callSr (As := [.int (pFst u r a)]) (rest := []) (st1 := [.int (b2i (pCon (pFst u r a)))]) hC (k_con l dC dI g k tl u (pFst u r a)) rfl rfl ww_H_156 yn_H_isConstant rfl d_H_checkFact_11 (Nat.le_of_ble_eq_true rfl) (by decide) (by decide) rfl ?_
  refine j_if_eq (tgt := 29) hC d_H_checkFact_14 (by decide) (fun h14 => ?_) (fun h14 => ?_)
  · exact j_throwE (tx := _) (names := up2) hC hex htr (by decide +kernel) (by decide +kernel) (by decide +kernel) (by decide +kernel) d_H_checkFact_29 d_H_checkFact_32 d_H_checkFact_33 d_H_checkFact_35 d_H_checkFact_38 (by decide +kernel) up2_fit wt_60_160 wo_64 (by decide) (Nat.le_of_ble_eq_true rfl) (by decide) (by decide) (by rw [pcFact, if_pos hc2, if_pos h14] <;> rfl) (rfl)
  · refine j_aload_n hC d_H_checkFact_17 rfl 0 rfl ?_
    refine j_iload_n hC d_H_checkFact_18 rfl 1 rfl ?_
    refine j_iload_n hC d_H_checkFact_19 rfl 3 rfl ?_
    refine j_callVr (As := [.int r, .int b]) (rest := []) (st1 := [.int (pSnd u r b)]) hC (k_second l dC dI g k tl u r b (rel_in hH hc2)) rfl rfl ww_H_89 yn_H_secondOf (cw_house g k u) rfl rfl d_H_checkFact_20 (Nat.le_of_ble_eq_true rfl) (by decide) (by decide) rfl ?_
    refine j_callSr (As := [.int (pSnd u r b)]) (rest := []) (st1 := [.int (b2i (pCon (pSnd u r b)))]) hC (k_con l dC dI g k tl u (pSnd u r b)) rfl rfl ww_H_156 yn_H_isConstant rfl d_H_checkFact_23 (Nat.le_of_ble_eq_true rfl) (by decide) (by decide) rfl ?_
    refine j_if_ne (tgt := 39) hC d_H_checkFact_26 (by decide) (fun h26 => ?_) (fun h26 => ?_)
    · refine j_widen (cells' := 2) (slots' := 12) (by decide) (by decide) ?_
      exact j_vret hC hr ⟨(by rw [pcFact, if_pos hc2, if_neg h14, if_neg h26]), fun _ => rfl, rfl⟩ d_H_checkFact_39
    · exact j_throwE (tx := _) (names := up2) hC hex htr (by decide +kernel) (by decide +kernel) (by decide +kernel) (by decide +kernel) d_H_checkFact_29 d_H_checkFact_32 d_H_checkFact_33 d_H_checkFact_35 d_H_checkFact_38 (by decide +kernel) up2_fit wt_60_160 wo_64 (by decide) (Nat.le_of_ble_eq_true rfl) (by decide) (by decide) (by rw [pcFact, if_pos hc2, if_neg h14, if_pos h26] <;> rfl) (rfl)

set_option maxHeartbeats 4000000 in
set_option maxRecDepth 100000 in
theorem k_checkTerms (l : Launch) (hl : l.stackTraces = false) (dC : Nat → ClassId) (dI : Nat → Nat → Nat) (g k : Nat → Nat) (tl : List (ClassId × FieldType)) (u : jU) (hH : wfH u) (r a b : Int32) : jMet l y_H_checkTerms (.code y_H_checkTerms c_H_checkTerms 4 none) ({ frames := 7, cells := 2, slots := 12, locals := 111 }) (dC, dI) jcl (ctys k tl) jTs [.ref (g 0), .int r, .int a, .int b] (cw g k u) 2 12 (jE (pcTerms u r a b) none (cw g k u)) := by
  refine jMet.of (by decide) (Nat.le_of_ble_eq_true rfl) ?_
  intro p e s m below meth c A hC hex hr hnm htr0
  have htr : e.platform.stackTraces = false := htr0.trans hl
  show jJ p l e ({ frames := 7, cells := 2, slots := 12, locals := 111 }) s m [.ref (g 0), .int r, .int a, .int b].toArray below meth c 4 (dC, dI) jcl A (hxQ below (jQ (dC, dI) jcl (jE (pcTerms u r a b) none (cw g k u)) A) [.ref (g 0), .int r, .int a, .int b].toArray s 2 12 A) 0 0 (cw g k u) [(0, .ref (g 0)), (1, .int r), (2, .int a), (3, .int b)] [] 0
  refine j_aload_n hC d_H_checkTerms_0 rfl 0 rfl ?_
  refine j_iload_n hC d_H_checkTerms_1 rfl 1 rfl ?_
  refine j_callVx (As := [.int r]) (rest := []) (st1 := []) hC hex (k_checkRel l hl dC dI g k tl u r) rfl rfl ww_H_114 yn_H_checkRelation (cw_house g k u) rfl rfl d_H_checkTerms_2 (Nat.le_of_ble_eq_true rfl) (by decide) (by decide) (by decide) rfl (fun cn h => ⟨by rw [pcTerms, if_neg (by rw [h]; exact Option.some_ne_none _), pcRel_some h], rfl⟩) (fun hc2 => ?_)
  refine j_aload_n hC d_H_checkTerms_5 rfl 0 rfl ?_
  refine j_iload_n hC d_H_checkTerms_6 rfl 1 rfl ?_
  refine j_iload_n hC d_H_checkTerms_7 rfl 2 rfl ?_
  refine j_callVr (As := [.int r, .int a]) (rest := []) (st1 := [.int (pFst u r a)]) hC (k_first l dC dI g k tl u r a (rel_in hH hc2)) rfl rfl ww_H_85 yn_H_firstOf (cw_house g k u) rfl rfl d_H_checkTerms_8 (Nat.le_of_ble_eq_true rfl) (by decide) (by decide) rfl ?_
  refine j_callSr (As := [.int (pFst u r a)]) (rest := []) (st1 := [.int (b2i (pTerm (pFst u r a)))]) hC (k_term l dC dI g k tl u (pFst u r a)) rfl rfl ww_H_162 yn_H_isTerm rfl d_H_checkTerms_11 (Nat.le_of_ble_eq_true rfl) (by decide) (by decide) rfl ?_
  refine j_if_eq (tgt := 29) hC d_H_checkTerms_14 (by decide) (fun h14 => ?_) (fun h14 => ?_)
  · exact j_throwE (tx := _) (names := up2) hC hex htr (by decide +kernel) (by decide +kernel) (by decide +kernel) (by decide +kernel) d_H_checkTerms_29 d_H_checkTerms_32 d_H_checkTerms_33 d_H_checkTerms_35 d_H_checkTerms_38 (by decide +kernel) up2_fit wt_60_165 wo_64 (by decide) (Nat.le_of_ble_eq_true rfl) (by decide) (by decide) (by rw [pcTerms, if_pos hc2, if_pos h14] <;> rfl) (rfl)
  · refine j_aload_n hC d_H_checkTerms_17 rfl 0 rfl ?_
    refine j_iload_n hC d_H_checkTerms_18 rfl 1 rfl ?_
    refine j_iload_n hC d_H_checkTerms_19 rfl 3 rfl ?_
    refine j_callVr (As := [.int r, .int b]) (rest := []) (st1 := [.int (pSnd u r b)]) hC (k_second l dC dI g k tl u r b (rel_in hH hc2)) rfl rfl ww_H_89 yn_H_secondOf (cw_house g k u) rfl rfl d_H_checkTerms_20 (Nat.le_of_ble_eq_true rfl) (by decide) (by decide) rfl ?_
    refine j_callSr (As := [.int (pSnd u r b)]) (rest := []) (st1 := [.int (b2i (pTerm (pSnd u r b)))]) hC (k_term l dC dI g k tl u (pSnd u r b)) rfl rfl ww_H_162 yn_H_isTerm rfl d_H_checkTerms_23 (Nat.le_of_ble_eq_true rfl) (by decide) (by decide) rfl ?_
    refine j_if_ne (tgt := 39) hC d_H_checkTerms_26 (by decide) (fun h26 => ?_) (fun h26 => ?_)
    · refine j_widen (cells' := 2) (slots' := 12) (by decide) (by decide) ?_
      exact j_vret hC hr ⟨(by rw [pcTerms, if_pos hc2, if_neg h14, if_neg h26]), fun _ => rfl, rfl⟩ d_H_checkTerms_39
    · exact j_throwE (tx := _) (names := up2) hC hex htr (by decide +kernel) (by decide +kernel) (by decide +kernel) (by decide +kernel) d_H_checkTerms_29 d_H_checkTerms_32 d_H_checkTerms_33 d_H_checkTerms_35 d_H_checkTerms_38 (by decide +kernel) up2_fit wt_60_165 wo_64 (by decide) (Nat.le_of_ble_eq_true rfl) (by decide) (by decide) (by rw [pcTerms, if_pos hc2, if_neg h14, if_pos h26] <;> rfl) (rfl)

set_option maxHeartbeats 4000000 in
set_option maxRecDepth 100000 in
theorem k_checkRule (l : Launch) (hl : l.stackTraces = false) (dC : Nat → ClassId) (dI : Nat → Nat → Nat) (g k : Nat → Nat) (tl : List (ClassId × FieldType)) (u : jU)  : jMet l y_H_checkSomeRule (.code y_H_checkSomeRule c_H_checkSomeRule 1 none) ({ frames := 6, cells := 1, slots := 6, locals := 90 }) (dC, dI) jcl (ctys k tl) jTs [.ref (g 0)] (cw g k u) 1 6 (jE (pcRule u) none (cw g k u)) := by
  refine jMet.of (by decide) (Nat.le_of_ble_eq_true rfl) ?_
  intro p e s m below meth c A hC hex hr hnm htr0
  have htr : e.platform.stackTraces = false := htr0.trans hl
  show jJ p l e ({ frames := 6, cells := 1, slots := 6, locals := 90 }) s m [.ref (g 0)].toArray below meth c 1 (dC, dI) jcl A (hxQ below (jQ (dC, dI) jcl (jE (pcRule u) none (cw g k u)) A) [.ref (g 0)].toArray s 1 6 A) 0 0 (cw g k u) [(0, .ref (g 0))] [] 0
  refine j_aload_n hC d_H_checkSomeRule_0 rfl 0 rfl ?_
  refine j_get hC hin_H (0) (cw_house g k u) rfl 4 (by decide) (hC.2.2.2.2.1 _ wf_H_54) (fun _ h9 => h9) rfl d_H_checkSomeRule_1 ?_
  refine j_if_ne (tgt := 17) hC d_H_checkSomeRule_4 (by decide) (fun h4 => ?_) (fun h4 => ?_)
  · refine j_widen (cells' := 1) (slots' := 6) (by decide) (by decide) ?_
    exact j_vret hC hr ⟨(by rw [pcRule, if_neg h4]), fun _ => rfl, rfl⟩ d_H_checkSomeRule_17
  · exact j_throwE (tx := _) (names := up2) hC hex htr (by decide +kernel) (by decide +kernel) (by decide +kernel) (by decide +kernel) d_H_checkSomeRule_7 d_H_checkSomeRule_10 d_H_checkSomeRule_11 d_H_checkSomeRule_13 d_H_checkSomeRule_16 (by decide +kernel) up2_fit wt_167_169 wo_171 (by decide) (Nat.le_of_ble_eq_true rfl) (by decide) (by decide) (by rw [pcRule, if_pos h4] <;> rfl) (rfl)

set_option maxHeartbeats 4000000 in
set_option maxRecDepth 100000 in
theorem k_checkFault (l : Launch) (hl : l.stackTraces = false) (dC : Nat → ClassId) (dI : Nat → Nat → Nat) (g k : Nat → Nat) (tl : List (ClassId × FieldType)) (u : jU) (hH : wfH u) : jMet l y_H_checkNoFault (.code y_H_checkNoFault c_H_checkNoFault 1 none) ({ frames := 6, cells := 1, slots := 6, locals := 102 }) (dC, dI) jcl (ctys k tl) jTs [.ref (g 0)] (cw g k u) 1 6 (jE (pcFault u) none (cw g k (pJudge u))) := by
  refine jMet.of (by decide) (Nat.le_of_ble_eq_true rfl) ?_
  intro p e s m below meth c A hC hex hr hnm htr0
  have htr : e.platform.stackTraces = false := htr0.trans hl
  show jJ p l e ({ frames := 6, cells := 1, slots := 6, locals := 102 }) s m [.ref (g 0)].toArray below meth c 1 (dC, dI) jcl A (hxQ below (jQ (dC, dI) jcl (jE (pcFault u) none (cw g k (pJudge u))) A) [.ref (g 0)].toArray s 1 6 A) 0 0 (cw g k u) [(0, .ref (g 0))] [] 0
  refine j_aload_n hC d_H_checkNoFault_0 rfl 0 rfl ?_
  refine j_callVr (As := []) (rest := []) (st1 := []) hC (k_judge l dC dI g k tl u hH) rfl rfl ww_H_111 yn_H_judge (cw_house g k u) rfl rfl d_H_checkNoFault_1 (Nat.le_of_ble_eq_true rfl) (by decide) (by decide) rfl ?_
  refine j_aload_n hC d_H_checkNoFault_4 rfl 0 rfl ?_
  refine j_get hC hin_H (0) (cw_house g k (pJudge u)) rfl 9 (by decide) (hC.2.2.2.2.1 _ wf_H_40) (fun _ h9 => h9) rfl d_H_checkNoFault_5 ?_
  refine j_iconst (v := -1) hC d_H_checkNoFault_8 (by decide) ?_
  refine j_icmp_eq (tgt := 22) hC d_H_checkNoFault_9 (by decide) (fun h9 => ?_) (fun h9 => ?_)
  · refine j_widen (cells' := 1) (slots' := 6) (by decide) (by decide) ?_
    exact j_vret hC hr ⟨(by rw [pcFault, if_pos h9]), fun _ => rfl, rfl⟩ d_H_checkNoFault_22
  · exact j_throwE (tx := _) (names := up2) hC hex htr (by decide +kernel) (by decide +kernel) (by decide +kernel) (by decide +kernel) d_H_checkNoFault_12 d_H_checkNoFault_15 d_H_checkNoFault_16 d_H_checkNoFault_18 d_H_checkNoFault_21 (by decide +kernel) up2_fit wt_167_172 wo_171 (by decide) (Nat.le_of_ble_eq_true rfl) (by decide) (by decide) (by rw [pcFault, if_neg h9] <;> rfl) (rfl)

set_option maxHeartbeats 4000000 in
set_option maxRecDepth 100000 in
theorem k_setGiven (l : Launch) (dC : Nat → ClassId) (dI : Nat → Nat → Nat) (g k : Nat → Nat) (tl : List (ClassId × FieldType)) (u : jU) (r a b z : Int32) (hr8 : inN r 8) (hf : inN (pFst u r a) 12) : jMet l y_H_setGiven (.code y_H_setGiven c_H_setGiven 7 (some .boolean)) ({ frames := 1, cells := 0, slots := 0, locals := 22 }) (dC, dI) jcl (ctys k tl) jTs [.ref (g 0), .int r, .int a, .int b, .int z] (cw g k u) 0 0 (jRet (some (.int ((pSG u r a b z).1))) (cw g k ((pSG u r a b z).2))) := by
  refine jMet.of (by decide) (Nat.le_of_ble_eq_true rfl) ?_
  intro p e s m below meth c A hC hex hr hnm htr
  show jJ p l e ({ frames := 1, cells := 0, slots := 0, locals := 22 }) s m [.ref (g 0), .int r, .int a, .int b, .int z].toArray below meth c 7 (dC, dI) jcl A (hxQ below (jQ (dC, dI) jcl (jRet (some (.int ((pSG u r a b z).1))) (cw g k ((pSG u r a b z).2))) A) [.ref (g 0), .int r, .int a, .int b, .int z].toArray s 0 0 A) 0 0 (cw g k u) [(0, .ref (g 0)), (1, .int r), (2, .int a), (3, .int b), (4, .int z)] [] 0
  refine j_iload_n hC d_H_setGiven_0 rfl 1 rfl ?_
  refine j_aload_n hC d_H_setGiven_1 rfl 0 rfl ?_
  refine j_iload_n hC d_H_setGiven_2 rfl 1 rfl ?_
  refine j_iload_n hC d_H_setGiven_3 rfl 2 rfl ?_
  refine j_callVr (As := [.int r, .int a]) (rest := [.int r]) (st1 := [.int (pFst u r a), .int r]) hC (k_first l dC dI g k tl u r a hr8) rfl rfl ww_H_85 yn_H_firstOf (cw_house g k u) rfl rfl d_H_setGiven_4 (Nat.le_of_ble_eq_true rfl) (by decide) ⟨Nat.zero_le _, Nat.zero_le _⟩ rfl ?_
  refine j_callSr (As := [.int r, .int (pFst u r a)]) (rest := []) (st1 := [.int (r * 12 + pFst u r a)]) hC (k_rowAt l dC dI g k tl u r (pFst u r a)) rfl rfl ww_H_174 yn_H_rowAt rfl d_H_setGiven_7 (Nat.le_of_ble_eq_true rfl) (by decide) ⟨Nat.zero_le _, Nat.zero_le _⟩ rfl ?_
  refine j_istore (lv' := [(0, .ref (g 0)), (1, .int r), (2, .int a), (3, .int b), (4, .int z), (5, .int (r * 12 + pFst u r a))]) hC d_H_setGiven_10 (by decide) rfl rfl ?_
  refine j_aload_n hC d_H_setGiven_12 rfl 0 rfl ?_
  refine j_iload_n hC d_H_setGiven_13 rfl 1 rfl ?_
  refine j_iload_n hC d_H_setGiven_14 rfl 3 rfl ?_
  refine j_callVr (As := [.int r, .int b]) (rest := []) (st1 := [.int (pSnd u r b)]) hC (k_second l dC dI g k tl u r b hr8) rfl rfl ww_H_89 yn_H_secondOf (cw_house g k u) rfl rfl d_H_setGiven_15 (Nat.le_of_ble_eq_true rfl) (by decide) ⟨Nat.zero_le _, Nat.zero_le _⟩ rfl ?_
  refine j_istore (lv' := [(0, .ref (g 0)), (1, .int r), (2, .int a), (3, .int b), (4, .int z), (5, .int (r * 12 + pFst u r a)), (6, .int (pSnd u r b))]) hC d_H_setGiven_18 (by decide) rfl rfl ?_
  refine j_aload_n hC d_H_setGiven_20 rfl 0 rfl ?_
  refine j_get hC hin_H (0) (cw_house g k u) rfl 1 (by decide) (hC.2.2.2.2.1 _ wf_H_15) (fun _ h9 => h9) rfl d_H_setGiven_21 ?_
  refine j_iload hC d_H_setGiven_24 5 rfl ?_
  refine j_ialdN hC (2) 0 (cw_given g k u) rfl (n := pGRow u r a) (in_row hr8 hf) (row_lt hr8 hf) (by decide) d_H_setGiven_26 ?_
  refine j_iload hC d_H_setGiven_27 6 rfl ?_
  refine j_callSr (As := [.int (u 2 (pGRow u r a)), .int (pSnd u r b)]) (rest := []) (st1 := [.int (b2i (hb (u 2 (pGRow u r a)) (pSnd u r b)))]) hC (k_hasBit l dC dI g k tl u (u 2 (pGRow u r a)) (pSnd u r b)) rfl rfl ww_H_184 yn_H_hasBit rfl d_H_setGiven_29 (Nat.le_of_ble_eq_true rfl) (by decide) ⟨Nat.zero_le _, Nat.zero_le _⟩ rfl ?_
  refine j_iload hC d_H_setGiven_32 4 rfl ?_
  refine j_icmp_ne (tgt := 39) hC d_H_setGiven_34 (by decide) (fun h34 => ?_) (fun h34 => ?_)
  · refine j_aload_n hC d_H_setGiven_39 rfl 0 rfl ?_
    refine j_get hC hin_H (0) (cw_house g k u) rfl 1 (by decide) (hC.2.2.2.2.1 _ wf_H_15) (fun _ h9 => h9) rfl d_H_setGiven_40 ?_
    refine j_iload hC d_H_setGiven_43 5 rfl ?_
    refine j_dup2_11 hC d_H_setGiven_45 rfl rfl ?_
    refine j_ialdN hC (2) 0 (cw_given g k u) rfl (n := pGRow u r a) (in_row hr8 hf) (row_lt hr8 hf) (by decide) d_H_setGiven_46 ?_
    refine j_iconst (v := 1) hC d_H_setGiven_47 (by decide) ?_
    refine j_iload hC d_H_setGiven_48 6 rfl ?_
    refine j_ishl hC d_H_setGiven_50 ?_
    refine j_ixor hC d_H_setGiven_51 ?_
    refine j_iastN (ws' := cw g k (up u 2 (pGRow u r a) ((u 2 (pGRow u r a)) ^^^ (1 <<< ((pSnd u r b) &&& 31))))) hC (2) 0 (cw_given g k u) rfl (n := pGRow u r a) (in_row hr8 hf) (row_lt hr8 hf) (by decide) (cw_set_given g k u (pGRow u r a) ((u 2 (pGRow u r a)) ^^^ (1 <<< ((pSnd u r b) &&& 31)))) d_H_setGiven_52 ?_
    refine j_aload_n hC d_H_setGiven_53 rfl 0 rfl ?_
    refine j_iconst (v := 0) hC d_H_setGiven_54 (by decide) ?_
    refine j_put (ty := .boolean) (ws' := cw g k (up (up u 2 (pGRow u r a) ((u 2 (pGRow u r a)) ^^^ (1 <<< ((pSnd u r b) &&& 31)))) 0 4 0)) hC hin_H tyX4 tyX4_ok nmX4 (0) (cw_house g k (up u 2 (pGRow u r a) ((u 2 (pGRow u r a)) ^^^ (1 <<< ((pSnd u r b) &&& 31))))) rfl 11 (by decide) (hC.2.2.2.2.1 _ wf_H_181) (fun _ h9 => h9) rfl (by decide +kernel) (rfl) (rfl) (Nat.le_of_ble_eq_true rfl) (cw_set_settled g k (up u 2 (pGRow u r a) ((u 2 (pGRow u r a)) ^^^ (1 <<< ((pSnd u r b) &&& 31)))) 0) d_H_setGiven_55 ?_
    refine j_iconst (v := 1) hC d_H_setGiven_58 (by decide) ?_
    exact j_zret hC hr (rfl) (by rw [pSG, if_neg h34]; exact ⟨rfl, rfl, rfl⟩) d_H_setGiven_59
  · refine j_iconst (v := 0) hC d_H_setGiven_37 (by decide) ?_
    exact j_zret hC hr (rfl) (by rw [pSG, if_pos h34]; exact ⟨rfl, rfl, rfl⟩) d_H_setGiven_38

set_option maxHeartbeats 4000000 in
set_option maxRecDepth 100000 in
theorem k_clear (l : Launch) (dC : Nat → ClassId) (dI : Nat → Nat → Nat) (g k : Nat → Nat) (tl : List (ClassId × FieldType)) (u : jU)  : jMet l y_H_clear (.code y_H_clear c_H_clear 1 none) ({ frames := 1, cells := 0, slots := 0, locals := 23 }) (dC, dI) jcl (ctys k tl) jTs [.ref (g 0)] (cw g k u) 0 0 (jRet none (cw g k (pClear u))) := by
  refine jMet.of (by decide) (Nat.le_of_ble_eq_true rfl) ?_
  intro p e s m below meth c A hC hex hr hnm htr
  show jJ p l e ({ frames := 1, cells := 0, slots := 0, locals := 23 }) s m [.ref (g 0)].toArray below meth c 1 (dC, dI) jcl A (hxQ below (jQ (dC, dI) jcl (jRet none (cw g k (pClear u))) A) [.ref (g 0)].toArray s 0 0 A) 0 0 (cw g k u) [(0, .ref (g 0))] [] 0
  refine j_aload_n hC d_H_clear_0 rfl 0 rfl ?_
  refine j_get hC hin_H (0) (cw_house g k u) rfl 1 (by decide) (hC.2.2.2.2.1 _ wf_H_15) (fun _ h9 => h9) rfl d_H_clear_1 ?_
  refine j_iconst (v := 0) hC d_H_clear_4 (by decide) ?_
  refine j_callSr (As := [.ref (g 2), .int 0]) (rest := []) (st1 := []) hC (k_fill_given l dC dI g k tl u) rfl rfl ww_H_45 yn_Arrays_fill rfl d_H_clear_5 (Nat.le_of_ble_eq_true rfl) (by decide) ⟨Nat.zero_le _, Nat.zero_le _⟩ rfl ?_
  refine j_aload_n hC d_H_clear_8 rfl 0 rfl ?_
  refine j_iconst (v := 0) hC d_H_clear_9 (by decide) ?_
  refine j_put (ty := .int) (ws' := cw g k (up (pFill u 2 96) 0 0 0)) hC hin_H tyX4 tyX4_ok nmX4 (0) (cw_house g k (pFill u 2 96)) rfl 3 (by decide) (hC.2.2.2.2.1 _ wf_H_51) (fun _ h9 => h9) rfl (by decide +kernel) (rfl) (rfl) (Nat.le_of_ble_eq_true rfl) (cw_set_relationCount g k (pFill u 2 96) 0) d_H_clear_10 ?_
  refine j_aload_n hC d_H_clear_13 rfl 0 rfl ?_
  refine j_iconst (v := 0) hC d_H_clear_14 (by decide) ?_
  refine j_put (ty := .int) (ws' := cw g k (up (up (pFill u 2 96) 0 0 0) 0 1 0)) hC hin_H tyX4 tyX4_ok nmX4 (0) (cw_house g k (up (pFill u 2 96) 0 0 0)) rfl 4 (by decide) (hC.2.2.2.2.1 _ wf_H_54) (fun _ h9 => h9) rfl (by decide +kernel) (rfl) (rfl) (Nat.le_of_ble_eq_true rfl) (cw_set_ruleCount g k (up (pFill u 2 96) 0 0 0) 0) d_H_clear_15 ?_
  refine j_aload_n hC d_H_clear_18 rfl 0 rfl ?_
  refine j_callVr (As := []) (rest := []) (st1 := []) hC (k_stale l dC dI g k tl (up (up (pFill u 2 96) 0 0 0) 0 1 0)) rfl rfl ww_H_57 yn_H_rulesChanged (cw_house g k (up (up (pFill u 2 96) 0 0 0) 0 1 0)) rfl rfl d_H_clear_19 (Nat.le_of_ble_eq_true rfl) (by decide) ⟨Nat.zero_le _, Nat.zero_le _⟩ rfl ?_
  exact j_vret hC hr ⟨rfl, rfl, rfl⟩ d_H_clear_22

set_option maxHeartbeats 4000000 in
set_option maxRecDepth 100000 in
theorem k_fault (l : Launch) (dC : Nat → ClassId) (dI : Nat → Nat → Nat) (g k : Nat → Nat) (tl : List (ClassId × FieldType)) (u : jU) (hH : wfH u) : jMet l y_H_fault (.code y_H_fault c_H_fault 1 (some .int)) ({ frames := 5, cells := 0, slots := 0, locals := 102 }) (dC, dI) jcl (ctys k tl) jTs [.ref (g 0)] (cw g k u) 0 0 (jRet (some (.int (pJudge u 0 2))) (cw g k (pJudge u))) := by
  refine jMet.of (by decide) (Nat.le_of_ble_eq_true rfl) ?_
  intro p e s m below meth c A hC hex hr hnm htr
  show jJ p l e ({ frames := 5, cells := 0, slots := 0, locals := 102 }) s m [.ref (g 0)].toArray below meth c 1 (dC, dI) jcl A (hxQ below (jQ (dC, dI) jcl (jRet (some (.int (pJudge u 0 2))) (cw g k (pJudge u))) A) [.ref (g 0)].toArray s 0 0 A) 0 0 (cw g k u) [(0, .ref (g 0))] [] 0
  refine j_aload_n hC d_H_fault_0 rfl 0 rfl ?_
  refine j_callVr (As := []) (rest := []) (st1 := []) hC (k_judge l dC dI g k tl u hH) rfl rfl ww_H_111 yn_H_judge (cw_house g k u) rfl rfl d_H_fault_1 (Nat.le_of_ble_eq_true rfl) (by decide) ⟨Nat.zero_le _, Nat.zero_le _⟩ rfl ?_
  refine j_aload_n hC d_H_fault_4 rfl 0 rfl ?_
  refine j_get hC hin_H (0) (cw_house g k (pJudge u)) rfl 9 (by decide) (hC.2.2.2.2.1 _ wf_H_40) (fun _ h9 => h9) rfl d_H_fault_5 ?_
  exact j_iret hC hr ⟨rfl, rfl, rfl⟩ d_H_fault_8
end
section
set_option maxHeartbeats 4000000 in
set_option maxRecDepth 100000 in
theorem k_relation (l : Launch) (hl : l.stackTraces = false) (dC : Nat → ClassId) (dI : Nat → Nat → Nat) (g k : Nat → Nat) (tl : List (ClassId × FieldType)) (u : jU) (hH : wfH u) (n : Int32) : jMet l y_H_relation (.code y_H_relation c_H_relation 2 (some .int)) ({ frames := 6, cells := 1, slots := 6, locals := 90 }) (dC, dI) jcl (ctys k tl) jTs [.ref (g 0), .int n] (cw g k u) 1 6 (jE (pcRelation u n) (some (.int (pRelation2 u n 0 0 - 1))) (cw g k (pRelation u n))) := by
  refine jMet.of (by decide) (Nat.le_of_ble_eq_true rfl) ?_
  intro p e s m below meth c A hC hex hr hnm htr0
  have htr : e.platform.stackTraces = false := htr0.trans hl
  show jJ p l e ({ frames := 6, cells := 1, slots := 6, locals := 90 }) s m [.ref (g 0), .int n].toArray below meth c 2 (dC, dI) jcl A (hxQ below (jQ (dC, dI) jcl (jE (pcRelation u n) (some (.int (pRelation2 u n 0 0 - 1))) (cw g k (pRelation u n))) A) [.ref (g 0), .int n].toArray s 1 6 A) 0 0 (cw g k u) [(0, .ref (g 0)), (1, .int n)] [] 0
  refine j_iload_n hC d_H_relation_0 rfl 1 rfl ?_
  refine j_if_lt (tgt := 9) hC d_H_relation_1 (by decide) (fun h1 => ?_) (fun h1 => ?_)
  · exact j_throwE (tx := _) (names := up2) hC hex htr (by decide +kernel) (by decide +kernel) (by decide +kernel) (by decide +kernel) d_H_relation_9 d_H_relation_12 d_H_relation_13 d_H_relation_15 d_H_relation_18 (by decide +kernel) up2_fit wt_60_62 wo_64 (by decide) (Nat.le_of_ble_eq_true rfl) (by decide) (by decide) (by rw [pcRelation, if_pos h1] <;> rfl) (congrArg (cw g k) (if_so (by rw [pcRelation, if_pos h1] <;> rfl : pcRelation u n = some xIA) _ _).symm)
  · refine j_iload_n hC d_H_relation_4 rfl 1 rfl ?_
    refine j_iconst (v := 2) hC d_H_relation_5 (by decide) ?_
    refine j_icmp_le (tgt := 19) hC d_H_relation_6 (by decide) (fun h6 => ?_) (fun h6 => ?_)
    · refine j_aload_n hC d_H_relation_19 rfl 0 rfl ?_
      refine j_get hC hin_H (0) (cw_house g k u) rfl 3 (by decide) (hC.2.2.2.2.1 _ wf_H_51) (fun _ h9 => h9) rfl d_H_relation_20 ?_
      refine j_bipush (v := 8) hC d_H_relation_23 (by decide) ?_
      refine j_icmp_lt (tgt := 38) hC d_H_relation_25 (by decide) (fun h25 => ?_) (fun h25 => ?_)
      · have h8 : tn (u 0 0) < 8 := (inN_ltN hH.2.1 (by decide) (n := 8) (by decide)).mp h25
        refine j_aload_n hC d_H_relation_38 rfl 0 rfl ?_
        refine j_get hC hin_H (0) (cw_house g k u) rfl 0 (by decide) (hC.2.2.2.2.1 _ wf_H_11) (fun _ h9 => h9) rfl d_H_relation_39 ?_
        refine j_aload_n hC d_H_relation_42 rfl 0 rfl ?_
        refine j_get hC hin_H (0) (cw_house g k u) rfl 3 (by decide) (hC.2.2.2.2.1 _ wf_H_51) (fun _ h9 => h9) rfl d_H_relation_43 ?_
        refine j_iload_n hC d_H_relation_46 rfl 1 rfl ?_
        refine j_iastN (ws' := cw g k (up u 1 (tn (u 0 0)) n)) hC (1) 0 (cw_places g k u) rfl (n := tn (u 0 0)) (hH.2.1.1) (h8) (by decide) (cw_set_places g k u (tn (u 0 0)) n) d_H_relation_47 ?_
        refine j_aload_n hC d_H_relation_48 rfl 0 rfl ?_
        refine j_dup hC d_H_relation_49 rfl ?_
        refine j_get hC hin_H (0) (cw_house g k (pRelation1 u n)) rfl 3 (by decide) (hC.2.2.2.2.1 _ wf_H_51) (fun _ h9 => h9) rfl d_H_relation_50 ?_
        refine j_iconst (v := 1) hC d_H_relation_53 (by decide) ?_
        refine j_iadd hC d_H_relation_54 ?_
        refine j_put (ty := .int) (ws' := cw g k (up (pRelation1 u n) 0 0 (((pRelation1 u n) 0 0) + 1))) hC hin_H tyX4 tyX4_ok nmX4 (0) (cw_house g k (pRelation1 u n)) rfl 3 (by decide) (hC.2.2.2.2.1 _ wf_H_51) (fun _ h9 => h9) rfl (by decide +kernel) (rfl) (rfl) (Nat.le_of_ble_eq_true rfl) (cw_set_relationCount g k (pRelation1 u n) (((pRelation1 u n) 0 0) + 1)) d_H_relation_55 ?_
        refine j_aload_n hC d_H_relation_58 rfl 0 rfl ?_
        refine j_callVr (As := []) (rest := []) (st1 := []) hC (k_stale l dC dI g k tl (up (pRelation1 u n) 0 0 (((pRelation1 u n) 0 0) + 1))) rfl rfl ww_H_57 yn_H_rulesChanged (cw_house g k (up (pRelation1 u n) 0 0 (((pRelation1 u n) 0 0) + 1))) rfl rfl d_H_relation_59 (Nat.le_of_ble_eq_true rfl) (by decide) (by decide) rfl ?_
        refine j_aload_n hC d_H_relation_62 rfl 0 rfl ?_
        refine j_get hC hin_H (0) (cw_house g k (pRelation2 u n)) rfl 3 (by decide) (hC.2.2.2.2.1 _ wf_H_51) (fun _ h9 => h9) rfl d_H_relation_63 ?_
        refine j_iconst (v := 1) hC d_H_relation_66 (by decide) ?_
        refine j_isub hC d_H_relation_67 ?_
        refine j_widen (cells' := 1) (slots' := 6) (by decide) (by decide) ?_
        exact j_iret hC hr (by have h9 : pcRelation u n = none := (by rw [pcRelation, if_neg h1, if_pos h6, if_pos h25]); exact ⟨h9.symm, fun _ => rfl, congrArg (cw g k) (if_no h9 _ _).symm⟩) d_H_relation_68
      · exact j_throwE (tx := _) (names := up2) hC hex htr (by decide +kernel) (by decide +kernel) (by decide +kernel) (by decide +kernel) d_H_relation_28 d_H_relation_31 d_H_relation_32 d_H_relation_34 d_H_relation_37 (by decide +kernel) up2_fit wt_67_69 wo_71 (by decide) (Nat.le_of_ble_eq_true rfl) (by decide) (by decide) (by rw [pcRelation, if_neg h1, if_pos h6, if_neg h25] <;> rfl) (congrArg (cw g k) (if_so (by rw [pcRelation, if_neg h1, if_pos h6, if_neg h25] <;> rfl : pcRelation u n = some xUO) _ _).symm)
    · exact j_throwE (tx := _) (names := up2) hC hex htr (by decide +kernel) (by decide +kernel) (by decide +kernel) (by decide +kernel) d_H_relation_9 d_H_relation_12 d_H_relation_13 d_H_relation_15 d_H_relation_18 (by decide +kernel) up2_fit wt_60_62 wo_64 (by decide) (Nat.le_of_ble_eq_true rfl) (by decide) (by decide) (by rw [pcRelation, if_neg h1, if_neg h6] <;> rfl) (congrArg (cw g k) (if_so (by rw [pcRelation, if_neg h1, if_neg h6] <;> rfl : pcRelation u n = some xIA) _ _).symm)

set_option maxHeartbeats 4000000 in
set_option maxRecDepth 100000 in
theorem k_give (l : Launch) (hl : l.stackTraces = false) (dC : Nat → ClassId) (dI : Nat → Nat → Nat) (g k : Nat → Nat) (tl : List (ClassId × FieldType)) (u : jU) (hH : wfH u) (r a b : Int32) : jMet l y_H_give (.code y_H_give c_H_give 4 (some .boolean)) ({ frames := 8, cells := 2, slots := 12, locals := 134 }) (dC, dI) jcl (ctys k tl) jTs [.ref (g 0), .int r, .int a, .int b] (cw g k u) 2 12 (jE (pcFact u r a b) (some (.int ((pSG u r a b 1).1))) (cw g k (pGive u r a b 1))) := by
  refine jMet.of (by decide) (Nat.le_of_ble_eq_true rfl) ?_
  intro p e s m below meth c A hC hex hr hnm htr0
  have htr : e.platform.stackTraces = false := htr0.trans hl
  show jJ p l e ({ frames := 8, cells := 2, slots := 12, locals := 134 }) s m [.ref (g 0), .int r, .int a, .int b].toArray below meth c 4 (dC, dI) jcl A (hxQ below (jQ (dC, dI) jcl (jE (pcFact u r a b) (some (.int ((pSG u r a b 1).1))) (cw g k (pGive u r a b 1))) A) [.ref (g 0), .int r, .int a, .int b].toArray s 2 12 A) 0 0 (cw g k u) [(0, .ref (g 0)), (1, .int r), (2, .int a), (3, .int b)] [] 0
  refine j_aload_n hC d_H_give_0 rfl 0 rfl ?_
  refine j_iload_n hC d_H_give_1 rfl 1 rfl ?_
  refine j_iload_n hC d_H_give_2 rfl 2 rfl ?_
  refine j_iload_n hC d_H_give_3 rfl 3 rfl ?_
  refine j_callVx (As := [.int r, .int a, .int b]) (rest := []) (st1 := []) hC hex (k_checkFact l hl dC dI g k tl u hH r a b) rfl rfl ww_H_72 yn_H_checkFact (cw_house g k u) rfl rfl d_H_give_4 (Nat.le_of_ble_eq_true rfl) (by decide) (by decide) (by decide) rfl (fun cn h => ⟨h, congrArg (cw g k) (if_so h _ _).symm⟩) (fun hc4 => ?_)
  refine j_aload_n hC d_H_give_7 rfl 0 rfl ?_
  refine j_iload_n hC d_H_give_8 rfl 1 rfl ?_
  refine j_iload_n hC d_H_give_9 rfl 2 rfl ?_
  refine j_iload_n hC d_H_give_10 rfl 3 rfl ?_
  refine j_iconst (v := 1) hC d_H_give_11 (by decide) ?_
  refine j_callVr (As := [.int r, .int a, .int b, .int 1]) (rest := []) (st1 := [.int ((pSG u r a b 1).1)]) hC (k_setGiven l dC dI g k tl u r a b 1 (rel_in hH (fact_rel hc4)) (fact_fst hc4)) rfl rfl ww_H_76 yn_H_setGiven (cw_house g k u) rfl rfl d_H_give_12 (Nat.le_of_ble_eq_true rfl) (by decide) (by decide) rfl ?_
  refine j_widen (cells' := 2) (slots' := 12) (by decide) (by decide) ?_
  exact j_zret hC hr (z01_n (pSG_01 u r a b 1)) ⟨hc4.symm, fun _ => rfl, congrArg (cw g k) (if_no hc4 _ _).symm⟩ d_H_give_15

set_option maxHeartbeats 4000000 in
set_option maxRecDepth 100000 in
theorem k_take (l : Launch) (hl : l.stackTraces = false) (dC : Nat → ClassId) (dI : Nat → Nat → Nat) (g k : Nat → Nat) (tl : List (ClassId × FieldType)) (u : jU) (hH : wfH u) (r a b : Int32) : jMet l y_H_take (.code y_H_take c_H_take 4 (some .boolean)) ({ frames := 8, cells := 2, slots := 12, locals := 134 }) (dC, dI) jcl (ctys k tl) jTs [.ref (g 0), .int r, .int a, .int b] (cw g k u) 2 12 (jE (pcFact u r a b) (some (.int ((pSG u r a b 0).1))) (cw g k (pGive u r a b 0))) := by
  refine jMet.of (by decide) (Nat.le_of_ble_eq_true rfl) ?_
  intro p e s m below meth c A hC hex hr hnm htr0
  have htr : e.platform.stackTraces = false := htr0.trans hl
  show jJ p l e ({ frames := 8, cells := 2, slots := 12, locals := 134 }) s m [.ref (g 0), .int r, .int a, .int b].toArray below meth c 4 (dC, dI) jcl A (hxQ below (jQ (dC, dI) jcl (jE (pcFact u r a b) (some (.int ((pSG u r a b 0).1))) (cw g k (pGive u r a b 0))) A) [.ref (g 0), .int r, .int a, .int b].toArray s 2 12 A) 0 0 (cw g k u) [(0, .ref (g 0)), (1, .int r), (2, .int a), (3, .int b)] [] 0
  refine j_aload_n hC d_H_take_0 rfl 0 rfl ?_
  refine j_iload_n hC d_H_take_1 rfl 1 rfl ?_
  refine j_iload_n hC d_H_take_2 rfl 2 rfl ?_
  refine j_iload_n hC d_H_take_3 rfl 3 rfl ?_
  refine j_callVx (As := [.int r, .int a, .int b]) (rest := []) (st1 := []) hC hex (k_checkFact l hl dC dI g k tl u hH r a b) rfl rfl ww_H_72 yn_H_checkFact (cw_house g k u) rfl rfl d_H_take_4 (Nat.le_of_ble_eq_true rfl) (by decide) (by decide) (by decide) rfl (fun cn h => ⟨h, congrArg (cw g k) (if_so h _ _).symm⟩) (fun hc4 => ?_)
  refine j_aload_n hC d_H_take_7 rfl 0 rfl ?_
  refine j_iload_n hC d_H_take_8 rfl 1 rfl ?_
  refine j_iload_n hC d_H_take_9 rfl 2 rfl ?_
  refine j_iload_n hC d_H_take_10 rfl 3 rfl ?_
  refine j_iconst (v := 0) hC d_H_take_11 (by decide) ?_
  refine j_callVr (As := [.int r, .int a, .int b, .int 0]) (rest := []) (st1 := [.int ((pSG u r a b 0).1)]) hC (k_setGiven l dC dI g k tl u r a b 0 (rel_in hH (fact_rel hc4)) (fact_fst hc4)) rfl rfl ww_H_76 yn_H_setGiven (cw_house g k u) rfl rfl d_H_take_12 (Nat.le_of_ble_eq_true rfl) (by decide) (by decide) rfl ?_
  refine j_widen (cells' := 2) (slots' := 12) (by decide) (by decide) ?_
  exact j_zret hC hr (z01_n (pSG_01 u r a b 0)) ⟨hc4.symm, fun _ => rfl, congrArg (cw g k) (if_no hc4 _ _).symm⟩ d_H_take_15

set_option maxHeartbeats 4000000 in
set_option maxRecDepth 100000 in
theorem k_unrule (l : Launch) (hl : l.stackTraces = false) (dC : Nat → ClassId) (dI : Nat → Nat → Nat) (g k : Nat → Nat) (tl : List (ClassId × FieldType)) (u : jU)  : jMet l y_H_unrule (.code y_H_unrule c_H_unrule 1 none) ({ frames := 7, cells := 1, slots := 6, locals := 110 }) (dC, dI) jcl (ctys k tl) jTs [.ref (g 0)] (cw g k u) 1 6 (jE (pcRule u) none (cw g k (pUnrule u))) := by
  refine jMet.of (by decide) (Nat.le_of_ble_eq_true rfl) ?_
  intro p e s m below meth c A hC hex hr hnm htr0
  have htr : e.platform.stackTraces = false := htr0.trans hl
  show jJ p l e ({ frames := 7, cells := 1, slots := 6, locals := 110 }) s m [.ref (g 0)].toArray below meth c 1 (dC, dI) jcl A (hxQ below (jQ (dC, dI) jcl (jE (pcRule u) none (cw g k (pUnrule u))) A) [.ref (g 0)].toArray s 1 6 A) 0 0 (cw g k u) [(0, .ref (g 0))] [] 0
  refine j_aload_n hC d_H_unrule_0 rfl 0 rfl ?_
  refine j_callVx (As := []) (rest := []) (st1 := []) hC hex (k_checkRule l hl dC dI g k tl u) rfl rfl ww_H_95 yn_H_checkSomeRule (cw_house g k u) rfl rfl d_H_unrule_1 (Nat.le_of_ble_eq_true rfl) (by decide) (by decide) (by decide) rfl (fun cn h => ⟨h, congrArg (cw g k) (if_so h _ _).symm⟩) (fun hc1 => ?_)
  refine j_aload_n hC d_H_unrule_4 rfl 0 rfl ?_
  refine j_dup hC d_H_unrule_5 rfl ?_
  refine j_get hC hin_H (0) (cw_house g k u) rfl 4 (by decide) (hC.2.2.2.2.1 _ wf_H_54) (fun _ h9 => h9) rfl d_H_unrule_6 ?_
  refine j_iconst (v := 1) hC d_H_unrule_9 (by decide) ?_
  refine j_isub hC d_H_unrule_10 ?_
  refine j_put (ty := .int) (ws' := cw g k (up u 0 1 ((u 0 1) - 1))) hC hin_H tyX4 tyX4_ok nmX4 (0) (cw_house g k u) rfl 4 (by decide) (hC.2.2.2.2.1 _ wf_H_54) (fun _ h9 => h9) rfl (by decide +kernel) (rfl) (rfl) (Nat.le_of_ble_eq_true rfl) (cw_set_ruleCount g k u ((u 0 1) - 1)) d_H_unrule_11 ?_
  refine j_aload_n hC d_H_unrule_14 rfl 0 rfl ?_
  refine j_callVr (As := []) (rest := []) (st1 := []) hC (k_stale l dC dI g k tl (up u 0 1 ((u 0 1) - 1))) rfl rfl ww_H_57 yn_H_rulesChanged (cw_house g k (up u 0 1 ((u 0 1) - 1))) rfl rfl d_H_unrule_15 (Nat.le_of_ble_eq_true rfl) (by decide) (by decide) rfl ?_
  refine j_widen (cells' := 1) (slots' := 6) (by decide) (by decide) ?_
  exact j_vret hC hr ⟨hc1.symm, fun _ => rfl, congrArg (cw g k) (if_no hc1 _ _).symm⟩ d_H_unrule_18

set_option maxHeartbeats 4000000 in
set_option maxRecDepth 100000 in
theorem k_rule (l : Launch) (hl : l.stackTraces = false) (dC : Nat → ClassId) (dI : Nat → Nat → Nat) (g k : Nat → Nat) (tl : List (ClassId × FieldType)) (u : jU) (hH : wfH u) (r a b : Int32) : jMet l y_H_rule (.code y_H_rule c_H_rule 4 (some .int)) ({ frames := 8, cells := 3, slots := 18, locals := 134 }) (dC, dI) jcl (ctys k tl) jTs [.ref (g 0), .int r, .int a, .int b] (cw g k u) 3 18 (jE (pcRuleC u r a b) (some (.int (pRule2 u r a b 0 1 - 1))) (cw g k (pRuleC u r a b))) := by
  refine jMet.of (by decide) (Nat.le_of_ble_eq_true rfl) ?_
  intro p e s m below meth c A hC hex hr hnm htr0
  have htr : e.platform.stackTraces = false := htr0.trans hl
  show jJ p l e ({ frames := 8, cells := 3, slots := 18, locals := 134 }) s m [.ref (g 0), .int r, .int a, .int b].toArray below meth c 4 (dC, dI) jcl A (hxQ below (jQ (dC, dI) jcl (jE (pcRuleC u r a b) (some (.int (pRule2 u r a b 0 1 - 1))) (cw g k (pRuleC u r a b))) A) [.ref (g 0), .int r, .int a, .int b].toArray s 3 18 A) 0 0 (cw g k u) [(0, .ref (g 0)), (1, .int r), (2, .int a), (3, .int b)] [] 0
  refine j_aload_n hC d_H_rule_0 rfl 0 rfl ?_
  refine j_iload_n hC d_H_rule_1 rfl 1 rfl ?_
  refine j_iload_n hC d_H_rule_2 rfl 2 rfl ?_
  refine j_iload_n hC d_H_rule_3 rfl 3 rfl ?_
  refine j_callVx (As := [.int r, .int a, .int b]) (rest := []) (st1 := []) hC hex (k_checkTerms l hl dC dI g k tl u hH r a b) rfl rfl ww_H_80 yn_H_checkTerms (cw_house g k u) rfl rfl d_H_rule_4 (Nat.le_of_ble_eq_true rfl) (by decide) (by decide) (by decide) rfl (fun cn h => (by have h9 : pcRuleC u r a b = some cn := (by rw [pcRuleC, if_neg (by rw [h]; exact Option.some_ne_none _), pcTerms_some h]); exact ⟨h9, congrArg (cw g k) (if_so h9 _ _).symm⟩)) (fun hc4 => ?_)
  refine j_aload_n hC d_H_rule_7 rfl 0 rfl ?_
  refine j_get hC hin_H (0) (cw_house g k u) rfl 4 (by decide) (hC.2.2.2.2.1 _ wf_H_54) (fun _ h9 => h9) rfl d_H_rule_8 ?_
  refine j_bipush (v := 16) hC d_H_rule_11 (by decide) ?_
  refine j_icmp_lt (tgt := 26) hC d_H_rule_13 (by decide) (fun h13 => ?_) (fun h13 => ?_)
  · have h16 : tn (u 0 1) < 16 := (inN_ltN hH.2.2 (by decide) (n := 16) (by decide)).mp h13
    refine j_aload_n hC d_H_rule_26 rfl 0 rfl ?_
    refine j_get hC hin_H (0) (cw_house g k u) rfl 2 (by decide) (hC.2.2.2.2.1 _ wf_H_20) (fun _ h9 => h9) rfl d_H_rule_27 ?_
    refine j_aload_n hC d_H_rule_30 rfl 0 rfl ?_
    refine j_get hC hin_H (0) (cw_house g k u) rfl 4 (by decide) (hC.2.2.2.2.1 _ wf_H_54) (fun _ h9 => h9) rfl d_H_rule_31 ?_
    refine j_aaldN (v := g (15 + tn (u 0 1))) hC (3) 2 (cw_rules g k u) rfl (n := tn (u 0 1)) (hH.2.2.1) (h16) (by decide) (if_pos (h16)) d_H_rule_34 ?_
    refine j_iload_n hC d_H_rule_35 rfl 1 rfl ?_
    refine j_aload_n hC d_H_rule_36 rfl 0 rfl ?_
    refine j_iload_n hC d_H_rule_37 rfl 1 rfl ?_
    refine j_iload_n hC d_H_rule_38 rfl 2 rfl ?_
    refine j_callVr (As := [.int r, .int a]) (rest := [.int r, .ref (g (15 + tn (u 0 1)))]) (st1 := [.int (pFst u r a), .int r, .ref (g (15 + tn (u 0 1)))]) hC (k_first l dC dI g k tl u r a (rel_in hH (terms_rel hc4))) rfl rfl ww_H_85 yn_H_firstOf (cw_house g k u) rfl rfl d_H_rule_39 (Nat.le_of_ble_eq_true rfl) (by decide) (by decide) rfl ?_
    refine j_aload_n hC d_H_rule_42 rfl 0 rfl ?_
    refine j_iload_n hC d_H_rule_43 rfl 1 rfl ?_
    refine j_iload_n hC d_H_rule_44 rfl 3 rfl ?_
    refine j_callVr (As := [.int r, .int b]) (rest := [.int (pFst u r a), .int r, .ref (g (15 + tn (u 0 1)))]) (st1 := [.int (pSnd u r b), .int (pFst u r a), .int r, .ref (g (15 + tn (u 0 1)))]) hC (k_second l dC dI g k tl u r b (rel_in hH (terms_rel hc4))) rfl rfl ww_H_89 yn_H_secondOf (cw_house g k u) rfl rfl d_H_rule_45 (Nat.le_of_ble_eq_true rfl) (by decide) (by decide) rfl ?_
    refine j_callNr (As := [.int r, .int (pFst u r a), .int (pSnd u r b)]) (rest := []) (st1 := []) hC (k_begin l dC dI g k tl u (i := tn (u 0 1)) h16 r (pFst u r a) (pSnd u r b)) rfl rfl ww_H_92 yn_R_begin (cw_rule g k u (by omega)) rfl rfl d_H_rule_48 (Nat.le_of_ble_eq_true rfl) (by decide) (by decide) rfl ?_
    refine j_aload_n hC d_H_rule_51 rfl 0 rfl ?_
    refine j_dup hC d_H_rule_52 rfl ?_
    refine j_get hC hin_H (0) (cw_house g k (pRule1 u r a b)) rfl 4 (by decide) (hC.2.2.2.2.1 _ wf_H_54) (fun _ h9 => h9) rfl d_H_rule_53 ?_
    refine j_iconst (v := 1) hC d_H_rule_56 (by decide) ?_
    refine j_iadd hC d_H_rule_57 ?_
    refine j_put (ty := .int) (ws' := cw g k (up (pRule1 u r a b) 0 1 (((pRule1 u r a b) 0 1) + 1))) hC hin_H tyX4 tyX4_ok nmX4 (0) (cw_house g k (pRule1 u r a b)) rfl 4 (by decide) (hC.2.2.2.2.1 _ wf_H_54) (fun _ h9 => h9) rfl (by decide +kernel) (rfl) (rfl) (Nat.le_of_ble_eq_true rfl) (cw_set_ruleCount g k (pRule1 u r a b) (((pRule1 u r a b) 0 1) + 1)) d_H_rule_58 ?_
    refine j_aload_n hC d_H_rule_61 rfl 0 rfl ?_
    refine j_callVr (As := []) (rest := []) (st1 := []) hC (k_stale l dC dI g k tl (up (pRule1 u r a b) 0 1 (((pRule1 u r a b) 0 1) + 1))) rfl rfl ww_H_57 yn_H_rulesChanged (cw_house g k (up (pRule1 u r a b) 0 1 (((pRule1 u r a b) 0 1) + 1))) rfl rfl d_H_rule_62 (Nat.le_of_ble_eq_true rfl) (by decide) (by decide) rfl ?_
    refine j_aload_n hC d_H_rule_65 rfl 0 rfl ?_
    refine j_get hC hin_H (0) (cw_house g k (pRule2 u r a b)) rfl 4 (by decide) (hC.2.2.2.2.1 _ wf_H_54) (fun _ h9 => h9) rfl d_H_rule_66 ?_
    refine j_iconst (v := 1) hC d_H_rule_69 (by decide) ?_
    refine j_isub hC d_H_rule_70 ?_
    refine j_widen (cells' := 3) (slots' := 18) (by decide) (by decide) ?_
    exact j_iret hC hr (by have h9 : pcRuleC u r a b = none := (by rw [pcRuleC, if_pos hc4, if_pos h13]); exact ⟨h9.symm, fun _ => rfl, congrArg (cw g k) (if_no h9 _ _).symm⟩) d_H_rule_71
  · exact j_throwE (tx := _) (names := up2) hC hex htr (by decide +kernel) (by decide +kernel) (by decide +kernel) (by decide +kernel) d_H_rule_16 d_H_rule_19 d_H_rule_20 d_H_rule_22 d_H_rule_25 (by decide +kernel) up2_fit wt_67_83 wo_71 (by decide) (Nat.le_of_ble_eq_true rfl) (by decide) (by decide) (by rw [pcRuleC, if_pos hc4, if_neg h13] <;> rfl) (congrArg (cw g k) (if_so (by rw [pcRuleC, if_pos hc4, if_neg h13] <;> rfl : pcRuleC u r a b = some xUO) _ _).symm)

set_option maxHeartbeats 4000000 in
set_option maxRecDepth 100000 in
theorem k_literal (l : Launch) (hl : l.stackTraces = false) (dC : Nat → ClassId) (dI : Nat → Nat → Nat) (g k : Nat → Nat) (tl : List (ClassId × FieldType)) (u : jU) (hH : wfH u) (r a b z : Int32) (hz : z = 0 ∨ z = 1) : jMet l y_H_literal (.code y_H_literal c_H_literal 6 (some .int)) ({ frames := 8, cells := 4, slots := 24, locals := 134 }) (dC, dI) jcl (ctys k tl) jTs [.ref (g 0), .int r, .int a, .int b, .int z] (cw g k u) 4 24 (jE (pcLit u r a b) (some (.int (pLit1 u r a b z 12 ((tn (u 0 1) - 1))))) (cw g k (pLit u r a b z))) := by
  refine jMet.of (by decide) (Nat.le_of_ble_eq_true rfl) ?_
  intro p e s m below meth c A hC hex hr hnm htr0
  have htr : e.platform.stackTraces = false := htr0.trans hl
  show jJ p l e ({ frames := 8, cells := 4, slots := 24, locals := 134 }) s m [.ref (g 0), .int r, .int a, .int b, .int z].toArray below meth c 6 (dC, dI) jcl A (hxQ below (jQ (dC, dI) jcl (jE (pcLit u r a b) (some (.int (pLit1 u r a b z 12 ((tn (u 0 1) - 1))))) (cw g k (pLit u r a b z))) A) [.ref (g 0), .int r, .int a, .int b, .int z].toArray s 4 24 A) 0 0 (cw g k u) [(0, .ref (g 0)), (1, .int r), (2, .int a), (3, .int b), (4, .int z)] [] 0
  refine j_aload_n hC d_H_literal_0 rfl 0 rfl ?_
  refine j_callVx (As := []) (rest := []) (st1 := []) hC hex (k_checkRule l hl dC dI g k tl u) rfl rfl ww_H_95 yn_H_checkSomeRule (cw_house g k u) rfl rfl d_H_literal_1 (Nat.le_of_ble_eq_true rfl) (by decide) (by decide) (by decide) rfl (fun cn h => (by have h9 : pcLit u r a b = some cn := (by rw [pcLit, if_neg (by rw [h]; exact Option.some_ne_none _), pcRule_some h]); exact ⟨h9, congrArg (cw g k) (if_so h9 _ _).symm⟩)) (fun hc1 => ?_)
  refine j_aload_n hC d_H_literal_4 rfl 0 rfl ?_
  refine j_iload_n hC d_H_literal_5 rfl 1 rfl ?_
  refine j_iload_n hC d_H_literal_6 rfl 2 rfl ?_
  refine j_iload_n hC d_H_literal_7 rfl 3 rfl ?_
  refine j_callVx (As := [.int r, .int a, .int b]) (rest := []) (st1 := []) hC hex (k_checkTerms l hl dC dI g k tl u hH r a b) rfl rfl ww_H_80 yn_H_checkTerms (cw_house g k u) rfl rfl d_H_literal_8 (Nat.le_of_ble_eq_true rfl) (by decide) (by decide) (by decide) rfl (fun cn h => (by have h9 : pcLit u r a b = some cn := (by rw [pcLit, if_pos hc1, if_neg (by rw [h]; exact Option.some_ne_none _), pcTerms_some h]); exact ⟨h9, congrArg (cw g k) (if_so h9 _ _).symm⟩)) (fun hc8 => ?_)
  refine j_aload_n hC d_H_literal_11 rfl 0 rfl ?_
  refine j_get hC hin_H (0) (cw_house g k u) rfl 2 (by decide) (hC.2.2.2.2.1 _ wf_H_20) (fun _ h9 => h9) rfl d_H_literal_12 ?_
  refine j_aload_n hC d_H_literal_15 rfl 0 rfl ?_
  refine j_get hC hin_H (0) (cw_house g k u) rfl 4 (by decide) (hC.2.2.2.2.1 _ wf_H_54) (fun _ h9 => h9) rfl d_H_literal_16 ?_
  refine j_iconst (v := 1) hC d_H_literal_19 (by decide) ?_
  refine j_isub hC d_H_literal_20 ?_
  have hi16 : (tn (u 0 1) - 1) < 16 := rule_lt hH hc1
  refine j_aaldN (v := g (15 + (tn (u 0 1) - 1))) hC (3) 2 (cw_rules g k u) rfl (n := (tn (u 0 1) - 1)) (rule_ix hH hc1) (rule_lt hH hc1) (by decide) (if_pos (rule_lt hH hc1)) d_H_literal_21 ?_
  refine j_astore (lv' := [(0, .ref (g 0)), (1, .int r), (2, .int a), (3, .int b), (4, .int z), (5, .ref (g (15 + (tn (u 0 1) - 1))))]) hC d_H_literal_22 (by decide) rfl rfl ?_
  refine j_aload hC d_H_literal_24 5 rfl ?_
  refine j_callNr (As := []) (rest := []) (st1 := [.int (b2i (pFull u ((tn (u 0 1) - 1))))]) hC (k_full l dC dI g k tl u (i := (tn (u 0 1) - 1)) hi16) rfl rfl ww_H_98 yn_R_isFull (cw_rule g k u (by omega)) rfl rfl d_H_literal_26 (Nat.le_of_ble_eq_true rfl) (by decide) (by decide) rfl ?_
  refine j_if_eq (tgt := 42) hC d_H_literal_29 (by decide) (fun h29 => ?_) (fun h29 => ?_)
  · refine j_aload hC d_H_literal_42 5 rfl ?_
    refine j_iload_n hC d_H_literal_44 rfl 1 rfl ?_
    refine j_aload_n hC d_H_literal_45 rfl 0 rfl ?_
    refine j_iload_n hC d_H_literal_46 rfl 1 rfl ?_
    refine j_iload_n hC d_H_literal_47 rfl 2 rfl ?_
    refine j_callVr (As := [.int r, .int a]) (rest := [.int r, .ref (g (15 + (tn (u 0 1) - 1)))]) (st1 := [.int (pFst u r a), .int r, .ref (g (15 + (tn (u 0 1) - 1)))]) hC (k_first l dC dI g k tl u r a (rel_in hH (terms_rel hc8))) rfl rfl ww_H_85 yn_H_firstOf (cw_house g k u) rfl rfl d_H_literal_48 (Nat.le_of_ble_eq_true rfl) (by decide) (by decide) rfl ?_
    refine j_aload_n hC d_H_literal_51 rfl 0 rfl ?_
    refine j_iload_n hC d_H_literal_52 rfl 1 rfl ?_
    refine j_iload_n hC d_H_literal_53 rfl 3 rfl ?_
    refine j_callVr (As := [.int r, .int b]) (rest := [.int (pFst u r a), .int r, .ref (g (15 + (tn (u 0 1) - 1)))]) (st1 := [.int (pSnd u r b), .int (pFst u r a), .int r, .ref (g (15 + (tn (u 0 1) - 1)))]) hC (k_second l dC dI g k tl u r b (rel_in hH (terms_rel hc8))) rfl rfl ww_H_89 yn_H_secondOf (cw_house g k u) rfl rfl d_H_literal_54 (Nat.le_of_ble_eq_true rfl) (by decide) (by decide) rfl ?_
    refine j_iload hC d_H_literal_57 4 rfl ?_
    refine j_callNr (As := [.int r, .int (pFst u r a), .int (pSnd u r b), .int z]) (rest := []) (st1 := []) hC (k_add l dC dI g k tl u (i := (tn (u 0 1) - 1)) hi16 (hH.1.1 _ hi16) r (pFst u r a) (pSnd u r b) z hz) rfl rfl ww_H_104 yn_R_add (cw_rule g k u (by omega)) rfl rfl d_H_literal_59 (Nat.le_of_ble_eq_true rfl) (by decide) (by decide) rfl ?_
    refine j_aload_n hC d_H_literal_62 rfl 0 rfl ?_
    refine j_callVr (As := []) (rest := []) (st1 := []) hC (k_stale l dC dI g k tl (pAdd u ((tn (u 0 1) - 1)) r (pFst u r a) (pSnd u r b) z)) rfl rfl ww_H_57 yn_H_rulesChanged (cw_house g k (pAdd u ((tn (u 0 1) - 1)) r (pFst u r a) (pSnd u r b) z)) rfl rfl d_H_literal_63 (Nat.le_of_ble_eq_true rfl) (by decide) (by decide) rfl ?_
    refine j_aload hC d_H_literal_66 5 rfl ?_
    refine j_getN hC hin_R (15 + (tn (u 0 1) - 1)) (cw_rule g k (pLit1 u r a b z) (by omega)) rfl 2 (by decide) (hC.2.2.2.2.1 _ wf_H_108) (fun _ h9 => h9) rfl d_H_literal_68 ?_
    refine j_widen (cells' := 4) (slots' := 24) (by decide) (by decide) ?_
    exact j_iret hC hr (by have h9 : pcLit u r a b = none := (by rw [pcLit, if_pos hc1, if_pos hc8, if_pos h29]); exact ⟨h9.symm, fun _ => rfl, congrArg (cw g k) (if_no h9 _ _).symm⟩) d_H_literal_71
  · exact j_throwE (tx := _) (names := up2) hC hex htr (by decide +kernel) (by decide +kernel) (by decide +kernel) (by decide +kernel) d_H_literal_32 d_H_literal_35 d_H_literal_36 d_H_literal_38 d_H_literal_41 (by decide +kernel) up2_fit wt_67_102 wo_71 (by decide) (Nat.le_of_ble_eq_true rfl) (by decide) (by decide) (by rw [pcLit, if_pos hc1, if_pos hc8, if_neg h29] <;> rfl) (congrArg (cw g k) (if_so (by rw [pcLit, if_pos hc1, if_pos hc8, if_neg h29] <;> rfl : pcLit u r a b = some xUO) _ _).symm)
end
section
-- the class's own work, fifth part: what is asked
theorem kp.wid {cs ds : List Nat} {u v : jU} (h : kp cs u v) (hs : ∀ c ∈ cs, c ∈ ds) : kp ds u v := fun c hc => h c (fun z => hc (hs c z))
theorem pLook_kp (ly lim : Int32) (u : jU) : kp [7, 8, 9, 10, 11] u (pLook ly lim u) :=
  (pBlind_kp u).tr (itN_inv (P := fun w => kp [7, 8, 9, 10, 11] (pBlind u) w) (kp.rf _ _) _ (fun i w _ hw => hw.tr (pLook1_kp ly lim i w)))
theorem pRankGiven_kp (u : jU) : kp [4] u (pRankGiven u) :=
  itN_inv (P := fun w => kp [4] u w) (kp.rf _ u) 96 (fun row w _ hw => itN_inv (P := fun w => kp [4] u w) hw 12 (fun q v _ hv => hv.tr (kp_up _ _ _ (by decide))))
def pE (u w : jU) : Prop := kp [4, 5, 6, 7, 8, 9, 10, 11] u w ∧ wfV w
theorem pE.wfH {u w : jU} (h : pE u w) (hH : wfH u) : wfH w := hH.kp h.1 (by decide) h.2
theorem pE.rd {u w : jU} (h : pE u w) (ly rd ch : Int32) : pE u (pShowFresh (pRound ly rd ch w)).2 := by
  have h1 := pRound_ok (u := w) (ly := ly) (rd := rd) (ch := ch) h.2
  have h2 := pShowFresh_kp (pRound ly rd ch w)
  exact ⟨(h.1.tr (h1.1.wid (by decide))).tr (h2.wid (by decide)), wfV_of h1.2 (h2 6 (by decide))⟩
theorem pRd_ok (ly : Int32) : ∀ (n rd : Nat) (ch : Int32) (u w : jU), pE u w → pE u (pRd ly n rd ch w) := by
  intro n
  induction n with
  | zero => intro rd ch u w h; exact h
  | succ n ih =>
    intro rd ch u w h
    unfold pRd
    split
    · exact h
    · exact ih _ _ _ _ (h.rd _ _ _)
theorem pLook_ok {u w : jU} (ly lim : Int32) (h : pE u w) : pE u (pLook ly lim w) := ⟨h.1.tr ((pLook_kp _ _ w).wid (by decide)), wfV_of h.2 (pLook_kp _ _ w 6 (by decide))⟩
theorem pLayer_ok {u w : jU} {q : Nat} (h : pE u w) : pE u (pLayer q w) := pRd_ok _ _ _ _ _ _ (pLook_ok _ _ h)
theorem pRankGiven_ok {u : jU} (hv : wfV u) : pE u (pRankGiven u) := ⟨(pRankGiven_kp u).wid (by decide), wfV_of hv (pRankGiven_kp u 6 (by decide))⟩
theorem pSettle1_ok {u : jU} (hv : wfV u) : pE u (pSettle1 u) := itN_inv (P := pE u) (pRankGiven_ok hv) _ (fun q w _ hw => pLayer_ok hw)
theorem pRd_zero (ly : Int32) (n rd : Nat) (u : jU) : pRd ly n rd 0 u = u := by
  cases n with
  | zero => rfl
  | succ n => rw [pRd, if_pos rfl]
/-- the same but for these components and the flags -/
def kz (cs : List Nat) (u v : jU) : Prop := kp (0 :: cs) u v ∧ v 0 0 = u 0 0 ∧ v 0 1 = u 0 1
theorem kz.rf (cs : List Nat) (u : jU) : kz cs u u := ⟨kp.rf _ u, rfl, rfl⟩
theorem kz.tr {cs : List Nat} {u v w : jU} (h : kz cs u v) (h2 : kz cs v w) : kz cs u w := ⟨h.1.tr h2.1, h2.2.1.trans h.2.1, h2.2.2.trans h.2.2⟩
theorem kz.up {cs : List Nat} (u : jU) {i : Nat} (hi : 2 ≤ i) (x : Int32) : kz cs u (up u 0 i x) := ⟨kp_up u i x List.mem_cons_self, up_idx u x (by omega), up_idx u x (by omega)⟩
theorem kz.of {cs ds : List Nat} {u v : jU} (h : kp cs u v) (hs : ∀ c ∈ cs, c ∈ ds) (h0 : 0 ∉ cs) : kz ds u v := ⟨h.wid (fun c hc => List.mem_cons_of_mem _ (hs c hc)), by rw [h 0 h0], by rw [h 0 h0]⟩
theorem wfH.kz {cs : List Nat} {u v : jU} (h : wfH u) (hk : kz cs u v) (hc : ∀ c ∈ [12, 16, 17, 18, 19], c ∉ 0 :: cs) (hv : wfV v) : wfH v := by
  refine ⟨h.1.ofc (hk.1 12 (hc _ (by decide))) (hk.1 16 (hc _ (by decide))) (hk.1 17 (hc _ (by decide))) (hk.1 18 (hc _ (by decide))) (hk.1 19 (hc _ (by decide))) hv, ?_, ?_⟩
  · rw [hk.2.1]; exact h.2.1
  · rw [hk.2.2]; exact h.2.2
theorem pJudge_kz (u : jU) : kz [3] u (pJudge u) := by
  have h1 : kz [3] u (pJudge1 u) := kz.up u (by decide) _
  have h2 : kz [3] u (pLayers (pJudge1 u)).2 := h1.tr (kz.of ((kp_fill (cs := [3]) _ _ (by decide)).tr (pFL_kp 8 _)) (fun _ h => h) (by decide))
  unfold pJudge
  split
  · split
    · split
      · exact (h2.tr (kz.up _ (by decide) _)).tr (kz.up _ (by decide) _)
      · exact h2.tr (kz.up _ (by decide) _)
    · exact h1.tr (kz.up _ (by decide) _)
  · exact kz.rf _ u
theorem pJudge_wf {u : jU} (hH : wfH u) : wfH (pJudge u) := hH.kz (pJudge_kz u) (by decide) (wfV_of hH.1.2.2 ((pJudge_kz u).1 6 (by decide)))
theorem pSettle_kz {u : jU} (hv : wfV u) : kz [4, 5, 6, 7, 8, 9, 10, 11] u (pSettle u) ∧ wfV (pSettle u) := by
  unfold pSettle
  split
  · have h := pSettle1_ok hv
    exact ⟨(kz.of h.1 (fun _ h => h) (by decide)).tr (kz.up _ (by decide) _), wfV_of h.2 (up_rows _ _ _ (by decide))⟩
  · exact ⟨kz.rf _ u, hv⟩
theorem pSettle_wf {u : jU} (hH : wfH u) : wfH (pSettle u) := hH.kz (pSettle_kz hH.1.2.2).1 (by decide) (pSettle_kz hH.1.2.2).2
/-- the layers have a top -/
def wfT (u : jU) : Prop := u 0 4 = 0 → inN (pTop (pRankGiven u) (tn (pRankGiven u 0 0))) 9
/-- the state behind judging and settling -/
def pJS (u : jU) : jU := pSettle (pJudge u)
theorem pJS_wf {u : jU} (hH : wfH u) : wfH (pJS u) := pSettle_wf (pJudge_wf hH)
theorem pJS_1 {u : jU} (hH : wfH u) : pJS u 1 = u 1 := ((pSettle_kz (pJudge_wf hH).1.2.2).1.1 1 (by decide)).trans ((pJudge_kz u).1 1 (by decide))
theorem pJS_00 {u : jU} (hH : wfH u) : pJS u 0 0 = u 0 0 := (pSettle_kz (pJudge_wf hH).1.2.2).1.2.1.trans (pJudge_kz u).2.1
theorem pJS_01 {u : jU} (hH : wfH u) : pJS u 0 1 = u 0 1 := (pSettle_kz (pJudge_wf hH).1.2.2).1.2.2.trans (pJudge_kz u).2.2
theorem pFst_eq {u w : jU} (h : w 1 = u 1) (r a : Int32) : pFst w r a = pFst u r a := by unfold pFst; rw [h]
theorem pSnd_eq {u w : jU} (h : w 1 = u 1) (r b : Int32) : pSnd w r b = pSnd u r b := by unfold pSnd; rw [h]
def pFx (u : jU) (r a b : Int32) : Nat := (tn r * 12 + tn (pFst u r a)) * 12 + tn (pSnd u r b)
theorem in_fact2 {r a b : Int32} (hr : inN r 8) (ha : inN a 12) (hb : inN b 12) : (r * 12 + a) * 12 + b = nI ((tn r * 12 + tn a) * 12 + tn b) := by
  have h := in_fact hr (tn a) (tn b)
  rw [← ha.1, ← hb.1] at h
  exact h
theorem fact2_lt {r a b : Int32} (hr : inN r 8) (ha : inN a 12) (hb : inN b 12) : (tn r * 12 + tn a) * 12 + tn b < 1152 := by
  have := hr.2; have := ha.2; have := hb.2; omega
def pcAsk (c0 : Option String) (u : jU) : Option String := if c0 = none then pcFault u else c0
def pAskJ (c0 : Option String) (u : jU) : jU := if c0 = none then pJudge u else u
def pAskS (c0 : Option String) (u : jU) : jU := if c0 = none then (if pcFault u = none then pJS u else pJudge u) else u
def pCn (w : jU) (b : Nat) : Nat → Int32
  | 0 => 0
  | n + 1 => if w 4 (b + n) = -1 then pCn w b n else pCn w b n + 1
/-- the ways, rule by rule -/
def pWays (r a b : Int32) : Nat → Nat → Int32 → jU → Int32 × jU
  | 0, _, z, u => (z, u)
  | n + 1, i, z, u => if b2i (pMeets u i r a b).1 = 0 then pWays r a b n (i + 1) z (pMeets u i r a b).2 else pWays r a b n (i + 1) (z + (pCount i 5 20 (pMeets u i r a b).2).1) (pCount i 5 20 (pMeets u i r a b).2).2
def pWy (u : jU) (r a b : Int32) : Int32 × jU := pWays r (pFst u r a) (pSnd u r b) (tn (u 0 1)) 0 0 (pLook (pJS u 3 (tn r)) 2147483647 (pJS u))
def pAskW (u : jU) (r a b : Int32) : jU := if pcFact u r a b = none then (if pcFault u = none then (pWy u r a b).2 else pJudge u) else u
def pPr (u : jU) (r a b : Int32) : Int32 × jU := pLR r (pFst u r a) (pSnd u r b) (tn (u 0 1)) 0 (pLook (pJS u 3 (tn r)) (pJS u 4 (pFx u r a b)) (pJS u))
/-- a proof's end: what is thrown, the answer, the state -/
def pPf (u : jU) (r a b t : Int32) : Option String × Int32 × jU :=
  if pcFact u r a b = none then
    (if t < 0 then (some xIA, 0, u) else if t ≤ 4 then
      (if pcFault u = none then
        (if pJS u 4 (pFx u r a b) = -1 then (some xNS, 0, pJS u) else if pJS u 4 (pFx u r a b) = 0 then (some xNS, 0, pJS u) else
          (if t = 0 then (none, (pPr u r a b).1, (pPr u r a b).2) else (none, (pPr u r a b).2 6 (19 + tn t), (pPr u r a b).2)))
       else (some xIS, 0, pJudge u))
     else (some xIA, 0, u))
  else (some xIA, 0, u)
theorem what_in {t : Int32} (h0 : ¬ t < 0) (h4 : t ≤ 4) : inN t 5 := by
  obtain ⟨j, hj, rfl⟩ := nI_of h0
  have h9 : j ≤ 4 := (nI_leI (b := 4) hj (by decide)).mp h4
  exact inN_nI (by omega) (by decide)
theorem what_ix {t : Int32} (h : inN t 5) (h0 : ¬ t = 0) : 20 + t - 1 = nI (19 + tn t) := by
  have h1 := nI_pred (19 + tn t)
  have h2 : nI 20 + nI (tn t) = nI (20 + tn t) := nI_add 20 (tn t)
  rw [← h.1] at h2
  rw [show (20 : Int32) + t = nI (19 + tn t + 1) from h2.trans (congrArg nI (by omega))]
  exact h1
theorem what_lt {t : Int32} (h : inN t 5) : 19 + tn t < 24 := by have := h.2; omega
theorem fact_snd2 {u : jU} {r a b : Int32} (h : pcFact u r a b = none) : inN (pFst u r a) 12 ∧ inN (pSnd u r b) 12 := ⟨fact_fst h, fact_snd h⟩
theorem pLayer_eq (q : Nat) (w : jU) : pRd (nI q) (1154 - 1) 1 255 (pLook (nI q) 1 w) = pLayer q w := by
  have h : (1154 - 1 : Nat) = 1153 := by decide
  rw [h]
  unfold pLayer
  exact Eq.refl _
theorem n1153 : (1153 : Int32) = nI 1153 := by decide +kernel
theorem rd_gt {rd : Nat} (h : rd < 2 ^ 31) : (1153 : Int32) < nI rd ↔ 1153 < rd := by
  rw [n1153]
  exact nI_ltI (by decide) h
end
section
set_option maxHeartbeats 4000000 in
set_option maxRecDepth 100000 in
theorem k_settle (l : Launch) (dC : Nat → ClassId) (dI : Nat → Nat → Nat) (g k : Nat → Nat) (tl : List (ClassId × FieldType)) (u : jU) (hH : wfH u) (hT : wfT u) : jMet l y_H_settle (.code y_H_settle c_H_settle 5 none) ({ frames := 10, cells := 0, slots := 0, locals := 429 }) (dC, dI) jcl (ctys k tl) jTs [.ref (g 0)] (cw g k u) 0 0 (jRet none (cw g k (pSettle u))) := by
  refine jMet.of (by decide) (Nat.le_of_ble_eq_true rfl) ?_
  intro p e s m below meth c A hC hex hr hnm htr
  show jJ p l e ({ frames := 10, cells := 0, slots := 0, locals := 429 }) s m [.ref (g 0)].toArray below meth c 5 (dC, dI) jcl A (hxQ below (jQ (dC, dI) jcl (jRet none (cw g k (pSettle u))) A) [.ref (g 0)].toArray s 0 0 A) 0 0 (cw g k u) [(0, .ref (g 0))] [] 0
  have inner : ∀ (q : Nat), q < 9 → ∀ (w : jU), jJ p l e ({ frames := 10, cells := 0, slots := 0, locals := 429 }) s m [.ref (g 0)].toArray below meth c 5 (dC, dI) jcl A (hxQ below (jQ (dC, dI) jcl (jRet none (cw g k (pSettle u))) A) [.ref (g 0)].toArray s 0 0 A) 0 0 (cw g k w) [(0, .ref (g 0)), (1, .int (pTop (pRankGiven u) (tn ((pRankGiven u) 0 0)))), (2, .int (nI q))] [] 68 → ∀ (n rd : Nat) (ch : Int32) (v : jU), 1154 < rd + n → rd ≤ 1154 → wfH v → pRd (nI q) (1154 - rd) rd ch v = w → jJ p l e ({ frames := 10, cells := 0, slots := 0, locals := 429 }) s m [.ref (g 0)].toArray below meth c 5 (dC, dI) jcl A (hxQ below (jQ (dC, dI) jcl (jRet none (cw g k (pSettle u))) A) [.ref (g 0)].toArray s 0 0 A) 0 0 (cw g k v) [(0, .ref (g 0)), (1, .int (pTop (pRankGiven u) (tn ((pRankGiven u) 0 0)))), (2, .int (nI q)), (3, .int ch), (4, .int (nI rd))] [] 37 := by
    intro q hq w hk n
    induction n with
    | zero => intro rd ch v h1 h2; exact absurd h2 (by omega)
    | succ n ih =>
      intro rd ch v hn hrd hv hinv
      refine j_iload_n hC d_H_settle_37 rfl 3 rfl ?_
      refine j_if_eq (tgt := 68) hC d_H_settle_38 (by decide) (fun h38 => ?_) (fun h38 => ?_)
      · subst h38
        rw [pRd_zero] at hinv
        subst hinv
        exact j_locals [0, 1, 2] rfl hk
      · refine j_iload hC d_H_settle_41 4 rfl ?_
        refine j_sipush (v := 1153) hC d_H_settle_43 (by decide) ?_
        refine j_icmp_gt (tgt := 68) hC d_H_settle_46 (by decide) (fun h46 => ?_) (fun h46 => ?_)
        · have hgt : 1153 < rd := (rd_gt (by omega)).mp h46
          have hrz : 1154 - rd = 0 := by omega
          rw [hrz] at hinv
          subst hinv
          exact j_locals [0, 1, 2] rfl hk
        · have hle : rd ≤ 1153 := Nat.not_lt.mp (fun z => h46 ((rd_gt (by omega)).mpr z))
          have e12 : pRd (nI q) (1154 - rd) rd ch v = pRd (nI q) ((1154 - (rd + 1)) + 1) rd ch v := by rw [show 1154 - rd = (1154 - (rd + 1)) + 1 by omega]
          refine j_aload_n hC d_H_settle_49 rfl 0 rfl ?_
          refine j_iload_n hC d_H_settle_50 rfl 2 rfl ?_
          refine j_iload hC d_H_settle_51 4 rfl ?_
          refine j_iload_n hC d_H_settle_53 rfl 3 rfl ?_
          refine j_callVr (As := [.int (nI q), .int (nI rd), .int ch]) (rest := []) (st1 := []) hC (k_round l dC dI g k tl v hv (nI q) (nI rd) ch) rfl rfl ww_H_225 yn_H_bringRound (cw_house g k v) rfl rfl d_H_settle_54 (Nat.le_of_ble_eq_true rfl) (by decide) ⟨Nat.zero_le _, Nat.zero_le _⟩ rfl ?_
          refine j_aload_n hC d_H_settle_57 rfl 0 rfl ?_
          refine j_callVr (As := []) (rest := []) (st1 := [.int ((pShowFresh (pRound (nI q) (nI rd) ch v)).1)]) hC (k_showFresh l dC dI g k tl (pRound (nI q) (nI rd) ch v)) rfl rfl ww_H_228 yn_H_showFresh (cw_house g k (pRound (nI q) (nI rd) ch v)) rfl rfl d_H_settle_58 (Nat.le_of_ble_eq_true rfl) (by decide) ⟨Nat.zero_le _, Nat.zero_le _⟩ rfl ?_
          refine j_istore_n (lv' := [(0, .ref (g 0)), (1, .int (pTop (pRankGiven u) (tn ((pRankGiven u) 0 0)))), (2, .int (nI q)), (3, .int ((pShowFresh (pRound (nI q) (nI rd) ch v)).1)), (4, .int (nI rd))]) hC d_H_settle_61 rfl (by decide) rfl rfl ?_
          refine j_iinc (lv' := [(0, .ref (g 0)), (1, .int (pTop (pRankGiven u) (tn ((pRankGiven u) 0 0)))), (2, .int (nI q)), (3, .int ((pShowFresh (pRound (nI q) (nI rd) ch v)).1)), (4, .int (nI (rd + 1)))]) hC d_H_settle_62 4 rfl (nI_1 _) (by decide) rfl rfl ?_
          refine j_goto (tgt := 37) hC d_H_settle_65 (by decide) ?_
          exact ih (rd + 1) _ _ (by omega) (by omega) ((pE.rd ⟨kp.rf _ v, hv.1.2.2⟩ _ _ _).wfH hv) (by rw [← hinv, e12, pRd, if_neg h38])
  have outer : u 0 4 = 0 → ∀ (n q : Nat), q ≤ tn (pTop (pRankGiven u) (tn ((pRankGiven u) 0 0))) + 1 → tn (pTop (pRankGiven u) (tn ((pRankGiven u) 0 0))) + 1 < q + n → jJ p l e ({ frames := 10, cells := 0, slots := 0, locals := 429 }) s m [.ref (g 0)].toArray below meth c 5 (dC, dI) jcl A (hxQ below (jQ (dC, dI) jcl (jRet none (cw g k (pSettle u))) A) [.ref (g 0)].toArray s 0 0 A) 0 0 (cw g k (itN pLayer q (pRankGiven u))) [(0, .ref (g 0)), (1, .int (pTop (pRankGiven u) (tn ((pRankGiven u) 0 0)))), (2, .int (nI q))] [] 19 := by
    intro h4 n
    have hT9 := hT h4
    have hT8 := hT9.2
    have hHg : wfH (pRankGiven u) := (pRankGiven_ok hH.1.2.2).wfH hH
    induction n with
    | zero => intro q h1 h2; exact absurd h2 (by omega)
    | succ n ih =>
      intro q hqt hn
      have hHw : wfH (itN pLayer q (pRankGiven u)) := (itN_inv (P := pE u) (pRankGiven_ok hH.1.2.2) q (fun z v _ hv => pLayer_ok hv)).wfH hH
      refine j_iload_n hC d_H_settle_19 rfl 2 rfl ?_
      refine j_iload_n hC d_H_settle_20 rfl 1 rfl ?_
      refine j_icmp_gt (tgt := 74) hC d_H_settle_21 (by decide) (fun h21 => ?_) (fun h21 => ?_)
      · have hgt : tn (pTop (pRankGiven u) (tn ((pRankGiven u) 0 0))) < q := (inN_ltN hT9 (by decide) (by omega)).mp h21
        have hqe : q = tn (pTop (pRankGiven u) (tn ((pRankGiven u) 0 0))) + 1 := by omega
        refine j_aload_n hC d_H_settle_74 rfl 0 rfl ?_
        refine j_iconst (v := 1) hC d_H_settle_75 (by decide) ?_
        refine j_put (ty := .boolean) (ws' := cw g k (up (itN pLayer q (pRankGiven u)) 0 4 1)) hC hin_H tyX4 tyX4_ok nmX4 (0) (cw_house g k (itN pLayer q (pRankGiven u))) rfl 11 (by decide) (hC.2.2.2.2.1 _ wf_H_181) (fun _ h9 => h9) rfl (by decide +kernel) (rfl) (rfl) (Nat.le_of_ble_eq_true rfl) (cw_set_settled g k (itN pLayer q (pRankGiven u)) 1) d_H_settle_76 ?_
        exact j_vret hC hr ⟨rfl, rfl, congrArg (cw g k) (by rw [pSettle, if_pos h4, pSettle1, ← hqe])⟩ d_H_settle_79
      · have hle : q ≤ tn (pTop (pRankGiven u) (tn ((pRankGiven u) 0 0))) := Nat.not_lt.mp (fun z => h21 ((inN_ltN hT9 (by decide) (by omega)).mpr z))
        have hq9 : q < 9 := Nat.lt_of_le_of_lt hle hT9.2
        refine j_aload_n hC d_H_settle_24 rfl 0 rfl ?_
        refine j_iload_n hC d_H_settle_25 rfl 2 rfl ?_
        refine j_iconst (v := 1) hC d_H_settle_26 (by decide) ?_
        refine j_callVr (As := [.int (nI q), .int 1]) (rest := []) (st1 := []) hC (k_look l dC dI g k tl (itN pLayer q (pRankGiven u)) hHw (nI q) 1) rfl rfl ww_H_129 yn_H_look (cw_house g k (itN pLayer q (pRankGiven u))) rfl rfl d_H_settle_27 (Nat.le_of_ble_eq_true rfl) (by decide) ⟨Nat.zero_le _, Nat.zero_le _⟩ rfl ?_
        refine j_sipush (v := 255) hC d_H_settle_30 (by decide) ?_
        refine j_istore_n (lv' := [(0, .ref (g 0)), (1, .int (pTop (pRankGiven u) (tn ((pRankGiven u) 0 0)))), (2, .int (nI q)), (3, .int 255)]) hC d_H_settle_33 rfl (by decide) rfl rfl ?_
        refine j_iconst (v := 1) hC d_H_settle_34 (by decide) ?_
        refine j_istore (lv' := [(0, .ref (g 0)), (1, .int (pTop (pRankGiven u) (tn ((pRankGiven u) 0 0)))), (2, .int (nI q)), (3, .int 255), (4, .int 1)]) hC d_H_settle_35 (by decide) rfl rfl ?_
        refine inner q hq9 (pLayer q (itN pLayer q (pRankGiven u))) ?_ 1154 1 255 (pLook (nI q) 1 (itN pLayer q (pRankGiven u))) (by omega) (by omega) ((pLook_ok (u := itN pLayer q (pRankGiven u)) _ _ ⟨kp.rf _ _, hHw.1.2.2⟩).wfH hHw) (pLayer_eq q _)
        refine j_iinc (lv' := [(0, .ref (g 0)), (1, .int (pTop (pRankGiven u) (tn ((pRankGiven u) 0 0)))), (2, .int (nI (q + 1)))]) hC d_H_settle_68 2 rfl (nI_1 _) (by decide) rfl rfl ?_
        refine j_goto (tgt := 19) hC d_H_settle_71 (by decide) ?_
        have k9 := ih (q + 1) (by omega) (by omega)
        rw [itN_s] at k9
        exact k9
  refine j_aload_n hC d_H_settle_0 rfl 0 rfl ?_
  refine j_get hC hin_H (0) (cw_house g k u) rfl 11 (by decide) (hC.2.2.2.2.1 _ wf_H_181) (fun _ h9 => h9) rfl d_H_settle_1 ?_
  refine j_if_eq (tgt := 8) hC d_H_settle_4 (by decide) (fun h4 => ?_) (fun h4 => ?_)
  · have hT9 := hT h4
    have hHg : wfH (pRankGiven u) := (pRankGiven_ok hH.1.2.2).wfH hH
    refine j_aload_n hC d_H_settle_8 rfl 0 rfl ?_
    refine j_callVr (As := []) (rest := []) (st1 := []) hC (k_rankGiven l dC dI g k tl u) rfl rfl ww_H_219 yn_H_rankGiven (cw_house g k u) rfl rfl d_H_settle_9 (Nat.le_of_ble_eq_true rfl) (by decide) ⟨Nat.zero_le _, Nat.zero_le _⟩ rfl ?_
    refine j_aload_n hC d_H_settle_12 rfl 0 rfl ?_
    refine j_callVr (As := []) (rest := []) (st1 := [.int (pTop (pRankGiven u) (tn ((pRankGiven u) 0 0)))]) hC (k_top l dC dI g k tl (pRankGiven u) hHg) rfl rfl ww_H_222 yn_H_topLayer (cw_house g k (pRankGiven u)) rfl rfl d_H_settle_13 (Nat.le_of_ble_eq_true rfl) (by decide) ⟨Nat.zero_le _, Nat.zero_le _⟩ rfl ?_
    refine j_istore_n (lv' := [(0, .ref (g 0)), (1, .int (pTop (pRankGiven u) (tn ((pRankGiven u) 0 0))))]) hC d_H_settle_16 rfl (by decide) rfl rfl ?_
    refine j_iconst (v := 0) hC d_H_settle_17 (by decide) ?_
    refine j_istore_n (lv' := [(0, .ref (g 0)), (1, .int (pTop (pRankGiven u) (tn ((pRankGiven u) 0 0)))), (2, .int 0)]) hC d_H_settle_18 rfl (by decide) rfl rfl ?_
    have hT8 := hT9.2
    exact outer h4 11 0 (by omega) (by omega)
  · exact j_vret hC hr ⟨rfl, rfl, congrArg (cw g k) (if_neg h4).symm⟩ d_H_settle_7
end
section
set_option maxHeartbeats 4000000 in
set_option maxRecDepth 100000 in
theorem k_layer (l : Launch) (hl : l.stackTraces = false) (dC : Nat → ClassId) (dI : Nat → Nat → Nat) (g k : Nat → Nat) (tl : List (ClassId × FieldType)) (u : jU) (hH : wfH u) (r : Int32) : jMet l y_H_layer (.code y_H_layer c_H_layer 2 (some .int)) ({ frames := 7, cells := 2, slots := 12, locals := 122 }) (dC, dI) jcl (ctys k tl) jTs [.ref (g 0), .int r] (cw g k u) 2 12 (jE (pcAsk (pcRel u r) u) (some (.int (pJudge u 3 (tn r)))) (cw g k (pAskJ (pcRel u r) u))) := by
  refine jMet.of (by decide) (Nat.le_of_ble_eq_true rfl) ?_
  intro p e s m below meth c A hC hex hr hnm htr0
  have htr : e.platform.stackTraces = false := htr0.trans hl
  show jJ p l e ({ frames := 7, cells := 2, slots := 12, locals := 122 }) s m [.ref (g 0), .int r].toArray below meth c 2 (dC, dI) jcl A (hxQ below (jQ (dC, dI) jcl (jE (pcAsk (pcRel u r) u) (some (.int (pJudge u 3 (tn r)))) (cw g k (pAskJ (pcRel u r) u))) A) [.ref (g 0), .int r].toArray s 2 12 A) 0 0 (cw g k u) [(0, .ref (g 0)), (1, .int r)] [] 0
  refine j_aload_n hC d_H_layer_0 rfl 0 rfl ?_
  refine j_iload_n hC d_H_layer_1 rfl 1 rfl ?_
  refine j_callVx (As := [.int r]) (rest := []) (st1 := []) hC hex (k_checkRel l hl dC dI g k tl u r) rfl rfl ww_H_114 yn_H_checkRelation (cw_house g k u) rfl rfl d_H_layer_2 (Nat.le_of_ble_eq_true rfl) (by decide) (by decide) (by decide) rfl (fun cn h => ⟨by rw [pcAsk, if_neg (by rw [h]; exact Option.some_ne_none _)]; exact h, congrArg (cw g k) (by rw [pAskJ, if_neg (by rw [h]; exact Option.some_ne_none _)])⟩) (fun hc2 => ?_)
  refine j_aload_n hC d_H_layer_5 rfl 0 rfl ?_
  refine j_callVx (As := []) (rest := []) (st1 := []) hC hex (k_checkFault l hl dC dI g k tl u hH) rfl rfl ww_H_118 yn_H_checkNoFault (cw_house g k u) rfl rfl d_H_layer_6 (Nat.le_of_ble_eq_true rfl) (by decide) (by decide) (by decide) rfl (fun cn h => ⟨by rw [pcAsk, if_pos hc2]; exact h, congrArg (cw g k) (by rw [pAskJ, if_pos hc2])⟩) (fun hc6 => ?_)
  refine j_aload_n hC d_H_layer_9 rfl 0 rfl ?_
  refine j_get hC hin_H (0) (cw_house g k (pJudge u)) rfl 5 (by decide) (hC.2.2.2.2.1 _ wf_H_24) (fun _ h9 => h9) rfl d_H_layer_10 ?_
  refine j_iload_n hC d_H_layer_13 rfl 1 rfl ?_
  refine j_ialdN hC (4) 0 (cw_layers g k (pJudge u)) rfl (n := tn r) ((rel_in hH hc2).1) ((rel_in hH hc2).2) (by decide) d_H_layer_14 ?_
  refine j_widen (cells' := 2) (slots' := 12) (by decide) (by decide) ?_
  exact j_iret hC hr ⟨(by rw [pcAsk, if_pos hc2]; exact hc6.symm), fun _ => rfl, congrArg (cw g k) (by rw [pAskJ, if_pos hc2])⟩ d_H_layer_15

set_option maxHeartbeats 4000000 in
set_option maxRecDepth 100000 in
theorem k_countR (l : Launch) (hl : l.stackTraces = false) (dC : Nat → ClassId) (dI : Nat → Nat → Nat) (g k : Nat → Nat) (tl : List (ClassId × FieldType)) (u : jU) (hH : wfH u) (hT : pcFault u = none → wfT (pJudge u)) (r : Int32) : jMet l y_H_count (.code y_H_count c_H_count 5 (some .int)) ({ frames := 11, cells := 2, slots := 12, locals := 453 }) (dC, dI) jcl (ctys k tl) jTs [.ref (g 0), .int r] (cw g k u) 2 12 (jE (pcAsk (pcRel u r) u) (some (.int (pCn (pJS u) (144 * tn r) 144))) (cw g k (pAskS (pcRel u r) u))) := by
  refine jMet.of (by decide) (Nat.le_of_ble_eq_true rfl) ?_
  intro p e s m below meth c A hC hex hr hnm htr0
  have htr : e.platform.stackTraces = false := htr0.trans hl
  show jJ p l e ({ frames := 11, cells := 2, slots := 12, locals := 453 }) s m [.ref (g 0), .int r].toArray below meth c 5 (dC, dI) jcl A (hxQ below (jQ (dC, dI) jcl (jE (pcAsk (pcRel u r) u) (some (.int (pCn (pJS u) (144 * tn r) 144))) (cw g k (pAskS (pcRel u r) u))) A) [.ref (g 0), .int r].toArray s 2 12 A) 0 0 (cw g k u) [(0, .ref (g 0)), (1, .int r)] [] 0
  have loop : pcRel u r = none → pcFault u = none → ∀ (mm n : Nat), n ≤ 144 → 144 < n + mm → jJ p l e ({ frames := 11, cells := 2, slots := 12, locals := 453 }) s m [.ref (g 0), .int r].toArray below meth c 5 (dC, dI) jcl A (hxQ below (jQ (dC, dI) jcl (jE (pcAsk (pcRel u r) u) (some (.int (pCn (pJS u) (144 * tn r) 144))) (cw g k (pAskS (pcRel u r) u))) A) [.ref (g 0), .int r].toArray s 2 12 A) 2 12 (cw g k (pJS u)) [(0, .ref (g 0)), (1, .int r), (2, .int (pCn (pJS u) (144 * tn r) n)), (3, .int (nI (144 * tn r + 144))), (4, .int (nI (144 * tn r + n)))] [] 31 := by
    intro hc2 hc6 mm
    have hr8 := (rel_in hH hc2).2
    induction mm with
    | zero => intro n h1 h2; exact absurd h2 (by omega)
    | succ mm ih =>
      intro n hn hm
      refine j_iload hC d_H_count_31 4 rfl ?_
      refine j_iload_n hC d_H_count_33 rfl 3 rfl ?_
      refine j_icmp_ge (tgt := 57) hC d_H_count_34 (by decide) (fun h34 => ?_) (fun h34 => ?_)
      · have hge : 144 * tn r + 144 ≤ 144 * tn r + n := (nI_leI (by omega) (by omega)).mp h34
        have hne : n = 144 := by omega
        subst hne
        refine j_iload_n hC d_H_count_57 rfl 2 rfl ?_
        refine j_widen (cells' := 2) (slots' := 12) (by decide) (by decide) ?_
        exact j_iret hC hr ⟨(by rw [pcAsk, if_pos hc2]; exact hc6.symm), fun _ => rfl, congrArg (cw g k) (by rw [pAskS, if_pos hc2, if_pos hc6])⟩ d_H_count_58
      · have hlt : 144 * tn r + n < 144 * tn r + 144 := Nat.not_le.mp (fun z => h34 ((nI_leI (by omega) (by omega)).mpr z))
        refine j_aload_n hC d_H_count_37 rfl 0 rfl ?_
        refine j_get hC hin_H (0) (cw_house g k (pJS u)) rfl 6 (by decide) (hC.2.2.2.2.1 _ wf_H_27) (fun _ h9 => h9) rfl d_H_count_38 ?_
        refine j_iload hC d_H_count_41 4 rfl ?_
        refine j_ialdN hC (5) 0 (cw_ranks g k (pJS u)) rfl (n := 144 * tn r + n) (rfl) (by omega) (by decide) d_H_count_43 ?_
        refine j_iconst (v := -1) hC d_H_count_44 (by decide) ?_
        refine j_icmp_eq (tgt := 51) hC d_H_count_45 (by decide) (fun h45 => ?_) (fun h45 => ?_)
        · refine j_iinc (lv' := [(0, .ref (g 0)), (1, .int r), (2, .int (pCn (pJS u) (144 * tn r) n)), (3, .int (nI (144 * tn r + 144))), (4, .int (nI (144 * tn r + n + 1)))]) hC d_H_count_51 4 rfl (nI_1 _) (by decide) rfl rfl ?_
          refine j_goto (tgt := 31) hC d_H_count_54 (by decide) ?_
          have e9 : pCn (pJS u) (144 * tn r) (n + 1) = pCn (pJS u) (144 * tn r) n := if_pos h45
          have k9 := ih (n + 1) (by omega) (by omega)
          rw [e9] at k9
          exact k9
        · refine j_iinc (lv' := [(0, .ref (g 0)), (1, .int r), (2, .int ((pCn (pJS u) (144 * tn r) n) + 1)), (3, .int (nI (144 * tn r + 144))), (4, .int (nI (144 * tn r + n)))]) hC d_H_count_48 2 rfl rfl (by decide) rfl rfl ?_
          refine j_iinc (lv' := [(0, .ref (g 0)), (1, .int r), (2, .int ((pCn (pJS u) (144 * tn r) n) + 1)), (3, .int (nI (144 * tn r + 144))), (4, .int (nI (144 * tn r + n + 1)))]) hC d_H_count_51 4 rfl (nI_1 _) (by decide) rfl rfl ?_
          refine j_goto (tgt := 31) hC d_H_count_54 (by decide) ?_
          have e9 : pCn (pJS u) (144 * tn r) (n + 1) = (pCn (pJS u) (144 * tn r) n) + 1 := if_neg h45
          have k9 := ih (n + 1) (by omega) (by omega)
          rw [e9] at k9
          exact k9
  refine j_aload_n hC d_H_count_0 rfl 0 rfl ?_
  refine j_iload_n hC d_H_count_1 rfl 1 rfl ?_
  refine j_callVx (As := [.int r]) (rest := []) (st1 := []) hC hex (k_checkRel l hl dC dI g k tl u r) rfl rfl ww_H_114 yn_H_checkRelation (cw_house g k u) rfl rfl d_H_count_2 (Nat.le_of_ble_eq_true rfl) (by decide) (by decide) (by decide) rfl (fun cn h => ⟨by rw [pcAsk, if_neg (by rw [h]; exact Option.some_ne_none _)]; exact h, congrArg (cw g k) (by rw [pAskS, if_neg (by rw [h]; exact Option.some_ne_none _)])⟩) (fun hc2 => ?_)
  refine j_aload_n hC d_H_count_5 rfl 0 rfl ?_
  refine j_callVx (As := []) (rest := []) (st1 := []) hC hex (k_checkFault l hl dC dI g k tl u hH) rfl rfl ww_H_118 yn_H_checkNoFault (cw_house g k u) rfl rfl d_H_count_6 (Nat.le_of_ble_eq_true rfl) (by decide) (by decide) (by decide) rfl (fun cn h => ⟨by rw [pcAsk, if_pos hc2]; exact h, congrArg (cw g k) (by rw [pAskS, if_pos hc2, if_neg (by rw [h]; exact Option.some_ne_none _)])⟩) (fun hc6 => ?_)
  refine j_aload_n hC d_H_count_9 rfl 0 rfl ?_
  refine j_callVr (As := []) (rest := []) (st1 := []) hC (k_settle l dC dI g k tl (pJudge u) (pJudge_wf hH) (hT hc6)) rfl rfl ww_H_121 yn_H_settle (cw_house g k (pJudge u)) rfl rfl d_H_count_10 (Nat.le_of_ble_eq_true rfl) (by decide) (by decide) rfl ?_
  refine j_iconst (v := 0) hC d_H_count_13 (by decide) ?_
  refine j_istore_n (lv' := [(0, .ref (g 0)), (1, .int r), (2, .int 0)]) hC d_H_count_14 rfl (by decide) rfl rfl ?_
  refine j_iload_n hC d_H_count_15 rfl 1 rfl ?_
  refine j_bipush (v := 12) hC d_H_count_16 (by decide) ?_
  refine j_iconst (v := 0) hC d_H_count_18 (by decide) ?_
  refine j_callSr (As := [.int r, .int 12, .int 0]) (rest := []) (st1 := [.int ((r * 12 + 12) * 12 + 0)]) hC (k_factAt l dC dI g k tl (pJS u) r 12 0) rfl rfl ww_H_124 yn_H_factAt rfl d_H_count_19 (Nat.le_of_ble_eq_true rfl) (by decide) (by decide) rfl ?_
  rw [show (r * 12 + 12) * 12 + 0 = nI (144 * tn r + 144) from (in_fact (rel_in hH hc2) 12 0).trans (congrArg nI (by omega))]
  refine j_istore_n (lv' := [(0, .ref (g 0)), (1, .int r), (2, .int 0), (3, .int (nI (144 * tn r + 144)))]) hC d_H_count_22 rfl (by decide) rfl rfl ?_
  refine j_iload_n hC d_H_count_23 rfl 1 rfl ?_
  refine j_iconst (v := 0) hC d_H_count_24 (by decide) ?_
  refine j_iconst (v := 0) hC d_H_count_25 (by decide) ?_
  refine j_callSr (As := [.int r, .int 0, .int 0]) (rest := []) (st1 := [.int ((r * 12 + 0) * 12 + 0)]) hC (k_factAt l dC dI g k tl (pJS u) r 0 0) rfl rfl ww_H_124 yn_H_factAt rfl d_H_count_26 (Nat.le_of_ble_eq_true rfl) (by decide) (by decide) rfl ?_
  rw [show (r * 12 + 0) * 12 + 0 = nI (144 * tn r + 0) from (in_fact (rel_in hH hc2) 0 0).trans (congrArg nI (by omega))]
  refine j_istore (lv' := [(0, .ref (g 0)), (1, .int r), (2, .int 0), (3, .int (nI (144 * tn r + 144))), (4, .int (nI (144 * tn r + 0)))]) hC d_H_count_29 (by decide) rfl rfl ?_
  exact loop hc2 hc6 145 0 (by omega) (by omega)

set_option maxHeartbeats 4000000 in
set_option maxRecDepth 100000 in
theorem k_rank (l : Launch) (hl : l.stackTraces = false) (dC : Nat → ClassId) (dI : Nat → Nat → Nat) (g k : Nat → Nat) (tl : List (ClassId × FieldType)) (u : jU) (hH : wfH u) (hT : pcFault u = none → wfT (pJudge u)) (r a b : Int32) : jMet l y_H_rank (.code y_H_rank c_H_rank 4 (some .int)) ({ frames := 11, cells := 3, slots := 18, locals := 453 }) (dC, dI) jcl (ctys k tl) jTs [.ref (g 0), .int r, .int a, .int b] (cw g k u) 3 18 (jE (pcAsk (pcFact u r a b) u) (some (.int (pJS u 4 (pFx u r a b)))) (cw g k (pAskS (pcFact u r a b) u))) := by
  refine jMet.of (by decide) (Nat.le_of_ble_eq_true rfl) ?_
  intro p e s m below meth c A hC hex hr hnm htr0
  have htr : e.platform.stackTraces = false := htr0.trans hl
  show jJ p l e ({ frames := 11, cells := 3, slots := 18, locals := 453 }) s m [.ref (g 0), .int r, .int a, .int b].toArray below meth c 4 (dC, dI) jcl A (hxQ below (jQ (dC, dI) jcl (jE (pcAsk (pcFact u r a b) u) (some (.int (pJS u 4 (pFx u r a b)))) (cw g k (pAskS (pcFact u r a b) u))) A) [.ref (g 0), .int r, .int a, .int b].toArray s 3 18 A) 0 0 (cw g k u) [(0, .ref (g 0)), (1, .int r), (2, .int a), (3, .int b)] [] 0
  refine j_aload_n hC d_H_rank_0 rfl 0 rfl ?_
  refine j_iload_n hC d_H_rank_1 rfl 1 rfl ?_
  refine j_iload_n hC d_H_rank_2 rfl 2 rfl ?_
  refine j_iload_n hC d_H_rank_3 rfl 3 rfl ?_
  refine j_callVx (As := [.int r, .int a, .int b]) (rest := []) (st1 := []) hC hex (k_checkFact l hl dC dI g k tl u hH r a b) rfl rfl ww_H_72 yn_H_checkFact (cw_house g k u) rfl rfl d_H_rank_4 (Nat.le_of_ble_eq_true rfl) (by decide) (by decide) (by decide) rfl (fun cn h => ⟨by rw [pcAsk, if_neg (by rw [h]; exact Option.some_ne_none _)]; exact h, congrArg (cw g k) (by rw [pAskS, if_neg (by rw [h]; exact Option.some_ne_none _)])⟩) (fun hc4 => ?_)
  refine j_aload_n hC d_H_rank_7 rfl 0 rfl ?_
  refine j_callVx (As := []) (rest := []) (st1 := []) hC hex (k_checkFault l hl dC dI g k tl u hH) rfl rfl ww_H_118 yn_H_checkNoFault (cw_house g k u) rfl rfl d_H_rank_8 (Nat.le_of_ble_eq_true rfl) (by decide) (by decide) (by decide) rfl (fun cn h => ⟨by rw [pcAsk, if_pos hc4]; exact h, congrArg (cw g k) (by rw [pAskS, if_pos hc4, if_neg (by rw [h]; exact Option.some_ne_none _)])⟩) (fun hc8 => ?_)
  refine j_aload_n hC d_H_rank_11 rfl 0 rfl ?_
  refine j_callVr (As := []) (rest := []) (st1 := []) hC (k_settle l dC dI g k tl (pJudge u) (pJudge_wf hH) (hT hc8)) rfl rfl ww_H_121 yn_H_settle (cw_house g k (pJudge u)) rfl rfl d_H_rank_12 (Nat.le_of_ble_eq_true rfl) (by decide) (by decide) rfl ?_
  refine j_aload_n hC d_H_rank_15 rfl 0 rfl ?_
  refine j_get hC hin_H (0) (cw_house g k (pJS u)) rfl 6 (by decide) (hC.2.2.2.2.1 _ wf_H_27) (fun _ h9 => h9) rfl d_H_rank_16 ?_
  refine j_iload_n hC d_H_rank_19 rfl 1 rfl ?_
  refine j_aload_n hC d_H_rank_20 rfl 0 rfl ?_
  refine j_iload_n hC d_H_rank_21 rfl 1 rfl ?_
  refine j_iload_n hC d_H_rank_22 rfl 2 rfl ?_
  refine j_callVr (As := [.int r, .int a]) (rest := [.int r, .ref (g 5)]) (st1 := [.int (pFst (pJS u) r a), .int r, .ref (g 5)]) hC (k_first l dC dI g k tl (pJS u) r a (rel_in hH (fact_rel hc4))) rfl rfl ww_H_85 yn_H_firstOf (cw_house g k (pJS u)) rfl rfl d_H_rank_23 (Nat.le_of_ble_eq_true rfl) (by decide) (by decide) rfl ?_
  refine j_aload_n hC d_H_rank_26 rfl 0 rfl ?_
  refine j_iload_n hC d_H_rank_27 rfl 1 rfl ?_
  refine j_iload_n hC d_H_rank_28 rfl 3 rfl ?_
  refine j_callVr (As := [.int r, .int b]) (rest := [.int (pFst (pJS u) r a), .int r, .ref (g 5)]) (st1 := [.int (pSnd (pJS u) r b), .int (pFst (pJS u) r a), .int r, .ref (g 5)]) hC (k_second l dC dI g k tl (pJS u) r b (rel_in hH (fact_rel hc4))) rfl rfl ww_H_89 yn_H_secondOf (cw_house g k (pJS u)) rfl rfl d_H_rank_29 (Nat.le_of_ble_eq_true rfl) (by decide) (by decide) rfl ?_
  rw [pFst_eq (pJS_1 hH) r a, pSnd_eq (pJS_1 hH) r b]
  refine j_callSr (As := [.int r, .int (pFst u r a), .int (pSnd u r b)]) (rest := [.ref (g 5)]) (st1 := [.int ((r * 12 + pFst u r a) * 12 + pSnd u r b), .ref (g 5)]) hC (k_factAt l dC dI g k tl (pJS u) r (pFst u r a) (pSnd u r b)) rfl rfl ww_H_124 yn_H_factAt rfl d_H_rank_32 (Nat.le_of_ble_eq_true rfl) (by decide) (by decide) rfl ?_
  refine j_ialdN hC (5) 0 (cw_ranks g k (pJS u)) rfl (n := pFx u r a b) (in_fact2 (rel_in hH (fact_rel hc4)) (fact_fst hc4) (fact_snd hc4)) (fact2_lt (rel_in hH (fact_rel hc4)) (fact_fst hc4) (fact_snd hc4)) (by decide) d_H_rank_35 ?_
  refine j_widen (cells' := 3) (slots' := 18) (by decide) (by decide) ?_
  exact j_iret hC hr ⟨(by rw [pcAsk, if_pos hc4]; exact hc8.symm), fun _ => rfl, congrArg (cw g k) (by rw [pAskS, if_pos hc4, if_pos hc8])⟩ d_H_rank_36

set_option maxHeartbeats 4000000 in
set_option maxRecDepth 100000 in
theorem k_ways (l : Launch) (hl : l.stackTraces = false) (dC : Nat → ClassId) (dI : Nat → Nat → Nat) (g k : Nat → Nat) (tl : List (ClassId × FieldType)) (u : jU) (hH : wfH u) (hT : pcFault u = none → wfT (pJudge u)) (r a b : Int32) : jMet l y_H_ways (.code y_H_ways c_H_ways 6 (some .int)) ({ frames := 11, cells := 3, slots := 18, locals := 453 }) (dC, dI) jcl (ctys k tl) jTs [.ref (g 0), .int r, .int a, .int b] (cw g k u) 3 18 (jE (pcAsk (pcFact u r a b) u) (some (.int ((pWy u r a b).1))) (cw g k (pAskW u r a b))) := by
  refine jMet.of (by decide) (Nat.le_of_ble_eq_true rfl) ?_
  intro p e s m below meth c A hC hex hr hnm htr0
  have htr : e.platform.stackTraces = false := htr0.trans hl
  show jJ p l e ({ frames := 11, cells := 3, slots := 18, locals := 453 }) s m [.ref (g 0), .int r, .int a, .int b].toArray below meth c 6 (dC, dI) jcl A (hxQ below (jQ (dC, dI) jcl (jE (pcAsk (pcFact u r a b) u) (some (.int ((pWy u r a b).1))) (cw g k (pAskW u r a b))) A) [.ref (g 0), .int r, .int a, .int b].toArray s 3 18 A) 0 0 (cw g k u) [(0, .ref (g 0)), (1, .int r), (2, .int a), (3, .int b)] [] 0
  have hLk : wfH (pLook (pJS u 3 (tn r)) 2147483647 (pJS u)) := (pLook_ok (u := pJS u) _ _ ⟨kp.rf _ _, (pJS_wf hH).1.2.2⟩).wfH (pJS_wf hH)
  have hL1 : (pLook (pJS u 3 (tn r)) 2147483647 (pJS u)) 1 = u 1 := (pLook_kp _ _ _ 1 (by decide)).trans (pJS_1 hH)
  have hL0 : (pLook (pJS u 3 (tn r)) 2147483647 (pJS u)) 0 1 = u 0 1 := (by rw [pLook_kp _ _ _ 0 (by decide)]; exact pJS_01 hH)
  have hk17 := hH.2.2
  have hk := hk17.2
  have loop : pcFact u r a b = none → pcFault u = none → ∀ (n i : Nat) (z : Int32) (v : jU), i ≤ tn (u 0 1) → tn (u 0 1) < i + n → pR (pLook (pJS u 3 (tn r)) 2147483647 (pJS u)) v → pWays r (pFst u r a) (pSnd u r b) (tn (u 0 1) - i) i z v = pWays r (pFst u r a) (pSnd u r b) (tn (u 0 1)) 0 0 (pLook (pJS u 3 (tn r)) 2147483647 (pJS u)) → jJ p l e ({ frames := 11, cells := 3, slots := 18, locals := 453 }) s m [.ref (g 0), .int r, .int a, .int b].toArray below meth c 6 (dC, dI) jcl A (hxQ below (jQ (dC, dI) jcl (jE (pcAsk (pcFact u r a b) u) (some (.int ((pWy u r a b).1))) (cw g k (pAskW u r a b))) A) [.ref (g 0), .int r, .int a, .int b].toArray s 3 18 A) 3 18 (cw g k v) [(0, .ref (g 0)), (1, .int r), (2, .int a), (3, .int b), (4, .int z), (5, .int (nI i))] [] 33 := by
    intro hc4 hc8 n
    induction n with
    | zero => intro i z v h1 h2; exact absurd h2 (by omega)
    | succ n ih =>
      intro i z v hi hn hR hinv
      have hMv : wfM v := hR.wfM hLk.1
      have hv1 : v 1 = u 1 := (hR.1 1 (by decide)).trans hL1
      have hk0 : v 0 1 = u 0 1 := (by rw [hR.1 0 (by decide)]; exact hL0)
      have hmo := pMeets_ok (u := v) i r (pFst u r a) (pSnd u r b) (fact_fst hc4) (fact_snd hc4)
      refine j_iload hC d_H_ways_33 5 rfl ?_
      refine j_aload_n hC d_H_ways_35 rfl 0 rfl ?_
      refine j_get hC hin_H (0) (cw_house g k v) rfl 4 (by decide) (hC.2.2.2.2.1 _ wf_H_54) (fun _ h9 => h9) rfl d_H_ways_36 ?_
      refine j_icmp_ge (tgt := 99) hC d_H_ways_39 (by decide) (fun h39 => ?_) (fun h39 => ?_)
      · have hge : tn (u 0 1) ≤ i := (inN_leN hk17 (by decide) (by omega)).mp (by rw [← hk0]; exact h39)
        have hie : tn (u 0 1) - i = 0 := by omega
        rw [hie] at hinv
        refine j_iload hC d_H_ways_99 4 rfl ?_
        refine j_widen (cells' := 3) (slots' := 18) (by decide) (by decide) ?_
        exact j_iret hC hr ⟨(by rw [pcAsk, if_pos hc4]; exact hc8.symm), (fun _ => by rw [pWy, ← hinv] <;> rfl), congrArg (cw g k) (by rw [pAskW, if_pos hc4, if_pos hc8, pWy, ← hinv] <;> rfl)⟩ d_H_ways_101
      · have hlt : i < tn (u 0 1) := Nat.not_le.mp (fun z => h39 (by rw [hk0]; exact (inN_leN hk17 (by decide) (by omega)).mpr z))
        have hi16 : i < 16 := by omega
        have e12 : pWays r (pFst u r a) (pSnd u r b) (tn (u 0 1) - i) i z v = pWays r (pFst u r a) (pSnd u r b) ((tn (u 0 1) - (i + 1)) + 1) i z v := by rw [show tn (u 0 1) - i = (tn (u 0 1) - (i + 1)) + 1 by omega]
        refine j_aload_n hC d_H_ways_42 rfl 0 rfl ?_
        refine j_get hC hin_H (0) (cw_house g k v) rfl 8 (by decide) (hC.2.2.2.2.1 _ wf_H_36) (fun _ h9 => h9) rfl d_H_ways_43 ?_
        refine j_aload_n hC d_H_ways_46 rfl 0 rfl ?_
        refine j_get hC hin_H (0) (cw_house g k v) rfl 2 (by decide) (hC.2.2.2.2.1 _ wf_H_20) (fun _ h9 => h9) rfl d_H_ways_47 ?_
        refine j_iload hC d_H_ways_50 5 rfl ?_
        refine j_aaldN (v := g (15 + i)) hC (3) 2 (cw_rules g k v) rfl (n := i) (rfl) (hi16) (by decide) (if_pos (hi16)) d_H_ways_52 ?_
        refine j_iload_n hC d_H_ways_53 rfl 1 rfl ?_
        refine j_aload_n hC d_H_ways_54 rfl 0 rfl ?_
        refine j_iload_n hC d_H_ways_55 rfl 1 rfl ?_
        refine j_iload_n hC d_H_ways_56 rfl 2 rfl ?_
        refine j_callVr (As := [.int r, .int a]) (rest := [.int r, .ref (g (15 + i)), .ref (g 7)]) (st1 := [.int (pFst v r a), .int r, .ref (g (15 + i)), .ref (g 7)]) hC (k_first l dC dI g k tl v r a (rel_in hH (fact_rel hc4))) rfl rfl ww_H_85 yn_H_firstOf (cw_house g k v) rfl rfl d_H_ways_57 (Nat.le_of_ble_eq_true rfl) (by decide) (by decide) rfl ?_
        refine j_aload_n hC d_H_ways_60 rfl 0 rfl ?_
        refine j_iload_n hC d_H_ways_61 rfl 1 rfl ?_
        refine j_iload_n hC d_H_ways_62 rfl 3 rfl ?_
        refine j_callVr (As := [.int r, .int b]) (rest := [.int (pFst v r a), .int r, .ref (g (15 + i)), .ref (g 7)]) (st1 := [.int (pSnd v r b), .int (pFst v r a), .int r, .ref (g (15 + i)), .ref (g 7)]) hC (k_second l dC dI g k tl v r b (rel_in hH (fact_rel hc4))) rfl rfl ww_H_89 yn_H_secondOf (cw_house g k v) rfl rfl d_H_ways_63 (Nat.le_of_ble_eq_true rfl) (by decide) (by decide) rfl ?_
        rw [pFst_eq hv1 r a, pSnd_eq hv1 r b]
        refine j_callNr (As := [.ref (g (15 + i)), .int r, .int (pFst u r a), .int (pSnd u r b)]) (rest := []) (st1 := [.int (b2i (pMeets v i r (pFst u r a) (pSnd u r b)).1)]) hC (k_meets l dC dI g k tl v (i := i) hi16 hMv r (pFst u r a) (pSnd u r b) (fact_fst hc4) (fact_snd hc4)) rfl rfl ww_H_133 yn_M_meets (cw_match g k v) rfl rfl d_H_ways_66 (Nat.le_of_ble_eq_true rfl) (by decide) (by decide) rfl ?_
        refine j_if_eq (tgt := 93) hC d_H_ways_69 (by decide) (fun h69 => ?_) (fun h69 => ?_)
        · have hR1 : pR (pLook (pJS u 3 (tn r)) 2147483647 (pJS u)) (pMeets v i r (pFst u r a) (pSnd u r b)).2 := ⟨hR.1.tr (hmo.1.kp (by decide)), hmo.2 hR.2⟩
          refine j_iinc (lv' := [(0, .ref (g 0)), (1, .int r), (2, .int a), (3, .int b), (4, .int z), (5, .int (nI (i + 1)))]) hC d_H_ways_93 5 rfl (nI_1 _) (by decide) rfl rfl ?_
          refine j_goto (tgt := 33) hC d_H_ways_96 (by decide) ?_
          exact ih (i + 1) z (pMeets v i r (pFst u r a) (pSnd u r b)).2 (by omega) (by omega) hR1 (by rw [← hinv, e12, pWays, if_pos h69])
        · have hR1 : pR (pLook (pJS u 3 (tn r)) 2147483647 (pJS u)) (pMeets v i r (pFst u r a) (pSnd u r b)).2 := ⟨hR.1.tr (hmo.1.kp (by decide)), hmo.2 hR.2⟩
          have hco := pCount_frame i 5 20 (pMeets v i r (pFst u r a) (pSnd u r b)).2
          refine j_iload hC d_H_ways_72 4 rfl ?_
          refine j_aload_n hC d_H_ways_74 rfl 0 rfl ?_
          refine j_get hC hin_H (0) (cw_house g k ((pMeets v i r (pFst u r a) (pSnd u r b)).2)) rfl 8 (by decide) (hC.2.2.2.2.1 _ wf_H_36) (fun _ h9 => h9) rfl d_H_ways_75 ?_
          refine j_aload_n hC d_H_ways_78 rfl 0 rfl ?_
          refine j_get hC hin_H (0) (cw_house g k ((pMeets v i r (pFst u r a) (pSnd u r b)).2)) rfl 2 (by decide) (hC.2.2.2.2.1 _ wf_H_20) (fun _ h9 => h9) rfl d_H_ways_79 ?_
          refine j_iload hC d_H_ways_82 5 rfl ?_
          refine j_aaldN (v := g (15 + i)) hC (3) 2 (cw_rules g k ((pMeets v i r (pFst u r a) (pSnd u r b)).2)) rfl (n := i) (rfl) (hi16) (by decide) (if_pos (hi16)) d_H_ways_84 ?_
          refine j_bipush (v := 20) hC d_H_ways_85 (by decide) ?_
          refine j_callNr (As := [.ref (g (15 + i)), .int 20]) (rest := [.int z]) (st1 := [.int ((pCount i 5 20 (pMeets v i r (pFst u r a) (pSnd u r b)).2).1), .int z]) hC (k_count l dC dI g k tl hi16 5 (pMeets v i r (pFst u r a) (pSnd u r b)).2 20 (by decide) (by decide) (hMv.of hmo.1 (hmo.2 hR.2))) rfl rfl ww_H_137 yn_M_countInstances (cw_match g k ((pMeets v i r (pFst u r a) (pSnd u r b)).2)) rfl rfl d_H_ways_87 (Nat.le_of_ble_eq_true rfl) (by decide) (by decide) rfl ?_
          refine j_iadd hC d_H_ways_90 ?_
          refine j_istore (lv' := [(0, .ref (g 0)), (1, .int r), (2, .int a), (3, .int b), (4, .int (z + ((pCount i 5 20 (pMeets v i r (pFst u r a) (pSnd u r b)).2).1))), (5, .int (nI i))]) hC d_H_ways_91 (by decide) rfl rfl ?_
          refine j_iinc (lv' := [(0, .ref (g 0)), (1, .int r), (2, .int a), (3, .int b), (4, .int (z + ((pCount i 5 20 (pMeets v i r (pFst u r a) (pSnd u r b)).2).1))), (5, .int (nI (i + 1)))]) hC d_H_ways_93 5 rfl (nI_1 _) (by decide) rfl rfl ?_
          refine j_goto (tgt := 33) hC d_H_ways_96 (by decide) ?_
          exact ih (i + 1) _ (pCount i 5 20 (pMeets v i r (pFst u r a) (pSnd u r b)).2).2 (by omega) (by omega) ⟨hR1.1.tr (hco.1.kp (by decide)), hco.2 hR1.2⟩ (by rw [← hinv, e12, pWays, if_neg h69])
  refine j_aload_n hC d_H_ways_0 rfl 0 rfl ?_
  refine j_iload_n hC d_H_ways_1 rfl 1 rfl ?_
  refine j_iload_n hC d_H_ways_2 rfl 2 rfl ?_
  refine j_iload_n hC d_H_ways_3 rfl 3 rfl ?_
  refine j_callVx (As := [.int r, .int a, .int b]) (rest := []) (st1 := []) hC hex (k_checkFact l hl dC dI g k tl u hH r a b) rfl rfl ww_H_72 yn_H_checkFact (cw_house g k u) rfl rfl d_H_ways_4 (Nat.le_of_ble_eq_true rfl) (by decide) (by decide) (by decide) rfl (fun cn h => ⟨by rw [pcAsk, if_neg (by rw [h]; exact Option.some_ne_none _)]; exact h, congrArg (cw g k) (by rw [pAskW, if_neg (by rw [h]; exact Option.some_ne_none _)])⟩) (fun hc4 => ?_)
  refine j_aload_n hC d_H_ways_7 rfl 0 rfl ?_
  refine j_callVx (As := []) (rest := []) (st1 := []) hC hex (k_checkFault l hl dC dI g k tl u hH) rfl rfl ww_H_118 yn_H_checkNoFault (cw_house g k u) rfl rfl d_H_ways_8 (Nat.le_of_ble_eq_true rfl) (by decide) (by decide) (by decide) rfl (fun cn h => ⟨by rw [pcAsk, if_pos hc4]; exact h, congrArg (cw g k) (by rw [pAskW, if_pos hc4, if_neg (by rw [h]; exact Option.some_ne_none _)])⟩) (fun hc8 => ?_)
  refine j_aload_n hC d_H_ways_11 rfl 0 rfl ?_
  refine j_callVr (As := []) (rest := []) (st1 := []) hC (k_settle l dC dI g k tl (pJudge u) (pJudge_wf hH) (hT hc8)) rfl rfl ww_H_121 yn_H_settle (cw_house g k (pJudge u)) rfl rfl d_H_ways_12 (Nat.le_of_ble_eq_true rfl) (by decide) (by decide) rfl ?_
  refine j_aload_n hC d_H_ways_15 rfl 0 rfl ?_
  refine j_aload_n hC d_H_ways_16 rfl 0 rfl ?_
  refine j_get hC hin_H (0) (cw_house g k (pJS u)) rfl 5 (by decide) (hC.2.2.2.2.1 _ wf_H_24) (fun _ h9 => h9) rfl d_H_ways_17 ?_
  refine j_iload_n hC d_H_ways_20 rfl 1 rfl ?_
  refine j_ialdN hC (4) 0 (cw_layers g k (pJS u)) rfl (n := tn r) ((rel_in hH (fact_rel hc4)).1) ((rel_in hH (fact_rel hc4)).2) (by decide) d_H_ways_21 ?_
  refine j_ldc (v := 2147483647) hC (hC.2.2.2.2.1 _ wc_H_128) d_H_ways_22 ?_
  refine j_callVr (As := [.int ((pJS u) 3 (tn r)), .int 2147483647]) (rest := []) (st1 := []) hC (k_look l dC dI g k tl (pJS u) (pJS_wf hH) (pJS u 3 (tn r)) 2147483647) rfl rfl ww_H_129 yn_H_look (cw_house g k (pJS u)) rfl rfl d_H_ways_24 (Nat.le_of_ble_eq_true rfl) (by decide) (by decide) rfl ?_
  refine j_iconst (v := 0) hC d_H_ways_27 (by decide) ?_
  refine j_istore (lv' := [(0, .ref (g 0)), (1, .int r), (2, .int a), (3, .int b), (4, .int 0)]) hC d_H_ways_28 (by decide) rfl rfl ?_
  refine j_iconst (v := 0) hC d_H_ways_30 (by decide) ?_
  refine j_istore (lv' := [(0, .ref (g 0)), (1, .int r), (2, .int a), (3, .int b), (4, .int 0), (5, .int 0)]) hC d_H_ways_31 (by decide) rfl rfl ?_
  exact loop hc4 hc8 18 0 0 _ (by omega) (by omega) ⟨kp.rf _ _, hLk.1.2.2⟩ rfl

set_option maxHeartbeats 4000000 in
set_option maxRecDepth 100000 in
theorem k_proof (l : Launch) (hl : l.stackTraces = false) (dC : Nat → ClassId) (dI : Nat → Nat → Nat) (g k : Nat → Nat) (tl : List (ClassId × FieldType)) (u : jU) (hH : wfH u) (hT : pcFault u = none → wfT (pJudge u)) (r a b t : Int32) : jMet l y_H_proof (.code y_H_proof c_H_proof 9 (some .int)) ({ frames := 11, cells := 4, slots := 24, locals := 453 }) (dC, dI) jcl (ctys k tl) jTs [.ref (g 0), .int r, .int a, .int b, .int t] (cw g k u) 4 24 (jE ((pPf u r a b t).1) (some (.int ((pPf u r a b t).2.1))) (cw g k ((pPf u r a b t).2.2))) := by
  refine jMet.of (by decide) (Nat.le_of_ble_eq_true rfl) ?_
  intro p e s m below meth c A hC hex hr hnm htr0
  have htr : e.platform.stackTraces = false := htr0.trans hl
  show jJ p l e ({ frames := 11, cells := 4, slots := 24, locals := 453 }) s m [.ref (g 0), .int r, .int a, .int b, .int t].toArray below meth c 9 (dC, dI) jcl A (hxQ below (jQ (dC, dI) jcl (jE ((pPf u r a b t).1) (some (.int ((pPf u r a b t).2.1))) (cw g k ((pPf u r a b t).2.2))) A) [.ref (g 0), .int r, .int a, .int b, .int t].toArray s 4 24 A) 0 0 (cw g k u) [(0, .ref (g 0)), (1, .int r), (2, .int a), (3, .int b), (4, .int t)] [] 0
  have hLk : wfH (pLook (pJS u 3 (tn r)) (pJS u 4 (pFx u r a b)) (pJS u)) := (pLook_ok (u := pJS u) _ _ ⟨kp.rf _ _, (pJS_wf hH).1.2.2⟩).wfH (pJS_wf hH)
  have hL0 : (pLook (pJS u 3 (tn r)) (pJS u 4 (pFx u r a b)) (pJS u)) 0 1 = u 0 1 := (by rw [pLook_kp _ _ _ 0 (by decide)]; exact pJS_01 hH)
  refine j_aload_n hC d_H_proof_0 rfl 0 rfl ?_
  refine j_iload_n hC d_H_proof_1 rfl 1 rfl ?_
  refine j_iload_n hC d_H_proof_2 rfl 2 rfl ?_
  refine j_iload_n hC d_H_proof_3 rfl 3 rfl ?_
  refine j_callVx (As := [.int r, .int a, .int b]) (rest := []) (st1 := []) hC hex (k_checkFact l hl dC dI g k tl u hH r a b) rfl rfl ww_H_72 yn_H_checkFact (cw_house g k u) rfl rfl d_H_proof_4 (Nat.le_of_ble_eq_true rfl) (by decide) (by decide) (by decide) rfl (fun cn h => ⟨by rw [pPf, if_neg (by rw [h]; exact Option.some_ne_none _), pcFact_some h], congrArg (cw g k) (by rw [pPf, if_neg (by rw [h]; exact Option.some_ne_none _)])⟩) (fun hc4 => ?_)
  refine j_iload hC d_H_proof_7 4 rfl ?_
  refine j_if_lt (tgt := 18) hC d_H_proof_9 (by decide) (fun h9 => ?_) (fun h9 => ?_)
  · exact j_throwE (tx := _) (names := up2) hC hex htr (by decide +kernel) (by decide +kernel) (by decide +kernel) (by decide +kernel) d_H_proof_18 d_H_proof_21 d_H_proof_22 d_H_proof_24 d_H_proof_27 (by decide +kernel) up2_fit wt_60_141 wo_64 (by decide) (Nat.le_of_ble_eq_true rfl) (by decide) (by decide) (by rw [pPf, if_pos hc4, if_pos h9] <;> rfl) (congrArg (cw g k) (by rw [pPf, if_pos hc4, if_pos h9]))
  · refine j_iload hC d_H_proof_12 4 rfl ?_
    refine j_iconst (v := 4) hC d_H_proof_14 (by decide) ?_
    refine j_icmp_le (tgt := 28) hC d_H_proof_15 (by decide) (fun h15 => ?_) (fun h15 => ?_)
    · refine j_aload_n hC d_H_proof_28 rfl 0 rfl ?_
      have ht5 : inN t 5 := what_in h9 h15
      refine j_callVx (As := []) (rest := []) (st1 := []) hC hex (k_checkFault l hl dC dI g k tl u hH) rfl rfl ww_H_118 yn_H_checkNoFault (cw_house g k u) rfl rfl d_H_proof_29 (Nat.le_of_ble_eq_true rfl) (by decide) (by decide) (by decide) rfl (fun cn h => ⟨by rw [pPf, if_pos hc4, if_neg h9, if_pos h15, if_neg (by rw [h]; exact Option.some_ne_none _), pcFault_some h], congrArg (cw g k) (by rw [pPf, if_pos hc4, if_neg h9, if_pos h15, if_neg (by rw [h]; exact Option.some_ne_none _)])⟩) (fun hc29 => ?_)
      refine j_aload_n hC d_H_proof_32 rfl 0 rfl ?_
      refine j_callVr (As := []) (rest := []) (st1 := []) hC (k_settle l dC dI g k tl (pJudge u) (pJudge_wf hH) (hT hc29)) rfl rfl ww_H_121 yn_H_settle (cw_house g k (pJudge u)) rfl rfl d_H_proof_33 (Nat.le_of_ble_eq_true rfl) (by decide) (by decide) rfl ?_
      refine j_aload_n hC d_H_proof_36 rfl 0 rfl ?_
      refine j_iload_n hC d_H_proof_37 rfl 1 rfl ?_
      refine j_iload_n hC d_H_proof_38 rfl 2 rfl ?_
      refine j_callVr (As := [.int r, .int a]) (rest := []) (st1 := [.int (pFst (pJS u) r a)]) hC (k_first l dC dI g k tl (pJS u) r a (rel_in hH (fact_rel hc4))) rfl rfl ww_H_85 yn_H_firstOf (cw_house g k (pJS u)) rfl rfl d_H_proof_39 (Nat.le_of_ble_eq_true rfl) (by decide) (by decide) rfl ?_
      rw [pFst_eq (pJS_1 hH) r a]
      refine j_istore (lv' := [(0, .ref (g 0)), (1, .int r), (2, .int a), (3, .int b), (4, .int t), (5, .int (pFst u r a))]) hC d_H_proof_42 (by decide) rfl rfl ?_
      refine j_aload_n hC d_H_proof_44 rfl 0 rfl ?_
      refine j_iload_n hC d_H_proof_45 rfl 1 rfl ?_
      refine j_iload_n hC d_H_proof_46 rfl 3 rfl ?_
      refine j_callVr (As := [.int r, .int b]) (rest := []) (st1 := [.int (pSnd (pJS u) r b)]) hC (k_second l dC dI g k tl (pJS u) r b (rel_in hH (fact_rel hc4))) rfl rfl ww_H_89 yn_H_secondOf (cw_house g k (pJS u)) rfl rfl d_H_proof_47 (Nat.le_of_ble_eq_true rfl) (by decide) (by decide) rfl ?_
      rw [pSnd_eq (pJS_1 hH) r b]
      refine j_istore (lv' := [(0, .ref (g 0)), (1, .int r), (2, .int a), (3, .int b), (4, .int t), (5, .int (pFst u r a)), (6, .int (pSnd u r b))]) hC d_H_proof_50 (by decide) rfl rfl ?_
      refine j_aload_n hC d_H_proof_52 rfl 0 rfl ?_
      refine j_get hC hin_H (0) (cw_house g k (pJS u)) rfl 6 (by decide) (hC.2.2.2.2.1 _ wf_H_27) (fun _ h9 => h9) rfl d_H_proof_53 ?_
      refine j_iload_n hC d_H_proof_56 rfl 1 rfl ?_
      refine j_iload hC d_H_proof_57 5 rfl ?_
      refine j_iload hC d_H_proof_59 6 rfl ?_
      refine j_callSr (As := [.int r, .int (pFst u r a), .int (pSnd u r b)]) (rest := [.ref (g 5)]) (st1 := [.int ((r * 12 + pFst u r a) * 12 + pSnd u r b), .ref (g 5)]) hC (k_factAt l dC dI g k tl (pJS u) r (pFst u r a) (pSnd u r b)) rfl rfl ww_H_124 yn_H_factAt rfl d_H_proof_61 (Nat.le_of_ble_eq_true rfl) (by decide) (by decide) rfl ?_
      refine j_ialdN hC (5) 0 (cw_ranks g k (pJS u)) rfl (n := pFx u r a b) (in_fact2 (rel_in hH (fact_rel hc4)) (fact_fst hc4) (fact_snd hc4)) (fact2_lt (rel_in hH (fact_rel hc4)) (fact_fst hc4) (fact_snd hc4)) (by decide) d_H_proof_64 ?_
      refine j_istore (lv' := [(0, .ref (g 0)), (1, .int r), (2, .int a), (3, .int b), (4, .int t), (5, .int (pFst u r a)), (6, .int (pSnd u r b)), (7, .int ((pJS u) 4 (pFx u r a b)))]) hC d_H_proof_65 (by decide) rfl rfl ?_
      refine j_iload hC d_H_proof_67 7 rfl ?_
      refine j_iconst (v := -1) hC d_H_proof_69 (by decide) ?_
      refine j_icmp_eq (tgt := 78) hC d_H_proof_70 (by decide) (fun h70 => ?_) (fun h70 => ?_)
      · exact j_throwE (tx := _) (names := up2) hC hex htr (by decide +kernel) (by decide +kernel) (by decide +kernel) (by decide +kernel) d_H_proof_78 d_H_proof_81 d_H_proof_82 d_H_proof_84 d_H_proof_87 (by decide +kernel) up2_fit wt_143_145 wo_147 (by decide) (Nat.le_of_ble_eq_true rfl) (by decide) (by decide) (by rw [pPf, if_pos hc4, if_neg h9, if_pos h15, if_pos hc29, if_pos h70] <;> rfl) (congrArg (cw g k) (by rw [pPf, if_pos hc4, if_neg h9, if_pos h15, if_pos hc29, if_pos h70]))
      · refine j_iload hC d_H_proof_73 7 rfl ?_
        refine j_if_ne (tgt := 88) hC d_H_proof_75 (by decide) (fun h75 => ?_) (fun h75 => ?_)
        · refine j_aload_n hC d_H_proof_88 rfl 0 rfl ?_
          refine j_aload_n hC d_H_proof_89 rfl 0 rfl ?_
          refine j_get hC hin_H (0) (cw_house g k (pJS u)) rfl 5 (by decide) (hC.2.2.2.2.1 _ wf_H_24) (fun _ h9 => h9) rfl d_H_proof_90 ?_
          refine j_iload_n hC d_H_proof_93 rfl 1 rfl ?_
          refine j_ialdN hC (4) 0 (cw_layers g k (pJS u)) rfl (n := tn r) ((rel_in hH (fact_rel hc4)).1) ((rel_in hH (fact_rel hc4)).2) (by decide) d_H_proof_94 ?_
          refine j_iload hC d_H_proof_95 7 rfl ?_
          refine j_callVr (As := [.int ((pJS u) 3 (tn r)), .int ((pJS u) 4 (pFx u r a b))]) (rest := []) (st1 := []) hC (k_look l dC dI g k tl (pJS u) (pJS_wf hH) (pJS u 3 (tn r)) (pJS u 4 (pFx u r a b))) rfl rfl ww_H_129 yn_H_look (cw_house g k (pJS u)) rfl rfl d_H_proof_97 (Nat.le_of_ble_eq_true rfl) (by decide) (by decide) rfl ?_
          refine j_aload_n hC d_H_proof_100 rfl 0 rfl ?_
          refine j_iload_n hC d_H_proof_101 rfl 1 rfl ?_
          refine j_iload hC d_H_proof_102 5 rfl ?_
          refine j_iload hC d_H_proof_104 6 rfl ?_
          refine j_callVr (As := [.int r, .int (pFst u r a), .int (pSnd u r b)]) (rest := []) (st1 := [.int ((pLR r (pFst u r a) (pSnd u r b) (tn ((pLook (pJS u 3 (tn r)) (pJS u 4 (pFx u r a b)) (pJS u)) 0 1)) 0 (pLook (pJS u 3 (tn r)) (pJS u 4 (pFx u r a b)) (pJS u))).1)]) hC (k_leastRule l dC dI g k tl (pLook (pJS u 3 (tn r)) (pJS u 4 (pFx u r a b)) (pJS u)) hLk r (pFst u r a) (pSnd u r b) (fact_fst hc4) (fact_snd hc4)) rfl rfl ww_H_148 yn_H_leastRule (cw_house g k (pLook (pJS u 3 (tn r)) (pJS u 4 (pFx u r a b)) (pJS u))) rfl rfl d_H_proof_106 (Nat.le_of_ble_eq_true rfl) (by decide) (by decide) rfl ?_
          rw [hL0]
          refine j_istore (lv' := [(0, .ref (g 0)), (1, .int r), (2, .int a), (3, .int b), (4, .int t), (5, .int (pFst u r a)), (6, .int (pSnd u r b)), (7, .int ((pJS u) 4 (pFx u r a b))), (8, .int ((pPr u r a b).1))]) hC d_H_proof_109 (by decide) rfl rfl ?_
          refine j_iload hC d_H_proof_111 4 rfl ?_
          refine j_if_ne (tgt := 121) hC d_H_proof_113 (by decide) (fun h113 => ?_) (fun h113 => ?_)
          · refine j_aload_n hC d_H_proof_121 rfl 0 rfl ?_
            refine j_get hC hin_H (0) (cw_house g k ((pPr u r a b).2)) rfl 8 (by decide) (hC.2.2.2.2.1 _ wf_H_36) (fun _ h9 => h9) rfl d_H_proof_122 ?_
            refine j_getN hC hin_M (7) (cw_match g k ((pPr u r a b).2)) rfl 1 (by decide) (hC.2.2.2.2.1 _ wf_H_151) (fun _ h9 => h9) rfl d_H_proof_125 ?_
            refine j_bipush (v := 20) hC d_H_proof_128 (by decide) ?_
            refine j_iload hC d_H_proof_130 4 rfl ?_
            refine j_iadd hC d_H_proof_132 ?_
            refine j_iconst (v := 1) hC d_H_proof_133 (by decide) ?_
            refine j_isub hC d_H_proof_134 ?_
            refine j_ialdN hC (9) 0 (cw_values g k ((pPr u r a b).2)) rfl (n := 19 + tn t) (what_ix ht5 h113) (what_lt ht5) (by decide) d_H_proof_135 ?_
            refine j_widen (cells' := 4) (slots' := 24) (by decide) (by decide) ?_
            exact j_iret hC hr ⟨(by rw [pPf, if_pos hc4, if_neg h9, if_pos h15, if_pos hc29, if_neg h70, if_neg h75, if_neg h113]), (fun _ => by rw [pPf, if_pos hc4, if_neg h9, if_pos h15, if_pos hc29, if_neg h70, if_neg h75, if_neg h113] <;> rfl), congrArg (cw g k) (by rw [pPf, if_pos hc4, if_neg h9, if_pos h15, if_pos hc29, if_neg h70, if_neg h75, if_neg h113] <;> rfl)⟩ d_H_proof_136
          · refine j_iload hC d_H_proof_116 8 rfl ?_
            refine j_goto (tgt := 136) hC d_H_proof_118 (by decide) ?_
            refine j_widen (cells' := 4) (slots' := 24) (by decide) (by decide) ?_
            exact j_iret hC hr ⟨(by rw [pPf, if_pos hc4, if_neg h9, if_pos h15, if_pos hc29, if_neg h70, if_neg h75, if_pos h113]), (fun _ => by rw [pPf, if_pos hc4, if_neg h9, if_pos h15, if_pos hc29, if_neg h70, if_neg h75, if_pos h113] <;> rfl), congrArg (cw g k) (by rw [pPf, if_pos hc4, if_neg h9, if_pos h15, if_pos hc29, if_neg h70, if_neg h75, if_pos h113] <;> rfl)⟩ d_H_proof_136
        · exact j_throwE (tx := _) (names := up2) hC hex htr (by decide +kernel) (by decide +kernel) (by decide +kernel) (by decide +kernel) d_H_proof_78 d_H_proof_81 d_H_proof_82 d_H_proof_84 d_H_proof_87 (by decide +kernel) up2_fit wt_143_145 wo_147 (by decide) (Nat.le_of_ble_eq_true rfl) (by decide) (by decide) (by rw [pPf, if_pos hc4, if_neg h9, if_pos h15, if_pos hc29, if_neg h70, if_pos h75] <;> rfl) (congrArg (cw g k) (by rw [pPf, if_pos hc4, if_neg h9, if_pos h15, if_pos hc29, if_neg h70, if_pos h75]))
    · exact j_throwE (tx := _) (names := up2) hC hex htr (by decide +kernel) (by decide +kernel) (by decide +kernel) (by decide +kernel) d_H_proof_18 d_H_proof_21 d_H_proof_22 d_H_proof_24 d_H_proof_27 (by decide +kernel) up2_fit wt_60_141 wo_64 (by decide) (Nat.le_of_ble_eq_true rfl) (by decide) (by decide) (by rw [pPf, if_pos hc4, if_neg h9, if_neg h15] <;> rfl) (congrArg (cw g k) (by rw [pPf, if_pos hc4, if_neg h9, if_neg h15]))
end
