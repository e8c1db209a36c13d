def up2 : List String := ["java/lang/RuntimeException", "java/lang/Exception"]
abbrev rxN : ByteArray := prog_18_method_4_code
theorem wt_60_62 : ∀ w ∈ [Cond.classLink "StrataHouse" 60 xIA, .initialized xIA, .instantiable xIA 6, .stringRef "StrataHouse" 62 "a relation has 0, 1 or 2 places"], w ∈ jTs := List.forall_mem_cons.mpr ⟨jin (jt1 (List.mem_of_getElem? (i := 219) rfl)) rfl, List.forall_mem_cons.mpr ⟨jin (jt1 (List.mem_of_getElem? (i := 11) rfl)) rfl, List.forall_mem_cons.mpr ⟨jin (jt1 (List.mem_of_getElem? (i := 220) rfl)) rfl, List.forall_mem_cons.mpr ⟨jin (jt2 (List.mem_of_getElem? (i := 21) rfl)) rfl, fun _ h => absurd h List.not_mem_nil⟩⟩⟩⟩
set_option maxRecDepth 100000 in
theorem wo_64 : ∀ w ∈ Bundle.ownAtomsX "StrataHouse" 64 xIA 7 Bundle.six up2, w ∈ jTs ∨ w = jA1 ∨ w = jA2 ∨ w = jA3 ∨ w = jA4 := by
  have h1 : ∀ w ∈ Bundle.ownAtomsX "StrataHouse" 64 xIA 7 Bundle.six up2, w ∈ lw_tbl ∨ w = jA1 ∨ w = jA2 ∨ w = jA3 ∨ w = jA4 := by decide +kernel
  have h2 : ∀ w ∈ Bundle.ownAtomsX "StrataHouse" 64 xIA 7 Bundle.six up2, jkk w = true ∨ w = jA1 ∨ w = jA2 ∨ w = jA3 ∨ w = jA4 := by decide +kernel
  intro w hw
  rcases h1 w hw with h | h
  · rcases h2 w hw with g | g
    · exact Or.inl (jin h g)
    · exact Or.inr g
  · exact Or.inr h
theorem wt_67_69 : ∀ w ∈ [Cond.classLink "StrataHouse" 67 xUO, .initialized xUO, .instantiable xUO 6, .stringRef "StrataHouse" 69 "there are eight relations"], w ∈ jTs := List.forall_mem_cons.mpr ⟨jin (jt2 (List.mem_of_getElem? (i := 48) rfl)) rfl, List.forall_mem_cons.mpr ⟨jin (jt1 (List.mem_of_getElem? (i := 12) rfl)) rfl, List.forall_mem_cons.mpr ⟨jin (jt2 (List.mem_of_getElem? (i := 49) rfl)) rfl, List.forall_mem_cons.mpr ⟨jin (jt2 (List.mem_of_getElem? (i := 57) rfl)) rfl, fun _ h => absurd h List.not_mem_nil⟩⟩⟩⟩
set_option maxRecDepth 100000 in
theorem wo_71 : ∀ w ∈ Bundle.ownAtomsX "StrataHouse" 71 xUO 7 Bundle.six up2, w ∈ jTs ∨ w = jA1 ∨ w = jA2 ∨ w = jA3 ∨ w = jA4 := by
  have h1 : ∀ w ∈ Bundle.ownAtomsX "StrataHouse" 71 xUO 7 Bundle.six up2, w ∈ lw_tbl ∨ w = jA1 ∨ w = jA2 ∨ w = jA3 ∨ w = jA4 := by decide +kernel
  have h2 : ∀ w ∈ Bundle.ownAtomsX "StrataHouse" 71 xUO 7 Bundle.six up2, jkk w = true ∨ w = jA1 ∨ w = jA2 ∨ w = jA3 ∨ w = jA4 := by decide +kernel
  intro w hw
  rcases h1 w hw with h | h
  · rcases h2 w hw with g | g
    · exact Or.inl (jin h g)
    · exact Or.inr g
  · exact Or.inr h
theorem wt_67_83 : ∀ w ∈ [Cond.classLink "StrataHouse" 67 xUO, .initialized xUO, .instantiable xUO 6, .stringRef "StrataHouse" 83 "there are sixteen rules"], w ∈ jTs := List.forall_mem_cons.mpr ⟨jin (jt2 (List.mem_of_getElem? (i := 48) rfl)) rfl, List.forall_mem_cons.mpr ⟨jin (jt1 (List.mem_of_getElem? (i := 12) rfl)) rfl, List.forall_mem_cons.mpr ⟨jin (jt2 (List.mem_of_getElem? (i := 49) rfl)) rfl, List.forall_mem_cons.mpr ⟨jin (jt2 (List.mem_of_getElem? (i := 124) rfl)) rfl, fun _ h => absurd h List.not_mem_nil⟩⟩⟩⟩
theorem wt_67_102 : ∀ w ∈ [Cond.classLink "StrataHouse" 67 xUO, .initialized xUO, .instantiable xUO 6, .stringRef "StrataHouse" 102 "the latest rule has four literals"], w ∈ jTs := List.forall_mem_cons.mpr ⟨jin (jt2 (List.mem_of_getElem? (i := 48) rfl)) rfl, List.forall_mem_cons.mpr ⟨jin (jt1 (List.mem_of_getElem? (i := 12) rfl)) rfl, List.forall_mem_cons.mpr ⟨jin (jt2 (List.mem_of_getElem? (i := 49) rfl)) rfl, List.forall_mem_cons.mpr ⟨jin (jt2 (List.mem_of_getElem? (i := 170) rfl)) rfl, fun _ h => absurd h List.not_mem_nil⟩⟩⟩⟩
theorem wt_60_141 : ∀ w ∈ [Cond.classLink "StrataHouse" 60 xIA, .initialized xIA, .instantiable xIA 6, .stringRef "StrataHouse" 141 "a proof tells 0 .. 4"], w ∈ jTs := List.forall_mem_cons.mpr ⟨jin (jt1 (List.mem_of_getElem? (i := 219) rfl)) rfl, List.forall_mem_cons.mpr ⟨jin (jt1 (List.mem_of_getElem? (i := 11) rfl)) rfl, List.forall_mem_cons.mpr ⟨jin (jt1 (List.mem_of_getElem? (i := 220) rfl)) rfl, List.forall_mem_cons.mpr ⟨jin (jt3 (List.mem_of_getElem? (i := 83) rfl)) rfl, fun _ h => absurd h List.not_mem_nil⟩⟩⟩⟩
theorem wt_143_145 : ∀ w ∈ [Cond.classLink "StrataHouse" 143 xNS, .initialized xNS, .instantiable xNS 6, .stringRef "StrataHouse" 145 "the fact doesn't hold, or is given"], w ∈ jTs := List.forall_mem_cons.mpr ⟨jin (jt3 (List.mem_of_getElem? (i := 84) rfl)) rfl, List.forall_mem_cons.mpr ⟨jin (jt1 (List.mem_of_getElem? (i := 16) rfl)) rfl, List.forall_mem_cons.mpr ⟨jin (jt3 (List.mem_of_getElem? (i := 85) rfl)) rfl, List.forall_mem_cons.mpr ⟨jin (jt3 (List.mem_of_getElem? (i := 93) rfl)) rfl, fun _ h => absurd h List.not_mem_nil⟩⟩⟩⟩
set_option maxRecDepth 100000 in
theorem wo_147 : ∀ w ∈ Bundle.ownAtomsX "StrataHouse" 147 xNS 13 rxN up2, w ∈ jTs ∨ w = jA1 ∨ w = jA2 ∨ w = jA3 ∨ w = jA4 := by
  have h1 : ∀ w ∈ Bundle.ownAtomsX "StrataHouse" 147 xNS 13 rxN up2, w ∈ lw_tbl ∨ w = jA1 ∨ w = jA2 ∨ w = jA3 ∨ w = jA4 := by decide +kernel
  have h2 : ∀ w ∈ Bundle.ownAtomsX "StrataHouse" 147 xNS 13 rxN up2, jkk w = true ∨ w = jA1 ∨ w = jA2 ∨ w = jA3 ∨ w = jA4 := by decide +kernel
  intro w hw
  rcases h1 w hw with h | h
  · rcases h2 w hw with g | g
    · exact Or.inl (jin h g)
    · exact Or.inr g
  · exact Or.inr h
theorem wt_60_154 : ∀ w ∈ [Cond.classLink "StrataHouse" 60 xIA, .initialized xIA, .instantiable xIA 6, .stringRef "StrataHouse" 154 "there is no such relation"], w ∈ jTs := List.forall_mem_cons.mpr ⟨jin (jt1 (List.mem_of_getElem? (i := 219) rfl)) rfl, List.forall_mem_cons.mpr ⟨jin (jt1 (List.mem_of_getElem? (i := 11) rfl)) rfl, List.forall_mem_cons.mpr ⟨jin (jt1 (List.mem_of_getElem? (i := 220) rfl)) rfl, List.forall_mem_cons.mpr ⟨jin (jt2 (List.mem_of_getElem? (i := 79) rfl)) rfl, fun _ h => absurd h List.not_mem_nil⟩⟩⟩⟩
theorem wt_60_160 : ∀ w ∈ [Cond.classLink "StrataHouse" 60 xIA, .initialized xIA, .instantiable xIA 6, .stringRef "StrataHouse" 160 "a place's number is no constant"], w ∈ jTs := List.forall_mem_cons.mpr ⟨jin (jt1 (List.mem_of_getElem? (i := 219) rfl)) rfl, List.forall_mem_cons.mpr ⟨jin (jt1 (List.mem_of_getElem? (i := 11) rfl)) rfl, List.forall_mem_cons.mpr ⟨jin (jt1 (List.mem_of_getElem? (i := 220) rfl)) rfl, List.forall_mem_cons.mpr ⟨jin (jt2 (List.mem_of_getElem? (i := 91) rfl)) rfl, fun _ h => absurd h List.not_mem_nil⟩⟩⟩⟩
theorem wt_60_165 : ∀ w ∈ [Cond.classLink "StrataHouse" 60 xIA, .initialized xIA, .instantiable xIA 6, .stringRef "StrataHouse" 165 "a place's number is no term"], w ∈ jTs := List.forall_mem_cons.mpr ⟨jin (jt1 (List.mem_of_getElem? (i := 219) rfl)) rfl, List.forall_mem_cons.mpr ⟨jin (jt1 (List.mem_of_getElem? (i := 11) rfl)) rfl, List.forall_mem_cons.mpr ⟨jin (jt1 (List.mem_of_getElem? (i := 220) rfl)) rfl, List.forall_mem_cons.mpr ⟨jin (jt2 (List.mem_of_getElem? (i := 123) rfl)) rfl, fun _ h => absurd h List.not_mem_nil⟩⟩⟩⟩
theorem wt_167_169 : ∀ w ∈ [Cond.classLink "StrataHouse" 167 xIS, .initialized xIS, .instantiable xIS 6, .stringRef "StrataHouse" 169 "there is no rule"], w ∈ jTs := List.forall_mem_cons.mpr ⟨jin (jt2 (List.mem_of_getElem? (i := 150) rfl)) rfl, List.forall_mem_cons.mpr ⟨jin (jt1 (List.mem_of_getElem? (i := 13) rfl)) rfl, List.forall_mem_cons.mpr ⟨jin (jt2 (List.mem_of_getElem? (i := 151) rfl)) rfl, List.forall_mem_cons.mpr ⟨jin (jt2 (List.mem_of_getElem? (i := 159) rfl)) rfl, fun _ h => absurd h List.not_mem_nil⟩⟩⟩⟩
set_option maxRecDepth 100000 in
theorem wo_171 : ∀ w ∈ Bundle.ownAtomsX "StrataHouse" 171 xIS 7 Bundle.six up2, w ∈ jTs ∨ w = jA1 ∨ w = jA2 ∨ w = jA3 ∨ w = jA4 := by
  have h1 : ∀ w ∈ Bundle.ownAtomsX "StrataHouse" 171 xIS 7 Bundle.six up2, w ∈ lw_tbl ∨ w = jA1 ∨ w = jA2 ∨ w = jA3 ∨ w = jA4 := by decide +kernel
  have h2 : ∀ w ∈ Bundle.ownAtomsX "StrataHouse" 171 xIS 7 Bundle.six up2, jkk w = true ∨ w = jA1 ∨ w = jA2 ∨ w = jA3 ∨ w = jA4 := by decide +kernel
  intro w hw
  rcases h1 w hw with h | h
  · rcases h2 w hw with g | g
    · exact Or.inl (jin h g)
    · exact Or.inr g
  · exact Or.inr h
theorem wt_167_172 : ∀ w ∈ [Cond.classLink "StrataHouse" 167 xIS, .initialized xIS, .instantiable xIS 6, .stringRef "StrataHouse" 172 "the rules have a fault"], w ∈ jTs := List.forall_mem_cons.mpr ⟨jin (jt2 (List.mem_of_getElem? (i := 150) rfl)) rfl, List.forall_mem_cons.mpr ⟨jin (jt1 (List.mem_of_getElem? (i := 13) rfl)) rfl, List.forall_mem_cons.mpr ⟨jin (jt2 (List.mem_of_getElem? (i := 151) rfl)) rfl, List.forall_mem_cons.mpr ⟨jin (jt2 (List.mem_of_getElem? (i := 194) rfl)) rfl, fun _ h => absurd h List.not_mem_nil⟩⟩⟩⟩
theorem up2_fit : ∀ n ∈ up2, Bundle.fit n = true := by decide +kernel