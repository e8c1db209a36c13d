theorem d_L_relation_0 : decode c_L_relation 0 = .ok (.aload_n 2, 1) := by decide +kernel
theorem d_L_relation_1 : decode c_L_relation 1 = .ok (.iconst 0, 1) := by decide +kernel
theorem d_L_relation_2 : decode c_L_relation 2 = .ok (.aload_n 0, 1) := by decide +kernel
theorem d_L_relation_3 : decode c_L_relation 3 = .ok (.iload_n 1, 1) := by decide +kernel
theorem d_L_relation_4 : decode c_L_relation 4 = .ok (.invokevirtual 7, 3) := by decide +kernel
theorem d_L_relation_7 : decode c_L_relation 7 = .ok (.i2l, 1) := by decide +kernel
theorem d_L_relation_8 : decode c_L_relation 8 = .ok (.lastore, 1) := by decide +kernel
theorem d_L_relation_9 : decode c_L_relation 9 = .ok (.goto 9, 3) := by decide +kernel
theorem d_L_relation_12 : decode c_L_relation 12 = .ok (.astore_n 3, 1) := by decide +kernel
theorem d_L_relation_13 : decode c_L_relation 13 = .ok (.iconst 1, 1) := by decide +kernel
theorem d_L_relation_14 : decode c_L_relation 14 = .ok (.ireturn, 1) := by decide +kernel
theorem d_L_relation_15 : decode c_L_relation 15 = .ok (.astore_n 3, 1) := by decide +kernel
theorem d_L_relation_16 : decode c_L_relation 16 = .ok (.iconst 2, 1) := by decide +kernel
theorem d_L_relation_17 : decode c_L_relation 17 = .ok (.ireturn, 1) := by decide +kernel
theorem d_L_relation_18 : decode c_L_relation 18 = .ok (.iconst 0, 1) := by decide +kernel
theorem d_L_relation_19 : decode c_L_relation 19 = .ok (.ireturn, 1) := by decide +kernel
theorem d_L_give_0 : decode c_L_give 0 = .ok (.aload 4, 2) := by decide +kernel
theorem d_L_give_2 : decode c_L_give 2 = .ok (.iconst 0, 1) := by decide +kernel
theorem d_L_give_3 : decode c_L_give 3 = .ok (.aload_n 0, 1) := by decide +kernel
theorem d_L_give_4 : decode c_L_give 4 = .ok (.iload_n 1, 1) := by decide +kernel
theorem d_L_give_5 : decode c_L_give 5 = .ok (.iload_n 2, 1) := by decide +kernel
theorem d_L_give_6 : decode c_L_give 6 = .ok (.iload_n 3, 1) := by decide +kernel
theorem d_L_give_7 : decode c_L_give 7 = .ok (.invokevirtual 17, 3) := by decide +kernel
theorem d_L_give_10 : decode c_L_give 10 = .ok (.ifCond .eq 7, 3) := by decide +kernel
theorem d_L_give_13 : decode c_L_give 13 = .ok (.lconst 1, 1) := by decide +kernel
theorem d_L_give_14 : decode c_L_give 14 = .ok (.goto 4, 3) := by decide +kernel
theorem d_L_give_17 : decode c_L_give 17 = .ok (.lconst 0, 1) := by decide +kernel
theorem d_L_give_18 : decode c_L_give 18 = .ok (.lastore, 1) := by decide +kernel
theorem d_L_give_19 : decode c_L_give 19 = .ok (.goto 7, 3) := by decide +kernel
theorem d_L_give_22 : decode c_L_give 22 = .ok (.astore 5, 2) := by decide +kernel
theorem d_L_give_24 : decode c_L_give 24 = .ok (.iconst 1, 1) := by decide +kernel
theorem d_L_give_25 : decode c_L_give 25 = .ok (.ireturn, 1) := by decide +kernel
theorem d_L_give_26 : decode c_L_give 26 = .ok (.iconst 0, 1) := by decide +kernel
theorem d_L_give_27 : decode c_L_give 27 = .ok (.ireturn, 1) := by decide +kernel
theorem d_L_take_0 : decode c_L_take 0 = .ok (.aload 4, 2) := by decide +kernel
theorem d_L_take_2 : decode c_L_take 2 = .ok (.iconst 0, 1) := by decide +kernel
theorem d_L_take_3 : decode c_L_take 3 = .ok (.aload_n 0, 1) := by decide +kernel
theorem d_L_take_4 : decode c_L_take 4 = .ok (.iload_n 1, 1) := by decide +kernel
theorem d_L_take_5 : decode c_L_take 5 = .ok (.iload_n 2, 1) := by decide +kernel
theorem d_L_take_6 : decode c_L_take 6 = .ok (.iload_n 3, 1) := by decide +kernel
theorem d_L_take_7 : decode c_L_take 7 = .ok (.invokevirtual 21, 3) := by decide +kernel
theorem d_L_take_10 : decode c_L_take 10 = .ok (.ifCond .eq 7, 3) := by decide +kernel
theorem d_L_take_13 : decode c_L_take 13 = .ok (.lconst 1, 1) := by decide +kernel
theorem d_L_take_14 : decode c_L_take 14 = .ok (.goto 4, 3) := by decide +kernel
theorem d_L_take_17 : decode c_L_take 17 = .ok (.lconst 0, 1) := by decide +kernel
theorem d_L_take_18 : decode c_L_take 18 = .ok (.lastore, 1) := by decide +kernel
theorem d_L_take_19 : decode c_L_take 19 = .ok (.goto 7, 3) := by decide +kernel
theorem d_L_take_22 : decode c_L_take 22 = .ok (.astore 5, 2) := by decide +kernel
theorem d_L_take_24 : decode c_L_take 24 = .ok (.iconst 1, 1) := by decide +kernel
theorem d_L_take_25 : decode c_L_take 25 = .ok (.ireturn, 1) := by decide +kernel
theorem d_L_take_26 : decode c_L_take 26 = .ok (.iconst 0, 1) := by decide +kernel
theorem d_L_take_27 : decode c_L_take 27 = .ok (.ireturn, 1) := by decide +kernel
theorem d_L_rule_0 : decode c_L_rule 0 = .ok (.aload 4, 2) := by decide +kernel
theorem d_L_rule_2 : decode c_L_rule 2 = .ok (.iconst 0, 1) := by decide +kernel
theorem d_L_rule_3 : decode c_L_rule 3 = .ok (.aload_n 0, 1) := by decide +kernel
theorem d_L_rule_4 : decode c_L_rule 4 = .ok (.iload_n 1, 1) := by decide +kernel
theorem d_L_rule_5 : decode c_L_rule 5 = .ok (.iload_n 2, 1) := by decide +kernel
theorem d_L_rule_6 : decode c_L_rule 6 = .ok (.iload_n 3, 1) := by decide +kernel
theorem d_L_rule_7 : decode c_L_rule 7 = .ok (.invokevirtual 24, 3) := by decide +kernel
theorem d_L_rule_10 : decode c_L_rule 10 = .ok (.i2l, 1) := by decide +kernel
theorem d_L_rule_11 : decode c_L_rule 11 = .ok (.lastore, 1) := by decide +kernel
theorem d_L_rule_12 : decode c_L_rule 12 = .ok (.goto 11, 3) := by decide +kernel
theorem d_L_rule_15 : decode c_L_rule 15 = .ok (.astore 5, 2) := by decide +kernel
theorem d_L_rule_17 : decode c_L_rule 17 = .ok (.iconst 1, 1) := by decide +kernel
theorem d_L_rule_18 : decode c_L_rule 18 = .ok (.ireturn, 1) := by decide +kernel
theorem d_L_rule_19 : decode c_L_rule 19 = .ok (.astore 5, 2) := by decide +kernel
theorem d_L_rule_21 : decode c_L_rule 21 = .ok (.iconst 2, 1) := by decide +kernel
theorem d_L_rule_22 : decode c_L_rule 22 = .ok (.ireturn, 1) := by decide +kernel
theorem d_L_rule_23 : decode c_L_rule 23 = .ok (.iconst 0, 1) := by decide +kernel
theorem d_L_rule_24 : decode c_L_rule 24 = .ok (.ireturn, 1) := by decide +kernel
theorem d_L_literal_0 : decode c_L_literal 0 = .ok (.aload 5, 2) := by decide +kernel
theorem d_L_literal_2 : decode c_L_literal 2 = .ok (.iconst 0, 1) := by decide +kernel
theorem d_L_literal_3 : decode c_L_literal 3 = .ok (.aload_n 0, 1) := by decide +kernel
theorem d_L_literal_4 : decode c_L_literal 4 = .ok (.iload_n 1, 1) := by decide +kernel
theorem d_L_literal_5 : decode c_L_literal 5 = .ok (.iload_n 2, 1) := by decide +kernel
theorem d_L_literal_6 : decode c_L_literal 6 = .ok (.iload_n 3, 1) := by decide +kernel
theorem d_L_literal_7 : decode c_L_literal 7 = .ok (.iload 4, 2) := by decide +kernel
theorem d_L_literal_9 : decode c_L_literal 9 = .ok (.invokevirtual 28, 3) := by decide +kernel
theorem d_L_literal_12 : decode c_L_literal 12 = .ok (.i2l, 1) := by decide +kernel
theorem d_L_literal_13 : decode c_L_literal 13 = .ok (.lastore, 1) := by decide +kernel
theorem d_L_literal_14 : decode c_L_literal 14 = .ok (.goto 15, 3) := by decide +kernel
theorem d_L_literal_17 : decode c_L_literal 17 = .ok (.astore 6, 2) := by decide +kernel
theorem d_L_literal_19 : decode c_L_literal 19 = .ok (.iconst 1, 1) := by decide +kernel
theorem d_L_literal_20 : decode c_L_literal 20 = .ok (.ireturn, 1) := by decide +kernel
theorem d_L_literal_21 : decode c_L_literal 21 = .ok (.astore 6, 2) := by decide +kernel
theorem d_L_literal_23 : decode c_L_literal 23 = .ok (.iconst 2, 1) := by decide +kernel
theorem d_L_literal_24 : decode c_L_literal 24 = .ok (.ireturn, 1) := by decide +kernel
theorem d_L_literal_25 : decode c_L_literal 25 = .ok (.astore 6, 2) := by decide +kernel
theorem d_L_literal_27 : decode c_L_literal 27 = .ok (.iconst 3, 1) := by decide +kernel
theorem d_L_literal_28 : decode c_L_literal 28 = .ok (.ireturn, 1) := by decide +kernel
theorem d_L_literal_29 : decode c_L_literal 29 = .ok (.iconst 0, 1) := by decide +kernel
theorem d_L_literal_30 : decode c_L_literal 30 = .ok (.ireturn, 1) := by decide +kernel
theorem d_L_unrule_0 : decode c_L_unrule 0 = .ok (.aload_n 0, 1) := by decide +kernel
theorem d_L_unrule_1 : decode c_L_unrule 1 = .ok (.invokevirtual 34, 3) := by decide +kernel
theorem d_L_unrule_4 : decode c_L_unrule 4 = .ok (.goto 6, 3) := by decide +kernel
theorem d_L_unrule_7 : decode c_L_unrule 7 = .ok (.astore_n 1, 1) := by decide +kernel
theorem d_L_unrule_8 : decode c_L_unrule 8 = .ok (.iconst 1, 1) := by decide +kernel
theorem d_L_unrule_9 : decode c_L_unrule 9 = .ok (.ireturn, 1) := by decide +kernel
theorem d_L_unrule_10 : decode c_L_unrule 10 = .ok (.iconst 0, 1) := by decide +kernel
theorem d_L_unrule_11 : decode c_L_unrule 11 = .ok (.ireturn, 1) := by decide +kernel
theorem d_L_layer_0 : decode c_L_layer 0 = .ok (.aload_n 2, 1) := by decide +kernel
theorem d_L_layer_1 : decode c_L_layer 1 = .ok (.iconst 0, 1) := by decide +kernel
theorem d_L_layer_2 : decode c_L_layer 2 = .ok (.aload_n 0, 1) := by decide +kernel
theorem d_L_layer_3 : decode c_L_layer 3 = .ok (.iload_n 1, 1) := by decide +kernel
theorem d_L_layer_4 : decode c_L_layer 4 = .ok (.invokevirtual 37, 3) := by decide +kernel
theorem d_L_layer_7 : decode c_L_layer 7 = .ok (.i2l, 1) := by decide +kernel
theorem d_L_layer_8 : decode c_L_layer 8 = .ok (.lastore, 1) := by decide +kernel
theorem d_L_layer_9 : decode c_L_layer 9 = .ok (.goto 9, 3) := by decide +kernel
theorem d_L_layer_12 : decode c_L_layer 12 = .ok (.astore_n 3, 1) := by decide +kernel
theorem d_L_layer_13 : decode c_L_layer 13 = .ok (.iconst 1, 1) := by decide +kernel
theorem d_L_layer_14 : decode c_L_layer 14 = .ok (.ireturn, 1) := by decide +kernel
theorem d_L_layer_15 : decode c_L_layer 15 = .ok (.astore_n 3, 1) := by decide +kernel
theorem d_L_layer_16 : decode c_L_layer 16 = .ok (.iconst 2, 1) := by decide +kernel
theorem d_L_layer_17 : decode c_L_layer 17 = .ok (.ireturn, 1) := by decide +kernel
theorem d_L_layer_18 : decode c_L_layer 18 = .ok (.iconst 0, 1) := by decide +kernel
theorem d_L_layer_19 : decode c_L_layer 19 = .ok (.ireturn, 1) := by decide +kernel
theorem d_L_count_0 : decode c_L_count 0 = .ok (.aload_n 2, 1) := by decide +kernel
theorem d_L_count_1 : decode c_L_count 1 = .ok (.iconst 0, 1) := by decide +kernel
theorem d_L_count_2 : decode c_L_count 2 = .ok (.aload_n 0, 1) := by decide +kernel
theorem d_L_count_3 : decode c_L_count 3 = .ok (.iload_n 1, 1) := by decide +kernel
theorem d_L_count_4 : decode c_L_count 4 = .ok (.invokevirtual 40, 3) := by decide +kernel
theorem d_L_count_7 : decode c_L_count 7 = .ok (.i2l, 1) := by decide +kernel
theorem d_L_count_8 : decode c_L_count 8 = .ok (.lastore, 1) := by decide +kernel
theorem d_L_count_9 : decode c_L_count 9 = .ok (.goto 9, 3) := by decide +kernel
theorem d_L_count_12 : decode c_L_count 12 = .ok (.astore_n 3, 1) := by decide +kernel
theorem d_L_count_13 : decode c_L_count 13 = .ok (.iconst 1, 1) := by decide +kernel
theorem d_L_count_14 : decode c_L_count 14 = .ok (.ireturn, 1) := by decide +kernel
theorem d_L_count_15 : decode c_L_count 15 = .ok (.astore_n 3, 1) := by decide +kernel
theorem d_L_count_16 : decode c_L_count 16 = .ok (.iconst 2, 1) := by decide +kernel
theorem d_L_count_17 : decode c_L_count 17 = .ok (.ireturn, 1) := by decide +kernel
theorem d_L_count_18 : decode c_L_count 18 = .ok (.iconst 0, 1) := by decide +kernel
theorem d_L_count_19 : decode c_L_count 19 = .ok (.ireturn, 1) := by decide +kernel
theorem d_L_rank_0 : decode c_L_rank 0 = .ok (.aload 4, 2) := by decide +kernel
theorem d_L_rank_2 : decode c_L_rank 2 = .ok (.iconst 0, 1) := by decide +kernel
theorem d_L_rank_3 : decode c_L_rank 3 = .ok (.aload_n 0, 1) := by decide +kernel
theorem d_L_rank_4 : decode c_L_rank 4 = .ok (.iload_n 1, 1) := by decide +kernel
theorem d_L_rank_5 : decode c_L_rank 5 = .ok (.iload_n 2, 1) := by decide +kernel
theorem d_L_rank_6 : decode c_L_rank 6 = .ok (.iload_n 3, 1) := by decide +kernel
theorem d_L_rank_7 : decode c_L_rank 7 = .ok (.invokevirtual 43, 3) := by decide +kernel
theorem d_L_rank_10 : decode c_L_rank 10 = .ok (.i2l, 1) := by decide +kernel
theorem d_L_rank_11 : decode c_L_rank 11 = .ok (.lastore, 1) := by decide +kernel
theorem d_L_rank_12 : decode c_L_rank 12 = .ok (.goto 11, 3) := by decide +kernel
theorem d_L_rank_15 : decode c_L_rank 15 = .ok (.astore 5, 2) := by decide +kernel
theorem d_L_rank_17 : decode c_L_rank 17 = .ok (.iconst 1, 1) := by decide +kernel
theorem d_L_rank_18 : decode c_L_rank 18 = .ok (.ireturn, 1) := by decide +kernel
theorem d_L_rank_19 : decode c_L_rank 19 = .ok (.astore 5, 2) := by decide +kernel
theorem d_L_rank_21 : decode c_L_rank 21 = .ok (.iconst 2, 1) := by decide +kernel
theorem d_L_rank_22 : decode c_L_rank 22 = .ok (.ireturn, 1) := by decide +kernel
theorem d_L_rank_23 : decode c_L_rank 23 = .ok (.iconst 0, 1) := by decide +kernel
theorem d_L_rank_24 : decode c_L_rank 24 = .ok (.ireturn, 1) := by decide +kernel
theorem d_L_ways_0 : decode c_L_ways 0 = .ok (.aload 4, 2) := by decide +kernel
theorem d_L_ways_2 : decode c_L_ways 2 = .ok (.iconst 0, 1) := by decide +kernel
theorem d_L_ways_3 : decode c_L_ways 3 = .ok (.aload_n 0, 1) := by decide +kernel
theorem d_L_ways_4 : decode c_L_ways 4 = .ok (.iload_n 1, 1) := by decide +kernel
theorem d_L_ways_5 : decode c_L_ways 5 = .ok (.iload_n 2, 1) := by decide +kernel
theorem d_L_ways_6 : decode c_L_ways 6 = .ok (.iload_n 3, 1) := by decide +kernel
theorem d_L_ways_7 : decode c_L_ways 7 = .ok (.invokevirtual 46, 3) := by decide +kernel
theorem d_L_ways_10 : decode c_L_ways 10 = .ok (.i2l, 1) := by decide +kernel
theorem d_L_ways_11 : decode c_L_ways 11 = .ok (.lastore, 1) := by decide +kernel
theorem d_L_ways_12 : decode c_L_ways 12 = .ok (.goto 11, 3) := by decide +kernel
theorem d_L_ways_15 : decode c_L_ways 15 = .ok (.astore 5, 2) := by decide +kernel
theorem d_L_ways_17 : decode c_L_ways 17 = .ok (.iconst 1, 1) := by decide +kernel
theorem d_L_ways_18 : decode c_L_ways 18 = .ok (.ireturn, 1) := by decide +kernel
theorem d_L_ways_19 : decode c_L_ways 19 = .ok (.astore 5, 2) := by decide +kernel
theorem d_L_ways_21 : decode c_L_ways 21 = .ok (.iconst 2, 1) := by decide +kernel
theorem d_L_ways_22 : decode c_L_ways 22 = .ok (.ireturn, 1) := by decide +kernel
theorem d_L_ways_23 : decode c_L_ways 23 = .ok (.iconst 0, 1) := by decide +kernel
theorem d_L_ways_24 : decode c_L_ways 24 = .ok (.ireturn, 1) := by decide +kernel
theorem d_L_proof_0 : decode c_L_proof 0 = .ok (.aload 5, 2) := by decide +kernel
theorem d_L_proof_2 : decode c_L_proof 2 = .ok (.iconst 0, 1) := by decide +kernel
theorem d_L_proof_3 : decode c_L_proof 3 = .ok (.aload_n 0, 1) := by decide +kernel
theorem d_L_proof_4 : decode c_L_proof 4 = .ok (.iload_n 1, 1) := by decide +kernel
theorem d_L_proof_5 : decode c_L_proof 5 = .ok (.iload_n 2, 1) := by decide +kernel
theorem d_L_proof_6 : decode c_L_proof 6 = .ok (.iload_n 3, 1) := by decide +kernel
theorem d_L_proof_7 : decode c_L_proof 7 = .ok (.iload 4, 2) := by decide +kernel
theorem d_L_proof_9 : decode c_L_proof 9 = .ok (.invokevirtual 49, 3) := by decide +kernel
theorem d_L_proof_12 : decode c_L_proof 12 = .ok (.i2l, 1) := by decide +kernel
theorem d_L_proof_13 : decode c_L_proof 13 = .ok (.lastore, 1) := by decide +kernel
theorem d_L_proof_14 : decode c_L_proof 14 = .ok (.goto 15, 3) := by decide +kernel
theorem d_L_proof_17 : decode c_L_proof 17 = .ok (.astore 6, 2) := by decide +kernel
theorem d_L_proof_19 : decode c_L_proof 19 = .ok (.iconst 1, 1) := by decide +kernel
theorem d_L_proof_20 : decode c_L_proof 20 = .ok (.ireturn, 1) := by decide +kernel
theorem d_L_proof_21 : decode c_L_proof 21 = .ok (.astore 6, 2) := by decide +kernel
theorem d_L_proof_23 : decode c_L_proof 23 = .ok (.iconst 2, 1) := by decide +kernel
theorem d_L_proof_24 : decode c_L_proof 24 = .ok (.ireturn, 1) := by decide +kernel
theorem d_L_proof_25 : decode c_L_proof 25 = .ok (.astore 6, 2) := by decide +kernel
theorem d_L_proof_27 : decode c_L_proof 27 = .ok (.iconst 3, 1) := by decide +kernel
theorem d_L_proof_28 : decode c_L_proof 28 = .ok (.ireturn, 1) := by decide +kernel
theorem d_L_proof_29 : decode c_L_proof 29 = .ok (.iconst 0, 1) := by decide +kernel
theorem d_L_proof_30 : decode c_L_proof 30 = .ok (.ireturn, 1) := by decide +kernel
theorem wh_L_63 : ∀ w ∈ jwS "StrataHouseLaw" 63 y_L_relation (.codeWith y_L_relation c_L_relation 4 (some .int) [(0, 9, 12, 13), (0, 9, 15, 15)]), w ∈ jTs := List.forall_mem_cons.mpr ⟨jin (jt1 (List.mem_of_getElem? (i := 212) rfl)) rfl, List.forall_mem_cons.mpr ⟨jin (jt1 (List.mem_of_getElem? (i := 0) rfl)) rfl, List.forall_mem_cons.mpr ⟨jin (jt1 (List.mem_of_getElem? (i := 210) rfl)) rfl, List.forall_mem_cons.mpr ⟨jin (jt1 (List.mem_of_getElem? (i := 211) rfl)) rfl, fun _ h => absurd h List.not_mem_nil⟩⟩⟩⟩
theorem wh_L_73 : ∀ w ∈ jwS "StrataHouseLaw" 73 y_L_give (.codeWith y_L_give c_L_give 6 (some .int) [(0, 19, 22, 13)]), w ∈ jTs := List.forall_mem_cons.mpr ⟨jin (jt2 (List.mem_of_getElem? (i := 66) rfl)) rfl, List.forall_mem_cons.mpr ⟨jin (jt1 (List.mem_of_getElem? (i := 0) rfl)) rfl, List.forall_mem_cons.mpr ⟨jin (jt2 (List.mem_of_getElem? (i := 64) rfl)) rfl, List.forall_mem_cons.mpr ⟨jin (jt2 (List.mem_of_getElem? (i := 65) rfl)) rfl, fun _ h => absurd h List.not_mem_nil⟩⟩⟩⟩
theorem wh_L_77 : ∀ w ∈ jwS "StrataHouseLaw" 77 y_L_take (.codeWith y_L_take c_L_take 6 (some .int) [(0, 19, 22, 13)]), w ∈ jTs := List.forall_mem_cons.mpr ⟨jin (jt2 (List.mem_of_getElem? (i := 104) rfl)) rfl, List.forall_mem_cons.mpr ⟨jin (jt1 (List.mem_of_getElem? (i := 0) rfl)) rfl, List.forall_mem_cons.mpr ⟨jin (jt2 (List.mem_of_getElem? (i := 102) rfl)) rfl, List.forall_mem_cons.mpr ⟨jin (jt2 (List.mem_of_getElem? (i := 103) rfl)) rfl, fun _ h => absurd h List.not_mem_nil⟩⟩⟩⟩
theorem wh_L_80 : ∀ w ∈ jwS "StrataHouseLaw" 80 y_L_rule (.codeWith y_L_rule c_L_rule 6 (some .int) [(0, 12, 15, 13), (0, 12, 19, 15)]), w ∈ jTs := List.forall_mem_cons.mpr ⟨jin (jt2 (List.mem_of_getElem? (i := 111) rfl)) rfl, List.forall_mem_cons.mpr ⟨jin (jt1 (List.mem_of_getElem? (i := 0) rfl)) rfl, List.forall_mem_cons.mpr ⟨jin (jt2 (List.mem_of_getElem? (i := 109) rfl)) rfl, List.forall_mem_cons.mpr ⟨jin (jt2 (List.mem_of_getElem? (i := 110) rfl)) rfl, fun _ h => absurd h List.not_mem_nil⟩⟩⟩⟩
theorem wh_L_83 : ∀ w ∈ jwS "StrataHouseLaw" 83 y_L_literal (.codeWith y_L_literal c_L_literal 7 (some .int) [(0, 14, 17, 32), (0, 14, 21, 13), (0, 14, 25, 15)]), w ∈ jTs := List.forall_mem_cons.mpr ⟨jin (jt2 (List.mem_of_getElem? (i := 140) rfl)) rfl, List.forall_mem_cons.mpr ⟨jin (jt1 (List.mem_of_getElem? (i := 0) rfl)) rfl, List.forall_mem_cons.mpr ⟨jin (jt2 (List.mem_of_getElem? (i := 138) rfl)) rfl, List.forall_mem_cons.mpr ⟨jin (jt2 (List.mem_of_getElem? (i := 139) rfl)) rfl, fun _ h => absurd h List.not_mem_nil⟩⟩⟩⟩
theorem wh_L_87 : ∀ w ∈ jwS "StrataHouseLaw" 87 y_L_unrule (.codeWith y_L_unrule c_L_unrule 2 (some .int) [(0, 4, 7, 32)]), w ∈ jTs := List.forall_mem_cons.mpr ⟨jin (jt2 (List.mem_of_getElem? (i := 178) rfl)) rfl, List.forall_mem_cons.mpr ⟨jin (jt1 (List.mem_of_getElem? (i := 0) rfl)) rfl, List.forall_mem_cons.mpr ⟨jin (jt2 (List.mem_of_getElem? (i := 176) rfl)) rfl, List.forall_mem_cons.mpr ⟨jin (jt2 (List.mem_of_getElem? (i := 177) rfl)) rfl, fun _ h => absurd h List.not_mem_nil⟩⟩⟩⟩
theorem wh_L_95 : ∀ w ∈ jwS "StrataHouseLaw" 95 y_L_layer (.codeWith y_L_layer c_L_layer 4 (some .int) [(0, 9, 12, 13), (0, 9, 15, 32)]), w ∈ jTs := List.forall_mem_cons.mpr ⟨jin (jt2 (List.mem_of_getElem? (i := 185) rfl)) rfl, List.forall_mem_cons.mpr ⟨jin (jt1 (List.mem_of_getElem? (i := 0) rfl)) rfl, List.forall_mem_cons.mpr ⟨jin (jt2 (List.mem_of_getElem? (i := 183) rfl)) rfl, List.forall_mem_cons.mpr ⟨jin (jt2 (List.mem_of_getElem? (i := 184) rfl)) rfl, fun _ h => absurd h List.not_mem_nil⟩⟩⟩⟩
theorem wh_L_98 : ∀ w ∈ jwS "StrataHouseLaw" 98 y_L_count (.codeWith y_L_count c_L_count 4 (some .int) [(0, 9, 12, 13), (0, 9, 15, 32)]), w ∈ jTs := List.forall_mem_cons.mpr ⟨jin (jt2 (List.mem_of_getElem? (i := 197) rfl)) rfl, List.forall_mem_cons.mpr ⟨jin (jt1 (List.mem_of_getElem? (i := 0) rfl)) rfl, List.forall_mem_cons.mpr ⟨jin (jt2 (List.mem_of_getElem? (i := 195) rfl)) rfl, List.forall_mem_cons.mpr ⟨jin (jt2 (List.mem_of_getElem? (i := 196) rfl)) rfl, fun _ h => absurd h List.not_mem_nil⟩⟩⟩⟩
theorem wh_L_101 : ∀ w ∈ jwS "StrataHouseLaw" 101 y_L_rank (.codeWith y_L_rank c_L_rank 6 (some .int) [(0, 12, 15, 13), (0, 12, 19, 32)]), w ∈ jTs := List.forall_mem_cons.mpr ⟨jin (jt3 (List.mem_of_getElem? (i := 52) rfl)) rfl, List.forall_mem_cons.mpr ⟨jin (jt1 (List.mem_of_getElem? (i := 0) rfl)) rfl, List.forall_mem_cons.mpr ⟨jin (jt3 (List.mem_of_getElem? (i := 50) rfl)) rfl, List.forall_mem_cons.mpr ⟨jin (jt3 (List.mem_of_getElem? (i := 51) rfl)) rfl, fun _ h => absurd h List.not_mem_nil⟩⟩⟩⟩
theorem wh_L_104 : ∀ w ∈ jwS "StrataHouseLaw" 104 y_L_ways (.codeWith y_L_ways c_L_ways 6 (some .int) [(0, 12, 15, 13), (0, 12, 19, 32)]), w ∈ jTs := List.forall_mem_cons.mpr ⟨jin (jt3 (List.mem_of_getElem? (i := 59) rfl)) rfl, List.forall_mem_cons.mpr ⟨jin (jt1 (List.mem_of_getElem? (i := 0) rfl)) rfl, List.forall_mem_cons.mpr ⟨jin (jt3 (List.mem_of_getElem? (i := 57) rfl)) rfl, List.forall_mem_cons.mpr ⟨jin (jt3 (List.mem_of_getElem? (i := 58) rfl)) rfl, fun _ h => absurd h List.not_mem_nil⟩⟩⟩⟩
theorem wh_L_107 : ∀ w ∈ jwS "StrataHouseLaw" 107 y_L_proof (.codeWith y_L_proof c_L_proof 7 (some .int) [(0, 14, 17, 13), (0, 14, 21, 32), (0, 14, 25, 53)]), w ∈ jTs := List.forall_mem_cons.mpr ⟨jin (jt3 (List.mem_of_getElem? (i := 77) rfl)) rfl, List.forall_mem_cons.mpr ⟨jin (jt1 (List.mem_of_getElem? (i := 0) rfl)) rfl, List.forall_mem_cons.mpr ⟨jin (jt3 (List.mem_of_getElem? (i := 75) rfl)) rfl, List.forall_mem_cons.mpr ⟨jin (jt3 (List.mem_of_getElem? (i := 76) rfl)) rfl, fun _ h => absurd h List.not_mem_nil⟩⟩⟩⟩
theorem wl_L_13 : Cond.classLink "StrataHouseLaw" 13 xIA ∈ jTn := jTn_l (jin (jt1 (List.mem_of_getElem? (i := 213) rfl)) rfl)
theorem wl_L_15 : Cond.classLink "StrataHouseLaw" 15 xUO ∈ jTn := jTn_l (jin (jt1 (List.mem_of_getElem? (i := 214) rfl)) rfl)
theorem wcast_xIA : Cond.castable xIA xIA ∈ jTn := jTn_l (jin (jt1 (List.mem_of_getElem? (i := 221) rfl)) rfl)
theorem wcast_xUO : Cond.castable xUO xUO ∈ jTn := jTn_l (jin (jt2 (List.mem_of_getElem? (i := 50) rfl)) rfl)
theorem wl_L_32 : Cond.classLink "StrataHouseLaw" 32 xIS ∈ jTn := jTn_l (jin (jt2 (List.mem_of_getElem? (i := 141) rfl)) rfl)
theorem wcast_xIS : Cond.castable xIS xIS ∈ jTn := jTn_l (jin (jt2 (List.mem_of_getElem? (i := 152) rfl)) rfl)
theorem wl_L_53 : Cond.classLink "StrataHouseLaw" 53 xNS ∈ jTn := jTn_l (jin (jt3 (List.mem_of_getElem? (i := 78) rfl)) rfl)
theorem wcast_xNS : Cond.castable xNS xNS ∈ jTn := jTn_l (jin (jt3 (List.mem_of_getElem? (i := 86) rfl)) rfl)
theorem wnot_xUO_xIA : Cond.not (.castable xUO xIA) ∈ jTn := jTn_r (List.mem_of_getElem? (i := 0) rfl)
theorem wnot_xIS_xIA : Cond.not (.castable xIS xIA) ∈ jTn := jTn_r (List.mem_of_getElem? (i := 1) rfl)
theorem wnot_xNS_xIA : Cond.not (.castable xNS xIA) ∈ jTn := jTn_r (List.mem_of_getElem? (i := 2) rfl)
theorem wnot_xIA_xIS : Cond.not (.castable xIA xIS) ∈ jTn := jTn_r (List.mem_of_getElem? (i := 3) rfl)
theorem wnot_xUO_xIS : Cond.not (.castable xUO xIS) ∈ jTn := jTn_r (List.mem_of_getElem? (i := 4) rfl)
theorem wnot_xNS_xIS : Cond.not (.castable xNS xIS) ∈ jTn := jTn_r (List.mem_of_getElem? (i := 5) rfl)
