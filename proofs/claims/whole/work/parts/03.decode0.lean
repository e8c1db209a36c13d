theorem d_H_init_0 : decode c_H_init 0 = .ok (.aload_n 0, 1) := by decide +kernel
theorem d_H_init_1 : decode c_H_init 1 = .ok (.invokespecial 5, 3) := by decide +kernel
theorem d_H_init_4 : decode c_H_init 4 = .ok (.aload_n 0, 1) := by decide +kernel
theorem d_H_init_5 : decode c_H_init 5 = .ok (.bipush 8, 2) := by decide +kernel
theorem d_H_init_7 : decode c_H_init 7 = .ok (.newarray .int, 2) := by decide +kernel
theorem d_H_init_9 : decode c_H_init 9 = .ok (.putfield 11, 3) := by decide +kernel
theorem d_H_init_12 : decode c_H_init 12 = .ok (.aload_n 0, 1) := by decide +kernel
theorem d_H_init_13 : decode c_H_init 13 = .ok (.bipush 96, 2) := by decide +kernel
theorem d_H_init_15 : decode c_H_init 15 = .ok (.newarray .int, 2) := by decide +kernel
theorem d_H_init_17 : decode c_H_init 17 = .ok (.putfield 15, 3) := by decide +kernel
theorem d_H_init_20 : decode c_H_init 20 = .ok (.aload_n 0, 1) := by decide +kernel
theorem d_H_init_21 : decode c_H_init 21 = .ok (.bipush 16, 2) := by decide +kernel
theorem d_H_init_23 : decode c_H_init 23 = .ok (.anewarray 18, 3) := by decide +kernel
theorem d_H_init_26 : decode c_H_init 26 = .ok (.putfield 20, 3) := by decide +kernel
theorem d_H_init_29 : decode c_H_init 29 = .ok (.aload_n 0, 1) := by decide +kernel
theorem d_H_init_30 : decode c_H_init 30 = .ok (.bipush 8, 2) := by decide +kernel
theorem d_H_init_32 : decode c_H_init 32 = .ok (.newarray .int, 2) := by decide +kernel
theorem d_H_init_34 : decode c_H_init 34 = .ok (.putfield 24, 3) := by decide +kernel
theorem d_H_init_37 : decode c_H_init 37 = .ok (.aload_n 0, 1) := by decide +kernel
theorem d_H_init_38 : decode c_H_init 38 = .ok (.sipush 1152, 3) := by decide +kernel
theorem d_H_init_41 : decode c_H_init 41 = .ok (.newarray .int, 2) := by decide +kernel
theorem d_H_init_43 : decode c_H_init 43 = .ok (.putfield 27, 3) := by decide +kernel
theorem d_H_init_46 : decode c_H_init 46 = .ok (.aload_n 0, 1) := by decide +kernel
theorem d_H_init_47 : decode c_H_init 47 = .ok (.bipush 96, 2) := by decide +kernel
theorem d_H_init_49 : decode c_H_init 49 = .ok (.newarray .int, 2) := by decide +kernel
theorem d_H_init_51 : decode c_H_init 51 = .ok (.putfield 30, 3) := by decide +kernel
theorem d_H_init_54 : decode c_H_init 54 = .ok (.aload_n 0, 1) := by decide +kernel
theorem d_H_init_55 : decode c_H_init 55 = .ok (.new 33, 3) := by decide +kernel
theorem d_H_init_58 : decode c_H_init 58 = .ok (.dup, 1) := by decide +kernel
theorem d_H_init_59 : decode c_H_init 59 = .ok (.invokespecial 35, 3) := by decide +kernel
theorem d_H_init_62 : decode c_H_init 62 = .ok (.putfield 36, 3) := by decide +kernel
theorem d_H_init_65 : decode c_H_init 65 = .ok (.aload_n 0, 1) := by decide +kernel
theorem d_H_init_66 : decode c_H_init 66 = .ok (.iconst (-1), 1) := by decide +kernel
theorem d_H_init_67 : decode c_H_init 67 = .ok (.putfield 40, 3) := by decide +kernel
theorem d_H_init_70 : decode c_H_init 70 = .ok (.iconst 0, 1) := by decide +kernel
theorem d_H_init_71 : decode c_H_init 71 = .ok (.istore_n 1, 1) := by decide +kernel
theorem d_H_init_72 : decode c_H_init 72 = .ok (.iload_n 1, 1) := by decide +kernel
theorem d_H_init_73 : decode c_H_init 73 = .ok (.bipush 16, 2) := by decide +kernel
theorem d_H_init_75 : decode c_H_init 75 = .ok (.if_icmp .ge 22, 3) := by decide +kernel
theorem d_H_init_78 : decode c_H_init 78 = .ok (.aload_n 0, 1) := by decide +kernel
theorem d_H_init_79 : decode c_H_init 79 = .ok (.getfield 20, 3) := by decide +kernel
theorem d_H_init_82 : decode c_H_init 82 = .ok (.iload_n 1, 1) := by decide +kernel
theorem d_H_init_83 : decode c_H_init 83 = .ok (.new 18, 3) := by decide +kernel
theorem d_H_init_86 : decode c_H_init 86 = .ok (.dup, 1) := by decide +kernel
theorem d_H_init_87 : decode c_H_init 87 = .ok (.invokespecial 44, 3) := by decide +kernel
theorem d_H_init_90 : decode c_H_init 90 = .ok (.aastore, 1) := by decide +kernel
theorem d_H_init_91 : decode c_H_init 91 = .ok (.iinc 1 1, 3) := by decide +kernel
theorem d_H_init_94 : decode c_H_init 94 = .ok (.goto (-22), 3) := by decide +kernel
theorem d_H_init_97 : decode c_H_init 97 = .ok (.return_, 1) := by decide +kernel
theorem d_H_clear_0 : decode c_H_clear 0 = .ok (.aload_n 0, 1) := by decide +kernel
theorem d_H_clear_1 : decode c_H_clear 1 = .ok (.getfield 15, 3) := by decide +kernel
theorem d_H_clear_4 : decode c_H_clear 4 = .ok (.iconst 0, 1) := by decide +kernel
theorem d_H_clear_5 : decode c_H_clear 5 = .ok (.invokestatic 45, 3) := by decide +kernel
theorem d_H_clear_8 : decode c_H_clear 8 = .ok (.aload_n 0, 1) := by decide +kernel
theorem d_H_clear_9 : decode c_H_clear 9 = .ok (.iconst 0, 1) := by decide +kernel
theorem d_H_clear_10 : decode c_H_clear 10 = .ok (.putfield 51, 3) := by decide +kernel
theorem d_H_clear_13 : decode c_H_clear 13 = .ok (.aload_n 0, 1) := by decide +kernel
theorem d_H_clear_14 : decode c_H_clear 14 = .ok (.iconst 0, 1) := by decide +kernel
theorem d_H_clear_15 : decode c_H_clear 15 = .ok (.putfield 54, 3) := by decide +kernel
theorem d_H_clear_18 : decode c_H_clear 18 = .ok (.aload_n 0, 1) := by decide +kernel
theorem d_H_clear_19 : decode c_H_clear 19 = .ok (.invokevirtual 57, 3) := by decide +kernel
theorem d_H_clear_22 : decode c_H_clear 22 = .ok (.return_, 1) := by decide +kernel
theorem d_H_relation_0 : decode c_H_relation 0 = .ok (.iload_n 1, 1) := by decide +kernel
theorem d_H_relation_1 : decode c_H_relation 1 = .ok (.ifCond .lt 8, 3) := by decide +kernel
theorem d_H_relation_4 : decode c_H_relation 4 = .ok (.iload_n 1, 1) := by decide +kernel
theorem d_H_relation_5 : decode c_H_relation 5 = .ok (.iconst 2, 1) := by decide +kernel
theorem d_H_relation_6 : decode c_H_relation 6 = .ok (.if_icmp .le 13, 3) := by decide +kernel
theorem d_H_relation_9 : decode c_H_relation 9 = .ok (.new 60, 3) := by decide +kernel
theorem d_H_relation_12 : decode c_H_relation 12 = .ok (.dup, 1) := by decide +kernel
theorem d_H_relation_13 : decode c_H_relation 13 = .ok (.ldc 62, 2) := by decide +kernel
theorem d_H_relation_15 : decode c_H_relation 15 = .ok (.invokespecial 64, 3) := by decide +kernel
theorem d_H_relation_18 : decode c_H_relation 18 = .ok (.athrow, 1) := by decide +kernel
theorem d_H_relation_19 : decode c_H_relation 19 = .ok (.aload_n 0, 1) := by decide +kernel
theorem d_H_relation_20 : decode c_H_relation 20 = .ok (.getfield 51, 3) := by decide +kernel
theorem d_H_relation_23 : decode c_H_relation 23 = .ok (.bipush 8, 2) := by decide +kernel
theorem d_H_relation_25 : decode c_H_relation 25 = .ok (.if_icmp .lt 13, 3) := by decide +kernel
theorem d_H_relation_28 : decode c_H_relation 28 = .ok (.new 67, 3) := by decide +kernel
theorem d_H_relation_31 : decode c_H_relation 31 = .ok (.dup, 1) := by decide +kernel
theorem d_H_relation_32 : decode c_H_relation 32 = .ok (.ldc 69, 2) := by decide +kernel
theorem d_H_relation_34 : decode c_H_relation 34 = .ok (.invokespecial 71, 3) := by decide +kernel
theorem d_H_relation_37 : decode c_H_relation 37 = .ok (.athrow, 1) := by decide +kernel
theorem d_H_relation_38 : decode c_H_relation 38 = .ok (.aload_n 0, 1) := by decide +kernel
theorem d_H_relation_39 : decode c_H_relation 39 = .ok (.getfield 11, 3) := by decide +kernel
theorem d_H_relation_42 : decode c_H_relation 42 = .ok (.aload_n 0, 1) := by decide +kernel
theorem d_H_relation_43 : decode c_H_relation 43 = .ok (.getfield 51, 3) := by decide +kernel
theorem d_H_relation_46 : decode c_H_relation 46 = .ok (.iload_n 1, 1) := by decide +kernel
theorem d_H_relation_47 : decode c_H_relation 47 = .ok (.iastore, 1) := by decide +kernel
theorem d_H_relation_48 : decode c_H_relation 48 = .ok (.aload_n 0, 1) := by decide +kernel
theorem d_H_relation_49 : decode c_H_relation 49 = .ok (.dup, 1) := by decide +kernel
theorem d_H_relation_50 : decode c_H_relation 50 = .ok (.getfield 51, 3) := by decide +kernel
theorem d_H_relation_53 : decode c_H_relation 53 = .ok (.iconst 1, 1) := by decide +kernel
theorem d_H_relation_54 : decode c_H_relation 54 = .ok (.iadd, 1) := by decide +kernel
theorem d_H_relation_55 : decode c_H_relation 55 = .ok (.putfield 51, 3) := by decide +kernel
theorem d_H_relation_58 : decode c_H_relation 58 = .ok (.aload_n 0, 1) := by decide +kernel
theorem d_H_relation_59 : decode c_H_relation 59 = .ok (.invokevirtual 57, 3) := by decide +kernel
theorem d_H_relation_62 : decode c_H_relation 62 = .ok (.aload_n 0, 1) := by decide +kernel
theorem d_H_relation_63 : decode c_H_relation 63 = .ok (.getfield 51, 3) := by decide +kernel
theorem d_H_relation_66 : decode c_H_relation 66 = .ok (.iconst 1, 1) := by decide +kernel
theorem d_H_relation_67 : decode c_H_relation 67 = .ok (.isub, 1) := by decide +kernel
theorem d_H_relation_68 : decode c_H_relation 68 = .ok (.ireturn, 1) := by decide +kernel
theorem d_H_give_0 : decode c_H_give 0 = .ok (.aload_n 0, 1) := by decide +kernel
theorem d_H_give_1 : decode c_H_give 1 = .ok (.iload_n 1, 1) := by decide +kernel
theorem d_H_give_2 : decode c_H_give 2 = .ok (.iload_n 2, 1) := by decide +kernel
theorem d_H_give_3 : decode c_H_give 3 = .ok (.iload_n 3, 1) := by decide +kernel
theorem d_H_give_4 : decode c_H_give 4 = .ok (.invokevirtual 72, 3) := by decide +kernel
theorem d_H_give_7 : decode c_H_give 7 = .ok (.aload_n 0, 1) := by decide +kernel
theorem d_H_give_8 : decode c_H_give 8 = .ok (.iload_n 1, 1) := by decide +kernel
theorem d_H_give_9 : decode c_H_give 9 = .ok (.iload_n 2, 1) := by decide +kernel
theorem d_H_give_10 : decode c_H_give 10 = .ok (.iload_n 3, 1) := by decide +kernel
theorem d_H_give_11 : decode c_H_give 11 = .ok (.iconst 1, 1) := by decide +kernel
theorem d_H_give_12 : decode c_H_give 12 = .ok (.invokevirtual 76, 3) := by decide +kernel
theorem d_H_give_15 : decode c_H_give 15 = .ok (.ireturn, 1) := by decide +kernel
theorem d_H_take_0 : decode c_H_take 0 = .ok (.aload_n 0, 1) := by decide +kernel
theorem d_H_take_1 : decode c_H_take 1 = .ok (.iload_n 1, 1) := by decide +kernel
theorem d_H_take_2 : decode c_H_take 2 = .ok (.iload_n 2, 1) := by decide +kernel
theorem d_H_take_3 : decode c_H_take 3 = .ok (.iload_n 3, 1) := by decide +kernel
theorem d_H_take_4 : decode c_H_take 4 = .ok (.invokevirtual 72, 3) := by decide +kernel
theorem d_H_take_7 : decode c_H_take 7 = .ok (.aload_n 0, 1) := by decide +kernel
theorem d_H_take_8 : decode c_H_take 8 = .ok (.iload_n 1, 1) := by decide +kernel
theorem d_H_take_9 : decode c_H_take 9 = .ok (.iload_n 2, 1) := by decide +kernel
theorem d_H_take_10 : decode c_H_take 10 = .ok (.iload_n 3, 1) := by decide +kernel
theorem d_H_take_11 : decode c_H_take 11 = .ok (.iconst 0, 1) := by decide +kernel
theorem d_H_take_12 : decode c_H_take 12 = .ok (.invokevirtual 76, 3) := by decide +kernel
theorem d_H_take_15 : decode c_H_take 15 = .ok (.ireturn, 1) := by decide +kernel
theorem d_H_rule_0 : decode c_H_rule 0 = .ok (.aload_n 0, 1) := by decide +kernel
theorem d_H_rule_1 : decode c_H_rule 1 = .ok (.iload_n 1, 1) := by decide +kernel
theorem d_H_rule_2 : decode c_H_rule 2 = .ok (.iload_n 2, 1) := by decide +kernel
theorem d_H_rule_3 : decode c_H_rule 3 = .ok (.iload_n 3, 1) := by decide +kernel
theorem d_H_rule_4 : decode c_H_rule 4 = .ok (.invokevirtual 80, 3) := by decide +kernel
theorem d_H_rule_7 : decode c_H_rule 7 = .ok (.aload_n 0, 1) := by decide +kernel
theorem d_H_rule_8 : decode c_H_rule 8 = .ok (.getfield 54, 3) := by decide +kernel
theorem d_H_rule_11 : decode c_H_rule 11 = .ok (.bipush 16, 2) := by decide +kernel
theorem d_H_rule_13 : decode c_H_rule 13 = .ok (.if_icmp .lt 13, 3) := by decide +kernel
theorem d_H_rule_16 : decode c_H_rule 16 = .ok (.new 67, 3) := by decide +kernel
theorem d_H_rule_19 : decode c_H_rule 19 = .ok (.dup, 1) := by decide +kernel
theorem d_H_rule_20 : decode c_H_rule 20 = .ok (.ldc 83, 2) := by decide +kernel
theorem d_H_rule_22 : decode c_H_rule 22 = .ok (.invokespecial 71, 3) := by decide +kernel
theorem d_H_rule_25 : decode c_H_rule 25 = .ok (.athrow, 1) := by decide +kernel
theorem d_H_rule_26 : decode c_H_rule 26 = .ok (.aload_n 0, 1) := by decide +kernel
theorem d_H_rule_27 : decode c_H_rule 27 = .ok (.getfield 20, 3) := by decide +kernel
theorem d_H_rule_30 : decode c_H_rule 30 = .ok (.aload_n 0, 1) := by decide +kernel
theorem d_H_rule_31 : decode c_H_rule 31 = .ok (.getfield 54, 3) := by decide +kernel
theorem d_H_rule_34 : decode c_H_rule 34 = .ok (.aaload, 1) := by decide +kernel
theorem d_H_rule_35 : decode c_H_rule 35 = .ok (.iload_n 1, 1) := by decide +kernel
theorem d_H_rule_36 : decode c_H_rule 36 = .ok (.aload_n 0, 1) := by decide +kernel
theorem d_H_rule_37 : decode c_H_rule 37 = .ok (.iload_n 1, 1) := by decide +kernel
theorem d_H_rule_38 : decode c_H_rule 38 = .ok (.iload_n 2, 1) := by decide +kernel
theorem d_H_rule_39 : decode c_H_rule 39 = .ok (.invokevirtual 85, 3) := by decide +kernel
theorem d_H_rule_42 : decode c_H_rule 42 = .ok (.aload_n 0, 1) := by decide +kernel
theorem d_H_rule_43 : decode c_H_rule 43 = .ok (.iload_n 1, 1) := by decide +kernel
theorem d_H_rule_44 : decode c_H_rule 44 = .ok (.iload_n 3, 1) := by decide +kernel
theorem d_H_rule_45 : decode c_H_rule 45 = .ok (.invokevirtual 89, 3) := by decide +kernel
theorem d_H_rule_48 : decode c_H_rule 48 = .ok (.invokevirtual 92, 3) := by decide +kernel
theorem d_H_rule_51 : decode c_H_rule 51 = .ok (.aload_n 0, 1) := by decide +kernel
theorem d_H_rule_52 : decode c_H_rule 52 = .ok (.dup, 1) := by decide +kernel
theorem d_H_rule_53 : decode c_H_rule 53 = .ok (.getfield 54, 3) := by decide +kernel
theorem d_H_rule_56 : decode c_H_rule 56 = .ok (.iconst 1, 1) := by decide +kernel
theorem d_H_rule_57 : decode c_H_rule 57 = .ok (.iadd, 1) := by decide +kernel
theorem d_H_rule_58 : decode c_H_rule 58 = .ok (.putfield 54, 3) := by decide +kernel
theorem d_H_rule_61 : decode c_H_rule 61 = .ok (.aload_n 0, 1) := by decide +kernel
theorem d_H_rule_62 : decode c_H_rule 62 = .ok (.invokevirtual 57, 3) := by decide +kernel
theorem d_H_rule_65 : decode c_H_rule 65 = .ok (.aload_n 0, 1) := by decide +kernel
theorem d_H_rule_66 : decode c_H_rule 66 = .ok (.getfield 54, 3) := by decide +kernel
theorem d_H_rule_69 : decode c_H_rule 69 = .ok (.iconst 1, 1) := by decide +kernel
theorem d_H_rule_70 : decode c_H_rule 70 = .ok (.isub, 1) := by decide +kernel
theorem d_H_rule_71 : decode c_H_rule 71 = .ok (.ireturn, 1) := by decide +kernel
theorem d_H_literal_0 : decode c_H_literal 0 = .ok (.aload_n 0, 1) := by decide +kernel
theorem d_H_literal_1 : decode c_H_literal 1 = .ok (.invokevirtual 95, 3) := by decide +kernel
theorem d_H_literal_4 : decode c_H_literal 4 = .ok (.aload_n 0, 1) := by decide +kernel
theorem d_H_literal_5 : decode c_H_literal 5 = .ok (.iload_n 1, 1) := by decide +kernel
theorem d_H_literal_6 : decode c_H_literal 6 = .ok (.iload_n 2, 1) := by decide +kernel
theorem d_H_literal_7 : decode c_H_literal 7 = .ok (.iload_n 3, 1) := by decide +kernel
theorem d_H_literal_8 : decode c_H_literal 8 = .ok (.invokevirtual 80, 3) := by decide +kernel
theorem d_H_literal_11 : decode c_H_literal 11 = .ok (.aload_n 0, 1) := by decide +kernel
theorem d_H_literal_12 : decode c_H_literal 12 = .ok (.getfield 20, 3) := by decide +kernel
theorem d_H_literal_15 : decode c_H_literal 15 = .ok (.aload_n 0, 1) := by decide +kernel
theorem d_H_literal_16 : decode c_H_literal 16 = .ok (.getfield 54, 3) := by decide +kernel
theorem d_H_literal_19 : decode c_H_literal 19 = .ok (.iconst 1, 1) := by decide +kernel
theorem d_H_literal_20 : decode c_H_literal 20 = .ok (.isub, 1) := by decide +kernel
theorem d_H_literal_21 : decode c_H_literal 21 = .ok (.aaload, 1) := by decide +kernel
theorem d_H_literal_22 : decode c_H_literal 22 = .ok (.astore 5, 2) := by decide +kernel
theorem d_H_literal_24 : decode c_H_literal 24 = .ok (.aload 5, 2) := by decide +kernel
theorem d_H_literal_26 : decode c_H_literal 26 = .ok (.invokevirtual 98, 3) := by decide +kernel
theorem d_H_literal_29 : decode c_H_literal 29 = .ok (.ifCond .eq 13, 3) := by decide +kernel
theorem d_H_literal_32 : decode c_H_literal 32 = .ok (.new 67, 3) := by decide +kernel
theorem d_H_literal_35 : decode c_H_literal 35 = .ok (.dup, 1) := by decide +kernel
theorem d_H_literal_36 : decode c_H_literal 36 = .ok (.ldc 102, 2) := by decide +kernel
theorem d_H_literal_38 : decode c_H_literal 38 = .ok (.invokespecial 71, 3) := by decide +kernel
theorem d_H_literal_41 : decode c_H_literal 41 = .ok (.athrow, 1) := by decide +kernel
theorem d_H_literal_42 : decode c_H_literal 42 = .ok (.aload 5, 2) := by decide +kernel
theorem d_H_literal_44 : decode c_H_literal 44 = .ok (.iload_n 1, 1) := by decide +kernel
theorem d_H_literal_45 : decode c_H_literal 45 = .ok (.aload_n 0, 1) := by decide +kernel
theorem d_H_literal_46 : decode c_H_literal 46 = .ok (.iload_n 1, 1) := by decide +kernel
theorem d_H_literal_47 : decode c_H_literal 47 = .ok (.iload_n 2, 1) := by decide +kernel
theorem d_H_literal_48 : decode c_H_literal 48 = .ok (.invokevirtual 85, 3) := by decide +kernel
theorem d_H_literal_51 : decode c_H_literal 51 = .ok (.aload_n 0, 1) := by decide +kernel
theorem d_H_literal_52 : decode c_H_literal 52 = .ok (.iload_n 1, 1) := by decide +kernel
theorem d_H_literal_53 : decode c_H_literal 53 = .ok (.iload_n 3, 1) := by decide +kernel
theorem d_H_literal_54 : decode c_H_literal 54 = .ok (.invokevirtual 89, 3) := by decide +kernel
theorem d_H_literal_57 : decode c_H_literal 57 = .ok (.iload 4, 2) := by decide +kernel
theorem d_H_literal_59 : decode c_H_literal 59 = .ok (.invokevirtual 104, 3) := by decide +kernel
theorem d_H_literal_62 : decode c_H_literal 62 = .ok (.aload_n 0, 1) := by decide +kernel
theorem d_H_literal_63 : decode c_H_literal 63 = .ok (.invokevirtual 57, 3) := by decide +kernel
theorem d_H_literal_66 : decode c_H_literal 66 = .ok (.aload 5, 2) := by decide +kernel
theorem d_H_literal_68 : decode c_H_literal 68 = .ok (.getfield 108, 3) := by decide +kernel
theorem d_H_literal_71 : decode c_H_literal 71 = .ok (.ireturn, 1) := by decide +kernel
theorem d_H_unrule_0 : decode c_H_unrule 0 = .ok (.aload_n 0, 1) := by decide +kernel
theorem d_H_unrule_1 : decode c_H_unrule 1 = .ok (.invokevirtual 95, 3) := by decide +kernel
theorem d_H_unrule_4 : decode c_H_unrule 4 = .ok (.aload_n 0, 1) := by decide +kernel
theorem d_H_unrule_5 : decode c_H_unrule 5 = .ok (.dup, 1) := by decide +kernel
theorem d_H_unrule_6 : decode c_H_unrule 6 = .ok (.getfield 54, 3) := by decide +kernel
theorem d_H_unrule_9 : decode c_H_unrule 9 = .ok (.iconst 1, 1) := by decide +kernel
theorem d_H_unrule_10 : decode c_H_unrule 10 = .ok (.isub, 1) := by decide +kernel
theorem d_H_unrule_11 : decode c_H_unrule 11 = .ok (.putfield 54, 3) := by decide +kernel
theorem d_H_unrule_14 : decode c_H_unrule 14 = .ok (.aload_n 0, 1) := by decide +kernel
theorem d_H_unrule_15 : decode c_H_unrule 15 = .ok (.invokevirtual 57, 3) := by decide +kernel
theorem d_H_unrule_18 : decode c_H_unrule 18 = .ok (.return_, 1) := by decide +kernel
theorem d_H_fault_0 : decode c_H_fault 0 = .ok (.aload_n 0, 1) := by decide +kernel
theorem d_H_fault_1 : decode c_H_fault 1 = .ok (.invokevirtual 111, 3) := by decide +kernel
theorem d_H_fault_4 : decode c_H_fault 4 = .ok (.aload_n 0, 1) := by decide +kernel
theorem d_H_fault_5 : decode c_H_fault 5 = .ok (.getfield 40, 3) := by decide +kernel
theorem d_H_fault_8 : decode c_H_fault 8 = .ok (.ireturn, 1) := by decide +kernel
theorem d_H_layer_0 : decode c_H_layer 0 = .ok (.aload_n 0, 1) := by decide +kernel
theorem d_H_layer_1 : decode c_H_layer 1 = .ok (.iload_n 1, 1) := by decide +kernel
theorem d_H_layer_2 : decode c_H_layer 2 = .ok (.invokevirtual 114, 3) := by decide +kernel
theorem d_H_layer_5 : decode c_H_layer 5 = .ok (.aload_n 0, 1) := by decide +kernel
theorem d_H_layer_6 : decode c_H_layer 6 = .ok (.invokevirtual 118, 3) := by decide +kernel
theorem d_H_layer_9 : decode c_H_layer 9 = .ok (.aload_n 0, 1) := by decide +kernel
theorem d_H_layer_10 : decode c_H_layer 10 = .ok (.getfield 24, 3) := by decide +kernel
theorem d_H_layer_13 : decode c_H_layer 13 = .ok (.iload_n 1, 1) := by decide +kernel
theorem d_H_layer_14 : decode c_H_layer 14 = .ok (.iaload, 1) := by decide +kernel
theorem d_H_layer_15 : decode c_H_layer 15 = .ok (.ireturn, 1) := by decide +kernel
theorem d_H_count_0 : decode c_H_count 0 = .ok (.aload_n 0, 1) := by decide +kernel
theorem d_H_count_1 : decode c_H_count 1 = .ok (.iload_n 1, 1) := by decide +kernel
theorem d_H_count_2 : decode c_H_count 2 = .ok (.invokevirtual 114, 3) := by decide +kernel
theorem d_H_count_5 : decode c_H_count 5 = .ok (.aload_n 0, 1) := by decide +kernel
theorem d_H_count_6 : decode c_H_count 6 = .ok (.invokevirtual 118, 3) := by decide +kernel
theorem d_H_count_9 : decode c_H_count 9 = .ok (.aload_n 0, 1) := by decide +kernel
theorem d_H_count_10 : decode c_H_count 10 = .ok (.invokevirtual 121, 3) := by decide +kernel
theorem d_H_count_13 : decode c_H_count 13 = .ok (.iconst 0, 1) := by decide +kernel
theorem d_H_count_14 : decode c_H_count 14 = .ok (.istore_n 2, 1) := by decide +kernel
theorem d_H_count_15 : decode c_H_count 15 = .ok (.iload_n 1, 1) := by decide +kernel
theorem d_H_count_16 : decode c_H_count 16 = .ok (.bipush 12, 2) := by decide +kernel
theorem d_H_count_18 : decode c_H_count 18 = .ok (.iconst 0, 1) := by decide +kernel
theorem d_H_count_19 : decode c_H_count 19 = .ok (.invokestatic 124, 3) := by decide +kernel
theorem d_H_count_22 : decode c_H_count 22 = .ok (.istore_n 3, 1) := by decide +kernel
theorem d_H_count_23 : decode c_H_count 23 = .ok (.iload_n 1, 1) := by decide +kernel
theorem d_H_count_24 : decode c_H_count 24 = .ok (.iconst 0, 1) := by decide +kernel
theorem d_H_count_25 : decode c_H_count 25 = .ok (.iconst 0, 1) := by decide +kernel
theorem d_H_count_26 : decode c_H_count 26 = .ok (.invokestatic 124, 3) := by decide +kernel
theorem d_H_count_29 : decode c_H_count 29 = .ok (.istore 4, 2) := by decide +kernel
theorem d_H_count_31 : decode c_H_count 31 = .ok (.iload 4, 2) := by decide +kernel
theorem d_H_count_33 : decode c_H_count 33 = .ok (.iload_n 3, 1) := by decide +kernel
theorem d_H_count_34 : decode c_H_count 34 = .ok (.if_icmp .ge 23, 3) := by decide +kernel
theorem d_H_count_37 : decode c_H_count 37 = .ok (.aload_n 0, 1) := by decide +kernel
theorem d_H_count_38 : decode c_H_count 38 = .ok (.getfield 27, 3) := by decide +kernel
theorem d_H_count_41 : decode c_H_count 41 = .ok (.iload 4, 2) := by decide +kernel
theorem d_H_count_43 : decode c_H_count 43 = .ok (.iaload, 1) := by decide +kernel
theorem d_H_count_44 : decode c_H_count 44 = .ok (.iconst (-1), 1) := by decide +kernel
theorem d_H_count_45 : decode c_H_count 45 = .ok (.if_icmp .eq 6, 3) := by decide +kernel
theorem d_H_count_48 : decode c_H_count 48 = .ok (.iinc 2 1, 3) := by decide +kernel
theorem d_H_count_51 : decode c_H_count 51 = .ok (.iinc 4 1, 3) := by decide +kernel
theorem d_H_count_54 : decode c_H_count 54 = .ok (.goto (-23), 3) := by decide +kernel
theorem d_H_count_57 : decode c_H_count 57 = .ok (.iload_n 2, 1) := by decide +kernel
theorem d_H_count_58 : decode c_H_count 58 = .ok (.ireturn, 1) := by decide +kernel
theorem d_H_rank_0 : decode c_H_rank 0 = .ok (.aload_n 0, 1) := by decide +kernel
theorem d_H_rank_1 : decode c_H_rank 1 = .ok (.iload_n 1, 1) := by decide +kernel
theorem d_H_rank_2 : decode c_H_rank 2 = .ok (.iload_n 2, 1) := by decide +kernel
theorem d_H_rank_3 : decode c_H_rank 3 = .ok (.iload_n 3, 1) := by decide +kernel
theorem d_H_rank_4 : decode c_H_rank 4 = .ok (.invokevirtual 72, 3) := by decide +kernel
theorem d_H_rank_7 : decode c_H_rank 7 = .ok (.aload_n 0, 1) := by decide +kernel
theorem d_H_rank_8 : decode c_H_rank 8 = .ok (.invokevirtual 118, 3) := by decide +kernel
theorem d_H_rank_11 : decode c_H_rank 11 = .ok (.aload_n 0, 1) := by decide +kernel
theorem d_H_rank_12 : decode c_H_rank 12 = .ok (.invokevirtual 121, 3) := by decide +kernel
theorem d_H_rank_15 : decode c_H_rank 15 = .ok (.aload_n 0, 1) := by decide +kernel
theorem d_H_rank_16 : decode c_H_rank 16 = .ok (.getfield 27, 3) := by decide +kernel
theorem d_H_rank_19 : decode c_H_rank 19 = .ok (.iload_n 1, 1) := by decide +kernel
theorem d_H_rank_20 : decode c_H_rank 20 = .ok (.aload_n 0, 1) := by decide +kernel
theorem d_H_rank_21 : decode c_H_rank 21 = .ok (.iload_n 1, 1) := by decide +kernel
theorem d_H_rank_22 : decode c_H_rank 22 = .ok (.iload_n 2, 1) := by decide +kernel
theorem d_H_rank_23 : decode c_H_rank 23 = .ok (.invokevirtual 85, 3) := by decide +kernel
theorem d_H_rank_26 : decode c_H_rank 26 = .ok (.aload_n 0, 1) := by decide +kernel
theorem d_H_rank_27 : decode c_H_rank 27 = .ok (.iload_n 1, 1) := by decide +kernel
theorem d_H_rank_28 : decode c_H_rank 28 = .ok (.iload_n 3, 1) := by decide +kernel
theorem d_H_rank_29 : decode c_H_rank 29 = .ok (.invokevirtual 89, 3) := by decide +kernel
theorem d_H_rank_32 : decode c_H_rank 32 = .ok (.invokestatic 124, 3) := by decide +kernel
theorem d_H_rank_35 : decode c_H_rank 35 = .ok (.iaload, 1) := by decide +kernel
theorem d_H_rank_36 : decode c_H_rank 36 = .ok (.ireturn, 1) := by decide +kernel
theorem d_H_ways_0 : decode c_H_ways 0 = .ok (.aload_n 0, 1) := by decide +kernel
theorem d_H_ways_1 : decode c_H_ways 1 = .ok (.iload_n 1, 1) := by decide +kernel
theorem d_H_ways_2 : decode c_H_ways 2 = .ok (.iload_n 2, 1) := by decide +kernel
theorem d_H_ways_3 : decode c_H_ways 3 = .ok (.iload_n 3, 1) := by decide +kernel
theorem d_H_ways_4 : decode c_H_ways 4 = .ok (.invokevirtual 72, 3) := by decide +kernel
theorem d_H_ways_7 : decode c_H_ways 7 = .ok (.aload_n 0, 1) := by decide +kernel
theorem d_H_ways_8 : decode c_H_ways 8 = .ok (.invokevirtual 118, 3) := by decide +kernel
theorem d_H_ways_11 : decode c_H_ways 11 = .ok (.aload_n 0, 1) := by decide +kernel
theorem d_H_ways_12 : decode c_H_ways 12 = .ok (.invokevirtual 121, 3) := by decide +kernel
theorem d_H_ways_15 : decode c_H_ways 15 = .ok (.aload_n 0, 1) := by decide +kernel
theorem d_H_ways_16 : decode c_H_ways 16 = .ok (.aload_n 0, 1) := by decide +kernel
theorem d_H_ways_17 : decode c_H_ways 17 = .ok (.getfield 24, 3) := by decide +kernel
theorem d_H_ways_20 : decode c_H_ways 20 = .ok (.iload_n 1, 1) := by decide +kernel
theorem d_H_ways_21 : decode c_H_ways 21 = .ok (.iaload, 1) := by decide +kernel
theorem d_H_ways_22 : decode c_H_ways 22 = .ok (.ldc 128, 2) := by decide +kernel
theorem d_H_ways_24 : decode c_H_ways 24 = .ok (.invokevirtual 129, 3) := by decide +kernel
theorem d_H_ways_27 : decode c_H_ways 27 = .ok (.iconst 0, 1) := by decide +kernel
theorem d_H_ways_28 : decode c_H_ways 28 = .ok (.istore 4, 2) := by decide +kernel
theorem d_H_ways_30 : decode c_H_ways 30 = .ok (.iconst 0, 1) := by decide +kernel
theorem d_H_ways_31 : decode c_H_ways 31 = .ok (.istore 5, 2) := by decide +kernel
theorem d_H_ways_33 : decode c_H_ways 33 = .ok (.iload 5, 2) := by decide +kernel
theorem d_H_ways_35 : decode c_H_ways 35 = .ok (.aload_n 0, 1) := by decide +kernel
theorem d_H_ways_36 : decode c_H_ways 36 = .ok (.getfield 54, 3) := by decide +kernel
theorem d_H_ways_39 : decode c_H_ways 39 = .ok (.if_icmp .ge 60, 3) := by decide +kernel
theorem d_H_ways_42 : decode c_H_ways 42 = .ok (.aload_n 0, 1) := by decide +kernel
theorem d_H_ways_43 : decode c_H_ways 43 = .ok (.getfield 36, 3) := by decide +kernel
theorem d_H_ways_46 : decode c_H_ways 46 = .ok (.aload_n 0, 1) := by decide +kernel
theorem d_H_ways_47 : decode c_H_ways 47 = .ok (.getfield 20, 3) := by decide +kernel
theorem d_H_ways_50 : decode c_H_ways 50 = .ok (.iload 5, 2) := by decide +kernel
theorem d_H_ways_52 : decode c_H_ways 52 = .ok (.aaload, 1) := by decide +kernel
theorem d_H_ways_53 : decode c_H_ways 53 = .ok (.iload_n 1, 1) := by decide +kernel
theorem d_H_ways_54 : decode c_H_ways 54 = .ok (.aload_n 0, 1) := by decide +kernel
theorem d_H_ways_55 : decode c_H_ways 55 = .ok (.iload_n 1, 1) := by decide +kernel
theorem d_H_ways_56 : decode c_H_ways 56 = .ok (.iload_n 2, 1) := by decide +kernel
theorem d_H_ways_57 : decode c_H_ways 57 = .ok (.invokevirtual 85, 3) := by decide +kernel
theorem d_H_ways_60 : decode c_H_ways 60 = .ok (.aload_n 0, 1) := by decide +kernel
theorem d_H_ways_61 : decode c_H_ways 61 = .ok (.iload_n 1, 1) := by decide +kernel
theorem d_H_ways_62 : decode c_H_ways 62 = .ok (.iload_n 3, 1) := by decide +kernel
theorem d_H_ways_63 : decode c_H_ways 63 = .ok (.invokevirtual 89, 3) := by decide +kernel
theorem d_H_ways_66 : decode c_H_ways 66 = .ok (.invokevirtual 133, 3) := by decide +kernel
theorem d_H_ways_69 : decode c_H_ways 69 = .ok (.ifCond .eq 24, 3) := by decide +kernel
theorem d_H_ways_72 : decode c_H_ways 72 = .ok (.iload 4, 2) := by decide +kernel
theorem d_H_ways_74 : decode c_H_ways 74 = .ok (.aload_n 0, 1) := by decide +kernel
theorem d_H_ways_75 : decode c_H_ways 75 = .ok (.getfield 36, 3) := by decide +kernel
theorem d_H_ways_78 : decode c_H_ways 78 = .ok (.aload_n 0, 1) := by decide +kernel
theorem d_H_ways_79 : decode c_H_ways 79 = .ok (.getfield 20, 3) := by decide +kernel
theorem d_H_ways_82 : decode c_H_ways 82 = .ok (.iload 5, 2) := by decide +kernel
theorem d_H_ways_84 : decode c_H_ways 84 = .ok (.aaload, 1) := by decide +kernel
theorem d_H_ways_85 : decode c_H_ways 85 = .ok (.bipush 20, 2) := by decide +kernel
theorem d_H_ways_87 : decode c_H_ways 87 = .ok (.invokevirtual 137, 3) := by decide +kernel
theorem d_H_ways_90 : decode c_H_ways 90 = .ok (.iadd, 1) := by decide +kernel
theorem d_H_ways_91 : decode c_H_ways 91 = .ok (.istore 4, 2) := by decide +kernel
theorem d_H_ways_93 : decode c_H_ways 93 = .ok (.iinc 5 1, 3) := by decide +kernel
theorem d_H_ways_96 : decode c_H_ways 96 = .ok (.goto (-63), 3) := by decide +kernel
theorem d_H_ways_99 : decode c_H_ways 99 = .ok (.iload 4, 2) := by decide +kernel
theorem d_H_ways_101 : decode c_H_ways 101 = .ok (.ireturn, 1) := by decide +kernel
theorem d_H_proof_0 : decode c_H_proof 0 = .ok (.aload_n 0, 1) := by decide +kernel
theorem d_H_proof_1 : decode c_H_proof 1 = .ok (.iload_n 1, 1) := by decide +kernel
theorem d_H_proof_2 : decode c_H_proof 2 = .ok (.iload_n 2, 1) := by decide +kernel
theorem d_H_proof_3 : decode c_H_proof 3 = .ok (.iload_n 3, 1) := by decide +kernel
theorem d_H_proof_4 : decode c_H_proof 4 = .ok (.invokevirtual 72, 3) := by decide +kernel
theorem d_H_proof_7 : decode c_H_proof 7 = .ok (.iload 4, 2) := by decide +kernel
theorem d_H_proof_9 : decode c_H_proof 9 = .ok (.ifCond .lt 9, 3) := by decide +kernel
theorem d_H_proof_12 : decode c_H_proof 12 = .ok (.iload 4, 2) := by decide +kernel
theorem d_H_proof_14 : decode c_H_proof 14 = .ok (.iconst 4, 1) := by decide +kernel
theorem d_H_proof_15 : decode c_H_proof 15 = .ok (.if_icmp .le 13, 3) := by decide +kernel
theorem d_H_proof_18 : decode c_H_proof 18 = .ok (.new 60, 3) := by decide +kernel
theorem d_H_proof_21 : decode c_H_proof 21 = .ok (.dup, 1) := by decide +kernel
theorem d_H_proof_22 : decode c_H_proof 22 = .ok (.ldc 141, 2) := by decide +kernel
theorem d_H_proof_24 : decode c_H_proof 24 = .ok (.invokespecial 64, 3) := by decide +kernel
theorem d_H_proof_27 : decode c_H_proof 27 = .ok (.athrow, 1) := by decide +kernel
theorem d_H_proof_28 : decode c_H_proof 28 = .ok (.aload_n 0, 1) := by decide +kernel
theorem d_H_proof_29 : decode c_H_proof 29 = .ok (.invokevirtual 118, 3) := by decide +kernel
theorem d_H_proof_32 : decode c_H_proof 32 = .ok (.aload_n 0, 1) := by decide +kernel
theorem d_H_proof_33 : decode c_H_proof 33 = .ok (.invokevirtual 121, 3) := by decide +kernel
theorem d_H_proof_36 : decode c_H_proof 36 = .ok (.aload_n 0, 1) := by decide +kernel
theorem d_H_proof_37 : decode c_H_proof 37 = .ok (.iload_n 1, 1) := by decide +kernel
theorem d_H_proof_38 : decode c_H_proof 38 = .ok (.iload_n 2, 1) := by decide +kernel
theorem d_H_proof_39 : decode c_H_proof 39 = .ok (.invokevirtual 85, 3) := by decide +kernel
theorem d_H_proof_42 : decode c_H_proof 42 = .ok (.istore 5, 2) := by decide +kernel
theorem d_H_proof_44 : decode c_H_proof 44 = .ok (.aload_n 0, 1) := by decide +kernel
theorem d_H_proof_45 : decode c_H_proof 45 = .ok (.iload_n 1, 1) := by decide +kernel
theorem d_H_proof_46 : decode c_H_proof 46 = .ok (.iload_n 3, 1) := by decide +kernel
theorem d_H_proof_47 : decode c_H_proof 47 = .ok (.invokevirtual 89, 3) := by decide +kernel
theorem d_H_proof_50 : decode c_H_proof 50 = .ok (.istore 6, 2) := by decide +kernel
theorem d_H_proof_52 : decode c_H_proof 52 = .ok (.aload_n 0, 1) := by decide +kernel
theorem d_H_proof_53 : decode c_H_proof 53 = .ok (.getfield 27, 3) := by decide +kernel
theorem d_H_proof_56 : decode c_H_proof 56 = .ok (.iload_n 1, 1) := by decide +kernel
theorem d_H_proof_57 : decode c_H_proof 57 = .ok (.iload 5, 2) := by decide +kernel
theorem d_H_proof_59 : decode c_H_proof 59 = .ok (.iload 6, 2) := by decide +kernel
theorem d_H_proof_61 : decode c_H_proof 61 = .ok (.invokestatic 124, 3) := by decide +kernel
theorem d_H_proof_64 : decode c_H_proof 64 = .ok (.iaload, 1) := by decide +kernel
theorem d_H_proof_65 : decode c_H_proof 65 = .ok (.istore 7, 2) := by decide +kernel
theorem d_H_proof_67 : decode c_H_proof 67 = .ok (.iload 7, 2) := by decide +kernel
theorem d_H_proof_69 : decode c_H_proof 69 = .ok (.iconst (-1), 1) := by decide +kernel
theorem d_H_proof_70 : decode c_H_proof 70 = .ok (.if_icmp .eq 8, 3) := by decide +kernel
theorem d_H_proof_73 : decode c_H_proof 73 = .ok (.iload 7, 2) := by decide +kernel
theorem d_H_proof_75 : decode c_H_proof 75 = .ok (.ifCond .ne 13, 3) := by decide +kernel
theorem d_H_proof_78 : decode c_H_proof 78 = .ok (.new 143, 3) := by decide +kernel
theorem d_H_proof_81 : decode c_H_proof 81 = .ok (.dup, 1) := by decide +kernel
theorem d_H_proof_82 : decode c_H_proof 82 = .ok (.ldc 145, 2) := by decide +kernel
theorem d_H_proof_84 : decode c_H_proof 84 = .ok (.invokespecial 147, 3) := by decide +kernel
theorem d_H_proof_87 : decode c_H_proof 87 = .ok (.athrow, 1) := by decide +kernel
theorem d_H_proof_88 : decode c_H_proof 88 = .ok (.aload_n 0, 1) := by decide +kernel
theorem d_H_proof_89 : decode c_H_proof 89 = .ok (.aload_n 0, 1) := by decide +kernel
theorem d_H_proof_90 : decode c_H_proof 90 = .ok (.getfield 24, 3) := by decide +kernel
theorem d_H_proof_93 : decode c_H_proof 93 = .ok (.iload_n 1, 1) := by decide +kernel
theorem d_H_proof_94 : decode c_H_proof 94 = .ok (.iaload, 1) := by decide +kernel
theorem d_H_proof_95 : decode c_H_proof 95 = .ok (.iload 7, 2) := by decide +kernel
theorem d_H_proof_97 : decode c_H_proof 97 = .ok (.invokevirtual 129, 3) := by decide +kernel
theorem d_H_proof_100 : decode c_H_proof 100 = .ok (.aload_n 0, 1) := by decide +kernel
theorem d_H_proof_101 : decode c_H_proof 101 = .ok (.iload_n 1, 1) := by decide +kernel
theorem d_H_proof_102 : decode c_H_proof 102 = .ok (.iload 5, 2) := by decide +kernel
theorem d_H_proof_104 : decode c_H_proof 104 = .ok (.iload 6, 2) := by decide +kernel
theorem d_H_proof_106 : decode c_H_proof 106 = .ok (.invokevirtual 148, 3) := by decide +kernel
theorem d_H_proof_109 : decode c_H_proof 109 = .ok (.istore 8, 2) := by decide +kernel
theorem d_H_proof_111 : decode c_H_proof 111 = .ok (.iload 4, 2) := by decide +kernel
theorem d_H_proof_113 : decode c_H_proof 113 = .ok (.ifCond .ne 8, 3) := by decide +kernel
theorem d_H_proof_116 : decode c_H_proof 116 = .ok (.iload 8, 2) := by decide +kernel
theorem d_H_proof_118 : decode c_H_proof 118 = .ok (.goto 18, 3) := by decide +kernel
theorem d_H_proof_121 : decode c_H_proof 121 = .ok (.aload_n 0, 1) := by decide +kernel
theorem d_H_proof_122 : decode c_H_proof 122 = .ok (.getfield 36, 3) := by decide +kernel
theorem d_H_proof_125 : decode c_H_proof 125 = .ok (.getfield 151, 3) := by decide +kernel
theorem d_H_proof_128 : decode c_H_proof 128 = .ok (.bipush 20, 2) := by decide +kernel
theorem d_H_proof_130 : decode c_H_proof 130 = .ok (.iload 4, 2) := by decide +kernel
theorem d_H_proof_132 : decode c_H_proof 132 = .ok (.iadd, 1) := by decide +kernel
theorem d_H_proof_133 : decode c_H_proof 133 = .ok (.iconst 1, 1) := by decide +kernel
theorem d_H_proof_134 : decode c_H_proof 134 = .ok (.isub, 1) := by decide +kernel
theorem d_H_proof_135 : decode c_H_proof 135 = .ok (.iaload, 1) := by decide +kernel
theorem d_H_proof_136 : decode c_H_proof 136 = .ok (.ireturn, 1) := by decide +kernel
theorem d_H_checkRelation_0 : decode c_H_checkRelation 0 = .ok (.iload_n 1, 1) := by decide +kernel
theorem d_H_checkRelation_1 : decode c_H_checkRelation 1 = .ok (.ifCond .lt 11, 3) := by decide +kernel
theorem d_H_checkRelation_4 : decode c_H_checkRelation 4 = .ok (.iload_n 1, 1) := by decide +kernel
theorem d_H_checkRelation_5 : decode c_H_checkRelation 5 = .ok (.aload_n 0, 1) := by decide +kernel
theorem d_H_checkRelation_6 : decode c_H_checkRelation 6 = .ok (.getfield 51, 3) := by decide +kernel
theorem d_H_checkRelation_9 : decode c_H_checkRelation 9 = .ok (.if_icmp .lt 13, 3) := by decide +kernel
theorem d_H_checkRelation_12 : decode c_H_checkRelation 12 = .ok (.new 60, 3) := by decide +kernel
theorem d_H_checkRelation_15 : decode c_H_checkRelation 15 = .ok (.dup, 1) := by decide +kernel
theorem d_H_checkRelation_16 : decode c_H_checkRelation 16 = .ok (.ldc 154, 2) := by decide +kernel
theorem d_H_checkRelation_18 : decode c_H_checkRelation 18 = .ok (.invokespecial 64, 3) := by decide +kernel
theorem d_H_checkRelation_21 : decode c_H_checkRelation 21 = .ok (.athrow, 1) := by decide +kernel
theorem d_H_checkRelation_22 : decode c_H_checkRelation 22 = .ok (.return_, 1) := by decide +kernel
theorem d_H_checkFact_0 : decode c_H_checkFact 0 = .ok (.aload_n 0, 1) := by decide +kernel
theorem d_H_checkFact_1 : decode c_H_checkFact 1 = .ok (.iload_n 1, 1) := by decide +kernel
theorem d_H_checkFact_2 : decode c_H_checkFact 2 = .ok (.invokevirtual 114, 3) := by decide +kernel
theorem d_H_checkFact_5 : decode c_H_checkFact 5 = .ok (.aload_n 0, 1) := by decide +kernel
theorem d_H_checkFact_6 : decode c_H_checkFact 6 = .ok (.iload_n 1, 1) := by decide +kernel
theorem d_H_checkFact_7 : decode c_H_checkFact 7 = .ok (.iload_n 2, 1) := by decide +kernel
theorem d_H_checkFact_8 : decode c_H_checkFact 8 = .ok (.invokevirtual 85, 3) := by decide +kernel
theorem d_H_checkFact_11 : decode c_H_checkFact 11 = .ok (.invokestatic 156, 3) := by decide +kernel
theorem d_H_checkFact_14 : decode c_H_checkFact 14 = .ok (.ifCond .eq 15, 3) := by decide +kernel
theorem d_H_checkFact_17 : decode c_H_checkFact 17 = .ok (.aload_n 0, 1) := by decide +kernel
theorem d_H_checkFact_18 : decode c_H_checkFact 18 = .ok (.iload_n 1, 1) := by decide +kernel
theorem d_H_checkFact_19 : decode c_H_checkFact 19 = .ok (.iload_n 3, 1) := by decide +kernel
theorem d_H_checkFact_20 : decode c_H_checkFact 20 = .ok (.invokevirtual 89, 3) := by decide +kernel
theorem d_H_checkFact_23 : decode c_H_checkFact 23 = .ok (.invokestatic 156, 3) := by decide +kernel
theorem d_H_checkFact_26 : decode c_H_checkFact 26 = .ok (.ifCond .ne 13, 3) := by decide +kernel
theorem d_H_checkFact_29 : decode c_H_checkFact 29 = .ok (.new 60, 3) := by decide +kernel
theorem d_H_checkFact_32 : decode c_H_checkFact 32 = .ok (.dup, 1) := by decide +kernel
theorem d_H_checkFact_33 : decode c_H_checkFact 33 = .ok (.ldc 160, 2) := by decide +kernel
theorem d_H_checkFact_35 : decode c_H_checkFact 35 = .ok (.invokespecial 64, 3) := by decide +kernel
theorem d_H_checkFact_38 : decode c_H_checkFact 38 = .ok (.athrow, 1) := by decide +kernel
theorem d_H_checkFact_39 : decode c_H_checkFact 39 = .ok (.return_, 1) := by decide +kernel
theorem d_H_checkTerms_0 : decode c_H_checkTerms 0 = .ok (.aload_n 0, 1) := by decide +kernel
theorem d_H_checkTerms_1 : decode c_H_checkTerms 1 = .ok (.iload_n 1, 1) := by decide +kernel
theorem d_H_checkTerms_2 : decode c_H_checkTerms 2 = .ok (.invokevirtual 114, 3) := by decide +kernel
theorem d_H_checkTerms_5 : decode c_H_checkTerms 5 = .ok (.aload_n 0, 1) := by decide +kernel
theorem d_H_checkTerms_6 : decode c_H_checkTerms 6 = .ok (.iload_n 1, 1) := by decide +kernel
theorem d_H_checkTerms_7 : decode c_H_checkTerms 7 = .ok (.iload_n 2, 1) := by decide +kernel
theorem d_H_checkTerms_8 : decode c_H_checkTerms 8 = .ok (.invokevirtual 85, 3) := by decide +kernel
theorem d_H_checkTerms_11 : decode c_H_checkTerms 11 = .ok (.invokestatic 162, 3) := by decide +kernel
theorem d_H_checkTerms_14 : decode c_H_checkTerms 14 = .ok (.ifCond .eq 15, 3) := by decide +kernel
theorem d_H_checkTerms_17 : decode c_H_checkTerms 17 = .ok (.aload_n 0, 1) := by decide +kernel
theorem d_H_checkTerms_18 : decode c_H_checkTerms 18 = .ok (.iload_n 1, 1) := by decide +kernel
theorem d_H_checkTerms_19 : decode c_H_checkTerms 19 = .ok (.iload_n 3, 1) := by decide +kernel
theorem d_H_checkTerms_20 : decode c_H_checkTerms 20 = .ok (.invokevirtual 89, 3) := by decide +kernel
theorem d_H_checkTerms_23 : decode c_H_checkTerms 23 = .ok (.invokestatic 162, 3) := by decide +kernel
theorem d_H_checkTerms_26 : decode c_H_checkTerms 26 = .ok (.ifCond .ne 13, 3) := by decide +kernel
theorem d_H_checkTerms_29 : decode c_H_checkTerms 29 = .ok (.new 60, 3) := by decide +kernel
theorem d_H_checkTerms_32 : decode c_H_checkTerms 32 = .ok (.dup, 1) := by decide +kernel
theorem d_H_checkTerms_33 : decode c_H_checkTerms 33 = .ok (.ldc 165, 2) := by decide +kernel
theorem d_H_checkTerms_35 : decode c_H_checkTerms 35 = .ok (.invokespecial 64, 3) := by decide +kernel
theorem d_H_checkTerms_38 : decode c_H_checkTerms 38 = .ok (.athrow, 1) := by decide +kernel
theorem d_H_checkTerms_39 : decode c_H_checkTerms 39 = .ok (.return_, 1) := by decide +kernel
theorem d_H_checkSomeRule_0 : decode c_H_checkSomeRule 0 = .ok (.aload_n 0, 1) := by decide +kernel
theorem d_H_checkSomeRule_1 : decode c_H_checkSomeRule 1 = .ok (.getfield 54, 3) := by decide +kernel
theorem d_H_checkSomeRule_4 : decode c_H_checkSomeRule 4 = .ok (.ifCond .ne 13, 3) := by decide +kernel
theorem d_H_checkSomeRule_7 : decode c_H_checkSomeRule 7 = .ok (.new 167, 3) := by decide +kernel
theorem d_H_checkSomeRule_10 : decode c_H_checkSomeRule 10 = .ok (.dup, 1) := by decide +kernel
theorem d_H_checkSomeRule_11 : decode c_H_checkSomeRule 11 = .ok (.ldc 169, 2) := by decide +kernel
theorem d_H_checkSomeRule_13 : decode c_H_checkSomeRule 13 = .ok (.invokespecial 171, 3) := by decide +kernel
theorem d_H_checkSomeRule_16 : decode c_H_checkSomeRule 16 = .ok (.athrow, 1) := by decide +kernel
theorem d_H_checkSomeRule_17 : decode c_H_checkSomeRule 17 = .ok (.return_, 1) := by decide +kernel
theorem d_H_checkNoFault_0 : decode c_H_checkNoFault 0 = .ok (.aload_n 0, 1) := by decide +kernel
theorem d_H_checkNoFault_1 : decode c_H_checkNoFault 1 = .ok (.invokevirtual 111, 3) := by decide +kernel
theorem d_H_checkNoFault_4 : decode c_H_checkNoFault 4 = .ok (.aload_n 0, 1) := by decide +kernel
theorem d_H_checkNoFault_5 : decode c_H_checkNoFault 5 = .ok (.getfield 40, 3) := by decide +kernel
theorem d_H_checkNoFault_8 : decode c_H_checkNoFault 8 = .ok (.iconst (-1), 1) := by decide +kernel
theorem d_H_checkNoFault_9 : decode c_H_checkNoFault 9 = .ok (.if_icmp .eq 13, 3) := by decide +kernel
theorem d_H_checkNoFault_12 : decode c_H_checkNoFault 12 = .ok (.new 167, 3) := by decide +kernel
theorem d_H_checkNoFault_15 : decode c_H_checkNoFault 15 = .ok (.dup, 1) := by decide +kernel
theorem d_H_checkNoFault_16 : decode c_H_checkNoFault 16 = .ok (.ldc 172, 2) := by decide +kernel
theorem d_H_checkNoFault_18 : decode c_H_checkNoFault 18 = .ok (.invokespecial 171, 3) := by decide +kernel
theorem d_H_checkNoFault_21 : decode c_H_checkNoFault 21 = .ok (.athrow, 1) := by decide +kernel
theorem d_H_checkNoFault_22 : decode c_H_checkNoFault 22 = .ok (.return_, 1) := by decide +kernel
theorem d_H_isConstant_0 : decode c_H_isConstant 0 = .ok (.iload_n 0, 1) := by decide +kernel
theorem d_H_isConstant_1 : decode c_H_isConstant 1 = .ok (.ifCond .lt 13, 3) := by decide +kernel
theorem d_H_isConstant_4 : decode c_H_isConstant 4 = .ok (.iload_n 0, 1) := by decide +kernel
theorem d_H_isConstant_5 : decode c_H_isConstant 5 = .ok (.bipush 12, 2) := by decide +kernel
theorem d_H_isConstant_7 : decode c_H_isConstant 7 = .ok (.if_icmp .ge 7, 3) := by decide +kernel
theorem d_H_isConstant_10 : decode c_H_isConstant 10 = .ok (.iconst 1, 1) := by decide +kernel
theorem d_H_isConstant_11 : decode c_H_isConstant 11 = .ok (.goto 4, 3) := by decide +kernel
theorem d_H_isConstant_14 : decode c_H_isConstant 14 = .ok (.iconst 0, 1) := by decide +kernel
theorem d_H_isConstant_15 : decode c_H_isConstant 15 = .ok (.ireturn, 1) := by decide +kernel
theorem d_H_isTerm_0 : decode c_H_isTerm 0 = .ok (.iload_n 0, 1) := by decide +kernel
theorem d_H_isTerm_1 : decode c_H_isTerm 1 = .ok (.invokestatic 156, 3) := by decide +kernel
theorem d_H_isTerm_4 : decode c_H_isTerm 4 = .ok (.ifCond .ne 15, 3) := by decide +kernel
theorem d_H_isTerm_7 : decode c_H_isTerm 7 = .ok (.iload_n 0, 1) := by decide +kernel
theorem d_H_isTerm_8 : decode c_H_isTerm 8 = .ok (.bipush 20, 2) := by decide +kernel
theorem d_H_isTerm_10 : decode c_H_isTerm 10 = .ok (.if_icmp .lt 13, 3) := by decide +kernel
theorem d_H_isTerm_13 : decode c_H_isTerm 13 = .ok (.iload_n 0, 1) := by decide +kernel
theorem d_H_isTerm_14 : decode c_H_isTerm 14 = .ok (.bipush 24, 2) := by decide +kernel
theorem d_H_isTerm_16 : decode c_H_isTerm 16 = .ok (.if_icmp .ge 7, 3) := by decide +kernel
theorem d_H_isTerm_19 : decode c_H_isTerm 19 = .ok (.iconst 1, 1) := by decide +kernel
theorem d_H_isTerm_20 : decode c_H_isTerm 20 = .ok (.goto 4, 3) := by decide +kernel
theorem d_H_isTerm_23 : decode c_H_isTerm 23 = .ok (.iconst 0, 1) := by decide +kernel
theorem d_H_isTerm_24 : decode c_H_isTerm 24 = .ok (.ireturn, 1) := by decide +kernel
theorem d_H_firstOf_0 : decode c_H_firstOf 0 = .ok (.aload_n 0, 1) := by decide +kernel
theorem d_H_firstOf_1 : decode c_H_firstOf 1 = .ok (.getfield 11, 3) := by decide +kernel
theorem d_H_firstOf_4 : decode c_H_firstOf 4 = .ok (.iload_n 1, 1) := by decide +kernel
theorem d_H_firstOf_5 : decode c_H_firstOf 5 = .ok (.iaload, 1) := by decide +kernel
theorem d_H_firstOf_6 : decode c_H_firstOf 6 = .ok (.iconst 1, 1) := by decide +kernel
theorem d_H_firstOf_7 : decode c_H_firstOf 7 = .ok (.if_icmp .lt 7, 3) := by decide +kernel
theorem d_H_firstOf_10 : decode c_H_firstOf 10 = .ok (.iload_n 2, 1) := by decide +kernel
theorem d_H_firstOf_11 : decode c_H_firstOf 11 = .ok (.goto 4, 3) := by decide +kernel
theorem d_H_firstOf_14 : decode c_H_firstOf 14 = .ok (.iconst 0, 1) := by decide +kernel
theorem d_H_firstOf_15 : decode c_H_firstOf 15 = .ok (.ireturn, 1) := by decide +kernel
theorem d_H_secondOf_0 : decode c_H_secondOf 0 = .ok (.aload_n 0, 1) := by decide +kernel
theorem d_H_secondOf_1 : decode c_H_secondOf 1 = .ok (.getfield 11, 3) := by decide +kernel
theorem d_H_secondOf_4 : decode c_H_secondOf 4 = .ok (.iload_n 1, 1) := by decide +kernel
theorem d_H_secondOf_5 : decode c_H_secondOf 5 = .ok (.iaload, 1) := by decide +kernel
theorem d_H_secondOf_6 : decode c_H_secondOf 6 = .ok (.iconst 2, 1) := by decide +kernel
theorem d_H_secondOf_7 : decode c_H_secondOf 7 = .ok (.if_icmp .lt 7, 3) := by decide +kernel
theorem d_H_secondOf_10 : decode c_H_secondOf 10 = .ok (.iload_n 2, 1) := by decide +kernel
theorem d_H_secondOf_11 : decode c_H_secondOf 11 = .ok (.goto 4, 3) := by decide +kernel
theorem d_H_secondOf_14 : decode c_H_secondOf 14 = .ok (.iconst 0, 1) := by decide +kernel
theorem d_H_secondOf_15 : decode c_H_secondOf 15 = .ok (.ireturn, 1) := by decide +kernel
theorem d_H_rowAt_0 : decode c_H_rowAt 0 = .ok (.iload_n 0, 1) := by decide +kernel
theorem d_H_rowAt_1 : decode c_H_rowAt 1 = .ok (.bipush 12, 2) := by decide +kernel
theorem d_H_rowAt_3 : decode c_H_rowAt 3 = .ok (.imul, 1) := by decide +kernel
theorem d_H_rowAt_4 : decode c_H_rowAt 4 = .ok (.iload_n 1, 1) := by decide +kernel
theorem d_H_rowAt_5 : decode c_H_rowAt 5 = .ok (.iadd, 1) := by decide +kernel
theorem d_H_rowAt_6 : decode c_H_rowAt 6 = .ok (.ireturn, 1) := by decide +kernel
theorem d_H_factAt_0 : decode c_H_factAt 0 = .ok (.iload_n 0, 1) := by decide +kernel
theorem d_H_factAt_1 : decode c_H_factAt 1 = .ok (.iload_n 1, 1) := by decide +kernel
theorem d_H_factAt_2 : decode c_H_factAt 2 = .ok (.invokestatic 174, 3) := by decide +kernel
theorem d_H_factAt_5 : decode c_H_factAt 5 = .ok (.bipush 12, 2) := by decide +kernel
theorem d_H_factAt_7 : decode c_H_factAt 7 = .ok (.imul, 1) := by decide +kernel
theorem d_H_factAt_8 : decode c_H_factAt 8 = .ok (.iload_n 2, 1) := by decide +kernel
theorem d_H_factAt_9 : decode c_H_factAt 9 = .ok (.iadd, 1) := by decide +kernel
theorem d_H_factAt_10 : decode c_H_factAt 10 = .ok (.ireturn, 1) := by decide +kernel
theorem d_H_hasBit_0 : decode c_H_hasBit 0 = .ok (.iload_n 0, 1) := by decide +kernel
theorem d_H_hasBit_1 : decode c_H_hasBit 1 = .ok (.iload_n 1, 1) := by decide +kernel
theorem d_H_hasBit_2 : decode c_H_hasBit 2 = .ok (.ishr, 1) := by decide +kernel
theorem d_H_hasBit_3 : decode c_H_hasBit 3 = .ok (.iconst 1, 1) := by decide +kernel
theorem d_H_hasBit_4 : decode c_H_hasBit 4 = .ok (.iand, 1) := by decide +kernel
theorem d_H_hasBit_5 : decode c_H_hasBit 5 = .ok (.ifCond .eq 7, 3) := by decide +kernel
theorem d_H_hasBit_8 : decode c_H_hasBit 8 = .ok (.iconst 1, 1) := by decide +kernel
theorem d_H_hasBit_9 : decode c_H_hasBit 9 = .ok (.goto 4, 3) := by decide +kernel
theorem d_H_hasBit_12 : decode c_H_hasBit 12 = .ok (.iconst 0, 1) := by decide +kernel
theorem d_H_hasBit_13 : decode c_H_hasBit 13 = .ok (.ireturn, 1) := by decide +kernel
theorem d_H_rulesChanged_0 : decode c_H_rulesChanged 0 = .ok (.aload_n 0, 1) := by decide +kernel
theorem d_H_rulesChanged_1 : decode c_H_rulesChanged 1 = .ok (.iconst 0, 1) := by decide +kernel
theorem d_H_rulesChanged_2 : decode c_H_rulesChanged 2 = .ok (.putfield 177, 3) := by decide +kernel
theorem d_H_rulesChanged_5 : decode c_H_rulesChanged 5 = .ok (.aload_n 0, 1) := by decide +kernel
theorem d_H_rulesChanged_6 : decode c_H_rulesChanged 6 = .ok (.iconst 0, 1) := by decide +kernel
theorem d_H_rulesChanged_7 : decode c_H_rulesChanged 7 = .ok (.putfield 181, 3) := by decide +kernel
theorem d_H_rulesChanged_10 : decode c_H_rulesChanged 10 = .ok (.return_, 1) := by decide +kernel
theorem d_H_setGiven_0 : decode c_H_setGiven 0 = .ok (.iload_n 1, 1) := by decide +kernel
theorem d_H_setGiven_1 : decode c_H_setGiven 1 = .ok (.aload_n 0, 1) := by decide +kernel
theorem d_H_setGiven_2 : decode c_H_setGiven 2 = .ok (.iload_n 1, 1) := by decide +kernel
theorem d_H_setGiven_3 : decode c_H_setGiven 3 = .ok (.iload_n 2, 1) := by decide +kernel
theorem d_H_setGiven_4 : decode c_H_setGiven 4 = .ok (.invokevirtual 85, 3) := by decide +kernel
theorem d_H_setGiven_7 : decode c_H_setGiven 7 = .ok (.invokestatic 174, 3) := by decide +kernel
theorem d_H_setGiven_10 : decode c_H_setGiven 10 = .ok (.istore 5, 2) := by decide +kernel
theorem d_H_setGiven_12 : decode c_H_setGiven 12 = .ok (.aload_n 0, 1) := by decide +kernel
theorem d_H_setGiven_13 : decode c_H_setGiven 13 = .ok (.iload_n 1, 1) := by decide +kernel
theorem d_H_setGiven_14 : decode c_H_setGiven 14 = .ok (.iload_n 3, 1) := by decide +kernel
theorem d_H_setGiven_15 : decode c_H_setGiven 15 = .ok (.invokevirtual 89, 3) := by decide +kernel
theorem d_H_setGiven_18 : decode c_H_setGiven 18 = .ok (.istore 6, 2) := by decide +kernel
theorem d_H_setGiven_20 : decode c_H_setGiven 20 = .ok (.aload_n 0, 1) := by decide +kernel
theorem d_H_setGiven_21 : decode c_H_setGiven 21 = .ok (.getfield 15, 3) := by decide +kernel
theorem d_H_setGiven_24 : decode c_H_setGiven 24 = .ok (.iload 5, 2) := by decide +kernel
theorem d_H_setGiven_26 : decode c_H_setGiven 26 = .ok (.iaload, 1) := by decide +kernel
theorem d_H_setGiven_27 : decode c_H_setGiven 27 = .ok (.iload 6, 2) := by decide +kernel
theorem d_H_setGiven_29 : decode c_H_setGiven 29 = .ok (.invokestatic 184, 3) := by decide +kernel
theorem d_H_setGiven_32 : decode c_H_setGiven 32 = .ok (.iload 4, 2) := by decide +kernel
theorem d_H_setGiven_34 : decode c_H_setGiven 34 = .ok (.if_icmp .ne 5, 3) := by decide +kernel
theorem d_H_setGiven_37 : decode c_H_setGiven 37 = .ok (.iconst 0, 1) := by decide +kernel
theorem d_H_setGiven_38 : decode c_H_setGiven 38 = .ok (.ireturn, 1) := by decide +kernel
theorem d_H_setGiven_39 : decode c_H_setGiven 39 = .ok (.aload_n 0, 1) := by decide +kernel
theorem d_H_setGiven_40 : decode c_H_setGiven 40 = .ok (.getfield 15, 3) := by decide +kernel
theorem d_H_setGiven_43 : decode c_H_setGiven 43 = .ok (.iload 5, 2) := by decide +kernel
theorem d_H_setGiven_45 : decode c_H_setGiven 45 = .ok (.dup2, 1) := by decide +kernel
theorem d_H_setGiven_46 : decode c_H_setGiven 46 = .ok (.iaload, 1) := by decide +kernel
theorem d_H_setGiven_47 : decode c_H_setGiven 47 = .ok (.iconst 1, 1) := by decide +kernel
theorem d_H_setGiven_48 : decode c_H_setGiven 48 = .ok (.iload 6, 2) := by decide +kernel
theorem d_H_setGiven_50 : decode c_H_setGiven 50 = .ok (.ishl, 1) := by decide +kernel
theorem d_H_setGiven_51 : decode c_H_setGiven 51 = .ok (.ixor, 1) := by decide +kernel
theorem d_H_setGiven_52 : decode c_H_setGiven 52 = .ok (.iastore, 1) := by decide +kernel
theorem d_H_setGiven_53 : decode c_H_setGiven 53 = .ok (.aload_n 0, 1) := by decide +kernel
theorem d_H_setGiven_54 : decode c_H_setGiven 54 = .ok (.iconst 0, 1) := by decide +kernel
