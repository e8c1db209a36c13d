theorem d_D_init_0 : decode c_D_init 0 = .ok (.aload_n 0, 1) := by decide +kernel
theorem d_D_init_1 : decode c_D_init 1 = .ok (.invokespecial 1, 3) := by decide +kernel
theorem d_D_init_4 : decode c_D_init 4 = .ok (.aload_n 0, 1) := by decide +kernel
theorem d_D_init_5 : decode c_D_init 5 = .ok (.bipush 8, 2) := by decide +kernel
theorem d_D_init_7 : decode c_D_init 7 = .ok (.newarray .int, 2) := by decide +kernel
theorem d_D_init_9 : decode c_D_init 9 = .ok (.putfield 7, 3) := by decide +kernel
theorem d_D_init_12 : decode c_D_init 12 = .ok (.aload_n 0, 1) := by decide +kernel
theorem d_D_init_13 : decode c_D_init 13 = .ok (.sipush 1152, 3) := by decide +kernel
theorem d_D_init_16 : decode c_D_init 16 = .ok (.newarray .boolean, 2) := by decide +kernel
theorem d_D_init_18 : decode c_D_init 18 = .ok (.putfield 13, 3) := by decide +kernel
theorem d_D_init_21 : decode c_D_init 21 = .ok (.aload_n 0, 1) := by decide +kernel
theorem d_D_init_22 : decode c_D_init 22 = .ok (.sipush 1152, 3) := by decide +kernel
theorem d_D_init_25 : decode c_D_init 25 = .ok (.newarray .int, 2) := by decide +kernel
theorem d_D_init_27 : decode c_D_init 27 = .ok (.putfield 17, 3) := by decide +kernel
theorem d_D_init_30 : decode c_D_init 30 = .ok (.aload_n 0, 1) := by decide +kernel
theorem d_D_init_31 : decode c_D_init 31 = .ok (.bipush 16, 2) := by decide +kernel
theorem d_D_init_33 : decode c_D_init 33 = .ok (.newarray .int, 2) := by decide +kernel
theorem d_D_init_35 : decode c_D_init 35 = .ok (.putfield 20, 3) := by decide +kernel
theorem d_D_init_38 : decode c_D_init 38 = .ok (.aload_n 0, 1) := by decide +kernel
theorem d_D_init_39 : decode c_D_init 39 = .ok (.bipush 80, 2) := by decide +kernel
theorem d_D_init_41 : decode c_D_init 41 = .ok (.newarray .int, 2) := by decide +kernel
theorem d_D_init_43 : decode c_D_init 43 = .ok (.putfield 23, 3) := by decide +kernel
theorem d_D_init_46 : decode c_D_init 46 = .ok (.aload_n 0, 1) := by decide +kernel
theorem d_D_init_47 : decode c_D_init 47 = .ok (.bipush 80, 2) := by decide +kernel
theorem d_D_init_49 : decode c_D_init 49 = .ok (.newarray .int, 2) := by decide +kernel
theorem d_D_init_51 : decode c_D_init 51 = .ok (.putfield 26, 3) := by decide +kernel
theorem d_D_init_54 : decode c_D_init 54 = .ok (.aload_n 0, 1) := by decide +kernel
theorem d_D_init_55 : decode c_D_init 55 = .ok (.bipush 80, 2) := by decide +kernel
theorem d_D_init_57 : decode c_D_init 57 = .ok (.newarray .int, 2) := by decide +kernel
theorem d_D_init_59 : decode c_D_init 59 = .ok (.putfield 29, 3) := by decide +kernel
theorem d_D_init_62 : decode c_D_init 62 = .ok (.aload_n 0, 1) := by decide +kernel
theorem d_D_init_63 : decode c_D_init 63 = .ok (.bipush 80, 2) := by decide +kernel
theorem d_D_init_65 : decode c_D_init 65 = .ok (.newarray .boolean, 2) := by decide +kernel
theorem d_D_init_67 : decode c_D_init 67 = .ok (.putfield 32, 3) := by decide +kernel
theorem d_D_init_70 : decode c_D_init 70 = .ok (.aload_n 0, 1) := by decide +kernel
theorem d_D_init_71 : decode c_D_init 71 = .ok (.bipush 8, 2) := by decide +kernel
theorem d_D_init_73 : decode c_D_init 73 = .ok (.newarray .int, 2) := by decide +kernel
theorem d_D_init_75 : decode c_D_init 75 = .ok (.putfield 35, 3) := by decide +kernel
theorem d_D_init_78 : decode c_D_init 78 = .ok (.aload_n 0, 1) := by decide +kernel
theorem d_D_init_79 : decode c_D_init 79 = .ok (.iconst 4, 1) := by decide +kernel
theorem d_D_init_80 : decode c_D_init 80 = .ok (.newarray .int, 2) := by decide +kernel
theorem d_D_init_82 : decode c_D_init 82 = .ok (.putfield 38, 3) := by decide +kernel
theorem d_D_init_85 : decode c_D_init 85 = .ok (.aload_n 0, 1) := by decide +kernel
theorem d_D_init_86 : decode c_D_init 86 = .ok (.sipush 1152, 3) := by decide +kernel
theorem d_D_init_89 : decode c_D_init 89 = .ok (.newarray .boolean, 2) := by decide +kernel
theorem d_D_init_91 : decode c_D_init 91 = .ok (.putfield 41, 3) := by decide +kernel
theorem d_D_init_94 : decode c_D_init 94 = .ok (.return_, 1) := by decide +kernel
theorem d_D_thrown_0 : decode c_D_thrown 0 = .ok (.aload_n 0, 1) := by decide +kernel
theorem d_D_thrown_1 : decode c_D_thrown 1 = .ok (.getfield 44, 3) := by decide +kernel
theorem d_D_thrown_4 : decode c_D_thrown 4 = .ok (.ireturn, 1) := by decide +kernel
theorem d_D_refuse_0 : decode c_D_refuse 0 = .ok (.aload_n 0, 1) := by decide +kernel
theorem d_D_refuse_1 : decode c_D_refuse 1 = .ok (.iload_n 1, 1) := by decide +kernel
theorem d_D_refuse_2 : decode c_D_refuse 2 = .ok (.ifCond .eq 7, 3) := by decide +kernel
theorem d_D_refuse_5 : decode c_D_refuse 5 = .ok (.iconst 1, 1) := by decide +kernel
theorem d_D_refuse_6 : decode c_D_refuse 6 = .ok (.goto 20, 3) := by decide +kernel
theorem d_D_refuse_9 : decode c_D_refuse 9 = .ok (.iload_n 2, 1) := by decide +kernel
theorem d_D_refuse_10 : decode c_D_refuse 10 = .ok (.ifCond .eq 7, 3) := by decide +kernel
theorem d_D_refuse_13 : decode c_D_refuse 13 = .ok (.iconst 2, 1) := by decide +kernel
theorem d_D_refuse_14 : decode c_D_refuse 14 = .ok (.goto 12, 3) := by decide +kernel
theorem d_D_refuse_17 : decode c_D_refuse 17 = .ok (.iload_n 3, 1) := by decide +kernel
theorem d_D_refuse_18 : decode c_D_refuse 18 = .ok (.ifCond .eq 7, 3) := by decide +kernel
theorem d_D_refuse_21 : decode c_D_refuse 21 = .ok (.iconst 3, 1) := by decide +kernel
theorem d_D_refuse_22 : decode c_D_refuse 22 = .ok (.goto 4, 3) := by decide +kernel
theorem d_D_refuse_25 : decode c_D_refuse 25 = .ok (.iconst 0, 1) := by decide +kernel
theorem d_D_refuse_26 : decode c_D_refuse 26 = .ok (.putfield 44, 3) := by decide +kernel
theorem d_D_refuse_29 : decode c_D_refuse 29 = .ok (.aload_n 0, 1) := by decide +kernel
theorem d_D_refuse_30 : decode c_D_refuse 30 = .ok (.getfield 44, 3) := by decide +kernel
theorem d_D_refuse_33 : decode c_D_refuse 33 = .ok (.ifCond .le 7, 3) := by decide +kernel
theorem d_D_refuse_36 : decode c_D_refuse 36 = .ok (.iconst 1, 1) := by decide +kernel
theorem d_D_refuse_37 : decode c_D_refuse 37 = .ok (.goto 4, 3) := by decide +kernel
theorem d_D_refuse_40 : decode c_D_refuse 40 = .ok (.iconst 0, 1) := by decide +kernel
theorem d_D_refuse_41 : decode c_D_refuse 41 = .ok (.ireturn, 1) := by decide +kernel
theorem d_D_in_0 : decode c_D_in 0 = .ok (.iload_n 0, 1) := by decide +kernel
theorem d_D_in_1 : decode c_D_in 1 = .ok (.iload_n 1, 1) := by decide +kernel
theorem d_D_in_2 : decode c_D_in 2 = .ok (.if_icmp .lt 12, 3) := by decide +kernel
theorem d_D_in_5 : decode c_D_in 5 = .ok (.iload_n 0, 1) := by decide +kernel
theorem d_D_in_6 : decode c_D_in 6 = .ok (.iload_n 2, 1) := by decide +kernel
theorem d_D_in_7 : decode c_D_in 7 = .ok (.if_icmp .gt 7, 3) := by decide +kernel
theorem d_D_in_10 : decode c_D_in 10 = .ok (.iconst 1, 1) := by decide +kernel
theorem d_D_in_11 : decode c_D_in 11 = .ok (.goto 4, 3) := by decide +kernel
theorem d_D_in_14 : decode c_D_in 14 = .ok (.iconst 0, 1) := by decide +kernel
theorem d_D_in_15 : decode c_D_in 15 = .ok (.ireturn, 1) := by decide +kernel
theorem d_D_clear_0 : decode c_D_clear 0 = .ok (.aload_n 0, 1) := by decide +kernel
theorem d_D_clear_1 : decode c_D_clear 1 = .ok (.iconst 0, 1) := by decide +kernel
theorem d_D_clear_2 : decode c_D_clear 2 = .ok (.putfield 44, 3) := by decide +kernel
theorem d_D_clear_5 : decode c_D_clear 5 = .ok (.aload_n 0, 1) := by decide +kernel
theorem d_D_clear_6 : decode c_D_clear 6 = .ok (.iconst 0, 1) := by decide +kernel
theorem d_D_clear_7 : decode c_D_clear 7 = .ok (.putfield 48, 3) := by decide +kernel
theorem d_D_clear_10 : decode c_D_clear 10 = .ok (.aload_n 0, 1) := by decide +kernel
theorem d_D_clear_11 : decode c_D_clear 11 = .ok (.iconst 0, 1) := by decide +kernel
theorem d_D_clear_12 : decode c_D_clear 12 = .ok (.putfield 51, 3) := by decide +kernel
theorem d_D_clear_15 : decode c_D_clear 15 = .ok (.iconst 0, 1) := by decide +kernel
theorem d_D_clear_16 : decode c_D_clear 16 = .ok (.istore_n 1, 1) := by decide +kernel
theorem d_D_clear_17 : decode c_D_clear 17 = .ok (.iload_n 1, 1) := by decide +kernel
theorem d_D_clear_18 : decode c_D_clear 18 = .ok (.sipush 1152, 3) := by decide +kernel
theorem d_D_clear_21 : decode c_D_clear 21 = .ok (.if_icmp .ge 16, 3) := by decide +kernel
theorem d_D_clear_24 : decode c_D_clear 24 = .ok (.aload_n 0, 1) := by decide +kernel
theorem d_D_clear_25 : decode c_D_clear 25 = .ok (.getfield 13, 3) := by decide +kernel
theorem d_D_clear_28 : decode c_D_clear 28 = .ok (.iload_n 1, 1) := by decide +kernel
theorem d_D_clear_29 : decode c_D_clear 29 = .ok (.iconst 0, 1) := by decide +kernel
theorem d_D_clear_30 : decode c_D_clear 30 = .ok (.bastore, 1) := by decide +kernel
theorem d_D_clear_31 : decode c_D_clear 31 = .ok (.iinc 1 1, 3) := by decide +kernel
theorem d_D_clear_34 : decode c_D_clear 34 = .ok (.goto (-17), 3) := by decide +kernel
theorem d_D_clear_37 : decode c_D_clear 37 = .ok (.aload_n 0, 1) := by decide +kernel
theorem d_D_clear_38 : decode c_D_clear 38 = .ok (.iconst 0, 1) := by decide +kernel
theorem d_D_clear_39 : decode c_D_clear 39 = .ok (.putfield 54, 3) := by decide +kernel
theorem d_D_clear_42 : decode c_D_clear 42 = .ok (.return_, 1) := by decide +kernel
theorem d_D_relation_0 : decode c_D_relation 0 = .ok (.aload_n 0, 1) := by decide +kernel
theorem d_D_relation_1 : decode c_D_relation 1 = .ok (.iload_n 1, 1) := by decide +kernel
theorem d_D_relation_2 : decode c_D_relation 2 = .ok (.iconst 0, 1) := by decide +kernel
theorem d_D_relation_3 : decode c_D_relation 3 = .ok (.iconst 2, 1) := by decide +kernel
theorem d_D_relation_4 : decode c_D_relation 4 = .ok (.invokestatic 58, 3) := by decide +kernel
theorem d_D_relation_7 : decode c_D_relation 7 = .ok (.ifCond .ne 7, 3) := by decide +kernel
theorem d_D_relation_10 : decode c_D_relation 10 = .ok (.iconst 1, 1) := by decide +kernel
theorem d_D_relation_11 : decode c_D_relation 11 = .ok (.goto 4, 3) := by decide +kernel
theorem d_D_relation_14 : decode c_D_relation 14 = .ok (.iconst 0, 1) := by decide +kernel
theorem d_D_relation_15 : decode c_D_relation 15 = .ok (.aload_n 0, 1) := by decide +kernel
theorem d_D_relation_16 : decode c_D_relation 16 = .ok (.getfield 48, 3) := by decide +kernel
theorem d_D_relation_19 : decode c_D_relation 19 = .ok (.bipush 8, 2) := by decide +kernel
theorem d_D_relation_21 : decode c_D_relation 21 = .ok (.if_icmp .ne 7, 3) := by decide +kernel
theorem d_D_relation_24 : decode c_D_relation 24 = .ok (.iconst 1, 1) := by decide +kernel
theorem d_D_relation_25 : decode c_D_relation 25 = .ok (.goto 4, 3) := by decide +kernel
theorem d_D_relation_28 : decode c_D_relation 28 = .ok (.iconst 0, 1) := by decide +kernel
theorem d_D_relation_29 : decode c_D_relation 29 = .ok (.iconst 0, 1) := by decide +kernel
theorem d_D_relation_30 : decode c_D_relation 30 = .ok (.invokevirtual 62, 3) := by decide +kernel
theorem d_D_relation_33 : decode c_D_relation 33 = .ok (.ifCond .eq 5, 3) := by decide +kernel
theorem d_D_relation_36 : decode c_D_relation 36 = .ok (.iconst 0, 1) := by decide +kernel
theorem d_D_relation_37 : decode c_D_relation 37 = .ok (.ireturn, 1) := by decide +kernel
theorem d_D_relation_38 : decode c_D_relation 38 = .ok (.aload_n 0, 1) := by decide +kernel
theorem d_D_relation_39 : decode c_D_relation 39 = .ok (.getfield 7, 3) := by decide +kernel
theorem d_D_relation_42 : decode c_D_relation 42 = .ok (.aload_n 0, 1) := by decide +kernel
theorem d_D_relation_43 : decode c_D_relation 43 = .ok (.getfield 48, 3) := by decide +kernel
theorem d_D_relation_46 : decode c_D_relation 46 = .ok (.iload_n 1, 1) := by decide +kernel
theorem d_D_relation_47 : decode c_D_relation 47 = .ok (.iastore, 1) := by decide +kernel
theorem d_D_relation_48 : decode c_D_relation 48 = .ok (.aload_n 0, 1) := by decide +kernel
theorem d_D_relation_49 : decode c_D_relation 49 = .ok (.dup, 1) := by decide +kernel
theorem d_D_relation_50 : decode c_D_relation 50 = .ok (.getfield 48, 3) := by decide +kernel
theorem d_D_relation_53 : decode c_D_relation 53 = .ok (.iconst 1, 1) := by decide +kernel
theorem d_D_relation_54 : decode c_D_relation 54 = .ok (.iadd, 1) := by decide +kernel
theorem d_D_relation_55 : decode c_D_relation 55 = .ok (.putfield 48, 3) := by decide +kernel
theorem d_D_relation_58 : decode c_D_relation 58 = .ok (.aload_n 0, 1) := by decide +kernel
theorem d_D_relation_59 : decode c_D_relation 59 = .ok (.iconst 0, 1) := by decide +kernel
theorem d_D_relation_60 : decode c_D_relation 60 = .ok (.putfield 54, 3) := by decide +kernel
theorem d_D_relation_63 : decode c_D_relation 63 = .ok (.aload_n 0, 1) := by decide +kernel
theorem d_D_relation_64 : decode c_D_relation 64 = .ok (.getfield 48, 3) := by decide +kernel
theorem d_D_relation_67 : decode c_D_relation 67 = .ok (.iconst 1, 1) := by decide +kernel
theorem d_D_relation_68 : decode c_D_relation 68 = .ok (.isub, 1) := by decide +kernel
theorem d_D_relation_69 : decode c_D_relation 69 = .ok (.ireturn, 1) := by decide +kernel
theorem d_D_isFact_0 : decode c_D_isFact 0 = .ok (.iload_n 1, 1) := by decide +kernel
theorem d_D_isFact_1 : decode c_D_isFact 1 = .ok (.iconst 0, 1) := by decide +kernel
theorem d_D_isFact_2 : decode c_D_isFact 2 = .ok (.aload_n 0, 1) := by decide +kernel
theorem d_D_isFact_3 : decode c_D_isFact 3 = .ok (.getfield 48, 3) := by decide +kernel
theorem d_D_isFact_6 : decode c_D_isFact 6 = .ok (.iconst 1, 1) := by decide +kernel
theorem d_D_isFact_7 : decode c_D_isFact 7 = .ok (.isub, 1) := by decide +kernel
theorem d_D_isFact_8 : decode c_D_isFact 8 = .ok (.invokestatic 58, 3) := by decide +kernel
theorem d_D_isFact_11 : decode c_D_isFact 11 = .ok (.ifCond .ne 5, 3) := by decide +kernel
theorem d_D_isFact_14 : decode c_D_isFact 14 = .ok (.iconst 0, 1) := by decide +kernel
theorem d_D_isFact_15 : decode c_D_isFact 15 = .ok (.ireturn, 1) := by decide +kernel
theorem d_D_isFact_16 : decode c_D_isFact 16 = .ok (.aload_n 0, 1) := by decide +kernel
theorem d_D_isFact_17 : decode c_D_isFact 17 = .ok (.getfield 7, 3) := by decide +kernel
theorem d_D_isFact_20 : decode c_D_isFact 20 = .ok (.iload_n 1, 1) := by decide +kernel
theorem d_D_isFact_21 : decode c_D_isFact 21 = .ok (.iaload, 1) := by decide +kernel
theorem d_D_isFact_22 : decode c_D_isFact 22 = .ok (.iconst 1, 1) := by decide +kernel
theorem d_D_isFact_23 : decode c_D_isFact 23 = .ok (.if_icmp .lt 13, 3) := by decide +kernel
theorem d_D_isFact_26 : decode c_D_isFact 26 = .ok (.iload_n 2, 1) := by decide +kernel
theorem d_D_isFact_27 : decode c_D_isFact 27 = .ok (.iconst 0, 1) := by decide +kernel
theorem d_D_isFact_28 : decode c_D_isFact 28 = .ok (.bipush 11, 2) := by decide +kernel
theorem d_D_isFact_30 : decode c_D_isFact 30 = .ok (.invokestatic 58, 3) := by decide +kernel
theorem d_D_isFact_33 : decode c_D_isFact 33 = .ok (.ifCond .eq 27, 3) := by decide +kernel
theorem d_D_isFact_36 : decode c_D_isFact 36 = .ok (.aload_n 0, 1) := by decide +kernel
theorem d_D_isFact_37 : decode c_D_isFact 37 = .ok (.getfield 7, 3) := by decide +kernel
theorem d_D_isFact_40 : decode c_D_isFact 40 = .ok (.iload_n 1, 1) := by decide +kernel
theorem d_D_isFact_41 : decode c_D_isFact 41 = .ok (.iaload, 1) := by decide +kernel
theorem d_D_isFact_42 : decode c_D_isFact 42 = .ok (.iconst 2, 1) := by decide +kernel
theorem d_D_isFact_43 : decode c_D_isFact 43 = .ok (.if_icmp .lt 13, 3) := by decide +kernel
theorem d_D_isFact_46 : decode c_D_isFact 46 = .ok (.iload_n 3, 1) := by decide +kernel
theorem d_D_isFact_47 : decode c_D_isFact 47 = .ok (.iconst 0, 1) := by decide +kernel
theorem d_D_isFact_48 : decode c_D_isFact 48 = .ok (.bipush 11, 2) := by decide +kernel
theorem d_D_isFact_50 : decode c_D_isFact 50 = .ok (.invokestatic 58, 3) := by decide +kernel
theorem d_D_isFact_53 : decode c_D_isFact 53 = .ok (.ifCond .eq 7, 3) := by decide +kernel
theorem d_D_isFact_56 : decode c_D_isFact 56 = .ok (.iconst 1, 1) := by decide +kernel
theorem d_D_isFact_57 : decode c_D_isFact 57 = .ok (.goto 4, 3) := by decide +kernel
theorem d_D_isFact_60 : decode c_D_isFact 60 = .ok (.iconst 0, 1) := by decide +kernel
theorem d_D_isFact_61 : decode c_D_isFact 61 = .ok (.ireturn, 1) := by decide +kernel
theorem d_D_factAt_0 : decode c_D_factAt 0 = .ok (.sipush 144, 3) := by decide +kernel
theorem d_D_factAt_3 : decode c_D_factAt 3 = .ok (.iload_n 1, 1) := by decide +kernel
theorem d_D_factAt_4 : decode c_D_factAt 4 = .ok (.imul, 1) := by decide +kernel
theorem d_D_factAt_5 : decode c_D_factAt 5 = .ok (.bipush 12, 2) := by decide +kernel
theorem d_D_factAt_7 : decode c_D_factAt 7 = .ok (.aload_n 0, 1) := by decide +kernel
theorem d_D_factAt_8 : decode c_D_factAt 8 = .ok (.getfield 7, 3) := by decide +kernel
theorem d_D_factAt_11 : decode c_D_factAt 11 = .ok (.iload_n 1, 1) := by decide +kernel
theorem d_D_factAt_12 : decode c_D_factAt 12 = .ok (.iaload, 1) := by decide +kernel
theorem d_D_factAt_13 : decode c_D_factAt 13 = .ok (.ifCond .le 7, 3) := by decide +kernel
theorem d_D_factAt_16 : decode c_D_factAt 16 = .ok (.iload_n 2, 1) := by decide +kernel
theorem d_D_factAt_17 : decode c_D_factAt 17 = .ok (.goto 4, 3) := by decide +kernel
theorem d_D_factAt_20 : decode c_D_factAt 20 = .ok (.iconst 0, 1) := by decide +kernel
theorem d_D_factAt_21 : decode c_D_factAt 21 = .ok (.imul, 1) := by decide +kernel
theorem d_D_factAt_22 : decode c_D_factAt 22 = .ok (.iadd, 1) := by decide +kernel
theorem d_D_factAt_23 : decode c_D_factAt 23 = .ok (.aload_n 0, 1) := by decide +kernel
theorem d_D_factAt_24 : decode c_D_factAt 24 = .ok (.getfield 7, 3) := by decide +kernel
theorem d_D_factAt_27 : decode c_D_factAt 27 = .ok (.iload_n 1, 1) := by decide +kernel
theorem d_D_factAt_28 : decode c_D_factAt 28 = .ok (.iaload, 1) := by decide +kernel
theorem d_D_factAt_29 : decode c_D_factAt 29 = .ok (.iconst 1, 1) := by decide +kernel
theorem d_D_factAt_30 : decode c_D_factAt 30 = .ok (.if_icmp .le 7, 3) := by decide +kernel
theorem d_D_factAt_33 : decode c_D_factAt 33 = .ok (.iload_n 3, 1) := by decide +kernel
theorem d_D_factAt_34 : decode c_D_factAt 34 = .ok (.goto 4, 3) := by decide +kernel
theorem d_D_factAt_37 : decode c_D_factAt 37 = .ok (.iconst 0, 1) := by decide +kernel
theorem d_D_factAt_38 : decode c_D_factAt 38 = .ok (.iadd, 1) := by decide +kernel
theorem d_D_factAt_39 : decode c_D_factAt 39 = .ok (.ireturn, 1) := by decide +kernel
theorem d_D_give_0 : decode c_D_give 0 = .ok (.aload_n 0, 1) := by decide +kernel
theorem d_D_give_1 : decode c_D_give 1 = .ok (.aload_n 0, 1) := by decide +kernel
theorem d_D_give_2 : decode c_D_give 2 = .ok (.iload_n 1, 1) := by decide +kernel
theorem d_D_give_3 : decode c_D_give 3 = .ok (.iload_n 2, 1) := by decide +kernel
theorem d_D_give_4 : decode c_D_give 4 = .ok (.iload_n 3, 1) := by decide +kernel
theorem d_D_give_5 : decode c_D_give 5 = .ok (.invokevirtual 66, 3) := by decide +kernel
theorem d_D_give_8 : decode c_D_give 8 = .ok (.ifCond .ne 7, 3) := by decide +kernel
theorem d_D_give_11 : decode c_D_give 11 = .ok (.iconst 1, 1) := by decide +kernel
theorem d_D_give_12 : decode c_D_give 12 = .ok (.goto 4, 3) := by decide +kernel
theorem d_D_give_15 : decode c_D_give 15 = .ok (.iconst 0, 1) := by decide +kernel
theorem d_D_give_16 : decode c_D_give 16 = .ok (.iconst 0, 1) := by decide +kernel
theorem d_D_give_17 : decode c_D_give 17 = .ok (.iconst 0, 1) := by decide +kernel
theorem d_D_give_18 : decode c_D_give 18 = .ok (.invokevirtual 62, 3) := by decide +kernel
theorem d_D_give_21 : decode c_D_give 21 = .ok (.ifCond .eq 5, 3) := by decide +kernel
theorem d_D_give_24 : decode c_D_give 24 = .ok (.iconst 0, 1) := by decide +kernel
theorem d_D_give_25 : decode c_D_give 25 = .ok (.ireturn, 1) := by decide +kernel
theorem d_D_give_26 : decode c_D_give 26 = .ok (.aload_n 0, 1) := by decide +kernel
theorem d_D_give_27 : decode c_D_give 27 = .ok (.getfield 13, 3) := by decide +kernel
theorem d_D_give_30 : decode c_D_give 30 = .ok (.aload_n 0, 1) := by decide +kernel
theorem d_D_give_31 : decode c_D_give 31 = .ok (.iload_n 1, 1) := by decide +kernel
theorem d_D_give_32 : decode c_D_give 32 = .ok (.iload_n 2, 1) := by decide +kernel
theorem d_D_give_33 : decode c_D_give 33 = .ok (.iload_n 3, 1) := by decide +kernel
theorem d_D_give_34 : decode c_D_give 34 = .ok (.invokevirtual 69, 3) := by decide +kernel
theorem d_D_give_37 : decode c_D_give 37 = .ok (.baload, 1) := by decide +kernel
theorem d_D_give_38 : decode c_D_give 38 = .ok (.istore 4, 2) := by decide +kernel
theorem d_D_give_40 : decode c_D_give 40 = .ok (.aload_n 0, 1) := by decide +kernel
theorem d_D_give_41 : decode c_D_give 41 = .ok (.getfield 13, 3) := by decide +kernel
theorem d_D_give_44 : decode c_D_give 44 = .ok (.aload_n 0, 1) := by decide +kernel
theorem d_D_give_45 : decode c_D_give 45 = .ok (.iload_n 1, 1) := by decide +kernel
theorem d_D_give_46 : decode c_D_give 46 = .ok (.iload_n 2, 1) := by decide +kernel
theorem d_D_give_47 : decode c_D_give 47 = .ok (.iload_n 3, 1) := by decide +kernel
theorem d_D_give_48 : decode c_D_give 48 = .ok (.invokevirtual 69, 3) := by decide +kernel
theorem d_D_give_51 : decode c_D_give 51 = .ok (.iconst 1, 1) := by decide +kernel
theorem d_D_give_52 : decode c_D_give 52 = .ok (.bastore, 1) := by decide +kernel
theorem d_D_give_53 : decode c_D_give 53 = .ok (.aload_n 0, 1) := by decide +kernel
theorem d_D_give_54 : decode c_D_give 54 = .ok (.iconst 0, 1) := by decide +kernel
theorem d_D_give_55 : decode c_D_give 55 = .ok (.putfield 54, 3) := by decide +kernel
theorem d_D_give_58 : decode c_D_give 58 = .ok (.iload 4, 2) := by decide +kernel
theorem d_D_give_60 : decode c_D_give 60 = .ok (.ifCond .ne 7, 3) := by decide +kernel
theorem d_D_give_63 : decode c_D_give 63 = .ok (.iconst 1, 1) := by decide +kernel
theorem d_D_give_64 : decode c_D_give 64 = .ok (.goto 4, 3) := by decide +kernel
theorem d_D_give_67 : decode c_D_give 67 = .ok (.iconst 0, 1) := by decide +kernel
theorem d_D_give_68 : decode c_D_give 68 = .ok (.ireturn, 1) := by decide +kernel
theorem d_D_take_0 : decode c_D_take 0 = .ok (.aload_n 0, 1) := by decide +kernel
theorem d_D_take_1 : decode c_D_take 1 = .ok (.aload_n 0, 1) := by decide +kernel
theorem d_D_take_2 : decode c_D_take 2 = .ok (.iload_n 1, 1) := by decide +kernel
theorem d_D_take_3 : decode c_D_take 3 = .ok (.iload_n 2, 1) := by decide +kernel
theorem d_D_take_4 : decode c_D_take 4 = .ok (.iload_n 3, 1) := by decide +kernel
theorem d_D_take_5 : decode c_D_take 5 = .ok (.invokevirtual 66, 3) := by decide +kernel
theorem d_D_take_8 : decode c_D_take 8 = .ok (.ifCond .ne 7, 3) := by decide +kernel
theorem d_D_take_11 : decode c_D_take 11 = .ok (.iconst 1, 1) := by decide +kernel
theorem d_D_take_12 : decode c_D_take 12 = .ok (.goto 4, 3) := by decide +kernel
theorem d_D_take_15 : decode c_D_take 15 = .ok (.iconst 0, 1) := by decide +kernel
theorem d_D_take_16 : decode c_D_take 16 = .ok (.iconst 0, 1) := by decide +kernel
theorem d_D_take_17 : decode c_D_take 17 = .ok (.iconst 0, 1) := by decide +kernel
theorem d_D_take_18 : decode c_D_take 18 = .ok (.invokevirtual 62, 3) := by decide +kernel
theorem d_D_take_21 : decode c_D_take 21 = .ok (.ifCond .eq 5, 3) := by decide +kernel
theorem d_D_take_24 : decode c_D_take 24 = .ok (.iconst 0, 1) := by decide +kernel
theorem d_D_take_25 : decode c_D_take 25 = .ok (.ireturn, 1) := by decide +kernel
theorem d_D_take_26 : decode c_D_take 26 = .ok (.aload_n 0, 1) := by decide +kernel
theorem d_D_take_27 : decode c_D_take 27 = .ok (.getfield 13, 3) := by decide +kernel
theorem d_D_take_30 : decode c_D_take 30 = .ok (.aload_n 0, 1) := by decide +kernel
theorem d_D_take_31 : decode c_D_take 31 = .ok (.iload_n 1, 1) := by decide +kernel
theorem d_D_take_32 : decode c_D_take 32 = .ok (.iload_n 2, 1) := by decide +kernel
theorem d_D_take_33 : decode c_D_take 33 = .ok (.iload_n 3, 1) := by decide +kernel
theorem d_D_take_34 : decode c_D_take 34 = .ok (.invokevirtual 69, 3) := by decide +kernel
theorem d_D_take_37 : decode c_D_take 37 = .ok (.baload, 1) := by decide +kernel
theorem d_D_take_38 : decode c_D_take 38 = .ok (.istore 4, 2) := by decide +kernel
theorem d_D_take_40 : decode c_D_take 40 = .ok (.aload_n 0, 1) := by decide +kernel
theorem d_D_take_41 : decode c_D_take 41 = .ok (.getfield 13, 3) := by decide +kernel
theorem d_D_take_44 : decode c_D_take 44 = .ok (.aload_n 0, 1) := by decide +kernel
theorem d_D_take_45 : decode c_D_take 45 = .ok (.iload_n 1, 1) := by decide +kernel
theorem d_D_take_46 : decode c_D_take 46 = .ok (.iload_n 2, 1) := by decide +kernel
theorem d_D_take_47 : decode c_D_take 47 = .ok (.iload_n 3, 1) := by decide +kernel
theorem d_D_take_48 : decode c_D_take 48 = .ok (.invokevirtual 69, 3) := by decide +kernel
theorem d_D_take_51 : decode c_D_take 51 = .ok (.iconst 0, 1) := by decide +kernel
theorem d_D_take_52 : decode c_D_take 52 = .ok (.bastore, 1) := by decide +kernel
theorem d_D_take_53 : decode c_D_take 53 = .ok (.aload_n 0, 1) := by decide +kernel
theorem d_D_take_54 : decode c_D_take 54 = .ok (.iconst 0, 1) := by decide +kernel
theorem d_D_take_55 : decode c_D_take 55 = .ok (.putfield 54, 3) := by decide +kernel
theorem d_D_take_58 : decode c_D_take 58 = .ok (.iload 4, 2) := by decide +kernel
theorem d_D_take_60 : decode c_D_take 60 = .ok (.ireturn, 1) := by decide +kernel
theorem d_D_isTerm_0 : decode c_D_isTerm 0 = .ok (.iload_n 0, 1) := by decide +kernel
theorem d_D_isTerm_1 : decode c_D_isTerm 1 = .ok (.iconst 0, 1) := by decide +kernel
theorem d_D_isTerm_2 : decode c_D_isTerm 2 = .ok (.bipush 11, 2) := by decide +kernel
theorem d_D_isTerm_4 : decode c_D_isTerm 4 = .ok (.invokestatic 58, 3) := by decide +kernel
theorem d_D_isTerm_7 : decode c_D_isTerm 7 = .ok (.ifCond .ne 14, 3) := by decide +kernel
theorem d_D_isTerm_10 : decode c_D_isTerm 10 = .ok (.iload_n 0, 1) := by decide +kernel
theorem d_D_isTerm_11 : decode c_D_isTerm 11 = .ok (.bipush 20, 2) := by decide +kernel
theorem d_D_isTerm_13 : decode c_D_isTerm 13 = .ok (.bipush 23, 2) := by decide +kernel
theorem d_D_isTerm_15 : decode c_D_isTerm 15 = .ok (.invokestatic 58, 3) := by decide +kernel
theorem d_D_isTerm_18 : decode c_D_isTerm 18 = .ok (.ifCond .eq 7, 3) := by decide +kernel
theorem d_D_isTerm_21 : decode c_D_isTerm 21 = .ok (.iconst 1, 1) := by decide +kernel
theorem d_D_isTerm_22 : decode c_D_isTerm 22 = .ok (.goto 4, 3) := by decide +kernel
theorem d_D_isTerm_25 : decode c_D_isTerm 25 = .ok (.iconst 0, 1) := by decide +kernel
theorem d_D_isTerm_26 : decode c_D_isTerm 26 = .ok (.ireturn, 1) := by decide +kernel
theorem d_D_areTerms_0 : decode c_D_areTerms 0 = .ok (.iload_n 1, 1) := by decide +kernel
theorem d_D_areTerms_1 : decode c_D_areTerms 1 = .ok (.iconst 0, 1) := by decide +kernel
theorem d_D_areTerms_2 : decode c_D_areTerms 2 = .ok (.aload_n 0, 1) := by decide +kernel
theorem d_D_areTerms_3 : decode c_D_areTerms 3 = .ok (.getfield 48, 3) := by decide +kernel
theorem d_D_areTerms_6 : decode c_D_areTerms 6 = .ok (.iconst 1, 1) := by decide +kernel
theorem d_D_areTerms_7 : decode c_D_areTerms 7 = .ok (.isub, 1) := by decide +kernel
theorem d_D_areTerms_8 : decode c_D_areTerms 8 = .ok (.invokestatic 58, 3) := by decide +kernel
theorem d_D_areTerms_11 : decode c_D_areTerms 11 = .ok (.ifCond .eq 77, 3) := by decide +kernel
theorem d_D_areTerms_14 : decode c_D_areTerms 14 = .ok (.aload_n 0, 1) := by decide +kernel
theorem d_D_areTerms_15 : decode c_D_areTerms 15 = .ok (.getfield 7, 3) := by decide +kernel
theorem d_D_areTerms_18 : decode c_D_areTerms 18 = .ok (.iload_n 1, 1) := by decide +kernel
theorem d_D_areTerms_19 : decode c_D_areTerms 19 = .ok (.iconst 0, 1) := by decide +kernel
theorem d_D_areTerms_20 : decode c_D_areTerms 20 = .ok (.aload_n 0, 1) := by decide +kernel
theorem d_D_areTerms_21 : decode c_D_areTerms 21 = .ok (.getfield 48, 3) := by decide +kernel
theorem d_D_areTerms_24 : decode c_D_areTerms 24 = .ok (.iconst 1, 1) := by decide +kernel
theorem d_D_areTerms_25 : decode c_D_areTerms 25 = .ok (.isub, 1) := by decide +kernel
theorem d_D_areTerms_26 : decode c_D_areTerms 26 = .ok (.invokestatic 58, 3) := by decide +kernel
theorem d_D_areTerms_29 : decode c_D_areTerms 29 = .ok (.ifCond .eq 7, 3) := by decide +kernel
theorem d_D_areTerms_32 : decode c_D_areTerms 32 = .ok (.iload_n 1, 1) := by decide +kernel
theorem d_D_areTerms_33 : decode c_D_areTerms 33 = .ok (.goto 4, 3) := by decide +kernel
theorem d_D_areTerms_36 : decode c_D_areTerms 36 = .ok (.iconst 0, 1) := by decide +kernel
theorem d_D_areTerms_37 : decode c_D_areTerms 37 = .ok (.iaload, 1) := by decide +kernel
theorem d_D_areTerms_38 : decode c_D_areTerms 38 = .ok (.iconst 1, 1) := by decide +kernel
theorem d_D_areTerms_39 : decode c_D_areTerms 39 = .ok (.if_icmp .lt 10, 3) := by decide +kernel
theorem d_D_areTerms_42 : decode c_D_areTerms 42 = .ok (.iload_n 2, 1) := by decide +kernel
theorem d_D_areTerms_43 : decode c_D_areTerms 43 = .ok (.invokestatic 73, 3) := by decide +kernel
theorem d_D_areTerms_46 : decode c_D_areTerms 46 = .ok (.ifCond .eq 42, 3) := by decide +kernel
theorem d_D_areTerms_49 : decode c_D_areTerms 49 = .ok (.aload_n 0, 1) := by decide +kernel
theorem d_D_areTerms_50 : decode c_D_areTerms 50 = .ok (.getfield 7, 3) := by decide +kernel
theorem d_D_areTerms_53 : decode c_D_areTerms 53 = .ok (.iload_n 1, 1) := by decide +kernel
theorem d_D_areTerms_54 : decode c_D_areTerms 54 = .ok (.iconst 0, 1) := by decide +kernel
theorem d_D_areTerms_55 : decode c_D_areTerms 55 = .ok (.aload_n 0, 1) := by decide +kernel
theorem d_D_areTerms_56 : decode c_D_areTerms 56 = .ok (.getfield 48, 3) := by decide +kernel
theorem d_D_areTerms_59 : decode c_D_areTerms 59 = .ok (.iconst 1, 1) := by decide +kernel
theorem d_D_areTerms_60 : decode c_D_areTerms 60 = .ok (.isub, 1) := by decide +kernel
theorem d_D_areTerms_61 : decode c_D_areTerms 61 = .ok (.invokestatic 58, 3) := by decide +kernel
theorem d_D_areTerms_64 : decode c_D_areTerms 64 = .ok (.ifCond .eq 7, 3) := by decide +kernel
theorem d_D_areTerms_67 : decode c_D_areTerms 67 = .ok (.iload_n 1, 1) := by decide +kernel
theorem d_D_areTerms_68 : decode c_D_areTerms 68 = .ok (.goto 4, 3) := by decide +kernel
theorem d_D_areTerms_71 : decode c_D_areTerms 71 = .ok (.iconst 0, 1) := by decide +kernel
theorem d_D_areTerms_72 : decode c_D_areTerms 72 = .ok (.iaload, 1) := by decide +kernel
theorem d_D_areTerms_73 : decode c_D_areTerms 73 = .ok (.iconst 2, 1) := by decide +kernel
theorem d_D_areTerms_74 : decode c_D_areTerms 74 = .ok (.if_icmp .lt 10, 3) := by decide +kernel
theorem d_D_areTerms_77 : decode c_D_areTerms 77 = .ok (.iload_n 3, 1) := by decide +kernel
theorem d_D_areTerms_78 : decode c_D_areTerms 78 = .ok (.invokestatic 73, 3) := by decide +kernel
theorem d_D_areTerms_81 : decode c_D_areTerms 81 = .ok (.ifCond .eq 7, 3) := by decide +kernel
theorem d_D_areTerms_84 : decode c_D_areTerms 84 = .ok (.iconst 1, 1) := by decide +kernel
theorem d_D_areTerms_85 : decode c_D_areTerms 85 = .ok (.goto 4, 3) := by decide +kernel
theorem d_D_areTerms_88 : decode c_D_areTerms 88 = .ok (.iconst 0, 1) := by decide +kernel
theorem d_D_areTerms_89 : decode c_D_areTerms 89 = .ok (.ireturn, 1) := by decide +kernel
theorem d_D_put_0 : decode c_D_put 0 = .ok (.aload_n 0, 1) := by decide +kernel
theorem d_D_put_1 : decode c_D_put 1 = .ok (.getfield 23, 3) := by decide +kernel
theorem d_D_put_4 : decode c_D_put 4 = .ok (.iload_n 1, 1) := by decide +kernel
theorem d_D_put_5 : decode c_D_put 5 = .ok (.iload_n 2, 1) := by decide +kernel
theorem d_D_put_6 : decode c_D_put 6 = .ok (.iastore, 1) := by decide +kernel
theorem d_D_put_7 : decode c_D_put 7 = .ok (.aload_n 0, 1) := by decide +kernel
theorem d_D_put_8 : decode c_D_put 8 = .ok (.getfield 26, 3) := by decide +kernel
theorem d_D_put_11 : decode c_D_put 11 = .ok (.iload_n 1, 1) := by decide +kernel
theorem d_D_put_12 : decode c_D_put 12 = .ok (.aload_n 0, 1) := by decide +kernel
theorem d_D_put_13 : decode c_D_put 13 = .ok (.getfield 7, 3) := by decide +kernel
theorem d_D_put_16 : decode c_D_put 16 = .ok (.iload_n 2, 1) := by decide +kernel
theorem d_D_put_17 : decode c_D_put 17 = .ok (.iaload, 1) := by decide +kernel
theorem d_D_put_18 : decode c_D_put 18 = .ok (.ifCond .le 7, 3) := by decide +kernel
theorem d_D_put_21 : decode c_D_put 21 = .ok (.iload_n 3, 1) := by decide +kernel
theorem d_D_put_22 : decode c_D_put 22 = .ok (.goto 4, 3) := by decide +kernel
theorem d_D_put_25 : decode c_D_put 25 = .ok (.iconst 0, 1) := by decide +kernel
theorem d_D_put_26 : decode c_D_put 26 = .ok (.iastore, 1) := by decide +kernel
theorem d_D_put_27 : decode c_D_put 27 = .ok (.aload_n 0, 1) := by decide +kernel
theorem d_D_put_28 : decode c_D_put 28 = .ok (.getfield 29, 3) := by decide +kernel
theorem d_D_put_31 : decode c_D_put 31 = .ok (.iload_n 1, 1) := by decide +kernel
theorem d_D_put_32 : decode c_D_put 32 = .ok (.aload_n 0, 1) := by decide +kernel
theorem d_D_put_33 : decode c_D_put 33 = .ok (.getfield 7, 3) := by decide +kernel
theorem d_D_put_36 : decode c_D_put 36 = .ok (.iload_n 2, 1) := by decide +kernel
theorem d_D_put_37 : decode c_D_put 37 = .ok (.iaload, 1) := by decide +kernel
theorem d_D_put_38 : decode c_D_put 38 = .ok (.iconst 1, 1) := by decide +kernel
theorem d_D_put_39 : decode c_D_put 39 = .ok (.if_icmp .le 8, 3) := by decide +kernel
theorem d_D_put_42 : decode c_D_put 42 = .ok (.iload 4, 2) := by decide +kernel
theorem d_D_put_44 : decode c_D_put 44 = .ok (.goto 4, 3) := by decide +kernel
theorem d_D_put_47 : decode c_D_put 47 = .ok (.iconst 0, 1) := by decide +kernel
theorem d_D_put_48 : decode c_D_put 48 = .ok (.iastore, 1) := by decide +kernel
theorem d_D_put_49 : decode c_D_put 49 = .ok (.aload_n 0, 1) := by decide +kernel
theorem d_D_put_50 : decode c_D_put 50 = .ok (.getfield 32, 3) := by decide +kernel
theorem d_D_put_53 : decode c_D_put 53 = .ok (.iload_n 1, 1) := by decide +kernel
theorem d_D_put_54 : decode c_D_put 54 = .ok (.iload 5, 2) := by decide +kernel
theorem d_D_put_56 : decode c_D_put 56 = .ok (.bastore, 1) := by decide +kernel
theorem d_D_put_57 : decode c_D_put 57 = .ok (.return_, 1) := by decide +kernel
theorem d_D_rule_0 : decode c_D_rule 0 = .ok (.aload_n 0, 1) := by decide +kernel
theorem d_D_rule_1 : decode c_D_rule 1 = .ok (.aload_n 0, 1) := by decide +kernel
theorem d_D_rule_2 : decode c_D_rule 2 = .ok (.iload_n 1, 1) := by decide +kernel
theorem d_D_rule_3 : decode c_D_rule 3 = .ok (.iload_n 2, 1) := by decide +kernel
theorem d_D_rule_4 : decode c_D_rule 4 = .ok (.iload_n 3, 1) := by decide +kernel
theorem d_D_rule_5 : decode c_D_rule 5 = .ok (.invokevirtual 77, 3) := by decide +kernel
theorem d_D_rule_8 : decode c_D_rule 8 = .ok (.ifCond .ne 7, 3) := by decide +kernel
theorem d_D_rule_11 : decode c_D_rule 11 = .ok (.iconst 1, 1) := by decide +kernel
theorem d_D_rule_12 : decode c_D_rule 12 = .ok (.goto 4, 3) := by decide +kernel
theorem d_D_rule_15 : decode c_D_rule 15 = .ok (.iconst 0, 1) := by decide +kernel
theorem d_D_rule_16 : decode c_D_rule 16 = .ok (.aload_n 0, 1) := by decide +kernel
theorem d_D_rule_17 : decode c_D_rule 17 = .ok (.getfield 51, 3) := by decide +kernel
theorem d_D_rule_20 : decode c_D_rule 20 = .ok (.bipush 16, 2) := by decide +kernel
theorem d_D_rule_22 : decode c_D_rule 22 = .ok (.if_icmp .ne 7, 3) := by decide +kernel
theorem d_D_rule_25 : decode c_D_rule 25 = .ok (.iconst 1, 1) := by decide +kernel
theorem d_D_rule_26 : decode c_D_rule 26 = .ok (.goto 4, 3) := by decide +kernel
theorem d_D_rule_29 : decode c_D_rule 29 = .ok (.iconst 0, 1) := by decide +kernel
theorem d_D_rule_30 : decode c_D_rule 30 = .ok (.iconst 0, 1) := by decide +kernel
theorem d_D_rule_31 : decode c_D_rule 31 = .ok (.invokevirtual 62, 3) := by decide +kernel
theorem d_D_rule_34 : decode c_D_rule 34 = .ok (.ifCond .eq 5, 3) := by decide +kernel
theorem d_D_rule_37 : decode c_D_rule 37 = .ok (.iconst 0, 1) := by decide +kernel
theorem d_D_rule_38 : decode c_D_rule 38 = .ok (.ireturn, 1) := by decide +kernel
theorem d_D_rule_39 : decode c_D_rule 39 = .ok (.aload_n 0, 1) := by decide +kernel
theorem d_D_rule_40 : decode c_D_rule 40 = .ok (.iconst 5, 1) := by decide +kernel
theorem d_D_rule_41 : decode c_D_rule 41 = .ok (.aload_n 0, 1) := by decide +kernel
theorem d_D_rule_42 : decode c_D_rule 42 = .ok (.getfield 51, 3) := by decide +kernel
theorem d_D_rule_45 : decode c_D_rule 45 = .ok (.imul, 1) := by decide +kernel
theorem d_D_rule_46 : decode c_D_rule 46 = .ok (.iload_n 1, 1) := by decide +kernel
theorem d_D_rule_47 : decode c_D_rule 47 = .ok (.iload_n 2, 1) := by decide +kernel
theorem d_D_rule_48 : decode c_D_rule 48 = .ok (.iload_n 3, 1) := by decide +kernel
theorem d_D_rule_49 : decode c_D_rule 49 = .ok (.iconst 0, 1) := by decide +kernel
theorem d_D_rule_50 : decode c_D_rule 50 = .ok (.invokevirtual 80, 3) := by decide +kernel
theorem d_D_rule_53 : decode c_D_rule 53 = .ok (.aload_n 0, 1) := by decide +kernel
theorem d_D_rule_54 : decode c_D_rule 54 = .ok (.getfield 20, 3) := by decide +kernel
theorem d_D_rule_57 : decode c_D_rule 57 = .ok (.aload_n 0, 1) := by decide +kernel
theorem d_D_rule_58 : decode c_D_rule 58 = .ok (.getfield 51, 3) := by decide +kernel
theorem d_D_rule_61 : decode c_D_rule 61 = .ok (.iconst 0, 1) := by decide +kernel
theorem d_D_rule_62 : decode c_D_rule 62 = .ok (.iastore, 1) := by decide +kernel
theorem d_D_rule_63 : decode c_D_rule 63 = .ok (.aload_n 0, 1) := by decide +kernel
theorem d_D_rule_64 : decode c_D_rule 64 = .ok (.dup, 1) := by decide +kernel
theorem d_D_rule_65 : decode c_D_rule 65 = .ok (.getfield 51, 3) := by decide +kernel
theorem d_D_rule_68 : decode c_D_rule 68 = .ok (.iconst 1, 1) := by decide +kernel
theorem d_D_rule_69 : decode c_D_rule 69 = .ok (.iadd, 1) := by decide +kernel
theorem d_D_rule_70 : decode c_D_rule 70 = .ok (.putfield 51, 3) := by decide +kernel
theorem d_D_rule_73 : decode c_D_rule 73 = .ok (.aload_n 0, 1) := by decide +kernel
theorem d_D_rule_74 : decode c_D_rule 74 = .ok (.iconst 0, 1) := by decide +kernel
theorem d_D_rule_75 : decode c_D_rule 75 = .ok (.putfield 54, 3) := by decide +kernel
theorem d_D_rule_78 : decode c_D_rule 78 = .ok (.aload_n 0, 1) := by decide +kernel
theorem d_D_rule_79 : decode c_D_rule 79 = .ok (.getfield 51, 3) := by decide +kernel
theorem d_D_rule_82 : decode c_D_rule 82 = .ok (.iconst 1, 1) := by decide +kernel
theorem d_D_rule_83 : decode c_D_rule 83 = .ok (.isub, 1) := by decide +kernel
theorem d_D_rule_84 : decode c_D_rule 84 = .ok (.ireturn, 1) := by decide +kernel
theorem d_D_literal_0 : decode c_D_literal 0 = .ok (.aload_n 0, 1) := by decide +kernel
theorem d_D_literal_1 : decode c_D_literal 1 = .ok (.getfield 51, 3) := by decide +kernel
theorem d_D_literal_4 : decode c_D_literal 4 = .ok (.ifCond .le 17, 3) := by decide +kernel
theorem d_D_literal_7 : decode c_D_literal 7 = .ok (.aload_n 0, 1) := by decide +kernel
theorem d_D_literal_8 : decode c_D_literal 8 = .ok (.iload_n 1, 1) := by decide +kernel
theorem d_D_literal_9 : decode c_D_literal 9 = .ok (.iload_n 2, 1) := by decide +kernel
theorem d_D_literal_10 : decode c_D_literal 10 = .ok (.iload_n 3, 1) := by decide +kernel
theorem d_D_literal_11 : decode c_D_literal 11 = .ok (.invokevirtual 77, 3) := by decide +kernel
theorem d_D_literal_14 : decode c_D_literal 14 = .ok (.ifCond .eq 7, 3) := by decide +kernel
theorem d_D_literal_17 : decode c_D_literal 17 = .ok (.iconst 1, 1) := by decide +kernel
theorem d_D_literal_18 : decode c_D_literal 18 = .ok (.goto 4, 3) := by decide +kernel
theorem d_D_literal_21 : decode c_D_literal 21 = .ok (.iconst 0, 1) := by decide +kernel
theorem d_D_literal_22 : decode c_D_literal 22 = .ok (.istore 5, 2) := by decide +kernel
theorem d_D_literal_24 : decode c_D_literal 24 = .ok (.aload_n 0, 1) := by decide +kernel
theorem d_D_literal_25 : decode c_D_literal 25 = .ok (.aload_n 0, 1) := by decide +kernel
theorem d_D_literal_26 : decode c_D_literal 26 = .ok (.getfield 51, 3) := by decide +kernel
theorem d_D_literal_29 : decode c_D_literal 29 = .ok (.ifCond .ne 7, 3) := by decide +kernel
theorem d_D_literal_32 : decode c_D_literal 32 = .ok (.iconst 1, 1) := by decide +kernel
theorem d_D_literal_33 : decode c_D_literal 33 = .ok (.goto 4, 3) := by decide +kernel
theorem d_D_literal_36 : decode c_D_literal 36 = .ok (.iconst 0, 1) := by decide +kernel
theorem d_D_literal_37 : decode c_D_literal 37 = .ok (.aload_n 0, 1) := by decide +kernel
theorem d_D_literal_38 : decode c_D_literal 38 = .ok (.getfield 51, 3) := by decide +kernel
theorem d_D_literal_41 : decode c_D_literal 41 = .ok (.ifCond .le 12, 3) := by decide +kernel
theorem d_D_literal_44 : decode c_D_literal 44 = .ok (.iload 5, 2) := by decide +kernel
theorem d_D_literal_46 : decode c_D_literal 46 = .ok (.ifCond .ne 7, 3) := by decide +kernel
theorem d_D_literal_49 : decode c_D_literal 49 = .ok (.iconst 1, 1) := by decide +kernel
theorem d_D_literal_50 : decode c_D_literal 50 = .ok (.goto 4, 3) := by decide +kernel
theorem d_D_literal_53 : decode c_D_literal 53 = .ok (.iconst 0, 1) := by decide +kernel
theorem d_D_literal_54 : decode c_D_literal 54 = .ok (.iload 5, 2) := by decide +kernel
theorem d_D_literal_56 : decode c_D_literal 56 = .ok (.ifCond .eq 33, 3) := by decide +kernel
theorem d_D_literal_59 : decode c_D_literal 59 = .ok (.aload_n 0, 1) := by decide +kernel
theorem d_D_literal_60 : decode c_D_literal 60 = .ok (.getfield 20, 3) := by decide +kernel
theorem d_D_literal_63 : decode c_D_literal 63 = .ok (.aload_n 0, 1) := by decide +kernel
theorem d_D_literal_64 : decode c_D_literal 64 = .ok (.getfield 51, 3) := by decide +kernel
theorem d_D_literal_67 : decode c_D_literal 67 = .ok (.ifCond .le 12, 3) := by decide +kernel
theorem d_D_literal_70 : decode c_D_literal 70 = .ok (.aload_n 0, 1) := by decide +kernel
theorem d_D_literal_71 : decode c_D_literal 71 = .ok (.getfield 51, 3) := by decide +kernel
theorem d_D_literal_74 : decode c_D_literal 74 = .ok (.iconst 1, 1) := by decide +kernel
theorem d_D_literal_75 : decode c_D_literal 75 = .ok (.isub, 1) := by decide +kernel
theorem d_D_literal_76 : decode c_D_literal 76 = .ok (.goto 4, 3) := by decide +kernel
theorem d_D_literal_79 : decode c_D_literal 79 = .ok (.iconst 0, 1) := by decide +kernel
theorem d_D_literal_80 : decode c_D_literal 80 = .ok (.iaload, 1) := by decide +kernel
theorem d_D_literal_81 : decode c_D_literal 81 = .ok (.iconst 4, 1) := by decide +kernel
theorem d_D_literal_82 : decode c_D_literal 82 = .ok (.if_icmp .ne 7, 3) := by decide +kernel
theorem d_D_literal_85 : decode c_D_literal 85 = .ok (.iconst 1, 1) := by decide +kernel
theorem d_D_literal_86 : decode c_D_literal 86 = .ok (.goto 4, 3) := by decide +kernel
theorem d_D_literal_89 : decode c_D_literal 89 = .ok (.iconst 0, 1) := by decide +kernel
theorem d_D_literal_90 : decode c_D_literal 90 = .ok (.invokevirtual 62, 3) := by decide +kernel
theorem d_D_literal_93 : decode c_D_literal 93 = .ok (.ifCond .eq 5, 3) := by decide +kernel
theorem d_D_literal_96 : decode c_D_literal 96 = .ok (.iconst 0, 1) := by decide +kernel
theorem d_D_literal_97 : decode c_D_literal 97 = .ok (.ireturn, 1) := by decide +kernel
theorem d_D_literal_98 : decode c_D_literal 98 = .ok (.aload_n 0, 1) := by decide +kernel
theorem d_D_literal_99 : decode c_D_literal 99 = .ok (.getfield 20, 3) := by decide +kernel
theorem d_D_literal_102 : decode c_D_literal 102 = .ok (.aload_n 0, 1) := by decide +kernel
theorem d_D_literal_103 : decode c_D_literal 103 = .ok (.getfield 51, 3) := by decide +kernel
theorem d_D_literal_106 : decode c_D_literal 106 = .ok (.iconst 1, 1) := by decide +kernel
theorem d_D_literal_107 : decode c_D_literal 107 = .ok (.isub, 1) := by decide +kernel
theorem d_D_literal_108 : decode c_D_literal 108 = .ok (.dup2, 1) := by decide +kernel
theorem d_D_literal_109 : decode c_D_literal 109 = .ok (.iaload, 1) := by decide +kernel
theorem d_D_literal_110 : decode c_D_literal 110 = .ok (.iconst 1, 1) := by decide +kernel
theorem d_D_literal_111 : decode c_D_literal 111 = .ok (.iadd, 1) := by decide +kernel
theorem d_D_literal_112 : decode c_D_literal 112 = .ok (.iastore, 1) := by decide +kernel
theorem d_D_literal_113 : decode c_D_literal 113 = .ok (.aload_n 0, 1) := by decide +kernel
theorem d_D_literal_114 : decode c_D_literal 114 = .ok (.iconst 5, 1) := by decide +kernel
theorem d_D_literal_115 : decode c_D_literal 115 = .ok (.aload_n 0, 1) := by decide +kernel
theorem d_D_literal_116 : decode c_D_literal 116 = .ok (.getfield 51, 3) := by decide +kernel
theorem d_D_literal_119 : decode c_D_literal 119 = .ok (.iconst 1, 1) := by decide +kernel
theorem d_D_literal_120 : decode c_D_literal 120 = .ok (.isub, 1) := by decide +kernel
theorem d_D_literal_121 : decode c_D_literal 121 = .ok (.imul, 1) := by decide +kernel
theorem d_D_literal_122 : decode c_D_literal 122 = .ok (.aload_n 0, 1) := by decide +kernel
theorem d_D_literal_123 : decode c_D_literal 123 = .ok (.getfield 20, 3) := by decide +kernel
theorem d_D_literal_126 : decode c_D_literal 126 = .ok (.aload_n 0, 1) := by decide +kernel
theorem d_D_literal_127 : decode c_D_literal 127 = .ok (.getfield 51, 3) := by decide +kernel
theorem d_D_literal_130 : decode c_D_literal 130 = .ok (.iconst 1, 1) := by decide +kernel
theorem d_D_literal_131 : decode c_D_literal 131 = .ok (.isub, 1) := by decide +kernel
theorem d_D_literal_132 : decode c_D_literal 132 = .ok (.iaload, 1) := by decide +kernel
theorem d_D_literal_133 : decode c_D_literal 133 = .ok (.iadd, 1) := by decide +kernel
theorem d_D_literal_134 : decode c_D_literal 134 = .ok (.iload_n 1, 1) := by decide +kernel
theorem d_D_literal_135 : decode c_D_literal 135 = .ok (.iload_n 2, 1) := by decide +kernel
theorem d_D_literal_136 : decode c_D_literal 136 = .ok (.iload_n 3, 1) := by decide +kernel
theorem d_D_literal_137 : decode c_D_literal 137 = .ok (.iload 4, 2) := by decide +kernel
theorem d_D_literal_139 : decode c_D_literal 139 = .ok (.invokevirtual 80, 3) := by decide +kernel
theorem d_D_literal_142 : decode c_D_literal 142 = .ok (.aload_n 0, 1) := by decide +kernel
theorem d_D_literal_143 : decode c_D_literal 143 = .ok (.iconst 0, 1) := by decide +kernel
theorem d_D_literal_144 : decode c_D_literal 144 = .ok (.putfield 54, 3) := by decide +kernel
theorem d_D_literal_147 : decode c_D_literal 147 = .ok (.aload_n 0, 1) := by decide +kernel
theorem d_D_literal_148 : decode c_D_literal 148 = .ok (.getfield 20, 3) := by decide +kernel
theorem d_D_literal_151 : decode c_D_literal 151 = .ok (.aload_n 0, 1) := by decide +kernel
theorem d_D_literal_152 : decode c_D_literal 152 = .ok (.getfield 51, 3) := by decide +kernel
theorem d_D_literal_155 : decode c_D_literal 155 = .ok (.iconst 1, 1) := by decide +kernel
theorem d_D_literal_156 : decode c_D_literal 156 = .ok (.isub, 1) := by decide +kernel
theorem d_D_literal_157 : decode c_D_literal 157 = .ok (.iaload, 1) := by decide +kernel
theorem d_D_literal_158 : decode c_D_literal 158 = .ok (.ireturn, 1) := by decide +kernel
theorem d_D_unrule_0 : decode c_D_unrule 0 = .ok (.aload_n 0, 1) := by decide +kernel
theorem d_D_unrule_1 : decode c_D_unrule 1 = .ok (.aload_n 0, 1) := by decide +kernel
theorem d_D_unrule_2 : decode c_D_unrule 2 = .ok (.getfield 51, 3) := by decide +kernel
theorem d_D_unrule_5 : decode c_D_unrule 5 = .ok (.ifCond .ne 7, 3) := by decide +kernel
theorem d_D_unrule_8 : decode c_D_unrule 8 = .ok (.iconst 1, 1) := by decide +kernel
theorem d_D_unrule_9 : decode c_D_unrule 9 = .ok (.goto 4, 3) := by decide +kernel
theorem d_D_unrule_12 : decode c_D_unrule 12 = .ok (.iconst 0, 1) := by decide +kernel
theorem d_D_unrule_13 : decode c_D_unrule 13 = .ok (.iconst 0, 1) := by decide +kernel
theorem d_D_unrule_14 : decode c_D_unrule 14 = .ok (.iconst 0, 1) := by decide +kernel
theorem d_D_unrule_15 : decode c_D_unrule 15 = .ok (.invokevirtual 62, 3) := by decide +kernel
theorem d_D_unrule_18 : decode c_D_unrule 18 = .ok (.ifCond .ne 18, 3) := by decide +kernel
theorem d_D_unrule_21 : decode c_D_unrule 21 = .ok (.aload_n 0, 1) := by decide +kernel
theorem d_D_unrule_22 : decode c_D_unrule 22 = .ok (.dup, 1) := by decide +kernel
theorem d_D_unrule_23 : decode c_D_unrule 23 = .ok (.getfield 51, 3) := by decide +kernel
theorem d_D_unrule_26 : decode c_D_unrule 26 = .ok (.iconst 1, 1) := by decide +kernel
theorem d_D_unrule_27 : decode c_D_unrule 27 = .ok (.isub, 1) := by decide +kernel
theorem d_D_unrule_28 : decode c_D_unrule 28 = .ok (.putfield 51, 3) := by decide +kernel
theorem d_D_unrule_31 : decode c_D_unrule 31 = .ok (.aload_n 0, 1) := by decide +kernel
theorem d_D_unrule_32 : decode c_D_unrule 32 = .ok (.iconst 0, 1) := by decide +kernel
theorem d_D_unrule_33 : decode c_D_unrule 33 = .ok (.putfield 54, 3) := by decide +kernel
theorem d_D_unrule_36 : decode c_D_unrule 36 = .ok (.return_, 1) := by decide +kernel
theorem d_D_variablesOf_0 : decode c_D_variablesOf 0 = .ok (.aload_n 0, 1) := by decide +kernel
theorem d_D_variablesOf_1 : decode c_D_variablesOf 1 = .ok (.getfield 26, 3) := by decide +kernel
theorem d_D_variablesOf_4 : decode c_D_variablesOf 4 = .ok (.iload_n 1, 1) := by decide +kernel
theorem d_D_variablesOf_5 : decode c_D_variablesOf 5 = .ok (.iaload, 1) := by decide +kernel
theorem d_D_variablesOf_6 : decode c_D_variablesOf 6 = .ok (.bipush 20, 2) := by decide +kernel
theorem d_D_variablesOf_8 : decode c_D_variablesOf 8 = .ok (.if_icmp .lt 17, 3) := by decide +kernel
theorem d_D_variablesOf_11 : decode c_D_variablesOf 11 = .ok (.iconst 1, 1) := by decide +kernel
theorem d_D_variablesOf_12 : decode c_D_variablesOf 12 = .ok (.aload_n 0, 1) := by decide +kernel
theorem d_D_variablesOf_13 : decode c_D_variablesOf 13 = .ok (.getfield 26, 3) := by decide +kernel
theorem d_D_variablesOf_16 : decode c_D_variablesOf 16 = .ok (.iload_n 1, 1) := by decide +kernel
theorem d_D_variablesOf_17 : decode c_D_variablesOf 17 = .ok (.iaload, 1) := by decide +kernel
theorem d_D_variablesOf_18 : decode c_D_variablesOf 18 = .ok (.bipush 20, 2) := by decide +kernel
theorem d_D_variablesOf_20 : decode c_D_variablesOf 20 = .ok (.isub, 1) := by decide +kernel
theorem d_D_variablesOf_21 : decode c_D_variablesOf 21 = .ok (.ishl, 1) := by decide +kernel
theorem d_D_variablesOf_22 : decode c_D_variablesOf 22 = .ok (.goto 4, 3) := by decide +kernel
theorem d_D_variablesOf_25 : decode c_D_variablesOf 25 = .ok (.iconst 0, 1) := by decide +kernel
theorem d_D_variablesOf_26 : decode c_D_variablesOf 26 = .ok (.istore_n 2, 1) := by decide +kernel
theorem d_D_variablesOf_27 : decode c_D_variablesOf 27 = .ok (.aload_n 0, 1) := by decide +kernel
theorem d_D_variablesOf_28 : decode c_D_variablesOf 28 = .ok (.getfield 29, 3) := by decide +kernel
theorem d_D_variablesOf_31 : decode c_D_variablesOf 31 = .ok (.iload_n 1, 1) := by decide +kernel
theorem d_D_variablesOf_32 : decode c_D_variablesOf 32 = .ok (.iaload, 1) := by decide +kernel
theorem d_D_variablesOf_33 : decode c_D_variablesOf 33 = .ok (.bipush 20, 2) := by decide +kernel
theorem d_D_variablesOf_35 : decode c_D_variablesOf 35 = .ok (.if_icmp .lt 19, 3) := by decide +kernel
theorem d_D_variablesOf_38 : decode c_D_variablesOf 38 = .ok (.iload_n 2, 1) := by decide +kernel
theorem d_D_variablesOf_39 : decode c_D_variablesOf 39 = .ok (.iconst 1, 1) := by decide +kernel
theorem d_D_variablesOf_40 : decode c_D_variablesOf 40 = .ok (.aload_n 0, 1) := by decide +kernel
theorem d_D_variablesOf_41 : decode c_D_variablesOf 41 = .ok (.getfield 29, 3) := by decide +kernel
theorem d_D_variablesOf_44 : decode c_D_variablesOf 44 = .ok (.iload_n 1, 1) := by decide +kernel
theorem d_D_variablesOf_45 : decode c_D_variablesOf 45 = .ok (.iaload, 1) := by decide +kernel
theorem d_D_variablesOf_46 : decode c_D_variablesOf 46 = .ok (.bipush 20, 2) := by decide +kernel
theorem d_D_variablesOf_48 : decode c_D_variablesOf 48 = .ok (.isub, 1) := by decide +kernel
theorem d_D_variablesOf_49 : decode c_D_variablesOf 49 = .ok (.ishl, 1) := by decide +kernel
theorem d_D_variablesOf_50 : decode c_D_variablesOf 50 = .ok (.ior, 1) := by decide +kernel
theorem d_D_variablesOf_51 : decode c_D_variablesOf 51 = .ok (.goto 4, 3) := by decide +kernel
theorem d_D_variablesOf_54 : decode c_D_variablesOf 54 = .ok (.iload_n 2, 1) := by decide +kernel
theorem d_D_variablesOf_55 : decode c_D_variablesOf 55 = .ok (.ireturn, 1) := by decide +kernel
theorem d_D_variables_0 : decode c_D_variables 0 = .ok (.iconst 0, 1) := by decide +kernel
theorem d_D_variables_1 : decode c_D_variables 1 = .ok (.istore_n 2, 1) := by decide +kernel
theorem d_D_variables_2 : decode c_D_variables 2 = .ok (.iconst 0, 1) := by decide +kernel
theorem d_D_variables_3 : decode c_D_variables 3 = .ok (.istore_n 3, 1) := by decide +kernel
theorem d_D_variables_4 : decode c_D_variables 4 = .ok (.iload_n 3, 1) := by decide +kernel
theorem d_D_variables_5 : decode c_D_variables 5 = .ok (.aload_n 0, 1) := by decide +kernel
theorem d_D_variables_6 : decode c_D_variables 6 = .ok (.getfield 20, 3) := by decide +kernel
