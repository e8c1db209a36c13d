theorem d_H_setGiven_55 : decode c_H_setGiven 55 = .ok (.putfield 181, 3) := by decide +kernel
theorem d_H_setGiven_58 : decode c_H_setGiven 58 = .ok (.iconst 1, 1) := by decide +kernel
theorem d_H_setGiven_59 : decode c_H_setGiven 59 = .ok (.ireturn, 1) := by decide +kernel
theorem d_H_judge_0 : decode c_H_judge 0 = .ok (.aload_n 0, 1) := by decide +kernel
theorem d_H_judge_1 : decode c_H_judge 1 = .ok (.getfield 177, 3) := by decide +kernel
theorem d_H_judge_4 : decode c_H_judge 4 = .ok (.ifCond .eq 4, 3) := by decide +kernel
theorem d_H_judge_7 : decode c_H_judge 7 = .ok (.return_, 1) := by decide +kernel
theorem d_H_judge_8 : decode c_H_judge 8 = .ok (.aload_n 0, 1) := by decide +kernel
theorem d_H_judge_9 : decode c_H_judge 9 = .ok (.aload_n 0, 1) := by decide +kernel
theorem d_H_judge_10 : decode c_H_judge 10 = .ok (.invokevirtual 188, 3) := by decide +kernel
theorem d_H_judge_13 : decode c_H_judge 13 = .ok (.putfield 40, 3) := by decide +kernel
theorem d_H_judge_16 : decode c_H_judge 16 = .ok (.aload_n 0, 1) := by decide +kernel
theorem d_H_judge_17 : decode c_H_judge 17 = .ok (.getfield 40, 3) := by decide +kernel
theorem d_H_judge_20 : decode c_H_judge 20 = .ok (.iconst (-1), 1) := by decide +kernel
theorem d_H_judge_21 : decode c_H_judge 21 = .ok (.if_icmp .ne 16, 3) := by decide +kernel
theorem d_H_judge_24 : decode c_H_judge 24 = .ok (.aload_n 0, 1) := by decide +kernel
theorem d_H_judge_25 : decode c_H_judge 25 = .ok (.invokevirtual 192, 3) := by decide +kernel
theorem d_H_judge_28 : decode c_H_judge 28 = .ok (.ifCond .ne 9, 3) := by decide +kernel
theorem d_H_judge_31 : decode c_H_judge 31 = .ok (.aload_n 0, 1) := by decide +kernel
theorem d_H_judge_32 : decode c_H_judge 32 = .ok (.bipush 100, 2) := by decide +kernel
theorem d_H_judge_34 : decode c_H_judge 34 = .ok (.putfield 40, 3) := by decide +kernel
theorem d_H_judge_37 : decode c_H_judge 37 = .ok (.aload_n 0, 1) := by decide +kernel
theorem d_H_judge_38 : decode c_H_judge 38 = .ok (.iconst 1, 1) := by decide +kernel
theorem d_H_judge_39 : decode c_H_judge 39 = .ok (.putfield 177, 3) := by decide +kernel
theorem d_H_judge_42 : decode c_H_judge 42 = .ok (.return_, 1) := by decide +kernel
theorem d_H_firstUnsafe_0 : decode c_H_firstUnsafe 0 = .ok (.iconst 0, 1) := by decide +kernel
theorem d_H_firstUnsafe_1 : decode c_H_firstUnsafe 1 = .ok (.istore_n 1, 1) := by decide +kernel
theorem d_H_firstUnsafe_2 : decode c_H_firstUnsafe 2 = .ok (.iload_n 1, 1) := by decide +kernel
theorem d_H_firstUnsafe_3 : decode c_H_firstUnsafe 3 = .ok (.aload_n 0, 1) := by decide +kernel
theorem d_H_firstUnsafe_4 : decode c_H_firstUnsafe 4 = .ok (.getfield 54, 3) := by decide +kernel
theorem d_H_firstUnsafe_7 : decode c_H_firstUnsafe 7 = .ok (.if_icmp .ge 23, 3) := by decide +kernel
theorem d_H_firstUnsafe_10 : decode c_H_firstUnsafe 10 = .ok (.aload_n 0, 1) := by decide +kernel
theorem d_H_firstUnsafe_11 : decode c_H_firstUnsafe 11 = .ok (.getfield 20, 3) := by decide +kernel
theorem d_H_firstUnsafe_14 : decode c_H_firstUnsafe 14 = .ok (.iload_n 1, 1) := by decide +kernel
theorem d_H_firstUnsafe_15 : decode c_H_firstUnsafe 15 = .ok (.aaload, 1) := by decide +kernel
theorem d_H_firstUnsafe_16 : decode c_H_firstUnsafe 16 = .ok (.invokevirtual 195, 3) := by decide +kernel
theorem d_H_firstUnsafe_19 : decode c_H_firstUnsafe 19 = .ok (.ifCond .ne 5, 3) := by decide +kernel
theorem d_H_firstUnsafe_22 : decode c_H_firstUnsafe 22 = .ok (.iload_n 1, 1) := by decide +kernel
theorem d_H_firstUnsafe_23 : decode c_H_firstUnsafe 23 = .ok (.ireturn, 1) := by decide +kernel
theorem d_H_firstUnsafe_24 : decode c_H_firstUnsafe 24 = .ok (.iinc 1 1, 3) := by decide +kernel
theorem d_H_firstUnsafe_27 : decode c_H_firstUnsafe 27 = .ok (.goto (-25), 3) := by decide +kernel
theorem d_H_firstUnsafe_30 : decode c_H_firstUnsafe 30 = .ok (.iconst (-1), 1) := by decide +kernel
theorem d_H_firstUnsafe_31 : decode c_H_firstUnsafe 31 = .ok (.ireturn, 1) := by decide +kernel
theorem d_H_findLayers_0 : decode c_H_findLayers 0 = .ok (.aload_n 0, 1) := by decide +kernel
theorem d_H_findLayers_1 : decode c_H_findLayers 1 = .ok (.getfield 24, 3) := by decide +kernel
theorem d_H_findLayers_4 : decode c_H_findLayers 4 = .ok (.iconst 0, 1) := by decide +kernel
theorem d_H_findLayers_5 : decode c_H_findLayers 5 = .ok (.invokestatic 45, 3) := by decide +kernel
theorem d_H_findLayers_8 : decode c_H_findLayers 8 = .ok (.iconst 0, 1) := by decide +kernel
theorem d_H_findLayers_9 : decode c_H_findLayers 9 = .ok (.istore_n 1, 1) := by decide +kernel
theorem d_H_findLayers_10 : decode c_H_findLayers 10 = .ok (.iload_n 1, 1) := by decide +kernel
theorem d_H_findLayers_11 : decode c_H_findLayers 11 = .ok (.bipush 8, 2) := by decide +kernel
theorem d_H_findLayers_13 : decode c_H_findLayers 13 = .ok (.if_icmp .ge 18, 3) := by decide +kernel
theorem d_H_findLayers_16 : decode c_H_findLayers 16 = .ok (.aload_n 0, 1) := by decide +kernel
theorem d_H_findLayers_17 : decode c_H_findLayers 17 = .ok (.invokevirtual 198, 3) := by decide +kernel
theorem d_H_findLayers_20 : decode c_H_findLayers 20 = .ok (.ifCond .ne 5, 3) := by decide +kernel
theorem d_H_findLayers_23 : decode c_H_findLayers 23 = .ok (.iconst 1, 1) := by decide +kernel
theorem d_H_findLayers_24 : decode c_H_findLayers 24 = .ok (.ireturn, 1) := by decide +kernel
theorem d_H_findLayers_25 : decode c_H_findLayers 25 = .ok (.iinc 1 1, 3) := by decide +kernel
theorem d_H_findLayers_28 : decode c_H_findLayers 28 = .ok (.goto (-18), 3) := by decide +kernel
theorem d_H_findLayers_31 : decode c_H_findLayers 31 = .ok (.iconst 0, 1) := by decide +kernel
theorem d_H_findLayers_32 : decode c_H_findLayers 32 = .ok (.ireturn, 1) := by decide +kernel
theorem d_H_raiseLayers_0 : decode c_H_raiseLayers 0 = .ok (.iconst 0, 1) := by decide +kernel
theorem d_H_raiseLayers_1 : decode c_H_raiseLayers 1 = .ok (.istore_n 1, 1) := by decide +kernel
theorem d_H_raiseLayers_2 : decode c_H_raiseLayers 2 = .ok (.iconst 0, 1) := by decide +kernel
theorem d_H_raiseLayers_3 : decode c_H_raiseLayers 3 = .ok (.istore_n 2, 1) := by decide +kernel
theorem d_H_raiseLayers_4 : decode c_H_raiseLayers 4 = .ok (.iload_n 2, 1) := by decide +kernel
theorem d_H_raiseLayers_5 : decode c_H_raiseLayers 5 = .ok (.aload_n 0, 1) := by decide +kernel
theorem d_H_raiseLayers_6 : decode c_H_raiseLayers 6 = .ok (.getfield 54, 3) := by decide +kernel
theorem d_H_raiseLayers_9 : decode c_H_raiseLayers 9 = .ok (.if_icmp .ge 58, 3) := by decide +kernel
theorem d_H_raiseLayers_12 : decode c_H_raiseLayers 12 = .ok (.aload_n 0, 1) := by decide +kernel
theorem d_H_raiseLayers_13 : decode c_H_raiseLayers 13 = .ok (.getfield 20, 3) := by decide +kernel
theorem d_H_raiseLayers_16 : decode c_H_raiseLayers 16 = .ok (.iload_n 2, 1) := by decide +kernel
theorem d_H_raiseLayers_17 : decode c_H_raiseLayers 17 = .ok (.aaload, 1) := by decide +kernel
theorem d_H_raiseLayers_18 : decode c_H_raiseLayers 18 = .ok (.getfield 201, 3) := by decide +kernel
theorem d_H_raiseLayers_21 : decode c_H_raiseLayers 21 = .ok (.getfield 205, 3) := by decide +kernel
theorem d_H_raiseLayers_24 : decode c_H_raiseLayers 24 = .ok (.istore_n 3, 1) := by decide +kernel
theorem d_H_raiseLayers_25 : decode c_H_raiseLayers 25 = .ok (.aload_n 0, 1) := by decide +kernel
theorem d_H_raiseLayers_26 : decode c_H_raiseLayers 26 = .ok (.getfield 20, 3) := by decide +kernel
theorem d_H_raiseLayers_29 : decode c_H_raiseLayers 29 = .ok (.iload_n 2, 1) := by decide +kernel
theorem d_H_raiseLayers_30 : decode c_H_raiseLayers 30 = .ok (.aaload, 1) := by decide +kernel
theorem d_H_raiseLayers_31 : decode c_H_raiseLayers 31 = .ok (.aload_n 0, 1) := by decide +kernel
theorem d_H_raiseLayers_32 : decode c_H_raiseLayers 32 = .ok (.getfield 24, 3) := by decide +kernel
theorem d_H_raiseLayers_35 : decode c_H_raiseLayers 35 = .ok (.invokevirtual 210, 3) := by decide +kernel
theorem d_H_raiseLayers_38 : decode c_H_raiseLayers 38 = .ok (.istore 4, 2) := by decide +kernel
theorem d_H_raiseLayers_40 : decode c_H_raiseLayers 40 = .ok (.aload_n 0, 1) := by decide +kernel
theorem d_H_raiseLayers_41 : decode c_H_raiseLayers 41 = .ok (.getfield 24, 3) := by decide +kernel
theorem d_H_raiseLayers_44 : decode c_H_raiseLayers 44 = .ok (.iload_n 3, 1) := by decide +kernel
theorem d_H_raiseLayers_45 : decode c_H_raiseLayers 45 = .ok (.iaload, 1) := by decide +kernel
theorem d_H_raiseLayers_46 : decode c_H_raiseLayers 46 = .ok (.iload 4, 2) := by decide +kernel
theorem d_H_raiseLayers_48 : decode c_H_raiseLayers 48 = .ok (.if_icmp .ge 13, 3) := by decide +kernel
theorem d_H_raiseLayers_51 : decode c_H_raiseLayers 51 = .ok (.aload_n 0, 1) := by decide +kernel
theorem d_H_raiseLayers_52 : decode c_H_raiseLayers 52 = .ok (.getfield 24, 3) := by decide +kernel
theorem d_H_raiseLayers_55 : decode c_H_raiseLayers 55 = .ok (.iload_n 3, 1) := by decide +kernel
theorem d_H_raiseLayers_56 : decode c_H_raiseLayers 56 = .ok (.iload 4, 2) := by decide +kernel
theorem d_H_raiseLayers_58 : decode c_H_raiseLayers 58 = .ok (.iastore, 1) := by decide +kernel
theorem d_H_raiseLayers_59 : decode c_H_raiseLayers 59 = .ok (.iconst 1, 1) := by decide +kernel
theorem d_H_raiseLayers_60 : decode c_H_raiseLayers 60 = .ok (.istore_n 1, 1) := by decide +kernel
theorem d_H_raiseLayers_61 : decode c_H_raiseLayers 61 = .ok (.iinc 2 1, 3) := by decide +kernel
theorem d_H_raiseLayers_64 : decode c_H_raiseLayers 64 = .ok (.goto (-60), 3) := by decide +kernel
theorem d_H_raiseLayers_67 : decode c_H_raiseLayers 67 = .ok (.iload_n 1, 1) := by decide +kernel
theorem d_H_raiseLayers_68 : decode c_H_raiseLayers 68 = .ok (.ireturn, 1) := by decide +kernel
theorem d_H_topLayer_0 : decode c_H_topLayer 0 = .ok (.iconst 0, 1) := by decide +kernel
theorem d_H_topLayer_1 : decode c_H_topLayer 1 = .ok (.istore_n 1, 1) := by decide +kernel
theorem d_H_topLayer_2 : decode c_H_topLayer 2 = .ok (.iconst 0, 1) := by decide +kernel
theorem d_H_topLayer_3 : decode c_H_topLayer 3 = .ok (.istore_n 2, 1) := by decide +kernel
theorem d_H_topLayer_4 : decode c_H_topLayer 4 = .ok (.iload_n 2, 1) := by decide +kernel
theorem d_H_topLayer_5 : decode c_H_topLayer 5 = .ok (.aload_n 0, 1) := by decide +kernel
theorem d_H_topLayer_6 : decode c_H_topLayer 6 = .ok (.getfield 51, 3) := by decide +kernel
theorem d_H_topLayer_9 : decode c_H_topLayer 9 = .ok (.if_icmp .ge 20, 3) := by decide +kernel
theorem d_H_topLayer_12 : decode c_H_topLayer 12 = .ok (.iload_n 1, 1) := by decide +kernel
theorem d_H_topLayer_13 : decode c_H_topLayer 13 = .ok (.aload_n 0, 1) := by decide +kernel
theorem d_H_topLayer_14 : decode c_H_topLayer 14 = .ok (.getfield 24, 3) := by decide +kernel
theorem d_H_topLayer_17 : decode c_H_topLayer 17 = .ok (.iload_n 2, 1) := by decide +kernel
theorem d_H_topLayer_18 : decode c_H_topLayer 18 = .ok (.iaload, 1) := by decide +kernel
theorem d_H_topLayer_19 : decode c_H_topLayer 19 = .ok (.invokestatic 214, 3) := by decide +kernel
theorem d_H_topLayer_22 : decode c_H_topLayer 22 = .ok (.istore_n 1, 1) := by decide +kernel
theorem d_H_topLayer_23 : decode c_H_topLayer 23 = .ok (.iinc 2 1, 3) := by decide +kernel
theorem d_H_topLayer_26 : decode c_H_topLayer 26 = .ok (.goto (-22), 3) := by decide +kernel
theorem d_H_topLayer_29 : decode c_H_topLayer 29 = .ok (.iload_n 1, 1) := by decide +kernel
theorem d_H_topLayer_30 : decode c_H_topLayer 30 = .ok (.ireturn, 1) := by decide +kernel
theorem d_H_settle_0 : decode c_H_settle 0 = .ok (.aload_n 0, 1) := by decide +kernel
theorem d_H_settle_1 : decode c_H_settle 1 = .ok (.getfield 181, 3) := by decide +kernel
theorem d_H_settle_4 : decode c_H_settle 4 = .ok (.ifCond .eq 4, 3) := by decide +kernel
theorem d_H_settle_7 : decode c_H_settle 7 = .ok (.return_, 1) := by decide +kernel
theorem d_H_settle_8 : decode c_H_settle 8 = .ok (.aload_n 0, 1) := by decide +kernel
theorem d_H_settle_9 : decode c_H_settle 9 = .ok (.invokevirtual 219, 3) := by decide +kernel
theorem d_H_settle_12 : decode c_H_settle 12 = .ok (.aload_n 0, 1) := by decide +kernel
theorem d_H_settle_13 : decode c_H_settle 13 = .ok (.invokevirtual 222, 3) := by decide +kernel
theorem d_H_settle_16 : decode c_H_settle 16 = .ok (.istore_n 1, 1) := by decide +kernel
theorem d_H_settle_17 : decode c_H_settle 17 = .ok (.iconst 0, 1) := by decide +kernel
theorem d_H_settle_18 : decode c_H_settle 18 = .ok (.istore_n 2, 1) := by decide +kernel
theorem d_H_settle_19 : decode c_H_settle 19 = .ok (.iload_n 2, 1) := by decide +kernel
theorem d_H_settle_20 : decode c_H_settle 20 = .ok (.iload_n 1, 1) := by decide +kernel
theorem d_H_settle_21 : decode c_H_settle 21 = .ok (.if_icmp .gt 53, 3) := by decide +kernel
theorem d_H_settle_24 : decode c_H_settle 24 = .ok (.aload_n 0, 1) := by decide +kernel
theorem d_H_settle_25 : decode c_H_settle 25 = .ok (.iload_n 2, 1) := by decide +kernel
theorem d_H_settle_26 : decode c_H_settle 26 = .ok (.iconst 1, 1) := by decide +kernel
theorem d_H_settle_27 : decode c_H_settle 27 = .ok (.invokevirtual 129, 3) := by decide +kernel
theorem d_H_settle_30 : decode c_H_settle 30 = .ok (.sipush 255, 3) := by decide +kernel
theorem d_H_settle_33 : decode c_H_settle 33 = .ok (.istore_n 3, 1) := by decide +kernel
theorem d_H_settle_34 : decode c_H_settle 34 = .ok (.iconst 1, 1) := by decide +kernel
theorem d_H_settle_35 : decode c_H_settle 35 = .ok (.istore 4, 2) := by decide +kernel
theorem d_H_settle_37 : decode c_H_settle 37 = .ok (.iload_n 3, 1) := by decide +kernel
theorem d_H_settle_38 : decode c_H_settle 38 = .ok (.ifCond .eq 30, 3) := by decide +kernel
theorem d_H_settle_41 : decode c_H_settle 41 = .ok (.iload 4, 2) := by decide +kernel
theorem d_H_settle_43 : decode c_H_settle 43 = .ok (.sipush 1153, 3) := by decide +kernel
theorem d_H_settle_46 : decode c_H_settle 46 = .ok (.if_icmp .gt 22, 3) := by decide +kernel
theorem d_H_settle_49 : decode c_H_settle 49 = .ok (.aload_n 0, 1) := by decide +kernel
theorem d_H_settle_50 : decode c_H_settle 50 = .ok (.iload_n 2, 1) := by decide +kernel
theorem d_H_settle_51 : decode c_H_settle 51 = .ok (.iload 4, 2) := by decide +kernel
theorem d_H_settle_53 : decode c_H_settle 53 = .ok (.iload_n 3, 1) := by decide +kernel
theorem d_H_settle_54 : decode c_H_settle 54 = .ok (.invokevirtual 225, 3) := by decide +kernel
theorem d_H_settle_57 : decode c_H_settle 57 = .ok (.aload_n 0, 1) := by decide +kernel
theorem d_H_settle_58 : decode c_H_settle 58 = .ok (.invokevirtual 228, 3) := by decide +kernel
theorem d_H_settle_61 : decode c_H_settle 61 = .ok (.istore_n 3, 1) := by decide +kernel
theorem d_H_settle_62 : decode c_H_settle 62 = .ok (.iinc 4 1, 3) := by decide +kernel
theorem d_H_settle_65 : decode c_H_settle 65 = .ok (.goto (-28), 3) := by decide +kernel
theorem d_H_settle_68 : decode c_H_settle 68 = .ok (.iinc 2 1, 3) := by decide +kernel
theorem d_H_settle_71 : decode c_H_settle 71 = .ok (.goto (-52), 3) := by decide +kernel
theorem d_H_settle_74 : decode c_H_settle 74 = .ok (.aload_n 0, 1) := by decide +kernel
theorem d_H_settle_75 : decode c_H_settle 75 = .ok (.iconst 1, 1) := by decide +kernel
theorem d_H_settle_76 : decode c_H_settle 76 = .ok (.putfield 181, 3) := by decide +kernel
theorem d_H_settle_79 : decode c_H_settle 79 = .ok (.return_, 1) := by decide +kernel
theorem d_H_rankGiven_0 : decode c_H_rankGiven 0 = .ok (.iconst 0, 1) := by decide +kernel
theorem d_H_rankGiven_1 : decode c_H_rankGiven 1 = .ok (.istore_n 1, 1) := by decide +kernel
theorem d_H_rankGiven_2 : decode c_H_rankGiven 2 = .ok (.iload_n 1, 1) := by decide +kernel
theorem d_H_rankGiven_3 : decode c_H_rankGiven 3 = .ok (.bipush 96, 2) := by decide +kernel
theorem d_H_rankGiven_5 : decode c_H_rankGiven 5 = .ok (.if_icmp .ge 52, 3) := by decide +kernel
theorem d_H_rankGiven_8 : decode c_H_rankGiven 8 = .ok (.iconst 0, 1) := by decide +kernel
theorem d_H_rankGiven_9 : decode c_H_rankGiven 9 = .ok (.istore_n 2, 1) := by decide +kernel
theorem d_H_rankGiven_10 : decode c_H_rankGiven 10 = .ok (.iload_n 2, 1) := by decide +kernel
theorem d_H_rankGiven_11 : decode c_H_rankGiven 11 = .ok (.bipush 12, 2) := by decide +kernel
theorem d_H_rankGiven_13 : decode c_H_rankGiven 13 = .ok (.if_icmp .ge 38, 3) := by decide +kernel
theorem d_H_rankGiven_16 : decode c_H_rankGiven 16 = .ok (.aload_n 0, 1) := by decide +kernel
theorem d_H_rankGiven_17 : decode c_H_rankGiven 17 = .ok (.getfield 27, 3) := by decide +kernel
theorem d_H_rankGiven_20 : decode c_H_rankGiven 20 = .ok (.iload_n 1, 1) := by decide +kernel
theorem d_H_rankGiven_21 : decode c_H_rankGiven 21 = .ok (.bipush 12, 2) := by decide +kernel
theorem d_H_rankGiven_23 : decode c_H_rankGiven 23 = .ok (.imul, 1) := by decide +kernel
theorem d_H_rankGiven_24 : decode c_H_rankGiven 24 = .ok (.iload_n 2, 1) := by decide +kernel
theorem d_H_rankGiven_25 : decode c_H_rankGiven 25 = .ok (.iadd, 1) := by decide +kernel
theorem d_H_rankGiven_26 : decode c_H_rankGiven 26 = .ok (.aload_n 0, 1) := by decide +kernel
theorem d_H_rankGiven_27 : decode c_H_rankGiven 27 = .ok (.getfield 15, 3) := by decide +kernel
theorem d_H_rankGiven_30 : decode c_H_rankGiven 30 = .ok (.iload_n 1, 1) := by decide +kernel
theorem d_H_rankGiven_31 : decode c_H_rankGiven 31 = .ok (.iaload, 1) := by decide +kernel
theorem d_H_rankGiven_32 : decode c_H_rankGiven 32 = .ok (.iload_n 2, 1) := by decide +kernel
theorem d_H_rankGiven_33 : decode c_H_rankGiven 33 = .ok (.invokestatic 184, 3) := by decide +kernel
theorem d_H_rankGiven_36 : decode c_H_rankGiven 36 = .ok (.ifCond .eq 7, 3) := by decide +kernel
theorem d_H_rankGiven_39 : decode c_H_rankGiven 39 = .ok (.iconst 0, 1) := by decide +kernel
theorem d_H_rankGiven_40 : decode c_H_rankGiven 40 = .ok (.goto 4, 3) := by decide +kernel
theorem d_H_rankGiven_43 : decode c_H_rankGiven 43 = .ok (.iconst (-1), 1) := by decide +kernel
theorem d_H_rankGiven_44 : decode c_H_rankGiven 44 = .ok (.iastore, 1) := by decide +kernel
theorem d_H_rankGiven_45 : decode c_H_rankGiven 45 = .ok (.iinc 2 1, 3) := by decide +kernel
theorem d_H_rankGiven_48 : decode c_H_rankGiven 48 = .ok (.goto (-38), 3) := by decide +kernel
theorem d_H_rankGiven_51 : decode c_H_rankGiven 51 = .ok (.iinc 1 1, 3) := by decide +kernel
theorem d_H_rankGiven_54 : decode c_H_rankGiven 54 = .ok (.goto (-52), 3) := by decide +kernel
theorem d_H_rankGiven_57 : decode c_H_rankGiven 57 = .ok (.return_, 1) := by decide +kernel
theorem d_H_bringRound_0 : decode c_H_bringRound 0 = .ok (.iconst 0, 1) := by decide +kernel
theorem d_H_bringRound_1 : decode c_H_bringRound 1 = .ok (.istore 4, 2) := by decide +kernel
theorem d_H_bringRound_3 : decode c_H_bringRound 3 = .ok (.iload 4, 2) := by decide +kernel
theorem d_H_bringRound_5 : decode c_H_bringRound 5 = .ok (.aload_n 0, 1) := by decide +kernel
theorem d_H_bringRound_6 : decode c_H_bringRound 6 = .ok (.getfield 54, 3) := by decide +kernel
theorem d_H_bringRound_9 : decode c_H_bringRound 9 = .ok (.if_icmp .ge 57, 3) := by decide +kernel
theorem d_H_bringRound_12 : decode c_H_bringRound 12 = .ok (.aload_n 0, 1) := by decide +kernel
theorem d_H_bringRound_13 : decode c_H_bringRound 13 = .ok (.getfield 20, 3) := by decide +kernel
theorem d_H_bringRound_16 : decode c_H_bringRound 16 = .ok (.iload 4, 2) := by decide +kernel
theorem d_H_bringRound_18 : decode c_H_bringRound 18 = .ok (.aaload, 1) := by decide +kernel
theorem d_H_bringRound_19 : decode c_H_bringRound 19 = .ok (.astore 5, 2) := by decide +kernel
theorem d_H_bringRound_21 : decode c_H_bringRound 21 = .ok (.aload_n 0, 1) := by decide +kernel
theorem d_H_bringRound_22 : decode c_H_bringRound 22 = .ok (.getfield 24, 3) := by decide +kernel
theorem d_H_bringRound_25 : decode c_H_bringRound 25 = .ok (.aload 5, 2) := by decide +kernel
theorem d_H_bringRound_27 : decode c_H_bringRound 27 = .ok (.getfield 201, 3) := by decide +kernel
theorem d_H_bringRound_30 : decode c_H_bringRound 30 = .ok (.getfield 205, 3) := by decide +kernel
theorem d_H_bringRound_33 : decode c_H_bringRound 33 = .ok (.iaload, 1) := by decide +kernel
theorem d_H_bringRound_34 : decode c_H_bringRound 34 = .ok (.iload_n 1, 1) := by decide +kernel
theorem d_H_bringRound_35 : decode c_H_bringRound 35 = .ok (.if_icmp .ne 25, 3) := by decide +kernel
theorem d_H_bringRound_38 : decode c_H_bringRound 38 = .ok (.iload_n 2, 1) := by decide +kernel
theorem d_H_bringRound_39 : decode c_H_bringRound 39 = .ok (.iconst 1, 1) := by decide +kernel
theorem d_H_bringRound_40 : decode c_H_bringRound 40 = .ok (.if_icmp .eq 13, 3) := by decide +kernel
theorem d_H_bringRound_43 : decode c_H_bringRound 43 = .ok (.aload 5, 2) := by decide +kernel
theorem d_H_bringRound_45 : decode c_H_bringRound 45 = .ok (.getfield 231, 3) := by decide +kernel
theorem d_H_bringRound_48 : decode c_H_bringRound 48 = .ok (.iload_n 3, 1) := by decide +kernel
theorem d_H_bringRound_49 : decode c_H_bringRound 49 = .ok (.iand, 1) := by decide +kernel
theorem d_H_bringRound_50 : decode c_H_bringRound 50 = .ok (.ifCond .eq 10, 3) := by decide +kernel
theorem d_H_bringRound_53 : decode c_H_bringRound 53 = .ok (.aload_n 0, 1) := by decide +kernel
theorem d_H_bringRound_54 : decode c_H_bringRound 54 = .ok (.aload 5, 2) := by decide +kernel
theorem d_H_bringRound_56 : decode c_H_bringRound 56 = .ok (.iload_n 2, 1) := by decide +kernel
theorem d_H_bringRound_57 : decode c_H_bringRound 57 = .ok (.invokevirtual 234, 3) := by decide +kernel
theorem d_H_bringRound_60 : decode c_H_bringRound 60 = .ok (.iinc 4 1, 3) := by decide +kernel
theorem d_H_bringRound_63 : decode c_H_bringRound 63 = .ok (.goto (-60), 3) := by decide +kernel
theorem d_H_bringRound_66 : decode c_H_bringRound 66 = .ok (.return_, 1) := by decide +kernel
theorem d_H_bringByRule_0 : decode c_H_bringByRule 0 = .ok (.aload_n 1, 1) := by decide +kernel
theorem d_H_bringByRule_1 : decode c_H_bringByRule 1 = .ok (.getfield 201, 3) := by decide +kernel
theorem d_H_bringByRule_4 : decode c_H_bringByRule 4 = .ok (.astore_n 3, 1) := by decide +kernel
theorem d_H_bringByRule_5 : decode c_H_bringByRule 5 = .ok (.aload_n 0, 1) := by decide +kernel
theorem d_H_bringByRule_6 : decode c_H_bringByRule 6 = .ok (.getfield 36, 3) := by decide +kernel
theorem d_H_bringByRule_9 : decode c_H_bringByRule 9 = .ok (.invokevirtual 238, 3) := by decide +kernel
theorem d_H_bringByRule_12 : decode c_H_bringByRule 12 = .ok (.aload_n 0, 1) := by decide +kernel
theorem d_H_bringByRule_13 : decode c_H_bringByRule 13 = .ok (.getfield 36, 3) := by decide +kernel
theorem d_H_bringByRule_16 : decode c_H_bringByRule 16 = .ok (.aload_n 1, 1) := by decide +kernel
theorem d_H_bringByRule_17 : decode c_H_bringByRule 17 = .ok (.aload_n 3, 1) := by decide +kernel
theorem d_H_bringByRule_18 : decode c_H_bringByRule 18 = .ok (.getfield 241, 3) := by decide +kernel
theorem d_H_bringByRule_21 : decode c_H_bringByRule 21 = .ok (.invokevirtual 244, 3) := by decide +kernel
theorem d_H_bringByRule_24 : decode c_H_bringByRule 24 = .ok (.istore 4, 2) := by decide +kernel
theorem d_H_bringByRule_26 : decode c_H_bringByRule 26 = .ok (.iconst 0, 1) := by decide +kernel
theorem d_H_bringByRule_27 : decode c_H_bringByRule 27 = .ok (.istore 5, 2) := by decide +kernel
theorem d_H_bringByRule_29 : decode c_H_bringByRule 29 = .ok (.iload 5, 2) := by decide +kernel
theorem d_H_bringByRule_31 : decode c_H_bringByRule 31 = .ok (.bipush 12, 2) := by decide +kernel
theorem d_H_bringByRule_33 : decode c_H_bringByRule 33 = .ok (.if_icmp .ge 187, 3) := by decide +kernel
theorem d_H_bringByRule_36 : decode c_H_bringByRule 36 = .ok (.iload 4, 2) := by decide +kernel
theorem d_H_bringByRule_38 : decode c_H_bringByRule 38 = .ok (.iload 5, 2) := by decide +kernel
theorem d_H_bringByRule_40 : decode c_H_bringByRule 40 = .ok (.invokestatic 184, 3) := by decide +kernel
theorem d_H_bringByRule_43 : decode c_H_bringByRule 43 = .ok (.ifCond .ne 6, 3) := by decide +kernel
theorem d_H_bringByRule_46 : decode c_H_bringByRule 46 = .ok (.goto 168, 3) := by decide +kernel
theorem d_H_bringByRule_49 : decode c_H_bringByRule 49 = .ok (.aload_n 3, 1) := by decide +kernel
theorem d_H_bringByRule_50 : decode c_H_bringByRule 50 = .ok (.getfield 205, 3) := by decide +kernel
theorem d_H_bringByRule_53 : decode c_H_bringByRule 53 = .ok (.iload 5, 2) := by decide +kernel
theorem d_H_bringByRule_55 : decode c_H_bringByRule 55 = .ok (.invokestatic 174, 3) := by decide +kernel
theorem d_H_bringByRule_58 : decode c_H_bringByRule 58 = .ok (.istore 6, 2) := by decide +kernel
theorem d_H_bringByRule_60 : decode c_H_bringByRule 60 = .ok (.aload_n 0, 1) := by decide +kernel
theorem d_H_bringByRule_61 : decode c_H_bringByRule 61 = .ok (.getfield 36, 3) := by decide +kernel
theorem d_H_bringByRule_64 : decode c_H_bringByRule 64 = .ok (.getfield 247, 3) := by decide +kernel
theorem d_H_bringByRule_67 : decode c_H_bringByRule 67 = .ok (.getfield 251, 3) := by decide +kernel
theorem d_H_bringByRule_70 : decode c_H_bringByRule 70 = .ok (.iload 6, 2) := by decide +kernel
theorem d_H_bringByRule_72 : decode c_H_bringByRule 72 = .ok (.iaload, 1) := by decide +kernel
theorem d_H_bringByRule_73 : decode c_H_bringByRule 73 = .ok (.aload_n 0, 1) := by decide +kernel
theorem d_H_bringByRule_74 : decode c_H_bringByRule 74 = .ok (.getfield 30, 3) := by decide +kernel
theorem d_H_bringByRule_77 : decode c_H_bringByRule 77 = .ok (.iload 6, 2) := by decide +kernel
theorem d_H_bringByRule_79 : decode c_H_bringByRule 79 = .ok (.iaload, 1) := by decide +kernel
theorem d_H_bringByRule_80 : decode c_H_bringByRule 80 = .ok (.ior, 1) := by decide +kernel
theorem d_H_bringByRule_81 : decode c_H_bringByRule 81 = .ok (.istore 7, 2) := by decide +kernel
theorem d_H_bringByRule_83 : decode c_H_bringByRule 83 = .ok (.aload_n 0, 1) := by decide +kernel
theorem d_H_bringByRule_84 : decode c_H_bringByRule 84 = .ok (.getfield 36, 3) := by decide +kernel
theorem d_H_bringByRule_87 : decode c_H_bringByRule 87 = .ok (.invokevirtual 238, 3) := by decide +kernel
theorem d_H_bringByRule_90 : decode c_H_bringByRule 90 = .ok (.aload_n 0, 1) := by decide +kernel
theorem d_H_bringByRule_91 : decode c_H_bringByRule 91 = .ok (.getfield 36, 3) := by decide +kernel
theorem d_H_bringByRule_94 : decode c_H_bringByRule 94 = .ok (.aload_n 3, 1) := by decide +kernel
theorem d_H_bringByRule_95 : decode c_H_bringByRule 95 = .ok (.getfield 241, 3) := by decide +kernel
theorem d_H_bringByRule_98 : decode c_H_bringByRule 98 = .ok (.iload 5, 2) := by decide +kernel
theorem d_H_bringByRule_100 : decode c_H_bringByRule 100 = .ok (.invokevirtual 256, 3) := by decide +kernel
theorem d_H_bringByRule_103 : decode c_H_bringByRule 103 = .ok (.pop, 1) := by decide +kernel
theorem d_H_bringByRule_104 : decode c_H_bringByRule 104 = .ok (.aload_n 0, 1) := by decide +kernel
theorem d_H_bringByRule_105 : decode c_H_bringByRule 105 = .ok (.getfield 36, 3) := by decide +kernel
theorem d_H_bringByRule_108 : decode c_H_bringByRule 108 = .ok (.aload_n 1, 1) := by decide +kernel
theorem d_H_bringByRule_109 : decode c_H_bringByRule 109 = .ok (.aload_n 3, 1) := by decide +kernel
theorem d_H_bringByRule_110 : decode c_H_bringByRule 110 = .ok (.getfield 259, 3) := by decide +kernel
theorem d_H_bringByRule_113 : decode c_H_bringByRule 113 = .ok (.invokevirtual 244, 3) := by decide +kernel
theorem d_H_bringByRule_116 : decode c_H_bringByRule 116 = .ok (.iload 7, 2) := by decide +kernel
theorem d_H_bringByRule_118 : decode c_H_bringByRule 118 = .ok (.iconst (-1), 1) := by decide +kernel
theorem d_H_bringByRule_119 : decode c_H_bringByRule 119 = .ok (.ixor, 1) := by decide +kernel
theorem d_H_bringByRule_120 : decode c_H_bringByRule 120 = .ok (.iand, 1) := by decide +kernel
theorem d_H_bringByRule_121 : decode c_H_bringByRule 121 = .ok (.istore 8, 2) := by decide +kernel
theorem d_H_bringByRule_123 : decode c_H_bringByRule 123 = .ok (.iconst 0, 1) := by decide +kernel
theorem d_H_bringByRule_124 : decode c_H_bringByRule 124 = .ok (.istore 9, 2) := by decide +kernel
theorem d_H_bringByRule_126 : decode c_H_bringByRule 126 = .ok (.iload 8, 2) := by decide +kernel
theorem d_H_bringByRule_128 : decode c_H_bringByRule 128 = .ok (.ifCond .eq 86, 3) := by decide +kernel
theorem d_H_bringByRule_131 : decode c_H_bringByRule 131 = .ok (.iload 9, 2) := by decide +kernel
theorem d_H_bringByRule_133 : decode c_H_bringByRule 133 = .ok (.bipush 12, 2) := by decide +kernel
theorem d_H_bringByRule_135 : decode c_H_bringByRule 135 = .ok (.if_icmp .ge 79, 3) := by decide +kernel
theorem d_H_bringByRule_138 : decode c_H_bringByRule 138 = .ok (.iload 8, 2) := by decide +kernel
theorem d_H_bringByRule_140 : decode c_H_bringByRule 140 = .ok (.iload 9, 2) := by decide +kernel
theorem d_H_bringByRule_142 : decode c_H_bringByRule 142 = .ok (.invokestatic 184, 3) := by decide +kernel
theorem d_H_bringByRule_145 : decode c_H_bringByRule 145 = .ok (.ifCond .eq 63, 3) := by decide +kernel
theorem d_H_bringByRule_148 : decode c_H_bringByRule 148 = .ok (.aload_n 0, 1) := by decide +kernel
theorem d_H_bringByRule_149 : decode c_H_bringByRule 149 = .ok (.getfield 36, 3) := by decide +kernel
theorem d_H_bringByRule_152 : decode c_H_bringByRule 152 = .ok (.aload_n 1, 1) := by decide +kernel
theorem d_H_bringByRule_153 : decode c_H_bringByRule 153 = .ok (.aload_n 3, 1) := by decide +kernel
theorem d_H_bringByRule_154 : decode c_H_bringByRule 154 = .ok (.getfield 205, 3) := by decide +kernel
theorem d_H_bringByRule_157 : decode c_H_bringByRule 157 = .ok (.iload 5, 2) := by decide +kernel
theorem d_H_bringByRule_159 : decode c_H_bringByRule 159 = .ok (.iload 9, 2) := by decide +kernel
theorem d_H_bringByRule_161 : decode c_H_bringByRule 161 = .ok (.invokevirtual 133, 3) := by decide +kernel
theorem d_H_bringByRule_164 : decode c_H_bringByRule 164 = .ok (.ifCond .eq 44, 3) := by decide +kernel
theorem d_H_bringByRule_167 : decode c_H_bringByRule 167 = .ok (.aload_n 0, 1) := by decide +kernel
theorem d_H_bringByRule_168 : decode c_H_bringByRule 168 = .ok (.getfield 36, 3) := by decide +kernel
theorem d_H_bringByRule_171 : decode c_H_bringByRule 171 = .ok (.aload_n 1, 1) := by decide +kernel
theorem d_H_bringByRule_172 : decode c_H_bringByRule 172 = .ok (.bipush 20, 2) := by decide +kernel
theorem d_H_bringByRule_174 : decode c_H_bringByRule 174 = .ok (.invokevirtual 262, 3) := by decide +kernel
theorem d_H_bringByRule_177 : decode c_H_bringByRule 177 = .ok (.ifCond .eq 31, 3) := by decide +kernel
theorem d_H_bringByRule_180 : decode c_H_bringByRule 180 = .ok (.aload_n 0, 1) := by decide +kernel
theorem d_H_bringByRule_181 : decode c_H_bringByRule 181 = .ok (.getfield 27, 3) := by decide +kernel
theorem d_H_bringByRule_184 : decode c_H_bringByRule 184 = .ok (.iload 6, 2) := by decide +kernel
theorem d_H_bringByRule_186 : decode c_H_bringByRule 186 = .ok (.bipush 12, 2) := by decide +kernel
theorem d_H_bringByRule_188 : decode c_H_bringByRule 188 = .ok (.imul, 1) := by decide +kernel
theorem d_H_bringByRule_189 : decode c_H_bringByRule 189 = .ok (.iload 9, 2) := by decide +kernel
theorem d_H_bringByRule_191 : decode c_H_bringByRule 191 = .ok (.iadd, 1) := by decide +kernel
theorem d_H_bringByRule_192 : decode c_H_bringByRule 192 = .ok (.iload_n 2, 1) := by decide +kernel
theorem d_H_bringByRule_193 : decode c_H_bringByRule 193 = .ok (.iastore, 1) := by decide +kernel
theorem d_H_bringByRule_194 : decode c_H_bringByRule 194 = .ok (.aload_n 0, 1) := by decide +kernel
theorem d_H_bringByRule_195 : decode c_H_bringByRule 195 = .ok (.getfield 30, 3) := by decide +kernel
theorem d_H_bringByRule_198 : decode c_H_bringByRule 198 = .ok (.iload 6, 2) := by decide +kernel
theorem d_H_bringByRule_200 : decode c_H_bringByRule 200 = .ok (.dup2, 1) := by decide +kernel
theorem d_H_bringByRule_201 : decode c_H_bringByRule 201 = .ok (.iaload, 1) := by decide +kernel
theorem d_H_bringByRule_202 : decode c_H_bringByRule 202 = .ok (.iconst 1, 1) := by decide +kernel
theorem d_H_bringByRule_203 : decode c_H_bringByRule 203 = .ok (.iload 9, 2) := by decide +kernel
theorem d_H_bringByRule_205 : decode c_H_bringByRule 205 = .ok (.ishl, 1) := by decide +kernel
theorem d_H_bringByRule_206 : decode c_H_bringByRule 206 = .ok (.ior, 1) := by decide +kernel
theorem d_H_bringByRule_207 : decode c_H_bringByRule 207 = .ok (.iastore, 1) := by decide +kernel
theorem d_H_bringByRule_208 : decode c_H_bringByRule 208 = .ok (.iinc 9 1, 3) := by decide +kernel
theorem d_H_bringByRule_211 : decode c_H_bringByRule 211 = .ok (.goto (-85), 3) := by decide +kernel
theorem d_H_bringByRule_214 : decode c_H_bringByRule 214 = .ok (.iinc 5 1, 3) := by decide +kernel
theorem d_H_bringByRule_217 : decode c_H_bringByRule 217 = .ok (.goto (-188), 3) := by decide +kernel
theorem d_H_bringByRule_220 : decode c_H_bringByRule 220 = .ok (.return_, 1) := by decide +kernel
theorem d_H_showFresh_0 : decode c_H_showFresh 0 = .ok (.iconst 0, 1) := by decide +kernel
theorem d_H_showFresh_1 : decode c_H_showFresh 1 = .ok (.istore_n 1, 1) := by decide +kernel
theorem d_H_showFresh_2 : decode c_H_showFresh 2 = .ok (.iconst 0, 1) := by decide +kernel
theorem d_H_showFresh_3 : decode c_H_showFresh 3 = .ok (.istore_n 2, 1) := by decide +kernel
theorem d_H_showFresh_4 : decode c_H_showFresh 4 = .ok (.iload_n 2, 1) := by decide +kernel
theorem d_H_showFresh_5 : decode c_H_showFresh 5 = .ok (.bipush 96, 2) := by decide +kernel
theorem d_H_showFresh_7 : decode c_H_showFresh 7 = .ok (.if_icmp .ge 80, 3) := by decide +kernel
theorem d_H_showFresh_10 : decode c_H_showFresh 10 = .ok (.iconst 0, 1) := by decide +kernel
theorem d_H_showFresh_11 : decode c_H_showFresh 11 = .ok (.istore_n 3, 1) := by decide +kernel
theorem d_H_showFresh_12 : decode c_H_showFresh 12 = .ok (.aload_n 0, 1) := by decide +kernel
theorem d_H_showFresh_13 : decode c_H_showFresh 13 = .ok (.getfield 30, 3) := by decide +kernel
theorem d_H_showFresh_16 : decode c_H_showFresh 16 = .ok (.iload_n 2, 1) := by decide +kernel
theorem d_H_showFresh_17 : decode c_H_showFresh 17 = .ok (.iaload, 1) := by decide +kernel
theorem d_H_showFresh_18 : decode c_H_showFresh 18 = .ok (.ifCond .eq 56, 3) := by decide +kernel
theorem d_H_showFresh_21 : decode c_H_showFresh 21 = .ok (.iload_n 3, 1) := by decide +kernel
theorem d_H_showFresh_22 : decode c_H_showFresh 22 = .ok (.bipush 12, 2) := by decide +kernel
theorem d_H_showFresh_24 : decode c_H_showFresh 24 = .ok (.if_icmp .ge 50, 3) := by decide +kernel
theorem d_H_showFresh_27 : decode c_H_showFresh 27 = .ok (.aload_n 0, 1) := by decide +kernel
theorem d_H_showFresh_28 : decode c_H_showFresh 28 = .ok (.getfield 30, 3) := by decide +kernel
theorem d_H_showFresh_31 : decode c_H_showFresh 31 = .ok (.iload_n 2, 1) := by decide +kernel
theorem d_H_showFresh_32 : decode c_H_showFresh 32 = .ok (.iaload, 1) := by decide +kernel
theorem d_H_showFresh_33 : decode c_H_showFresh 33 = .ok (.iload_n 3, 1) := by decide +kernel
theorem d_H_showFresh_34 : decode c_H_showFresh 34 = .ok (.invokestatic 184, 3) := by decide +kernel
theorem d_H_showFresh_37 : decode c_H_showFresh 37 = .ok (.ifCond .eq 31, 3) := by decide +kernel
theorem d_H_showFresh_40 : decode c_H_showFresh 40 = .ok (.aload_n 0, 1) := by decide +kernel
theorem d_H_showFresh_41 : decode c_H_showFresh 41 = .ok (.getfield 36, 3) := by decide +kernel
theorem d_H_showFresh_44 : decode c_H_showFresh 44 = .ok (.getfield 247, 3) := by decide +kernel
theorem d_H_showFresh_47 : decode c_H_showFresh 47 = .ok (.iload_n 2, 1) := by decide +kernel
theorem d_H_showFresh_48 : decode c_H_showFresh 48 = .ok (.bipush 12, 2) := by decide +kernel
theorem d_H_showFresh_50 : decode c_H_showFresh 50 = .ok (.idiv, 1) := by decide +kernel
theorem d_H_showFresh_51 : decode c_H_showFresh 51 = .ok (.iload_n 2, 1) := by decide +kernel
theorem d_H_showFresh_52 : decode c_H_showFresh 52 = .ok (.bipush 12, 2) := by decide +kernel
theorem d_H_showFresh_54 : decode c_H_showFresh 54 = .ok (.irem, 1) := by decide +kernel
theorem d_H_showFresh_55 : decode c_H_showFresh 55 = .ok (.iload_n 3, 1) := by decide +kernel
theorem d_H_showFresh_56 : decode c_H_showFresh 56 = .ok (.invokevirtual 266, 3) := by decide +kernel
theorem d_H_showFresh_59 : decode c_H_showFresh 59 = .ok (.iload_n 1, 1) := by decide +kernel
theorem d_H_showFresh_60 : decode c_H_showFresh 60 = .ok (.iconst 1, 1) := by decide +kernel
theorem d_H_showFresh_61 : decode c_H_showFresh 61 = .ok (.iload_n 2, 1) := by decide +kernel
theorem d_H_showFresh_62 : decode c_H_showFresh 62 = .ok (.bipush 12, 2) := by decide +kernel
theorem d_H_showFresh_64 : decode c_H_showFresh 64 = .ok (.idiv, 1) := by decide +kernel
theorem d_H_showFresh_65 : decode c_H_showFresh 65 = .ok (.ishl, 1) := by decide +kernel
theorem d_H_showFresh_66 : decode c_H_showFresh 66 = .ok (.ior, 1) := by decide +kernel
theorem d_H_showFresh_67 : decode c_H_showFresh 67 = .ok (.istore_n 1, 1) := by decide +kernel
theorem d_H_showFresh_68 : decode c_H_showFresh 68 = .ok (.iinc 3 1, 3) := by decide +kernel
theorem d_H_showFresh_71 : decode c_H_showFresh 71 = .ok (.goto (-59), 3) := by decide +kernel
theorem d_H_showFresh_74 : decode c_H_showFresh 74 = .ok (.aload_n 0, 1) := by decide +kernel
theorem d_H_showFresh_75 : decode c_H_showFresh 75 = .ok (.getfield 30, 3) := by decide +kernel
theorem d_H_showFresh_78 : decode c_H_showFresh 78 = .ok (.iload_n 2, 1) := by decide +kernel
theorem d_H_showFresh_79 : decode c_H_showFresh 79 = .ok (.iconst 0, 1) := by decide +kernel
theorem d_H_showFresh_80 : decode c_H_showFresh 80 = .ok (.iastore, 1) := by decide +kernel
theorem d_H_showFresh_81 : decode c_H_showFresh 81 = .ok (.iinc 2 1, 3) := by decide +kernel
theorem d_H_showFresh_84 : decode c_H_showFresh 84 = .ok (.goto (-80), 3) := by decide +kernel
theorem d_H_showFresh_87 : decode c_H_showFresh 87 = .ok (.iload_n 1, 1) := by decide +kernel
theorem d_H_showFresh_88 : decode c_H_showFresh 88 = .ok (.ireturn, 1) := by decide +kernel
theorem d_H_look_0 : decode c_H_look 0 = .ok (.aload_n 0, 1) := by decide +kernel
theorem d_H_look_1 : decode c_H_look 1 = .ok (.getfield 36, 3) := by decide +kernel
theorem d_H_look_4 : decode c_H_look 4 = .ok (.getfield 247, 3) := by decide +kernel
theorem d_H_look_7 : decode c_H_look 7 = .ok (.invokevirtual 269, 3) := by decide +kernel
theorem d_H_look_10 : decode c_H_look 10 = .ok (.iconst 0, 1) := by decide +kernel
theorem d_H_look_11 : decode c_H_look 11 = .ok (.istore_n 3, 1) := by decide +kernel
theorem d_H_look_12 : decode c_H_look 12 = .ok (.iload_n 3, 1) := by decide +kernel
theorem d_H_look_13 : decode c_H_look 13 = .ok (.aload_n 0, 1) := by decide +kernel
theorem d_H_look_14 : decode c_H_look 14 = .ok (.getfield 51, 3) := by decide +kernel
theorem d_H_look_17 : decode c_H_look 17 = .ok (.if_icmp .ge 40, 3) := by decide +kernel
theorem d_H_look_20 : decode c_H_look 20 = .ok (.aload_n 0, 1) := by decide +kernel
theorem d_H_look_21 : decode c_H_look 21 = .ok (.getfield 24, 3) := by decide +kernel
theorem d_H_look_24 : decode c_H_look 24 = .ok (.iload_n 3, 1) := by decide +kernel
theorem d_H_look_25 : decode c_H_look 25 = .ok (.iaload, 1) := by decide +kernel
theorem d_H_look_26 : decode c_H_look 26 = .ok (.iload_n 1, 1) := by decide +kernel
theorem d_H_look_27 : decode c_H_look 27 = .ok (.if_icmp .gt 24, 3) := by decide +kernel
theorem d_H_look_30 : decode c_H_look 30 = .ok (.aload_n 0, 1) := by decide +kernel
theorem d_H_look_31 : decode c_H_look 31 = .ok (.iload_n 3, 1) := by decide +kernel
theorem d_H_look_32 : decode c_H_look 32 = .ok (.aload_n 0, 1) := by decide +kernel
theorem d_H_look_33 : decode c_H_look 33 = .ok (.getfield 24, 3) := by decide +kernel
theorem d_H_look_36 : decode c_H_look 36 = .ok (.iload_n 3, 1) := by decide +kernel
theorem d_H_look_37 : decode c_H_look 37 = .ok (.iaload, 1) := by decide +kernel
theorem d_H_look_38 : decode c_H_look 38 = .ok (.iload_n 1, 1) := by decide +kernel
theorem d_H_look_39 : decode c_H_look 39 = .ok (.if_icmp .ge 8, 3) := by decide +kernel
theorem d_H_look_42 : decode c_H_look 42 = .ok (.ldc 128, 2) := by decide +kernel
theorem d_H_look_44 : decode c_H_look 44 = .ok (.goto 4, 3) := by decide +kernel
theorem d_H_look_47 : decode c_H_look 47 = .ok (.iload_n 2, 1) := by decide +kernel
theorem d_H_look_48 : decode c_H_look 48 = .ok (.invokevirtual 270, 3) := by decide +kernel
theorem d_H_look_51 : decode c_H_look 51 = .ok (.iinc 3 1, 3) := by decide +kernel
theorem d_H_look_54 : decode c_H_look 54 = .ok (.goto (-42), 3) := by decide +kernel
theorem d_H_look_57 : decode c_H_look 57 = .ok (.return_, 1) := by decide +kernel
theorem d_H_lookAt_0 : decode c_H_lookAt 0 = .ok (.iconst 0, 1) := by decide +kernel
theorem d_H_lookAt_1 : decode c_H_lookAt 1 = .ok (.istore_n 3, 1) := by decide +kernel
theorem d_H_lookAt_2 : decode c_H_lookAt 2 = .ok (.iload_n 3, 1) := by decide +kernel
theorem d_H_lookAt_3 : decode c_H_lookAt 3 = .ok (.bipush 12, 2) := by decide +kernel
theorem d_H_lookAt_5 : decode c_H_lookAt 5 = .ok (.if_icmp .ge 65, 3) := by decide +kernel
theorem d_H_lookAt_8 : decode c_H_lookAt 8 = .ok (.iconst 0, 1) := by decide +kernel
theorem d_H_lookAt_9 : decode c_H_lookAt 9 = .ok (.istore 4, 2) := by decide +kernel
theorem d_H_lookAt_11 : decode c_H_lookAt 11 = .ok (.iload 4, 2) := by decide +kernel
theorem d_H_lookAt_13 : decode c_H_lookAt 13 = .ok (.bipush 12, 2) := by decide +kernel
theorem d_H_lookAt_15 : decode c_H_lookAt 15 = .ok (.if_icmp .ge 49, 3) := by decide +kernel
theorem d_H_lookAt_18 : decode c_H_lookAt 18 = .ok (.aload_n 0, 1) := by decide +kernel
theorem d_H_lookAt_19 : decode c_H_lookAt 19 = .ok (.getfield 27, 3) := by decide +kernel
theorem d_H_lookAt_22 : decode c_H_lookAt 22 = .ok (.iload_n 1, 1) := by decide +kernel
theorem d_H_lookAt_23 : decode c_H_lookAt 23 = .ok (.iload_n 3, 1) := by decide +kernel
theorem d_H_lookAt_24 : decode c_H_lookAt 24 = .ok (.iload 4, 2) := by decide +kernel
theorem d_H_lookAt_26 : decode c_H_lookAt 26 = .ok (.invokestatic 124, 3) := by decide +kernel
theorem d_H_lookAt_29 : decode c_H_lookAt 29 = .ok (.iaload, 1) := by decide +kernel
theorem d_H_lookAt_30 : decode c_H_lookAt 30 = .ok (.istore 5, 2) := by decide +kernel
theorem d_H_lookAt_32 : decode c_H_lookAt 32 = .ok (.iload 5, 2) := by decide +kernel
theorem d_H_lookAt_34 : decode c_H_lookAt 34 = .ok (.iconst (-1), 1) := by decide +kernel
theorem d_H_lookAt_35 : decode c_H_lookAt 35 = .ok (.if_icmp .eq 23, 3) := by decide +kernel
theorem d_H_lookAt_38 : decode c_H_lookAt 38 = .ok (.iload 5, 2) := by decide +kernel
theorem d_H_lookAt_40 : decode c_H_lookAt 40 = .ok (.iload_n 2, 1) := by decide +kernel
theorem d_H_lookAt_41 : decode c_H_lookAt 41 = .ok (.if_icmp .ge 17, 3) := by decide +kernel
theorem d_H_lookAt_44 : decode c_H_lookAt 44 = .ok (.aload_n 0, 1) := by decide +kernel
theorem d_H_lookAt_45 : decode c_H_lookAt 45 = .ok (.getfield 36, 3) := by decide +kernel
theorem d_H_lookAt_48 : decode c_H_lookAt 48 = .ok (.getfield 247, 3) := by decide +kernel
theorem d_H_lookAt_51 : decode c_H_lookAt 51 = .ok (.iload_n 1, 1) := by decide +kernel
theorem d_H_lookAt_52 : decode c_H_lookAt 52 = .ok (.iload_n 3, 1) := by decide +kernel
theorem d_H_lookAt_53 : decode c_H_lookAt 53 = .ok (.iload 4, 2) := by decide +kernel
theorem d_H_lookAt_55 : decode c_H_lookAt 55 = .ok (.invokevirtual 266, 3) := by decide +kernel
theorem d_H_lookAt_58 : decode c_H_lookAt 58 = .ok (.iinc 4 1, 3) := by decide +kernel
theorem d_H_lookAt_61 : decode c_H_lookAt 61 = .ok (.goto (-50), 3) := by decide +kernel
theorem d_H_lookAt_64 : decode c_H_lookAt 64 = .ok (.iinc 3 1, 3) := by decide +kernel
theorem d_H_lookAt_67 : decode c_H_lookAt 67 = .ok (.goto (-65), 3) := by decide +kernel
theorem d_H_lookAt_70 : decode c_H_lookAt 70 = .ok (.return_, 1) := by decide +kernel
theorem d_H_leastRule_0 : decode c_H_leastRule 0 = .ok (.iconst 0, 1) := by decide +kernel
theorem d_H_leastRule_1 : decode c_H_leastRule 1 = .ok (.istore 4, 2) := by decide +kernel
theorem d_H_leastRule_3 : decode c_H_leastRule 3 = .ok (.iload 4, 2) := by decide +kernel
theorem d_H_leastRule_5 : decode c_H_leastRule 5 = .ok (.aload_n 0, 1) := by decide +kernel
theorem d_H_leastRule_6 : decode c_H_leastRule 6 = .ok (.getfield 54, 3) := by decide +kernel
theorem d_H_leastRule_9 : decode c_H_leastRule 9 = .ok (.if_icmp .ge 51, 3) := by decide +kernel
theorem d_H_leastRule_12 : decode c_H_leastRule 12 = .ok (.aload_n 0, 1) := by decide +kernel
theorem d_H_leastRule_13 : decode c_H_leastRule 13 = .ok (.getfield 36, 3) := by decide +kernel
theorem d_H_leastRule_16 : decode c_H_leastRule 16 = .ok (.aload_n 0, 1) := by decide +kernel
theorem d_H_leastRule_17 : decode c_H_leastRule 17 = .ok (.getfield 20, 3) := by decide +kernel
theorem d_H_leastRule_20 : decode c_H_leastRule 20 = .ok (.iload 4, 2) := by decide +kernel
theorem d_H_leastRule_22 : decode c_H_leastRule 22 = .ok (.aaload, 1) := by decide +kernel
theorem d_H_leastRule_23 : decode c_H_leastRule 23 = .ok (.iload_n 1, 1) := by decide +kernel
theorem d_H_leastRule_24 : decode c_H_leastRule 24 = .ok (.iload_n 2, 1) := by decide +kernel
theorem d_H_leastRule_25 : decode c_H_leastRule 25 = .ok (.iload_n 3, 1) := by decide +kernel
theorem d_H_leastRule_26 : decode c_H_leastRule 26 = .ok (.invokevirtual 133, 3) := by decide +kernel
theorem d_H_leastRule_29 : decode c_H_leastRule 29 = .ok (.ifCond .eq 25, 3) := by decide +kernel
theorem d_H_leastRule_32 : decode c_H_leastRule 32 = .ok (.aload_n 0, 1) := by decide +kernel
theorem d_H_leastRule_33 : decode c_H_leastRule 33 = .ok (.getfield 36, 3) := by decide +kernel
theorem d_H_leastRule_36 : decode c_H_leastRule 36 = .ok (.aload_n 0, 1) := by decide +kernel
theorem d_H_leastRule_37 : decode c_H_leastRule 37 = .ok (.getfield 20, 3) := by decide +kernel
theorem d_H_leastRule_40 : decode c_H_leastRule 40 = .ok (.iload 4, 2) := by decide +kernel
theorem d_H_leastRule_42 : decode c_H_leastRule 42 = .ok (.aaload, 1) := by decide +kernel
theorem d_H_leastRule_43 : decode c_H_leastRule 43 = .ok (.bipush 20, 2) := by decide +kernel
theorem d_H_leastRule_45 : decode c_H_leastRule 45 = .ok (.invokevirtual 262, 3) := by decide +kernel
theorem d_H_leastRule_48 : decode c_H_leastRule 48 = .ok (.ifCond .eq 6, 3) := by decide +kernel
theorem d_H_leastRule_51 : decode c_H_leastRule 51 = .ok (.iload 4, 2) := by decide +kernel
theorem d_H_leastRule_53 : decode c_H_leastRule 53 = .ok (.ireturn, 1) := by decide +kernel
theorem d_H_leastRule_54 : decode c_H_leastRule 54 = .ok (.iinc 4 1, 3) := by decide +kernel
theorem d_H_leastRule_57 : decode c_H_leastRule 57 = .ok (.goto (-54), 3) := by decide +kernel
theorem d_H_leastRule_60 : decode c_H_leastRule 60 = .ok (.iconst (-1), 1) := by decide +kernel
theorem d_H_leastRule_61 : decode c_H_leastRule 61 = .ok (.ireturn, 1) := by decide +kernel
theorem d_A_init_0 : decode c_A_init 0 = .ok (.aload_n 0, 1) := by decide +kernel
theorem d_A_init_1 : decode c_A_init 1 = .ok (.invokespecial 3, 3) := by decide +kernel
theorem d_A_init_4 : decode c_A_init 4 = .ok (.return_, 1) := by decide +kernel
theorem d_A_become_0 : decode c_A_become 0 = .ok (.aload_n 0, 1) := by decide +kernel
theorem d_A_become_1 : decode c_A_become 1 = .ok (.iload_n 1, 1) := by decide +kernel
theorem d_A_become_2 : decode c_A_become 2 = .ok (.putfield 9, 3) := by decide +kernel
theorem d_A_become_5 : decode c_A_become 5 = .ok (.aload_n 0, 1) := by decide +kernel
theorem d_A_become_6 : decode c_A_become 6 = .ok (.iload_n 2, 1) := by decide +kernel
theorem d_A_become_7 : decode c_A_become 7 = .ok (.putfield 15, 3) := by decide +kernel
theorem d_A_become_10 : decode c_A_become 10 = .ok (.aload_n 0, 1) := by decide +kernel
theorem d_A_become_11 : decode c_A_become 11 = .ok (.iload_n 3, 1) := by decide +kernel
theorem d_A_become_12 : decode c_A_become 12 = .ok (.putfield 18, 3) := by decide +kernel
theorem d_A_become_15 : decode c_A_become 15 = .ok (.aload_n 0, 1) := by decide +kernel
theorem d_A_become_16 : decode c_A_become 16 = .ok (.iload 4, 2) := by decide +kernel
theorem d_A_become_18 : decode c_A_become 18 = .ok (.putfield 21, 3) := by decide +kernel
theorem d_A_become_21 : decode c_A_become 21 = .ok (.return_, 1) := by decide +kernel
theorem d_A_variables_0 : decode c_A_variables 0 = .ok (.iconst 1, 1) := by decide +kernel
theorem d_A_variables_1 : decode c_A_variables 1 = .ok (.aload_n 0, 1) := by decide +kernel
theorem d_A_variables_2 : decode c_A_variables 2 = .ok (.getfield 15, 3) := by decide +kernel
theorem d_A_variables_5 : decode c_A_variables 5 = .ok (.ishl, 1) := by decide +kernel
theorem d_A_variables_6 : decode c_A_variables 6 = .ok (.iconst 1, 1) := by decide +kernel
theorem d_A_variables_7 : decode c_A_variables 7 = .ok (.aload_n 0, 1) := by decide +kernel
theorem d_A_variables_8 : decode c_A_variables 8 = .ok (.getfield 18, 3) := by decide +kernel
theorem d_A_variables_11 : decode c_A_variables 11 = .ok (.ishl, 1) := by decide +kernel
theorem d_A_variables_12 : decode c_A_variables 12 = .ok (.ior, 1) := by decide +kernel
theorem d_A_variables_13 : decode c_A_variables 13 = .ok (.ldc 25, 2) := by decide +kernel
theorem d_A_variables_15 : decode c_A_variables 15 = .ok (.iand, 1) := by decide +kernel
theorem d_A_variables_16 : decode c_A_variables 16 = .ok (.ireturn, 1) := by decide +kernel
theorem d_M_init_0 : decode c_M_init 0 = .ok (.aload_n 0, 1) := by decide +kernel
theorem d_M_init_1 : decode c_M_init 1 = .ok (.invokespecial 3, 3) := by decide +kernel
theorem d_M_init_4 : decode c_M_init 4 = .ok (.aload_n 0, 1) := by decide +kernel
theorem d_M_init_5 : decode c_M_init 5 = .ok (.new 9, 3) := by decide +kernel
theorem d_M_init_8 : decode c_M_init 8 = .ok (.dup, 1) := by decide +kernel
theorem d_M_init_9 : decode c_M_init 9 = .ok (.invokespecial 11, 3) := by decide +kernel
theorem d_M_init_12 : decode c_M_init 12 = .ok (.putfield 12, 3) := by decide +kernel
theorem d_M_init_15 : decode c_M_init 15 = .ok (.aload_n 0, 1) := by decide +kernel
theorem d_M_init_16 : decode c_M_init 16 = .ok (.bipush 24, 2) := by decide +kernel
theorem d_M_init_18 : decode c_M_init 18 = .ok (.newarray .int, 2) := by decide +kernel
theorem d_M_init_20 : decode c_M_init 20 = .ok (.putfield 18, 3) := by decide +kernel
theorem d_M_init_23 : decode c_M_init 23 = .ok (.iconst 0, 1) := by decide +kernel
theorem d_M_init_24 : decode c_M_init 24 = .ok (.istore_n 1, 1) := by decide +kernel
theorem d_M_init_25 : decode c_M_init 25 = .ok (.iload_n 1, 1) := by decide +kernel
theorem d_M_init_26 : decode c_M_init 26 = .ok (.bipush 12, 2) := by decide +kernel
theorem d_M_init_28 : decode c_M_init 28 = .ok (.if_icmp .ge 16, 3) := by decide +kernel
theorem d_M_init_31 : decode c_M_init 31 = .ok (.aload_n 0, 1) := by decide +kernel
theorem d_M_init_32 : decode c_M_init 32 = .ok (.getfield 18, 3) := by decide +kernel
theorem d_M_init_35 : decode c_M_init 35 = .ok (.iload_n 1, 1) := by decide +kernel
theorem d_M_init_36 : decode c_M_init 36 = .ok (.iload_n 1, 1) := by decide +kernel
theorem d_M_init_37 : decode c_M_init 37 = .ok (.iastore, 1) := by decide +kernel
theorem d_M_init_38 : decode c_M_init 38 = .ok (.iinc 1 1, 3) := by decide +kernel
theorem d_M_init_41 : decode c_M_init 41 = .ok (.goto (-16), 3) := by decide +kernel
theorem d_M_init_44 : decode c_M_init 44 = .ok (.return_, 1) := by decide +kernel
theorem d_M_forget_0 : decode c_M_forget 0 = .ok (.bipush 20, 2) := by decide +kernel
theorem d_M_forget_2 : decode c_M_forget 2 = .ok (.istore_n 1, 1) := by decide +kernel
theorem d_M_forget_3 : decode c_M_forget 3 = .ok (.iload_n 1, 1) := by decide +kernel
theorem d_M_forget_4 : decode c_M_forget 4 = .ok (.bipush 24, 2) := by decide +kernel
theorem d_M_forget_6 : decode c_M_forget 6 = .ok (.if_icmp .ge 16, 3) := by decide +kernel
theorem d_M_forget_9 : decode c_M_forget 9 = .ok (.aload_n 0, 1) := by decide +kernel
theorem d_M_forget_10 : decode c_M_forget 10 = .ok (.getfield 18, 3) := by decide +kernel
theorem d_M_forget_13 : decode c_M_forget 13 = .ok (.iload_n 1, 1) := by decide +kernel
theorem d_M_forget_14 : decode c_M_forget 14 = .ok (.iconst (-1), 1) := by decide +kernel
theorem d_M_forget_15 : decode c_M_forget 15 = .ok (.iastore, 1) := by decide +kernel
theorem d_M_forget_16 : decode c_M_forget 16 = .ok (.iinc 1 1, 3) := by decide +kernel
theorem d_M_forget_19 : decode c_M_forget 19 = .ok (.goto (-16), 3) := by decide +kernel
theorem d_M_forget_22 : decode c_M_forget 22 = .ok (.return_, 1) := by decide +kernel
theorem d_M_bind_0 : decode c_M_bind 0 = .ok (.aload_n 0, 1) := by decide +kernel
theorem d_M_bind_1 : decode c_M_bind 1 = .ok (.getfield 18, 3) := by decide +kernel
theorem d_M_bind_4 : decode c_M_bind 4 = .ok (.iload_n 1, 1) := by decide +kernel
theorem d_M_bind_5 : decode c_M_bind 5 = .ok (.iaload, 1) := by decide +kernel
theorem d_M_bind_6 : decode c_M_bind 6 = .ok (.iconst (-1), 1) := by decide +kernel
theorem d_M_bind_7 : decode c_M_bind 7 = .ok (.if_icmp .ne 10, 3) := by decide +kernel
theorem d_M_bind_10 : decode c_M_bind 10 = .ok (.aload_n 0, 1) := by decide +kernel
theorem d_M_bind_11 : decode c_M_bind 11 = .ok (.getfield 18, 3) := by decide +kernel
theorem d_M_bind_14 : decode c_M_bind 14 = .ok (.iload_n 1, 1) := by decide +kernel
theorem d_M_bind_15 : decode c_M_bind 15 = .ok (.iload_n 2, 1) := by decide +kernel
theorem d_M_bind_16 : decode c_M_bind 16 = .ok (.iastore, 1) := by decide +kernel
theorem d_M_bind_17 : decode c_M_bind 17 = .ok (.aload_n 0, 1) := by decide +kernel
theorem d_M_bind_18 : decode c_M_bind 18 = .ok (.getfield 18, 3) := by decide +kernel
theorem d_M_bind_21 : decode c_M_bind 21 = .ok (.iload_n 1, 1) := by decide +kernel
theorem d_M_bind_22 : decode c_M_bind 22 = .ok (.iaload, 1) := by decide +kernel
theorem d_M_bind_23 : decode c_M_bind 23 = .ok (.iload_n 2, 1) := by decide +kernel
theorem d_M_bind_24 : decode c_M_bind 24 = .ok (.if_icmp .ne 7, 3) := by decide +kernel
theorem d_M_bind_27 : decode c_M_bind 27 = .ok (.iconst 1, 1) := by decide +kernel
theorem d_M_bind_28 : decode c_M_bind 28 = .ok (.goto 4, 3) := by decide +kernel
theorem d_M_bind_31 : decode c_M_bind 31 = .ok (.iconst 0, 1) := by decide +kernel
theorem d_M_bind_32 : decode c_M_bind 32 = .ok (.ireturn, 1) := by decide +kernel
theorem d_M_meets_0 : decode c_M_meets 0 = .ok (.aload_n 0, 1) := by decide +kernel
theorem d_M_meets_1 : decode c_M_meets 1 = .ok (.invokevirtual 22, 3) := by decide +kernel
theorem d_M_meets_4 : decode c_M_meets 4 = .ok (.aload_n 1, 1) := by decide +kernel
theorem d_M_meets_5 : decode c_M_meets 5 = .ok (.getfield 25, 3) := by decide +kernel
theorem d_M_meets_8 : decode c_M_meets 8 = .ok (.getfield 31, 3) := by decide +kernel
theorem d_M_meets_11 : decode c_M_meets 11 = .ok (.iload_n 2, 1) := by decide +kernel
theorem d_M_meets_12 : decode c_M_meets 12 = .ok (.if_icmp .ne 46, 3) := by decide +kernel
theorem d_M_meets_15 : decode c_M_meets 15 = .ok (.aload_n 0, 1) := by decide +kernel
theorem d_M_meets_16 : decode c_M_meets 16 = .ok (.aload_n 1, 1) := by decide +kernel
theorem d_M_meets_17 : decode c_M_meets 17 = .ok (.getfield 25, 3) := by decide +kernel
theorem d_M_meets_20 : decode c_M_meets 20 = .ok (.getfield 37, 3) := by decide +kernel
theorem d_M_meets_23 : decode c_M_meets 23 = .ok (.iload_n 3, 1) := by decide +kernel
theorem d_M_meets_24 : decode c_M_meets 24 = .ok (.invokevirtual 40, 3) := by decide +kernel
theorem d_M_meets_27 : decode c_M_meets 27 = .ok (.ifCond .eq 31, 3) := by decide +kernel
theorem d_M_meets_30 : decode c_M_meets 30 = .ok (.aload_n 0, 1) := by decide +kernel
theorem d_M_meets_31 : decode c_M_meets 31 = .ok (.aload_n 1, 1) := by decide +kernel
theorem d_M_meets_32 : decode c_M_meets 32 = .ok (.getfield 25, 3) := by decide +kernel
theorem d_M_meets_35 : decode c_M_meets 35 = .ok (.getfield 44, 3) := by decide +kernel
theorem d_M_meets_38 : decode c_M_meets 38 = .ok (.iload 4, 2) := by decide +kernel
theorem d_M_meets_40 : decode c_M_meets 40 = .ok (.invokevirtual 40, 3) := by decide +kernel
