theorem d_D_find_112 : decode c_D_find 112 = .ok (.if_icmp .ne 7, 3) := by decide +kernel
theorem d_D_find_115 : decode c_D_find 115 = .ok (.iconst 0, 1) := by decide +kernel
theorem d_D_find_116 : decode c_D_find 116 = .ok (.goto 9, 3) := by decide +kernel
theorem d_D_find_119 : decode c_D_find 119 = .ok (.aload_n 0, 1) := by decide +kernel
theorem d_D_find_120 : decode c_D_find 120 = .ok (.getfield 17, 3) := by decide +kernel
theorem d_D_find_123 : decode c_D_find 123 = .ok (.iload_n 2, 1) := by decide +kernel
theorem d_D_find_124 : decode c_D_find 124 = .ok (.iaload, 1) := by decide +kernel
theorem d_D_find_125 : decode c_D_find 125 = .ok (.iastore, 1) := by decide +kernel
theorem d_D_find_126 : decode c_D_find 126 = .ok (.iinc 2 1, 3) := by decide +kernel
theorem d_D_find_129 : decode c_D_find 129 = .ok (.goto (-61), 3) := by decide +kernel
theorem d_D_find_132 : decode c_D_find 132 = .ok (.iconst 1, 1) := by decide +kernel
theorem d_D_find_133 : decode c_D_find 133 = .ok (.istore_n 2, 1) := by decide +kernel
theorem d_D_find_134 : decode c_D_find 134 = .ok (.aload_n 0, 1) := by decide +kernel
theorem d_D_find_135 : decode c_D_find 135 = .ok (.iload_n 1, 1) := by decide +kernel
theorem d_D_find_136 : decode c_D_find 136 = .ok (.iload_n 2, 1) := by decide +kernel
theorem d_D_find_137 : decode c_D_find 137 = .ok (.invokevirtual 124, 3) := by decide +kernel
theorem d_D_find_140 : decode c_D_find 140 = .ok (.ifCond .eq 9, 3) := by decide +kernel
theorem d_D_find_143 : decode c_D_find 143 = .ok (.iinc 2 1, 3) := by decide +kernel
theorem d_D_find_146 : decode c_D_find 146 = .ok (.goto (-12), 3) := by decide +kernel
theorem d_D_find_149 : decode c_D_find 149 = .ok (.iinc 1 1, 3) := by decide +kernel
theorem d_D_find_152 : decode c_D_find 152 = .ok (.goto (-92), 3) := by decide +kernel
theorem d_D_find_155 : decode c_D_find 155 = .ok (.return_, 1) := by decide +kernel
theorem d_D_fault_0 : decode c_D_fault 0 = .ok (.aload_n 0, 1) := by decide +kernel
theorem d_D_fault_1 : decode c_D_fault 1 = .ok (.iconst 0, 1) := by decide +kernel
theorem d_D_fault_2 : decode c_D_fault 2 = .ok (.putfield 44, 3) := by decide +kernel
theorem d_D_fault_5 : decode c_D_fault 5 = .ok (.aload_n 0, 1) := by decide +kernel
theorem d_D_fault_6 : decode c_D_fault 6 = .ok (.invokevirtual 127, 3) := by decide +kernel
theorem d_D_fault_9 : decode c_D_fault 9 = .ok (.aload_n 0, 1) := by decide +kernel
theorem d_D_fault_10 : decode c_D_fault 10 = .ok (.getfield 121, 3) := by decide +kernel
theorem d_D_fault_13 : decode c_D_fault 13 = .ok (.ireturn, 1) := by decide +kernel
theorem d_D_layer_0 : decode c_D_layer 0 = .ok (.aload_n 0, 1) := by decide +kernel
theorem d_D_layer_1 : decode c_D_layer 1 = .ok (.invokevirtual 127, 3) := by decide +kernel
theorem d_D_layer_4 : decode c_D_layer 4 = .ok (.iload_n 1, 1) := by decide +kernel
theorem d_D_layer_5 : decode c_D_layer 5 = .ok (.iconst 0, 1) := by decide +kernel
theorem d_D_layer_6 : decode c_D_layer 6 = .ok (.aload_n 0, 1) := by decide +kernel
theorem d_D_layer_7 : decode c_D_layer 7 = .ok (.getfield 48, 3) := by decide +kernel
theorem d_D_layer_10 : decode c_D_layer 10 = .ok (.iconst 1, 1) := by decide +kernel
theorem d_D_layer_11 : decode c_D_layer 11 = .ok (.isub, 1) := by decide +kernel
theorem d_D_layer_12 : decode c_D_layer 12 = .ok (.invokestatic 58, 3) := by decide +kernel
theorem d_D_layer_15 : decode c_D_layer 15 = .ok (.istore_n 2, 1) := by decide +kernel
theorem d_D_layer_16 : decode c_D_layer 16 = .ok (.aload_n 0, 1) := by decide +kernel
theorem d_D_layer_17 : decode c_D_layer 17 = .ok (.iload_n 2, 1) := by decide +kernel
theorem d_D_layer_18 : decode c_D_layer 18 = .ok (.ifCond .ne 7, 3) := by decide +kernel
theorem d_D_layer_21 : decode c_D_layer 21 = .ok (.iconst 1, 1) := by decide +kernel
theorem d_D_layer_22 : decode c_D_layer 22 = .ok (.goto 4, 3) := by decide +kernel
theorem d_D_layer_25 : decode c_D_layer 25 = .ok (.iconst 0, 1) := by decide +kernel
theorem d_D_layer_26 : decode c_D_layer 26 = .ok (.iload_n 2, 1) := by decide +kernel
theorem d_D_layer_27 : decode c_D_layer 27 = .ok (.ifCond .eq 14, 3) := by decide +kernel
theorem d_D_layer_30 : decode c_D_layer 30 = .ok (.aload_n 0, 1) := by decide +kernel
theorem d_D_layer_31 : decode c_D_layer 31 = .ok (.getfield 121, 3) := by decide +kernel
theorem d_D_layer_34 : decode c_D_layer 34 = .ok (.ifCond .lt 7, 3) := by decide +kernel
theorem d_D_layer_37 : decode c_D_layer 37 = .ok (.iconst 1, 1) := by decide +kernel
theorem d_D_layer_38 : decode c_D_layer 38 = .ok (.goto 4, 3) := by decide +kernel
theorem d_D_layer_41 : decode c_D_layer 41 = .ok (.iconst 0, 1) := by decide +kernel
theorem d_D_layer_42 : decode c_D_layer 42 = .ok (.iconst 0, 1) := by decide +kernel
theorem d_D_layer_43 : decode c_D_layer 43 = .ok (.invokevirtual 62, 3) := by decide +kernel
theorem d_D_layer_46 : decode c_D_layer 46 = .ok (.ifCond .eq 7, 3) := by decide +kernel
theorem d_D_layer_49 : decode c_D_layer 49 = .ok (.iconst 0, 1) := by decide +kernel
theorem d_D_layer_50 : decode c_D_layer 50 = .ok (.goto 9, 3) := by decide +kernel
theorem d_D_layer_53 : decode c_D_layer 53 = .ok (.aload_n 0, 1) := by decide +kernel
theorem d_D_layer_54 : decode c_D_layer 54 = .ok (.getfield 35, 3) := by decide +kernel
theorem d_D_layer_57 : decode c_D_layer 57 = .ok (.iload_n 1, 1) := by decide +kernel
theorem d_D_layer_58 : decode c_D_layer 58 = .ok (.iaload, 1) := by decide +kernel
theorem d_D_layer_59 : decode c_D_layer 59 = .ok (.ireturn, 1) := by decide +kernel
theorem d_D_count_0 : decode c_D_count 0 = .ok (.aload_n 0, 1) := by decide +kernel
theorem d_D_count_1 : decode c_D_count 1 = .ok (.invokevirtual 127, 3) := by decide +kernel
theorem d_D_count_4 : decode c_D_count 4 = .ok (.iload_n 1, 1) := by decide +kernel
theorem d_D_count_5 : decode c_D_count 5 = .ok (.iconst 0, 1) := by decide +kernel
theorem d_D_count_6 : decode c_D_count 6 = .ok (.aload_n 0, 1) := by decide +kernel
theorem d_D_count_7 : decode c_D_count 7 = .ok (.getfield 48, 3) := by decide +kernel
theorem d_D_count_10 : decode c_D_count 10 = .ok (.iconst 1, 1) := by decide +kernel
theorem d_D_count_11 : decode c_D_count 11 = .ok (.isub, 1) := by decide +kernel
theorem d_D_count_12 : decode c_D_count 12 = .ok (.invokestatic 58, 3) := by decide +kernel
theorem d_D_count_15 : decode c_D_count 15 = .ok (.istore_n 2, 1) := by decide +kernel
theorem d_D_count_16 : decode c_D_count 16 = .ok (.aload_n 0, 1) := by decide +kernel
theorem d_D_count_17 : decode c_D_count 17 = .ok (.iload_n 2, 1) := by decide +kernel
theorem d_D_count_18 : decode c_D_count 18 = .ok (.ifCond .ne 7, 3) := by decide +kernel
theorem d_D_count_21 : decode c_D_count 21 = .ok (.iconst 1, 1) := by decide +kernel
theorem d_D_count_22 : decode c_D_count 22 = .ok (.goto 4, 3) := by decide +kernel
theorem d_D_count_25 : decode c_D_count 25 = .ok (.iconst 0, 1) := by decide +kernel
theorem d_D_count_26 : decode c_D_count 26 = .ok (.iload_n 2, 1) := by decide +kernel
theorem d_D_count_27 : decode c_D_count 27 = .ok (.ifCond .eq 14, 3) := by decide +kernel
theorem d_D_count_30 : decode c_D_count 30 = .ok (.aload_n 0, 1) := by decide +kernel
theorem d_D_count_31 : decode c_D_count 31 = .ok (.getfield 121, 3) := by decide +kernel
theorem d_D_count_34 : decode c_D_count 34 = .ok (.ifCond .lt 7, 3) := by decide +kernel
theorem d_D_count_37 : decode c_D_count 37 = .ok (.iconst 1, 1) := by decide +kernel
theorem d_D_count_38 : decode c_D_count 38 = .ok (.goto 4, 3) := by decide +kernel
theorem d_D_count_41 : decode c_D_count 41 = .ok (.iconst 0, 1) := by decide +kernel
theorem d_D_count_42 : decode c_D_count 42 = .ok (.iconst 0, 1) := by decide +kernel
theorem d_D_count_43 : decode c_D_count 43 = .ok (.invokevirtual 62, 3) := by decide +kernel
theorem d_D_count_46 : decode c_D_count 46 = .ok (.ifCond .eq 5, 3) := by decide +kernel
theorem d_D_count_49 : decode c_D_count 49 = .ok (.iconst 0, 1) := by decide +kernel
theorem d_D_count_50 : decode c_D_count 50 = .ok (.ireturn, 1) := by decide +kernel
theorem d_D_count_51 : decode c_D_count 51 = .ok (.iconst 0, 1) := by decide +kernel
theorem d_D_count_52 : decode c_D_count 52 = .ok (.istore_n 3, 1) := by decide +kernel
theorem d_D_count_53 : decode c_D_count 53 = .ok (.sipush 144, 3) := by decide +kernel
theorem d_D_count_56 : decode c_D_count 56 = .ok (.iload_n 1, 1) := by decide +kernel
theorem d_D_count_57 : decode c_D_count 57 = .ok (.imul, 1) := by decide +kernel
theorem d_D_count_58 : decode c_D_count 58 = .ok (.istore 4, 2) := by decide +kernel
theorem d_D_count_60 : decode c_D_count 60 = .ok (.iload 4, 2) := by decide +kernel
theorem d_D_count_62 : decode c_D_count 62 = .ok (.sipush 144, 3) := by decide +kernel
theorem d_D_count_65 : decode c_D_count 65 = .ok (.iload_n 1, 1) := by decide +kernel
theorem d_D_count_66 : decode c_D_count 66 = .ok (.imul, 1) := by decide +kernel
theorem d_D_count_67 : decode c_D_count 67 = .ok (.sipush 144, 3) := by decide +kernel
theorem d_D_count_70 : decode c_D_count 70 = .ok (.iadd, 1) := by decide +kernel
theorem d_D_count_71 : decode c_D_count 71 = .ok (.if_icmp .ge 26, 3) := by decide +kernel
theorem d_D_count_74 : decode c_D_count 74 = .ok (.aload_n 0, 1) := by decide +kernel
theorem d_D_count_75 : decode c_D_count 75 = .ok (.iload 4, 2) := by decide +kernel
theorem d_D_count_77 : decode c_D_count 77 = .ok (.invokevirtual 103, 3) := by decide +kernel
theorem d_D_count_80 : decode c_D_count 80 = .ok (.ifCond .eq 9, 3) := by decide +kernel
theorem d_D_count_83 : decode c_D_count 83 = .ok (.iload_n 3, 1) := by decide +kernel
theorem d_D_count_84 : decode c_D_count 84 = .ok (.iconst 1, 1) := by decide +kernel
theorem d_D_count_85 : decode c_D_count 85 = .ok (.iadd, 1) := by decide +kernel
theorem d_D_count_86 : decode c_D_count 86 = .ok (.goto 4, 3) := by decide +kernel
theorem d_D_count_89 : decode c_D_count 89 = .ok (.iload_n 3, 1) := by decide +kernel
theorem d_D_count_90 : decode c_D_count 90 = .ok (.istore_n 3, 1) := by decide +kernel
theorem d_D_count_91 : decode c_D_count 91 = .ok (.iinc 4 1, 3) := by decide +kernel
theorem d_D_count_94 : decode c_D_count 94 = .ok (.goto (-34), 3) := by decide +kernel
theorem d_D_count_97 : decode c_D_count 97 = .ok (.iload_n 3, 1) := by decide +kernel
theorem d_D_count_98 : decode c_D_count 98 = .ok (.ireturn, 1) := by decide +kernel
theorem d_D_rank_0 : decode c_D_rank 0 = .ok (.aload_n 0, 1) := by decide +kernel
theorem d_D_rank_1 : decode c_D_rank 1 = .ok (.invokevirtual 127, 3) := by decide +kernel
theorem d_D_rank_4 : decode c_D_rank 4 = .ok (.aload_n 0, 1) := by decide +kernel
theorem d_D_rank_5 : decode c_D_rank 5 = .ok (.iload_n 1, 1) := by decide +kernel
theorem d_D_rank_6 : decode c_D_rank 6 = .ok (.iload_n 2, 1) := by decide +kernel
theorem d_D_rank_7 : decode c_D_rank 7 = .ok (.iload_n 3, 1) := by decide +kernel
theorem d_D_rank_8 : decode c_D_rank 8 = .ok (.invokevirtual 66, 3) := by decide +kernel
theorem d_D_rank_11 : decode c_D_rank 11 = .ok (.istore 4, 2) := by decide +kernel
theorem d_D_rank_13 : decode c_D_rank 13 = .ok (.aload_n 0, 1) := by decide +kernel
theorem d_D_rank_14 : decode c_D_rank 14 = .ok (.iload 4, 2) := by decide +kernel
theorem d_D_rank_16 : decode c_D_rank 16 = .ok (.ifCond .ne 7, 3) := by decide +kernel
theorem d_D_rank_19 : decode c_D_rank 19 = .ok (.iconst 1, 1) := by decide +kernel
theorem d_D_rank_20 : decode c_D_rank 20 = .ok (.goto 4, 3) := by decide +kernel
theorem d_D_rank_23 : decode c_D_rank 23 = .ok (.iconst 0, 1) := by decide +kernel
theorem d_D_rank_24 : decode c_D_rank 24 = .ok (.iload 4, 2) := by decide +kernel
theorem d_D_rank_26 : decode c_D_rank 26 = .ok (.ifCond .eq 14, 3) := by decide +kernel
theorem d_D_rank_29 : decode c_D_rank 29 = .ok (.aload_n 0, 1) := by decide +kernel
theorem d_D_rank_30 : decode c_D_rank 30 = .ok (.getfield 121, 3) := by decide +kernel
theorem d_D_rank_33 : decode c_D_rank 33 = .ok (.ifCond .lt 7, 3) := by decide +kernel
theorem d_D_rank_36 : decode c_D_rank 36 = .ok (.iconst 1, 1) := by decide +kernel
theorem d_D_rank_37 : decode c_D_rank 37 = .ok (.goto 4, 3) := by decide +kernel
theorem d_D_rank_40 : decode c_D_rank 40 = .ok (.iconst 0, 1) := by decide +kernel
theorem d_D_rank_41 : decode c_D_rank 41 = .ok (.iconst 0, 1) := by decide +kernel
theorem d_D_rank_42 : decode c_D_rank 42 = .ok (.invokevirtual 62, 3) := by decide +kernel
theorem d_D_rank_45 : decode c_D_rank 45 = .ok (.ifCond .eq 7, 3) := by decide +kernel
theorem d_D_rank_48 : decode c_D_rank 48 = .ok (.iconst 0, 1) := by decide +kernel
theorem d_D_rank_49 : decode c_D_rank 49 = .ok (.goto 15, 3) := by decide +kernel
theorem d_D_rank_52 : decode c_D_rank 52 = .ok (.aload_n 0, 1) := by decide +kernel
theorem d_D_rank_53 : decode c_D_rank 53 = .ok (.getfield 17, 3) := by decide +kernel
theorem d_D_rank_56 : decode c_D_rank 56 = .ok (.aload_n 0, 1) := by decide +kernel
theorem d_D_rank_57 : decode c_D_rank 57 = .ok (.iload_n 1, 1) := by decide +kernel
theorem d_D_rank_58 : decode c_D_rank 58 = .ok (.iload_n 2, 1) := by decide +kernel
theorem d_D_rank_59 : decode c_D_rank 59 = .ok (.iload_n 3, 1) := by decide +kernel
theorem d_D_rank_60 : decode c_D_rank 60 = .ok (.invokevirtual 69, 3) := by decide +kernel
theorem d_D_rank_63 : decode c_D_rank 63 = .ok (.iaload, 1) := by decide +kernel
theorem d_D_rank_64 : decode c_D_rank 64 = .ok (.ireturn, 1) := by decide +kernel
theorem d_D_ways_0 : decode c_D_ways 0 = .ok (.aload_n 0, 1) := by decide +kernel
theorem d_D_ways_1 : decode c_D_ways 1 = .ok (.invokevirtual 127, 3) := by decide +kernel
theorem d_D_ways_4 : decode c_D_ways 4 = .ok (.aload_n 0, 1) := by decide +kernel
theorem d_D_ways_5 : decode c_D_ways 5 = .ok (.iload_n 1, 1) := by decide +kernel
theorem d_D_ways_6 : decode c_D_ways 6 = .ok (.iload_n 2, 1) := by decide +kernel
theorem d_D_ways_7 : decode c_D_ways 7 = .ok (.iload_n 3, 1) := by decide +kernel
theorem d_D_ways_8 : decode c_D_ways 8 = .ok (.invokevirtual 66, 3) := by decide +kernel
theorem d_D_ways_11 : decode c_D_ways 11 = .ok (.istore 4, 2) := by decide +kernel
theorem d_D_ways_13 : decode c_D_ways 13 = .ok (.aload_n 0, 1) := by decide +kernel
theorem d_D_ways_14 : decode c_D_ways 14 = .ok (.iload 4, 2) := by decide +kernel
theorem d_D_ways_16 : decode c_D_ways 16 = .ok (.ifCond .ne 7, 3) := by decide +kernel
theorem d_D_ways_19 : decode c_D_ways 19 = .ok (.iconst 1, 1) := by decide +kernel
theorem d_D_ways_20 : decode c_D_ways 20 = .ok (.goto 4, 3) := by decide +kernel
theorem d_D_ways_23 : decode c_D_ways 23 = .ok (.iconst 0, 1) := by decide +kernel
theorem d_D_ways_24 : decode c_D_ways 24 = .ok (.iload 4, 2) := by decide +kernel
theorem d_D_ways_26 : decode c_D_ways 26 = .ok (.ifCond .eq 14, 3) := by decide +kernel
theorem d_D_ways_29 : decode c_D_ways 29 = .ok (.aload_n 0, 1) := by decide +kernel
theorem d_D_ways_30 : decode c_D_ways 30 = .ok (.getfield 121, 3) := by decide +kernel
theorem d_D_ways_33 : decode c_D_ways 33 = .ok (.ifCond .lt 7, 3) := by decide +kernel
theorem d_D_ways_36 : decode c_D_ways 36 = .ok (.iconst 1, 1) := by decide +kernel
theorem d_D_ways_37 : decode c_D_ways 37 = .ok (.goto 4, 3) := by decide +kernel
theorem d_D_ways_40 : decode c_D_ways 40 = .ok (.iconst 0, 1) := by decide +kernel
theorem d_D_ways_41 : decode c_D_ways 41 = .ok (.iconst 0, 1) := by decide +kernel
theorem d_D_ways_42 : decode c_D_ways 42 = .ok (.invokevirtual 62, 3) := by decide +kernel
theorem d_D_ways_45 : decode c_D_ways 45 = .ok (.ifCond .eq 5, 3) := by decide +kernel
theorem d_D_ways_48 : decode c_D_ways 48 = .ok (.iconst 0, 1) := by decide +kernel
theorem d_D_ways_49 : decode c_D_ways 49 = .ok (.ireturn, 1) := by decide +kernel
theorem d_D_ways_50 : decode c_D_ways 50 = .ok (.aload_n 0, 1) := by decide +kernel
theorem d_D_ways_51 : decode c_D_ways 51 = .ok (.iload_n 1, 1) := by decide +kernel
theorem d_D_ways_52 : decode c_D_ways 52 = .ok (.iload_n 2, 1) := by decide +kernel
theorem d_D_ways_53 : decode c_D_ways 53 = .ok (.iload_n 3, 1) := by decide +kernel
theorem d_D_ways_54 : decode c_D_ways 54 = .ok (.invokevirtual 69, 3) := by decide +kernel
theorem d_D_ways_57 : decode c_D_ways 57 = .ok (.istore 5, 2) := by decide +kernel
theorem d_D_ways_59 : decode c_D_ways 59 = .ok (.iconst 0, 1) := by decide +kernel
theorem d_D_ways_60 : decode c_D_ways 60 = .ok (.istore 6, 2) := by decide +kernel
theorem d_D_ways_62 : decode c_D_ways 62 = .ok (.iconst 0, 1) := by decide +kernel
theorem d_D_ways_63 : decode c_D_ways 63 = .ok (.istore 7, 2) := by decide +kernel
theorem d_D_ways_65 : decode c_D_ways 65 = .ok (.iload 7, 2) := by decide +kernel
theorem d_D_ways_67 : decode c_D_ways 67 = .ok (.aload_n 0, 1) := by decide +kernel
theorem d_D_ways_68 : decode c_D_ways 68 = .ok (.getfield 51, 3) := by decide +kernel
theorem d_D_ways_71 : decode c_D_ways 71 = .ok (.if_icmp .ge 82, 3) := by decide +kernel
theorem d_D_ways_74 : decode c_D_ways 74 = .ok (.iconst 0, 1) := by decide +kernel
theorem d_D_ways_75 : decode c_D_ways 75 = .ok (.istore 8, 2) := by decide +kernel
theorem d_D_ways_77 : decode c_D_ways 77 = .ok (.aload_n 0, 1) := by decide +kernel
theorem d_D_ways_78 : decode c_D_ways 78 = .ok (.getfield 23, 3) := by decide +kernel
theorem d_D_ways_81 : decode c_D_ways 81 = .ok (.iconst 5, 1) := by decide +kernel
theorem d_D_ways_82 : decode c_D_ways 82 = .ok (.iload 7, 2) := by decide +kernel
theorem d_D_ways_84 : decode c_D_ways 84 = .ok (.imul, 1) := by decide +kernel
theorem d_D_ways_85 : decode c_D_ways 85 = .ok (.iaload, 1) := by decide +kernel
theorem d_D_ways_86 : decode c_D_ways 86 = .ok (.iload_n 1, 1) := by decide +kernel
theorem d_D_ways_87 : decode c_D_ways 87 = .ok (.if_icmp .ne 60, 3) := by decide +kernel
theorem d_D_ways_90 : decode c_D_ways 90 = .ok (.aload_n 0, 1) := by decide +kernel
theorem d_D_ways_91 : decode c_D_ways 91 = .ok (.iload 7, 2) := by decide +kernel
theorem d_D_ways_93 : decode c_D_ways 93 = .ok (.iload 8, 2) := by decide +kernel
theorem d_D_ways_95 : decode c_D_ways 95 = .ok (.invokevirtual 106, 3) := by decide +kernel
theorem d_D_ways_98 : decode c_D_ways 98 = .ok (.ifCond .eq 49, 3) := by decide +kernel
theorem d_D_ways_101 : decode c_D_ways 101 = .ok (.aload_n 0, 1) := by decide +kernel
theorem d_D_ways_102 : decode c_D_ways 102 = .ok (.iconst 5, 1) := by decide +kernel
theorem d_D_ways_103 : decode c_D_ways 103 = .ok (.iload 7, 2) := by decide +kernel
theorem d_D_ways_105 : decode c_D_ways 105 = .ok (.imul, 1) := by decide +kernel
theorem d_D_ways_106 : decode c_D_ways 106 = .ok (.invokevirtual 100, 3) := by decide +kernel
theorem d_D_ways_109 : decode c_D_ways 109 = .ok (.iload 5, 2) := by decide +kernel
theorem d_D_ways_111 : decode c_D_ways 111 = .ok (.if_icmp .ne 19, 3) := by decide +kernel
theorem d_D_ways_114 : decode c_D_ways 114 = .ok (.aload_n 0, 1) := by decide +kernel
theorem d_D_ways_115 : decode c_D_ways 115 = .ok (.iload 7, 2) := by decide +kernel
theorem d_D_ways_117 : decode c_D_ways 117 = .ok (.invokevirtual 110, 3) := by decide +kernel
theorem d_D_ways_120 : decode c_D_ways 120 = .ok (.ifCond .eq 10, 3) := by decide +kernel
theorem d_D_ways_123 : decode c_D_ways 123 = .ok (.iload 6, 2) := by decide +kernel
theorem d_D_ways_125 : decode c_D_ways 125 = .ok (.iconst 1, 1) := by decide +kernel
theorem d_D_ways_126 : decode c_D_ways 126 = .ok (.iadd, 1) := by decide +kernel
theorem d_D_ways_127 : decode c_D_ways 127 = .ok (.goto 5, 3) := by decide +kernel
theorem d_D_ways_130 : decode c_D_ways 130 = .ok (.iload 6, 2) := by decide +kernel
theorem d_D_ways_132 : decode c_D_ways 132 = .ok (.istore 6, 2) := by decide +kernel
theorem d_D_ways_134 : decode c_D_ways 134 = .ok (.aload_n 0, 1) := by decide +kernel
theorem d_D_ways_135 : decode c_D_ways 135 = .ok (.iload 7, 2) := by decide +kernel
theorem d_D_ways_137 : decode c_D_ways 137 = .ok (.iload 8, 2) := by decide +kernel
theorem d_D_ways_139 : decode c_D_ways 139 = .ok (.invokevirtual 113, 3) := by decide +kernel
theorem d_D_ways_142 : decode c_D_ways 142 = .ok (.istore 8, 2) := by decide +kernel
theorem d_D_ways_144 : decode c_D_ways 144 = .ok (.goto (-67), 3) := by decide +kernel
theorem d_D_ways_147 : decode c_D_ways 147 = .ok (.iinc 7 1, 3) := by decide +kernel
theorem d_D_ways_150 : decode c_D_ways 150 = .ok (.goto (-85), 3) := by decide +kernel
theorem d_D_ways_153 : decode c_D_ways 153 = .ok (.iload 6, 2) := by decide +kernel
theorem d_D_ways_155 : decode c_D_ways 155 = .ok (.ireturn, 1) := by decide +kernel
theorem d_D_isLower_0 : decode c_D_isLower 0 = .ok (.iconst 1, 1) := by decide +kernel
theorem d_D_isLower_1 : decode c_D_isLower 1 = .ok (.istore_n 3, 1) := by decide +kernel
theorem d_D_isLower_2 : decode c_D_isLower 2 = .ok (.iconst 1, 1) := by decide +kernel
theorem d_D_isLower_3 : decode c_D_isLower 3 = .ok (.istore 4, 2) := by decide +kernel
theorem d_D_isLower_5 : decode c_D_isLower 5 = .ok (.iload 4, 2) := by decide +kernel
theorem d_D_isLower_7 : decode c_D_isLower 7 = .ok (.aload_n 0, 1) := by decide +kernel
theorem d_D_isLower_8 : decode c_D_isLower 8 = .ok (.getfield 20, 3) := by decide +kernel
theorem d_D_isLower_11 : decode c_D_isLower 11 = .ok (.iload_n 1, 1) := by decide +kernel
theorem d_D_isLower_12 : decode c_D_isLower 12 = .ok (.iaload, 1) := by decide +kernel
theorem d_D_isLower_13 : decode c_D_isLower 13 = .ok (.if_icmp .gt 80, 3) := by decide +kernel
theorem d_D_isLower_16 : decode c_D_isLower 16 = .ok (.iconst 5, 1) := by decide +kernel
theorem d_D_isLower_17 : decode c_D_isLower 17 = .ok (.iload_n 1, 1) := by decide +kernel
theorem d_D_isLower_18 : decode c_D_isLower 18 = .ok (.imul, 1) := by decide +kernel
theorem d_D_isLower_19 : decode c_D_isLower 19 = .ok (.iload 4, 2) := by decide +kernel
theorem d_D_isLower_21 : decode c_D_isLower 21 = .ok (.iadd, 1) := by decide +kernel
theorem d_D_isLower_22 : decode c_D_isLower 22 = .ok (.istore 5, 2) := by decide +kernel
theorem d_D_isLower_24 : decode c_D_isLower 24 = .ok (.iload_n 3, 1) := by decide +kernel
theorem d_D_isLower_25 : decode c_D_isLower 25 = .ok (.ifCond .eq 60, 3) := by decide +kernel
theorem d_D_isLower_28 : decode c_D_isLower 28 = .ok (.aload_n 0, 1) := by decide +kernel
theorem d_D_isLower_29 : decode c_D_isLower 29 = .ok (.getfield 32, 3) := by decide +kernel
theorem d_D_isLower_32 : decode c_D_isLower 32 = .ok (.iload 5, 2) := by decide +kernel
theorem d_D_isLower_34 : decode c_D_isLower 34 = .ok (.baload, 1) := by decide +kernel
theorem d_D_isLower_35 : decode c_D_isLower 35 = .ok (.ifCond .ne 46, 3) := by decide +kernel
theorem d_D_isLower_38 : decode c_D_isLower 38 = .ok (.aload_n 0, 1) := by decide +kernel
theorem d_D_isLower_39 : decode c_D_isLower 39 = .ok (.getfield 35, 3) := by decide +kernel
theorem d_D_isLower_42 : decode c_D_isLower 42 = .ok (.aload_n 0, 1) := by decide +kernel
theorem d_D_isLower_43 : decode c_D_isLower 43 = .ok (.getfield 23, 3) := by decide +kernel
theorem d_D_isLower_46 : decode c_D_isLower 46 = .ok (.iload 5, 2) := by decide +kernel
theorem d_D_isLower_48 : decode c_D_isLower 48 = .ok (.iaload, 1) := by decide +kernel
theorem d_D_isLower_49 : decode c_D_isLower 49 = .ok (.iaload, 1) := by decide +kernel
theorem d_D_isLower_50 : decode c_D_isLower 50 = .ok (.aload_n 0, 1) := by decide +kernel
theorem d_D_isLower_51 : decode c_D_isLower 51 = .ok (.getfield 35, 3) := by decide +kernel
theorem d_D_isLower_54 : decode c_D_isLower 54 = .ok (.aload_n 0, 1) := by decide +kernel
theorem d_D_isLower_55 : decode c_D_isLower 55 = .ok (.getfield 23, 3) := by decide +kernel
theorem d_D_isLower_58 : decode c_D_isLower 58 = .ok (.iconst 5, 1) := by decide +kernel
theorem d_D_isLower_59 : decode c_D_isLower 59 = .ok (.iload_n 1, 1) := by decide +kernel
theorem d_D_isLower_60 : decode c_D_isLower 60 = .ok (.imul, 1) := by decide +kernel
theorem d_D_isLower_61 : decode c_D_isLower 61 = .ok (.iaload, 1) := by decide +kernel
theorem d_D_isLower_62 : decode c_D_isLower 62 = .ok (.iaload, 1) := by decide +kernel
theorem d_D_isLower_63 : decode c_D_isLower 63 = .ok (.if_icmp .lt 18, 3) := by decide +kernel
theorem d_D_isLower_66 : decode c_D_isLower 66 = .ok (.aload_n 0, 1) := by decide +kernel
theorem d_D_isLower_67 : decode c_D_isLower 67 = .ok (.getfield 17, 3) := by decide +kernel
theorem d_D_isLower_70 : decode c_D_isLower 70 = .ok (.aload_n 0, 1) := by decide +kernel
theorem d_D_isLower_71 : decode c_D_isLower 71 = .ok (.iload 5, 2) := by decide +kernel
theorem d_D_isLower_73 : decode c_D_isLower 73 = .ok (.invokevirtual 100, 3) := by decide +kernel
theorem d_D_isLower_76 : decode c_D_isLower 76 = .ok (.iaload, 1) := by decide +kernel
theorem d_D_isLower_77 : decode c_D_isLower 77 = .ok (.iload_n 2, 1) := by decide +kernel
theorem d_D_isLower_78 : decode c_D_isLower 78 = .ok (.if_icmp .ge 7, 3) := by decide +kernel
theorem d_D_isLower_81 : decode c_D_isLower 81 = .ok (.iconst 1, 1) := by decide +kernel
theorem d_D_isLower_82 : decode c_D_isLower 82 = .ok (.goto 4, 3) := by decide +kernel
theorem d_D_isLower_85 : decode c_D_isLower 85 = .ok (.iconst 0, 1) := by decide +kernel
theorem d_D_isLower_86 : decode c_D_isLower 86 = .ok (.istore_n 3, 1) := by decide +kernel
theorem d_D_isLower_87 : decode c_D_isLower 87 = .ok (.iinc 4 1, 3) := by decide +kernel
theorem d_D_isLower_90 : decode c_D_isLower 90 = .ok (.goto (-85), 3) := by decide +kernel
theorem d_D_isLower_93 : decode c_D_isLower 93 = .ok (.iload_n 3, 1) := by decide +kernel
theorem d_D_isLower_94 : decode c_D_isLower 94 = .ok (.ireturn, 1) := by decide +kernel
theorem d_D_proof_0 : decode c_D_proof 0 = .ok (.aload_n 0, 1) := by decide +kernel
theorem d_D_proof_1 : decode c_D_proof 1 = .ok (.invokevirtual 127, 3) := by decide +kernel
theorem d_D_proof_4 : decode c_D_proof 4 = .ok (.aload_n 0, 1) := by decide +kernel
theorem d_D_proof_5 : decode c_D_proof 5 = .ok (.iload_n 1, 1) := by decide +kernel
theorem d_D_proof_6 : decode c_D_proof 6 = .ok (.iload_n 2, 1) := by decide +kernel
theorem d_D_proof_7 : decode c_D_proof 7 = .ok (.iload_n 3, 1) := by decide +kernel
theorem d_D_proof_8 : decode c_D_proof 8 = .ok (.invokevirtual 66, 3) := by decide +kernel
theorem d_D_proof_11 : decode c_D_proof 11 = .ok (.ifCond .eq 17, 3) := by decide +kernel
theorem d_D_proof_14 : decode c_D_proof 14 = .ok (.iload 4, 2) := by decide +kernel
theorem d_D_proof_16 : decode c_D_proof 16 = .ok (.iconst 0, 1) := by decide +kernel
theorem d_D_proof_17 : decode c_D_proof 17 = .ok (.iconst 4, 1) := by decide +kernel
theorem d_D_proof_18 : decode c_D_proof 18 = .ok (.invokestatic 58, 3) := by decide +kernel
theorem d_D_proof_21 : decode c_D_proof 21 = .ok (.ifCond .eq 7, 3) := by decide +kernel
theorem d_D_proof_24 : decode c_D_proof 24 = .ok (.iconst 1, 1) := by decide +kernel
theorem d_D_proof_25 : decode c_D_proof 25 = .ok (.goto 4, 3) := by decide +kernel
theorem d_D_proof_28 : decode c_D_proof 28 = .ok (.iconst 0, 1) := by decide +kernel
theorem d_D_proof_29 : decode c_D_proof 29 = .ok (.istore 5, 2) := by decide +kernel
theorem d_D_proof_31 : decode c_D_proof 31 = .ok (.iload 5, 2) := by decide +kernel
theorem d_D_proof_33 : decode c_D_proof 33 = .ok (.ifCond .eq 14, 3) := by decide +kernel
theorem d_D_proof_36 : decode c_D_proof 36 = .ok (.aload_n 0, 1) := by decide +kernel
theorem d_D_proof_37 : decode c_D_proof 37 = .ok (.getfield 121, 3) := by decide +kernel
theorem d_D_proof_40 : decode c_D_proof 40 = .ok (.ifCond .ge 7, 3) := by decide +kernel
theorem d_D_proof_43 : decode c_D_proof 43 = .ok (.iconst 1, 1) := by decide +kernel
theorem d_D_proof_44 : decode c_D_proof 44 = .ok (.goto 4, 3) := by decide +kernel
theorem d_D_proof_47 : decode c_D_proof 47 = .ok (.iconst 0, 1) := by decide +kernel
theorem d_D_proof_48 : decode c_D_proof 48 = .ok (.istore 6, 2) := by decide +kernel
theorem d_D_proof_50 : decode c_D_proof 50 = .ok (.iload 6, 2) := by decide +kernel
theorem d_D_proof_52 : decode c_D_proof 52 = .ok (.ifCond .eq 13, 3) := by decide +kernel
theorem d_D_proof_55 : decode c_D_proof 55 = .ok (.aload_n 0, 1) := by decide +kernel
theorem d_D_proof_56 : decode c_D_proof 56 = .ok (.iload_n 1, 1) := by decide +kernel
theorem d_D_proof_57 : decode c_D_proof 57 = .ok (.iload_n 2, 1) := by decide +kernel
theorem d_D_proof_58 : decode c_D_proof 58 = .ok (.iload_n 3, 1) := by decide +kernel
theorem d_D_proof_59 : decode c_D_proof 59 = .ok (.invokevirtual 69, 3) := by decide +kernel
theorem d_D_proof_62 : decode c_D_proof 62 = .ok (.goto 4, 3) := by decide +kernel
theorem d_D_proof_65 : decode c_D_proof 65 = .ok (.iconst 0, 1) := by decide +kernel
theorem d_D_proof_66 : decode c_D_proof 66 = .ok (.istore 7, 2) := by decide +kernel
theorem d_D_proof_68 : decode c_D_proof 68 = .ok (.aload_n 0, 1) := by decide +kernel
theorem d_D_proof_69 : decode c_D_proof 69 = .ok (.iload 5, 2) := by decide +kernel
theorem d_D_proof_71 : decode c_D_proof 71 = .ok (.ifCond .ne 7, 3) := by decide +kernel
theorem d_D_proof_74 : decode c_D_proof 74 = .ok (.iconst 1, 1) := by decide +kernel
theorem d_D_proof_75 : decode c_D_proof 75 = .ok (.goto 4, 3) := by decide +kernel
theorem d_D_proof_78 : decode c_D_proof 78 = .ok (.iconst 0, 1) := by decide +kernel
theorem d_D_proof_79 : decode c_D_proof 79 = .ok (.iload 5, 2) := by decide +kernel
theorem d_D_proof_81 : decode c_D_proof 81 = .ok (.ifCond .eq 14, 3) := by decide +kernel
theorem d_D_proof_84 : decode c_D_proof 84 = .ok (.aload_n 0, 1) := by decide +kernel
theorem d_D_proof_85 : decode c_D_proof 85 = .ok (.getfield 121, 3) := by decide +kernel
theorem d_D_proof_88 : decode c_D_proof 88 = .ok (.ifCond .lt 7, 3) := by decide +kernel
theorem d_D_proof_91 : decode c_D_proof 91 = .ok (.iconst 1, 1) := by decide +kernel
theorem d_D_proof_92 : decode c_D_proof 92 = .ok (.goto 4, 3) := by decide +kernel
theorem d_D_proof_95 : decode c_D_proof 95 = .ok (.iconst 0, 1) := by decide +kernel
theorem d_D_proof_96 : decode c_D_proof 96 = .ok (.iload 6, 2) := by decide +kernel
theorem d_D_proof_98 : decode c_D_proof 98 = .ok (.ifCond .eq 17, 3) := by decide +kernel
theorem d_D_proof_101 : decode c_D_proof 101 = .ok (.aload_n 0, 1) := by decide +kernel
theorem d_D_proof_102 : decode c_D_proof 102 = .ok (.getfield 17, 3) := by decide +kernel
theorem d_D_proof_105 : decode c_D_proof 105 = .ok (.iload 7, 2) := by decide +kernel
theorem d_D_proof_107 : decode c_D_proof 107 = .ok (.iaload, 1) := by decide +kernel
theorem d_D_proof_108 : decode c_D_proof 108 = .ok (.ifCond .gt 7, 3) := by decide +kernel
theorem d_D_proof_111 : decode c_D_proof 111 = .ok (.iconst 1, 1) := by decide +kernel
theorem d_D_proof_112 : decode c_D_proof 112 = .ok (.goto 4, 3) := by decide +kernel
theorem d_D_proof_115 : decode c_D_proof 115 = .ok (.iconst 0, 1) := by decide +kernel
theorem d_D_proof_116 : decode c_D_proof 116 = .ok (.invokevirtual 62, 3) := by decide +kernel
theorem d_D_proof_119 : decode c_D_proof 119 = .ok (.ifCond .eq 5, 3) := by decide +kernel
theorem d_D_proof_122 : decode c_D_proof 122 = .ok (.iconst 0, 1) := by decide +kernel
theorem d_D_proof_123 : decode c_D_proof 123 = .ok (.ireturn, 1) := by decide +kernel
theorem d_D_proof_124 : decode c_D_proof 124 = .ok (.iconst 0, 1) := by decide +kernel
theorem d_D_proof_125 : decode c_D_proof 125 = .ok (.istore 8, 2) := by decide +kernel
theorem d_D_proof_127 : decode c_D_proof 127 = .ok (.iload 8, 2) := by decide +kernel
theorem d_D_proof_129 : decode c_D_proof 129 = .ok (.aload_n 0, 1) := by decide +kernel
theorem d_D_proof_130 : decode c_D_proof 130 = .ok (.getfield 51, 3) := by decide +kernel
theorem d_D_proof_133 : decode c_D_proof 133 = .ok (.if_icmp .ge 128, 3) := by decide +kernel
theorem d_D_proof_136 : decode c_D_proof 136 = .ok (.iconst 0, 1) := by decide +kernel
theorem d_D_proof_137 : decode c_D_proof 137 = .ok (.istore 9, 2) := by decide +kernel
theorem d_D_proof_139 : decode c_D_proof 139 = .ok (.aload_n 0, 1) := by decide +kernel
theorem d_D_proof_140 : decode c_D_proof 140 = .ok (.getfield 23, 3) := by decide +kernel
theorem d_D_proof_143 : decode c_D_proof 143 = .ok (.iconst 5, 1) := by decide +kernel
theorem d_D_proof_144 : decode c_D_proof 144 = .ok (.iload 8, 2) := by decide +kernel
theorem d_D_proof_146 : decode c_D_proof 146 = .ok (.imul, 1) := by decide +kernel
theorem d_D_proof_147 : decode c_D_proof 147 = .ok (.iaload, 1) := by decide +kernel
theorem d_D_proof_148 : decode c_D_proof 148 = .ok (.iload_n 1, 1) := by decide +kernel
theorem d_D_proof_149 : decode c_D_proof 149 = .ok (.if_icmp .ne 106, 3) := by decide +kernel
theorem d_D_proof_152 : decode c_D_proof 152 = .ok (.aload_n 0, 1) := by decide +kernel
theorem d_D_proof_153 : decode c_D_proof 153 = .ok (.iload 8, 2) := by decide +kernel
theorem d_D_proof_155 : decode c_D_proof 155 = .ok (.iload 9, 2) := by decide +kernel
theorem d_D_proof_157 : decode c_D_proof 157 = .ok (.invokevirtual 106, 3) := by decide +kernel
theorem d_D_proof_160 : decode c_D_proof 160 = .ok (.ifCond .eq 95, 3) := by decide +kernel
theorem d_D_proof_163 : decode c_D_proof 163 = .ok (.aload_n 0, 1) := by decide +kernel
theorem d_D_proof_164 : decode c_D_proof 164 = .ok (.iconst 5, 1) := by decide +kernel
theorem d_D_proof_165 : decode c_D_proof 165 = .ok (.iload 8, 2) := by decide +kernel
theorem d_D_proof_167 : decode c_D_proof 167 = .ok (.imul, 1) := by decide +kernel
theorem d_D_proof_168 : decode c_D_proof 168 = .ok (.invokevirtual 100, 3) := by decide +kernel
theorem d_D_proof_171 : decode c_D_proof 171 = .ok (.iload 7, 2) := by decide +kernel
theorem d_D_proof_173 : decode c_D_proof 173 = .ok (.if_icmp .ne 69, 3) := by decide +kernel
theorem d_D_proof_176 : decode c_D_proof 176 = .ok (.aload_n 0, 1) := by decide +kernel
theorem d_D_proof_177 : decode c_D_proof 177 = .ok (.iload 8, 2) := by decide +kernel
theorem d_D_proof_179 : decode c_D_proof 179 = .ok (.invokevirtual 110, 3) := by decide +kernel
theorem d_D_proof_182 : decode c_D_proof 182 = .ok (.ifCond .eq 60, 3) := by decide +kernel
theorem d_D_proof_185 : decode c_D_proof 185 = .ok (.aload_n 0, 1) := by decide +kernel
theorem d_D_proof_186 : decode c_D_proof 186 = .ok (.iload 8, 2) := by decide +kernel
theorem d_D_proof_188 : decode c_D_proof 188 = .ok (.aload_n 0, 1) := by decide +kernel
theorem d_D_proof_189 : decode c_D_proof 189 = .ok (.getfield 17, 3) := by decide +kernel
theorem d_D_proof_192 : decode c_D_proof 192 = .ok (.iload 7, 2) := by decide +kernel
theorem d_D_proof_194 : decode c_D_proof 194 = .ok (.iaload, 1) := by decide +kernel
theorem d_D_proof_195 : decode c_D_proof 195 = .ok (.invokevirtual 130, 3) := by decide +kernel
theorem d_D_proof_198 : decode c_D_proof 198 = .ok (.ifCond .eq 44, 3) := by decide +kernel
theorem d_D_proof_201 : decode c_D_proof 201 = .ok (.iload 4, 2) := by decide +kernel
theorem d_D_proof_203 : decode c_D_proof 203 = .ok (.ifCond .ne 8, 3) := by decide +kernel
theorem d_D_proof_206 : decode c_D_proof 206 = .ok (.iload 8, 2) := by decide +kernel
theorem d_D_proof_208 : decode c_D_proof 208 = .ok (.goto 33, 3) := by decide +kernel
theorem d_D_proof_211 : decode c_D_proof 211 = .ok (.aload_n 0, 1) := by decide +kernel
theorem d_D_proof_212 : decode c_D_proof 212 = .ok (.iload 8, 2) := by decide +kernel
theorem d_D_proof_214 : decode c_D_proof 214 = .ok (.invokevirtual 97, 3) := by decide +kernel
theorem d_D_proof_217 : decode c_D_proof 217 = .ok (.iload 4, 2) := by decide +kernel
theorem d_D_proof_219 : decode c_D_proof 219 = .ok (.iconst 1, 1) := by decide +kernel
theorem d_D_proof_220 : decode c_D_proof 220 = .ok (.isub, 1) := by decide +kernel
theorem d_D_proof_221 : decode c_D_proof 221 = .ok (.ishr, 1) := by decide +kernel
theorem d_D_proof_222 : decode c_D_proof 222 = .ok (.iconst 1, 1) := by decide +kernel
theorem d_D_proof_223 : decode c_D_proof 223 = .ok (.iand, 1) := by decide +kernel
theorem d_D_proof_224 : decode c_D_proof 224 = .ok (.iconst 1, 1) := by decide +kernel
theorem d_D_proof_225 : decode c_D_proof 225 = .ok (.if_icmp .ne 15, 3) := by decide +kernel
theorem d_D_proof_228 : decode c_D_proof 228 = .ok (.aload_n 0, 1) := by decide +kernel
theorem d_D_proof_229 : decode c_D_proof 229 = .ok (.getfield 38, 3) := by decide +kernel
theorem d_D_proof_232 : decode c_D_proof 232 = .ok (.iload 4, 2) := by decide +kernel
theorem d_D_proof_234 : decode c_D_proof 234 = .ok (.iconst 1, 1) := by decide +kernel
theorem d_D_proof_235 : decode c_D_proof 235 = .ok (.isub, 1) := by decide +kernel
theorem d_D_proof_236 : decode c_D_proof 236 = .ok (.iaload, 1) := by decide +kernel
theorem d_D_proof_237 : decode c_D_proof 237 = .ok (.goto 4, 3) := by decide +kernel
theorem d_D_proof_240 : decode c_D_proof 240 = .ok (.iconst (-1), 1) := by decide +kernel
theorem d_D_proof_241 : decode c_D_proof 241 = .ok (.ireturn, 1) := by decide +kernel
theorem d_D_proof_242 : decode c_D_proof 242 = .ok (.aload_n 0, 1) := by decide +kernel
theorem d_D_proof_243 : decode c_D_proof 243 = .ok (.iload 8, 2) := by decide +kernel
theorem d_D_proof_245 : decode c_D_proof 245 = .ok (.iload 9, 2) := by decide +kernel
theorem d_D_proof_247 : decode c_D_proof 247 = .ok (.invokevirtual 113, 3) := by decide +kernel
theorem d_D_proof_250 : decode c_D_proof 250 = .ok (.istore 9, 2) := by decide +kernel
theorem d_D_proof_252 : decode c_D_proof 252 = .ok (.goto (-113), 3) := by decide +kernel
theorem d_D_proof_255 : decode c_D_proof 255 = .ok (.iinc 8 1, 3) := by decide +kernel
theorem d_D_proof_258 : decode c_D_proof 258 = .ok (.goto (-131), 3) := by decide +kernel
theorem d_D_proof_261 : decode c_D_proof 261 = .ok (.iconst (-1), 1) := by decide +kernel
theorem d_D_proof_262 : decode c_D_proof 262 = .ok (.ireturn, 1) := by decide +kernel
