theorem d_D_variables_9 : decode c_D_variables 9 = .ok (.iload_n 1, 1) := by decide +kernel
theorem d_D_variables_10 : decode c_D_variables 10 = .ok (.iaload, 1) := by decide +kernel
theorem d_D_variables_11 : decode c_D_variables 11 = .ok (.if_icmp .gt 21, 3) := by decide +kernel
theorem d_D_variables_14 : decode c_D_variables 14 = .ok (.iload_n 2, 1) := by decide +kernel
theorem d_D_variables_15 : decode c_D_variables 15 = .ok (.aload_n 0, 1) := by decide +kernel
theorem d_D_variables_16 : decode c_D_variables 16 = .ok (.iconst 5, 1) := by decide +kernel
theorem d_D_variables_17 : decode c_D_variables 17 = .ok (.iload_n 1, 1) := by decide +kernel
theorem d_D_variables_18 : decode c_D_variables 18 = .ok (.imul, 1) := by decide +kernel
theorem d_D_variables_19 : decode c_D_variables 19 = .ok (.iload_n 3, 1) := by decide +kernel
theorem d_D_variables_20 : decode c_D_variables 20 = .ok (.iadd, 1) := by decide +kernel
theorem d_D_variables_21 : decode c_D_variables 21 = .ok (.invokevirtual 84, 3) := by decide +kernel
theorem d_D_variables_24 : decode c_D_variables 24 = .ok (.ior, 1) := by decide +kernel
theorem d_D_variables_25 : decode c_D_variables 25 = .ok (.istore_n 2, 1) := by decide +kernel
theorem d_D_variables_26 : decode c_D_variables 26 = .ok (.iinc 3 1, 3) := by decide +kernel
theorem d_D_variables_29 : decode c_D_variables 29 = .ok (.goto (-25), 3) := by decide +kernel
theorem d_D_variables_32 : decode c_D_variables 32 = .ok (.iload_n 2, 1) := by decide +kernel
theorem d_D_variables_33 : decode c_D_variables 33 = .ok (.ireturn, 1) := by decide +kernel
theorem d_D_isSafe_0 : decode c_D_isSafe 0 = .ok (.iconst 0, 1) := by decide +kernel
theorem d_D_isSafe_1 : decode c_D_isSafe 1 = .ok (.istore_n 2, 1) := by decide +kernel
theorem d_D_isSafe_2 : decode c_D_isSafe 2 = .ok (.aload_n 0, 1) := by decide +kernel
theorem d_D_isSafe_3 : decode c_D_isSafe 3 = .ok (.iconst 5, 1) := by decide +kernel
theorem d_D_isSafe_4 : decode c_D_isSafe 4 = .ok (.iload_n 1, 1) := by decide +kernel
theorem d_D_isSafe_5 : decode c_D_isSafe 5 = .ok (.imul, 1) := by decide +kernel
theorem d_D_isSafe_6 : decode c_D_isSafe 6 = .ok (.invokevirtual 84, 3) := by decide +kernel
theorem d_D_isSafe_9 : decode c_D_isSafe 9 = .ok (.istore_n 3, 1) := by decide +kernel
theorem d_D_isSafe_10 : decode c_D_isSafe 10 = .ok (.iconst 1, 1) := by decide +kernel
theorem d_D_isSafe_11 : decode c_D_isSafe 11 = .ok (.istore 4, 2) := by decide +kernel
theorem d_D_isSafe_13 : decode c_D_isSafe 13 = .ok (.iload 4, 2) := by decide +kernel
theorem d_D_isSafe_15 : decode c_D_isSafe 15 = .ok (.aload_n 0, 1) := by decide +kernel
theorem d_D_isSafe_16 : decode c_D_isSafe 16 = .ok (.getfield 20, 3) := by decide +kernel
theorem d_D_isSafe_19 : decode c_D_isSafe 19 = .ok (.iload_n 1, 1) := by decide +kernel
theorem d_D_isSafe_20 : decode c_D_isSafe 20 = .ok (.iaload, 1) := by decide +kernel
theorem d_D_isSafe_21 : decode c_D_isSafe 21 = .ok (.if_icmp .gt 71, 3) := by decide +kernel
theorem d_D_isSafe_24 : decode c_D_isSafe 24 = .ok (.aload_n 0, 1) := by decide +kernel
theorem d_D_isSafe_25 : decode c_D_isSafe 25 = .ok (.getfield 32, 3) := by decide +kernel
theorem d_D_isSafe_28 : decode c_D_isSafe 28 = .ok (.iconst 5, 1) := by decide +kernel
theorem d_D_isSafe_29 : decode c_D_isSafe 29 = .ok (.iload_n 1, 1) := by decide +kernel
theorem d_D_isSafe_30 : decode c_D_isSafe 30 = .ok (.imul, 1) := by decide +kernel
theorem d_D_isSafe_31 : decode c_D_isSafe 31 = .ok (.iload 4, 2) := by decide +kernel
theorem d_D_isSafe_33 : decode c_D_isSafe 33 = .ok (.iadd, 1) := by decide +kernel
theorem d_D_isSafe_34 : decode c_D_isSafe 34 = .ok (.baload, 1) := by decide +kernel
theorem d_D_isSafe_35 : decode c_D_isSafe 35 = .ok (.ifCond .eq 7, 3) := by decide +kernel
theorem d_D_isSafe_38 : decode c_D_isSafe 38 = .ok (.iload_n 2, 1) := by decide +kernel
theorem d_D_isSafe_39 : decode c_D_isSafe 39 = .ok (.goto 15, 3) := by decide +kernel
theorem d_D_isSafe_42 : decode c_D_isSafe 42 = .ok (.iload_n 2, 1) := by decide +kernel
theorem d_D_isSafe_43 : decode c_D_isSafe 43 = .ok (.aload_n 0, 1) := by decide +kernel
theorem d_D_isSafe_44 : decode c_D_isSafe 44 = .ok (.iconst 5, 1) := by decide +kernel
theorem d_D_isSafe_45 : decode c_D_isSafe 45 = .ok (.iload_n 1, 1) := by decide +kernel
theorem d_D_isSafe_46 : decode c_D_isSafe 46 = .ok (.imul, 1) := by decide +kernel
theorem d_D_isSafe_47 : decode c_D_isSafe 47 = .ok (.iload 4, 2) := by decide +kernel
theorem d_D_isSafe_49 : decode c_D_isSafe 49 = .ok (.iadd, 1) := by decide +kernel
theorem d_D_isSafe_50 : decode c_D_isSafe 50 = .ok (.invokevirtual 84, 3) := by decide +kernel
theorem d_D_isSafe_53 : decode c_D_isSafe 53 = .ok (.ior, 1) := by decide +kernel
theorem d_D_isSafe_54 : decode c_D_isSafe 54 = .ok (.istore_n 2, 1) := by decide +kernel
theorem d_D_isSafe_55 : decode c_D_isSafe 55 = .ok (.aload_n 0, 1) := by decide +kernel
theorem d_D_isSafe_56 : decode c_D_isSafe 56 = .ok (.getfield 32, 3) := by decide +kernel
theorem d_D_isSafe_59 : decode c_D_isSafe 59 = .ok (.iconst 5, 1) := by decide +kernel
theorem d_D_isSafe_60 : decode c_D_isSafe 60 = .ok (.iload_n 1, 1) := by decide +kernel
theorem d_D_isSafe_61 : decode c_D_isSafe 61 = .ok (.imul, 1) := by decide +kernel
theorem d_D_isSafe_62 : decode c_D_isSafe 62 = .ok (.iload 4, 2) := by decide +kernel
theorem d_D_isSafe_64 : decode c_D_isSafe 64 = .ok (.iadd, 1) := by decide +kernel
theorem d_D_isSafe_65 : decode c_D_isSafe 65 = .ok (.baload, 1) := by decide +kernel
theorem d_D_isSafe_66 : decode c_D_isSafe 66 = .ok (.ifCond .eq 18, 3) := by decide +kernel
theorem d_D_isSafe_69 : decode c_D_isSafe 69 = .ok (.iload_n 3, 1) := by decide +kernel
theorem d_D_isSafe_70 : decode c_D_isSafe 70 = .ok (.aload_n 0, 1) := by decide +kernel
theorem d_D_isSafe_71 : decode c_D_isSafe 71 = .ok (.iconst 5, 1) := by decide +kernel
theorem d_D_isSafe_72 : decode c_D_isSafe 72 = .ok (.iload_n 1, 1) := by decide +kernel
theorem d_D_isSafe_73 : decode c_D_isSafe 73 = .ok (.imul, 1) := by decide +kernel
theorem d_D_isSafe_74 : decode c_D_isSafe 74 = .ok (.iload 4, 2) := by decide +kernel
theorem d_D_isSafe_76 : decode c_D_isSafe 76 = .ok (.iadd, 1) := by decide +kernel
theorem d_D_isSafe_77 : decode c_D_isSafe 77 = .ok (.invokevirtual 84, 3) := by decide +kernel
theorem d_D_isSafe_80 : decode c_D_isSafe 80 = .ok (.ior, 1) := by decide +kernel
theorem d_D_isSafe_81 : decode c_D_isSafe 81 = .ok (.goto 4, 3) := by decide +kernel
theorem d_D_isSafe_84 : decode c_D_isSafe 84 = .ok (.iload_n 3, 1) := by decide +kernel
theorem d_D_isSafe_85 : decode c_D_isSafe 85 = .ok (.istore_n 3, 1) := by decide +kernel
theorem d_D_isSafe_86 : decode c_D_isSafe 86 = .ok (.iinc 4 1, 3) := by decide +kernel
theorem d_D_isSafe_89 : decode c_D_isSafe 89 = .ok (.goto (-76), 3) := by decide +kernel
theorem d_D_isSafe_92 : decode c_D_isSafe 92 = .ok (.iload_n 3, 1) := by decide +kernel
theorem d_D_isSafe_93 : decode c_D_isSafe 93 = .ok (.iload_n 2, 1) := by decide +kernel
theorem d_D_isSafe_94 : decode c_D_isSafe 94 = .ok (.iconst (-1), 1) := by decide +kernel
theorem d_D_isSafe_95 : decode c_D_isSafe 95 = .ok (.ixor, 1) := by decide +kernel
theorem d_D_isSafe_96 : decode c_D_isSafe 96 = .ok (.iand, 1) := by decide +kernel
theorem d_D_isSafe_97 : decode c_D_isSafe 97 = .ok (.ifCond .ne 7, 3) := by decide +kernel
theorem d_D_isSafe_100 : decode c_D_isSafe 100 = .ok (.iconst 1, 1) := by decide +kernel
theorem d_D_isSafe_101 : decode c_D_isSafe 101 = .ok (.goto 4, 3) := by decide +kernel
theorem d_D_isSafe_104 : decode c_D_isSafe 104 = .ok (.iconst 0, 1) := by decide +kernel
theorem d_D_isSafe_105 : decode c_D_isSafe 105 = .ok (.ireturn, 1) := by decide +kernel
theorem d_D_raise_0 : decode c_D_raise 0 = .ok (.aload_n 0, 1) := by decide +kernel
theorem d_D_raise_1 : decode c_D_raise 1 = .ok (.getfield 23, 3) := by decide +kernel
theorem d_D_raise_4 : decode c_D_raise 4 = .ok (.iconst 5, 1) := by decide +kernel
theorem d_D_raise_5 : decode c_D_raise 5 = .ok (.iload_n 1, 1) := by decide +kernel
theorem d_D_raise_6 : decode c_D_raise 6 = .ok (.imul, 1) := by decide +kernel
theorem d_D_raise_7 : decode c_D_raise 7 = .ok (.iaload, 1) := by decide +kernel
theorem d_D_raise_8 : decode c_D_raise 8 = .ok (.istore_n 2, 1) := by decide +kernel
theorem d_D_raise_9 : decode c_D_raise 9 = .ok (.iconst 0, 1) := by decide +kernel
theorem d_D_raise_10 : decode c_D_raise 10 = .ok (.istore_n 3, 1) := by decide +kernel
theorem d_D_raise_11 : decode c_D_raise 11 = .ok (.iconst 1, 1) := by decide +kernel
theorem d_D_raise_12 : decode c_D_raise 12 = .ok (.istore 4, 2) := by decide +kernel
theorem d_D_raise_14 : decode c_D_raise 14 = .ok (.iload 4, 2) := by decide +kernel
theorem d_D_raise_16 : decode c_D_raise 16 = .ok (.aload_n 0, 1) := by decide +kernel
theorem d_D_raise_17 : decode c_D_raise 17 = .ok (.getfield 20, 3) := by decide +kernel
theorem d_D_raise_20 : decode c_D_raise 20 = .ok (.iload_n 1, 1) := by decide +kernel
theorem d_D_raise_21 : decode c_D_raise 21 = .ok (.iaload, 1) := by decide +kernel
theorem d_D_raise_22 : decode c_D_raise 22 = .ok (.if_icmp .gt 60, 3) := by decide +kernel
theorem d_D_raise_25 : decode c_D_raise 25 = .ok (.iconst 5, 1) := by decide +kernel
theorem d_D_raise_26 : decode c_D_raise 26 = .ok (.iload_n 1, 1) := by decide +kernel
theorem d_D_raise_27 : decode c_D_raise 27 = .ok (.imul, 1) := by decide +kernel
theorem d_D_raise_28 : decode c_D_raise 28 = .ok (.iload 4, 2) := by decide +kernel
theorem d_D_raise_30 : decode c_D_raise 30 = .ok (.iadd, 1) := by decide +kernel
theorem d_D_raise_31 : decode c_D_raise 31 = .ok (.istore 5, 2) := by decide +kernel
theorem d_D_raise_33 : decode c_D_raise 33 = .ok (.aload_n 0, 1) := by decide +kernel
theorem d_D_raise_34 : decode c_D_raise 34 = .ok (.getfield 35, 3) := by decide +kernel
theorem d_D_raise_37 : decode c_D_raise 37 = .ok (.aload_n 0, 1) := by decide +kernel
theorem d_D_raise_38 : decode c_D_raise 38 = .ok (.getfield 23, 3) := by decide +kernel
theorem d_D_raise_41 : decode c_D_raise 41 = .ok (.iload 5, 2) := by decide +kernel
theorem d_D_raise_43 : decode c_D_raise 43 = .ok (.iaload, 1) := by decide +kernel
theorem d_D_raise_44 : decode c_D_raise 44 = .ok (.iaload, 1) := by decide +kernel
theorem d_D_raise_45 : decode c_D_raise 45 = .ok (.aload_n 0, 1) := by decide +kernel
theorem d_D_raise_46 : decode c_D_raise 46 = .ok (.getfield 32, 3) := by decide +kernel
theorem d_D_raise_49 : decode c_D_raise 49 = .ok (.iload 5, 2) := by decide +kernel
theorem d_D_raise_51 : decode c_D_raise 51 = .ok (.baload, 1) := by decide +kernel
theorem d_D_raise_52 : decode c_D_raise 52 = .ok (.ifCond .eq 7, 3) := by decide +kernel
theorem d_D_raise_55 : decode c_D_raise 55 = .ok (.iconst 1, 1) := by decide +kernel
theorem d_D_raise_56 : decode c_D_raise 56 = .ok (.goto 4, 3) := by decide +kernel
theorem d_D_raise_59 : decode c_D_raise 59 = .ok (.iconst 0, 1) := by decide +kernel
theorem d_D_raise_60 : decode c_D_raise 60 = .ok (.iadd, 1) := by decide +kernel
theorem d_D_raise_61 : decode c_D_raise 61 = .ok (.istore 6, 2) := by decide +kernel
theorem d_D_raise_63 : decode c_D_raise 63 = .ok (.iload 6, 2) := by decide +kernel
theorem d_D_raise_65 : decode c_D_raise 65 = .ok (.iload_n 3, 1) := by decide +kernel
theorem d_D_raise_66 : decode c_D_raise 66 = .ok (.if_icmp .le 8, 3) := by decide +kernel
theorem d_D_raise_69 : decode c_D_raise 69 = .ok (.iload 6, 2) := by decide +kernel
theorem d_D_raise_71 : decode c_D_raise 71 = .ok (.goto 4, 3) := by decide +kernel
theorem d_D_raise_74 : decode c_D_raise 74 = .ok (.iload_n 3, 1) := by decide +kernel
theorem d_D_raise_75 : decode c_D_raise 75 = .ok (.istore_n 3, 1) := by decide +kernel
theorem d_D_raise_76 : decode c_D_raise 76 = .ok (.iinc 4 1, 3) := by decide +kernel
theorem d_D_raise_79 : decode c_D_raise 79 = .ok (.goto (-65), 3) := by decide +kernel
theorem d_D_raise_82 : decode c_D_raise 82 = .ok (.aload_n 0, 1) := by decide +kernel
theorem d_D_raise_83 : decode c_D_raise 83 = .ok (.getfield 35, 3) := by decide +kernel
theorem d_D_raise_86 : decode c_D_raise 86 = .ok (.iload_n 2, 1) := by decide +kernel
theorem d_D_raise_87 : decode c_D_raise 87 = .ok (.iaload, 1) := by decide +kernel
theorem d_D_raise_88 : decode c_D_raise 88 = .ok (.iload_n 3, 1) := by decide +kernel
theorem d_D_raise_89 : decode c_D_raise 89 = .ok (.if_icmp .ge 7, 3) := by decide +kernel
theorem d_D_raise_92 : decode c_D_raise 92 = .ok (.iconst 1, 1) := by decide +kernel
theorem d_D_raise_93 : decode c_D_raise 93 = .ok (.goto 4, 3) := by decide +kernel
theorem d_D_raise_96 : decode c_D_raise 96 = .ok (.iconst 0, 1) := by decide +kernel
theorem d_D_raise_97 : decode c_D_raise 97 = .ok (.istore 4, 2) := by decide +kernel
theorem d_D_raise_99 : decode c_D_raise 99 = .ok (.aload_n 0, 1) := by decide +kernel
theorem d_D_raise_100 : decode c_D_raise 100 = .ok (.getfield 35, 3) := by decide +kernel
theorem d_D_raise_103 : decode c_D_raise 103 = .ok (.iload_n 2, 1) := by decide +kernel
theorem d_D_raise_104 : decode c_D_raise 104 = .ok (.iload 4, 2) := by decide +kernel
theorem d_D_raise_106 : decode c_D_raise 106 = .ok (.ifCond .eq 7, 3) := by decide +kernel
theorem d_D_raise_109 : decode c_D_raise 109 = .ok (.iload_n 3, 1) := by decide +kernel
theorem d_D_raise_110 : decode c_D_raise 110 = .ok (.goto 9, 3) := by decide +kernel
theorem d_D_raise_113 : decode c_D_raise 113 = .ok (.aload_n 0, 1) := by decide +kernel
theorem d_D_raise_114 : decode c_D_raise 114 = .ok (.getfield 35, 3) := by decide +kernel
theorem d_D_raise_117 : decode c_D_raise 117 = .ok (.iload_n 2, 1) := by decide +kernel
theorem d_D_raise_118 : decode c_D_raise 118 = .ok (.iaload, 1) := by decide +kernel
theorem d_D_raise_119 : decode c_D_raise 119 = .ok (.iastore, 1) := by decide +kernel
theorem d_D_raise_120 : decode c_D_raise 120 = .ok (.iload 4, 2) := by decide +kernel
theorem d_D_raise_122 : decode c_D_raise 122 = .ok (.ireturn, 1) := by decide +kernel
theorem d_D_findFault_0 : decode c_D_findFault 0 = .ok (.iconst (-1), 1) := by decide +kernel
theorem d_D_findFault_1 : decode c_D_findFault 1 = .ok (.istore_n 1, 1) := by decide +kernel
theorem d_D_findFault_2 : decode c_D_findFault 2 = .ok (.aload_n 0, 1) := by decide +kernel
theorem d_D_findFault_3 : decode c_D_findFault 3 = .ok (.getfield 51, 3) := by decide +kernel
theorem d_D_findFault_6 : decode c_D_findFault 6 = .ok (.iconst 1, 1) := by decide +kernel
theorem d_D_findFault_7 : decode c_D_findFault 7 = .ok (.isub, 1) := by decide +kernel
theorem d_D_findFault_8 : decode c_D_findFault 8 = .ok (.istore_n 2, 1) := by decide +kernel
theorem d_D_findFault_9 : decode c_D_findFault 9 = .ok (.iload_n 2, 1) := by decide +kernel
theorem d_D_findFault_10 : decode c_D_findFault 10 = .ok (.ifCond .lt 23, 3) := by decide +kernel
theorem d_D_findFault_13 : decode c_D_findFault 13 = .ok (.aload_n 0, 1) := by decide +kernel
theorem d_D_findFault_14 : decode c_D_findFault 14 = .ok (.iload_n 2, 1) := by decide +kernel
theorem d_D_findFault_15 : decode c_D_findFault 15 = .ok (.invokevirtual 88, 3) := by decide +kernel
theorem d_D_findFault_18 : decode c_D_findFault 18 = .ok (.ifCond .eq 7, 3) := by decide +kernel
theorem d_D_findFault_21 : decode c_D_findFault 21 = .ok (.iload_n 1, 1) := by decide +kernel
theorem d_D_findFault_22 : decode c_D_findFault 22 = .ok (.goto 4, 3) := by decide +kernel
theorem d_D_findFault_25 : decode c_D_findFault 25 = .ok (.iload_n 2, 1) := by decide +kernel
theorem d_D_findFault_26 : decode c_D_findFault 26 = .ok (.istore_n 1, 1) := by decide +kernel
theorem d_D_findFault_27 : decode c_D_findFault 27 = .ok (.iinc 2 (-1), 3) := by decide +kernel
theorem d_D_findFault_30 : decode c_D_findFault 30 = .ok (.goto (-21), 3) := by decide +kernel
theorem d_D_findFault_33 : decode c_D_findFault 33 = .ok (.iconst 0, 1) := by decide +kernel
theorem d_D_findFault_34 : decode c_D_findFault 34 = .ok (.istore_n 2, 1) := by decide +kernel
theorem d_D_findFault_35 : decode c_D_findFault 35 = .ok (.iload_n 2, 1) := by decide +kernel
theorem d_D_findFault_36 : decode c_D_findFault 36 = .ok (.bipush 8, 2) := by decide +kernel
theorem d_D_findFault_38 : decode c_D_findFault 38 = .ok (.if_icmp .ge 16, 3) := by decide +kernel
theorem d_D_findFault_41 : decode c_D_findFault 41 = .ok (.aload_n 0, 1) := by decide +kernel
theorem d_D_findFault_42 : decode c_D_findFault 42 = .ok (.getfield 35, 3) := by decide +kernel
theorem d_D_findFault_45 : decode c_D_findFault 45 = .ok (.iload_n 2, 1) := by decide +kernel
theorem d_D_findFault_46 : decode c_D_findFault 46 = .ok (.iconst 0, 1) := by decide +kernel
theorem d_D_findFault_47 : decode c_D_findFault 47 = .ok (.iastore, 1) := by decide +kernel
theorem d_D_findFault_48 : decode c_D_findFault 48 = .ok (.iinc 2 1, 3) := by decide +kernel
theorem d_D_findFault_51 : decode c_D_findFault 51 = .ok (.goto (-16), 3) := by decide +kernel
theorem d_D_findFault_54 : decode c_D_findFault 54 = .ok (.iconst 1, 1) := by decide +kernel
theorem d_D_findFault_55 : decode c_D_findFault 55 = .ok (.istore_n 2, 1) := by decide +kernel
theorem d_D_findFault_56 : decode c_D_findFault 56 = .ok (.iconst 1, 1) := by decide +kernel
theorem d_D_findFault_57 : decode c_D_findFault 57 = .ok (.istore_n 3, 1) := by decide +kernel
theorem d_D_findFault_58 : decode c_D_findFault 58 = .ok (.iload_n 2, 1) := by decide +kernel
theorem d_D_findFault_59 : decode c_D_findFault 59 = .ok (.ifCond .eq 82, 3) := by decide +kernel
theorem d_D_findFault_62 : decode c_D_findFault 62 = .ok (.iload_n 3, 1) := by decide +kernel
theorem d_D_findFault_63 : decode c_D_findFault 63 = .ok (.ifCond .eq 78, 3) := by decide +kernel
theorem d_D_findFault_66 : decode c_D_findFault 66 = .ok (.iconst 0, 1) := by decide +kernel
theorem d_D_findFault_67 : decode c_D_findFault 67 = .ok (.istore_n 2, 1) := by decide +kernel
theorem d_D_findFault_68 : decode c_D_findFault 68 = .ok (.iconst 0, 1) := by decide +kernel
theorem d_D_findFault_69 : decode c_D_findFault 69 = .ok (.istore 4, 2) := by decide +kernel
theorem d_D_findFault_71 : decode c_D_findFault 71 = .ok (.iload 4, 2) := by decide +kernel
theorem d_D_findFault_73 : decode c_D_findFault 73 = .ok (.aload_n 0, 1) := by decide +kernel
theorem d_D_findFault_74 : decode c_D_findFault 74 = .ok (.getfield 51, 3) := by decide +kernel
theorem d_D_findFault_77 : decode c_D_findFault 77 = .ok (.if_icmp .ge 61, 3) := by decide +kernel
theorem d_D_findFault_80 : decode c_D_findFault 80 = .ok (.aload_n 0, 1) := by decide +kernel
theorem d_D_findFault_81 : decode c_D_findFault 81 = .ok (.iload 4, 2) := by decide +kernel
theorem d_D_findFault_83 : decode c_D_findFault 83 = .ok (.invokevirtual 91, 3) := by decide +kernel
theorem d_D_findFault_86 : decode c_D_findFault 86 = .ok (.istore 5, 2) := by decide +kernel
theorem d_D_findFault_88 : decode c_D_findFault 88 = .ok (.iload_n 2, 1) := by decide +kernel
theorem d_D_findFault_89 : decode c_D_findFault 89 = .ok (.ifCond .ne 8, 3) := by decide +kernel
theorem d_D_findFault_92 : decode c_D_findFault 92 = .ok (.iload 5, 2) := by decide +kernel
theorem d_D_findFault_94 : decode c_D_findFault 94 = .ok (.ifCond .eq 7, 3) := by decide +kernel
theorem d_D_findFault_97 : decode c_D_findFault 97 = .ok (.iconst 1, 1) := by decide +kernel
theorem d_D_findFault_98 : decode c_D_findFault 98 = .ok (.goto 4, 3) := by decide +kernel
theorem d_D_findFault_101 : decode c_D_findFault 101 = .ok (.iconst 0, 1) := by decide +kernel
theorem d_D_findFault_102 : decode c_D_findFault 102 = .ok (.istore_n 2, 1) := by decide +kernel
theorem d_D_findFault_103 : decode c_D_findFault 103 = .ok (.iload_n 3, 1) := by decide +kernel
theorem d_D_findFault_104 : decode c_D_findFault 104 = .ok (.ifCond .eq 26, 3) := by decide +kernel
theorem d_D_findFault_107 : decode c_D_findFault 107 = .ok (.aload_n 0, 1) := by decide +kernel
theorem d_D_findFault_108 : decode c_D_findFault 108 = .ok (.getfield 35, 3) := by decide +kernel
theorem d_D_findFault_111 : decode c_D_findFault 111 = .ok (.aload_n 0, 1) := by decide +kernel
theorem d_D_findFault_112 : decode c_D_findFault 112 = .ok (.getfield 23, 3) := by decide +kernel
theorem d_D_findFault_115 : decode c_D_findFault 115 = .ok (.iconst 5, 1) := by decide +kernel
theorem d_D_findFault_116 : decode c_D_findFault 116 = .ok (.iload 4, 2) := by decide +kernel
theorem d_D_findFault_118 : decode c_D_findFault 118 = .ok (.imul, 1) := by decide +kernel
theorem d_D_findFault_119 : decode c_D_findFault 119 = .ok (.iaload, 1) := by decide +kernel
theorem d_D_findFault_120 : decode c_D_findFault 120 = .ok (.iaload, 1) := by decide +kernel
theorem d_D_findFault_121 : decode c_D_findFault 121 = .ok (.bipush 8, 2) := by decide +kernel
theorem d_D_findFault_123 : decode c_D_findFault 123 = .ok (.if_icmp .gt 7, 3) := by decide +kernel
theorem d_D_findFault_126 : decode c_D_findFault 126 = .ok (.iconst 1, 1) := by decide +kernel
theorem d_D_findFault_127 : decode c_D_findFault 127 = .ok (.goto 4, 3) := by decide +kernel
theorem d_D_findFault_130 : decode c_D_findFault 130 = .ok (.iconst 0, 1) := by decide +kernel
theorem d_D_findFault_131 : decode c_D_findFault 131 = .ok (.istore_n 3, 1) := by decide +kernel
theorem d_D_findFault_132 : decode c_D_findFault 132 = .ok (.iinc 4 1, 3) := by decide +kernel
theorem d_D_findFault_135 : decode c_D_findFault 135 = .ok (.goto (-64), 3) := by decide +kernel
theorem d_D_findFault_138 : decode c_D_findFault 138 = .ok (.goto (-80), 3) := by decide +kernel
theorem d_D_findFault_141 : decode c_D_findFault 141 = .ok (.iload_n 1, 1) := by decide +kernel
theorem d_D_findFault_142 : decode c_D_findFault 142 = .ok (.ifCond .lt 7, 3) := by decide +kernel
theorem d_D_findFault_145 : decode c_D_findFault 145 = .ok (.iload_n 1, 1) := by decide +kernel
theorem d_D_findFault_146 : decode c_D_findFault 146 = .ok (.goto 13, 3) := by decide +kernel
theorem d_D_findFault_149 : decode c_D_findFault 149 = .ok (.iload_n 3, 1) := by decide +kernel
theorem d_D_findFault_150 : decode c_D_findFault 150 = .ok (.ifCond .eq 7, 3) := by decide +kernel
theorem d_D_findFault_153 : decode c_D_findFault 153 = .ok (.iconst (-1), 1) := by decide +kernel
theorem d_D_findFault_154 : decode c_D_findFault 154 = .ok (.goto 5, 3) := by decide +kernel
theorem d_D_findFault_157 : decode c_D_findFault 157 = .ok (.bipush 100, 2) := by decide +kernel
theorem d_D_findFault_159 : decode c_D_findFault 159 = .ok (.ireturn, 1) := by decide +kernel
theorem d_D_termValue_0 : decode c_D_termValue 0 = .ok (.iload_n 1, 1) := by decide +kernel
theorem d_D_termValue_1 : decode c_D_termValue 1 = .ok (.bipush 20, 2) := by decide +kernel
theorem d_D_termValue_3 : decode c_D_termValue 3 = .ok (.if_icmp .lt 15, 3) := by decide +kernel
theorem d_D_termValue_6 : decode c_D_termValue 6 = .ok (.aload_n 0, 1) := by decide +kernel
theorem d_D_termValue_7 : decode c_D_termValue 7 = .ok (.getfield 38, 3) := by decide +kernel
theorem d_D_termValue_10 : decode c_D_termValue 10 = .ok (.iload_n 1, 1) := by decide +kernel
theorem d_D_termValue_11 : decode c_D_termValue 11 = .ok (.bipush 20, 2) := by decide +kernel
theorem d_D_termValue_13 : decode c_D_termValue 13 = .ok (.isub, 1) := by decide +kernel
theorem d_D_termValue_14 : decode c_D_termValue 14 = .ok (.iaload, 1) := by decide +kernel
theorem d_D_termValue_15 : decode c_D_termValue 15 = .ok (.goto 4, 3) := by decide +kernel
theorem d_D_termValue_18 : decode c_D_termValue 18 = .ok (.iload_n 1, 1) := by decide +kernel
theorem d_D_termValue_19 : decode c_D_termValue 19 = .ok (.ireturn, 1) := by decide +kernel
theorem d_D_factOf_0 : decode c_D_factOf 0 = .ok (.sipush 144, 3) := by decide +kernel
theorem d_D_factOf_3 : decode c_D_factOf 3 = .ok (.aload_n 0, 1) := by decide +kernel
theorem d_D_factOf_4 : decode c_D_factOf 4 = .ok (.getfield 23, 3) := by decide +kernel
theorem d_D_factOf_7 : decode c_D_factOf 7 = .ok (.iload_n 1, 1) := by decide +kernel
theorem d_D_factOf_8 : decode c_D_factOf 8 = .ok (.iaload, 1) := by decide +kernel
theorem d_D_factOf_9 : decode c_D_factOf 9 = .ok (.imul, 1) := by decide +kernel
theorem d_D_factOf_10 : decode c_D_factOf 10 = .ok (.bipush 12, 2) := by decide +kernel
theorem d_D_factOf_12 : decode c_D_factOf 12 = .ok (.aload_n 0, 1) := by decide +kernel
theorem d_D_factOf_13 : decode c_D_factOf 13 = .ok (.aload_n 0, 1) := by decide +kernel
theorem d_D_factOf_14 : decode c_D_factOf 14 = .ok (.getfield 26, 3) := by decide +kernel
theorem d_D_factOf_17 : decode c_D_factOf 17 = .ok (.iload_n 1, 1) := by decide +kernel
theorem d_D_factOf_18 : decode c_D_factOf 18 = .ok (.iaload, 1) := by decide +kernel
theorem d_D_factOf_19 : decode c_D_factOf 19 = .ok (.invokevirtual 94, 3) := by decide +kernel
theorem d_D_factOf_22 : decode c_D_factOf 22 = .ok (.imul, 1) := by decide +kernel
theorem d_D_factOf_23 : decode c_D_factOf 23 = .ok (.iadd, 1) := by decide +kernel
theorem d_D_factOf_24 : decode c_D_factOf 24 = .ok (.aload_n 0, 1) := by decide +kernel
theorem d_D_factOf_25 : decode c_D_factOf 25 = .ok (.aload_n 0, 1) := by decide +kernel
theorem d_D_factOf_26 : decode c_D_factOf 26 = .ok (.getfield 29, 3) := by decide +kernel
theorem d_D_factOf_29 : decode c_D_factOf 29 = .ok (.iload_n 1, 1) := by decide +kernel
theorem d_D_factOf_30 : decode c_D_factOf 30 = .ok (.iaload, 1) := by decide +kernel
theorem d_D_factOf_31 : decode c_D_factOf 31 = .ok (.invokevirtual 94, 3) := by decide +kernel
theorem d_D_factOf_34 : decode c_D_factOf 34 = .ok (.iadd, 1) := by decide +kernel
theorem d_D_factOf_35 : decode c_D_factOf 35 = .ok (.ireturn, 1) := by decide +kernel
theorem d_D_instance_0 : decode c_D_instance 0 = .ok (.iload_n 2, 1) := by decide +kernel
theorem d_D_instance_1 : decode c_D_instance 1 = .ok (.istore_n 3, 1) := by decide +kernel
theorem d_D_instance_2 : decode c_D_instance 2 = .ok (.aload_n 0, 1) := by decide +kernel
theorem d_D_instance_3 : decode c_D_instance 3 = .ok (.iload_n 1, 1) := by decide +kernel
theorem d_D_instance_4 : decode c_D_instance 4 = .ok (.invokevirtual 97, 3) := by decide +kernel
theorem d_D_instance_7 : decode c_D_instance 7 = .ok (.istore 4, 2) := by decide +kernel
theorem d_D_instance_9 : decode c_D_instance 9 = .ok (.iconst 3, 1) := by decide +kernel
theorem d_D_instance_10 : decode c_D_instance 10 = .ok (.istore 5, 2) := by decide +kernel
theorem d_D_instance_12 : decode c_D_instance 12 = .ok (.iload 5, 2) := by decide +kernel
theorem d_D_instance_14 : decode c_D_instance 14 = .ok (.ifCond .lt 61, 3) := by decide +kernel
theorem d_D_instance_17 : decode c_D_instance 17 = .ok (.iload 4, 2) := by decide +kernel
theorem d_D_instance_19 : decode c_D_instance 19 = .ok (.iload 5, 2) := by decide +kernel
theorem d_D_instance_21 : decode c_D_instance 21 = .ok (.ishr, 1) := by decide +kernel
theorem d_D_instance_22 : decode c_D_instance 22 = .ok (.iconst 1, 1) := by decide +kernel
theorem d_D_instance_23 : decode c_D_instance 23 = .ok (.iand, 1) := by decide +kernel
theorem d_D_instance_24 : decode c_D_instance 24 = .ok (.iconst 1, 1) := by decide +kernel
theorem d_D_instance_25 : decode c_D_instance 25 = .ok (.if_icmp .ne 7, 3) := by decide +kernel
theorem d_D_instance_28 : decode c_D_instance 28 = .ok (.iconst 1, 1) := by decide +kernel
theorem d_D_instance_29 : decode c_D_instance 29 = .ok (.goto 4, 3) := by decide +kernel
theorem d_D_instance_32 : decode c_D_instance 32 = .ok (.iconst 0, 1) := by decide +kernel
theorem d_D_instance_33 : decode c_D_instance 33 = .ok (.istore 6, 2) := by decide +kernel
theorem d_D_instance_35 : decode c_D_instance 35 = .ok (.aload_n 0, 1) := by decide +kernel
theorem d_D_instance_36 : decode c_D_instance 36 = .ok (.getfield 38, 3) := by decide +kernel
theorem d_D_instance_39 : decode c_D_instance 39 = .ok (.iload 5, 2) := by decide +kernel
theorem d_D_instance_41 : decode c_D_instance 41 = .ok (.iload 6, 2) := by decide +kernel
theorem d_D_instance_43 : decode c_D_instance 43 = .ok (.ifCond .eq 10, 3) := by decide +kernel
theorem d_D_instance_46 : decode c_D_instance 46 = .ok (.iload_n 3, 1) := by decide +kernel
theorem d_D_instance_47 : decode c_D_instance 47 = .ok (.bipush 12, 2) := by decide +kernel
theorem d_D_instance_49 : decode c_D_instance 49 = .ok (.irem, 1) := by decide +kernel
theorem d_D_instance_50 : decode c_D_instance 50 = .ok (.goto 4, 3) := by decide +kernel
theorem d_D_instance_53 : decode c_D_instance 53 = .ok (.iconst 0, 1) := by decide +kernel
theorem d_D_instance_54 : decode c_D_instance 54 = .ok (.iastore, 1) := by decide +kernel
theorem d_D_instance_55 : decode c_D_instance 55 = .ok (.iload 6, 2) := by decide +kernel
theorem d_D_instance_57 : decode c_D_instance 57 = .ok (.ifCond .eq 10, 3) := by decide +kernel
theorem d_D_instance_60 : decode c_D_instance 60 = .ok (.iload_n 3, 1) := by decide +kernel
theorem d_D_instance_61 : decode c_D_instance 61 = .ok (.bipush 12, 2) := by decide +kernel
theorem d_D_instance_63 : decode c_D_instance 63 = .ok (.idiv, 1) := by decide +kernel
theorem d_D_instance_64 : decode c_D_instance 64 = .ok (.goto 4, 3) := by decide +kernel
theorem d_D_instance_67 : decode c_D_instance 67 = .ok (.iload_n 3, 1) := by decide +kernel
theorem d_D_instance_68 : decode c_D_instance 68 = .ok (.istore_n 3, 1) := by decide +kernel
theorem d_D_instance_69 : decode c_D_instance 69 = .ok (.iinc 5 (-1), 3) := by decide +kernel
theorem d_D_instance_72 : decode c_D_instance 72 = .ok (.goto (-60), 3) := by decide +kernel
theorem d_D_instance_75 : decode c_D_instance 75 = .ok (.iload_n 3, 1) := by decide +kernel
theorem d_D_instance_76 : decode c_D_instance 76 = .ok (.ifCond .ne 7, 3) := by decide +kernel
theorem d_D_instance_79 : decode c_D_instance 79 = .ok (.iconst 1, 1) := by decide +kernel
theorem d_D_instance_80 : decode c_D_instance 80 = .ok (.goto 4, 3) := by decide +kernel
theorem d_D_instance_83 : decode c_D_instance 83 = .ok (.iconst 0, 1) := by decide +kernel
theorem d_D_instance_84 : decode c_D_instance 84 = .ok (.ireturn, 1) := by decide +kernel
theorem d_D_holds_0 : decode c_D_holds 0 = .ok (.aload_n 0, 1) := by decide +kernel
theorem d_D_holds_1 : decode c_D_holds 1 = .ok (.getfield 17, 3) := by decide +kernel
theorem d_D_holds_4 : decode c_D_holds 4 = .ok (.iload_n 1, 1) := by decide +kernel
theorem d_D_holds_5 : decode c_D_holds 5 = .ok (.iaload, 1) := by decide +kernel
theorem d_D_holds_6 : decode c_D_holds 6 = .ok (.ifCond .lt 7, 3) := by decide +kernel
theorem d_D_holds_9 : decode c_D_holds 9 = .ok (.iconst 1, 1) := by decide +kernel
theorem d_D_holds_10 : decode c_D_holds 10 = .ok (.goto 4, 3) := by decide +kernel
theorem d_D_holds_13 : decode c_D_holds 13 = .ok (.iconst 0, 1) := by decide +kernel
theorem d_D_holds_14 : decode c_D_holds 14 = .ok (.ireturn, 1) := by decide +kernel
theorem d_D_isMet_0 : decode c_D_isMet 0 = .ok (.iconst 1, 1) := by decide +kernel
theorem d_D_isMet_1 : decode c_D_isMet 1 = .ok (.istore_n 2, 1) := by decide +kernel
theorem d_D_isMet_2 : decode c_D_isMet 2 = .ok (.iconst 1, 1) := by decide +kernel
theorem d_D_isMet_3 : decode c_D_isMet 3 = .ok (.istore_n 3, 1) := by decide +kernel
theorem d_D_isMet_4 : decode c_D_isMet 4 = .ok (.iload_n 3, 1) := by decide +kernel
theorem d_D_isMet_5 : decode c_D_isMet 5 = .ok (.aload_n 0, 1) := by decide +kernel
theorem d_D_isMet_6 : decode c_D_isMet 6 = .ok (.getfield 20, 3) := by decide +kernel
theorem d_D_isMet_9 : decode c_D_isMet 9 = .ok (.iload_n 1, 1) := by decide +kernel
theorem d_D_isMet_10 : decode c_D_isMet 10 = .ok (.iaload, 1) := by decide +kernel
theorem d_D_isMet_11 : decode c_D_isMet 11 = .ok (.if_icmp .gt 46, 3) := by decide +kernel
theorem d_D_isMet_14 : decode c_D_isMet 14 = .ok (.iconst 5, 1) := by decide +kernel
theorem d_D_isMet_15 : decode c_D_isMet 15 = .ok (.iload_n 1, 1) := by decide +kernel
theorem d_D_isMet_16 : decode c_D_isMet 16 = .ok (.imul, 1) := by decide +kernel
theorem d_D_isMet_17 : decode c_D_isMet 17 = .ok (.iload_n 3, 1) := by decide +kernel
theorem d_D_isMet_18 : decode c_D_isMet 18 = .ok (.iadd, 1) := by decide +kernel
theorem d_D_isMet_19 : decode c_D_isMet 19 = .ok (.istore 4, 2) := by decide +kernel
theorem d_D_isMet_21 : decode c_D_isMet 21 = .ok (.iload_n 2, 1) := by decide +kernel
theorem d_D_isMet_22 : decode c_D_isMet 22 = .ok (.ifCond .eq 27, 3) := by decide +kernel
theorem d_D_isMet_25 : decode c_D_isMet 25 = .ok (.aload_n 0, 1) := by decide +kernel
theorem d_D_isMet_26 : decode c_D_isMet 26 = .ok (.aload_n 0, 1) := by decide +kernel
theorem d_D_isMet_27 : decode c_D_isMet 27 = .ok (.iload 4, 2) := by decide +kernel
theorem d_D_isMet_29 : decode c_D_isMet 29 = .ok (.invokevirtual 100, 3) := by decide +kernel
theorem d_D_isMet_32 : decode c_D_isMet 32 = .ok (.invokevirtual 103, 3) := by decide +kernel
theorem d_D_isMet_35 : decode c_D_isMet 35 = .ok (.aload_n 0, 1) := by decide +kernel
theorem d_D_isMet_36 : decode c_D_isMet 36 = .ok (.getfield 32, 3) := by decide +kernel
theorem d_D_isMet_39 : decode c_D_isMet 39 = .ok (.iload 4, 2) := by decide +kernel
theorem d_D_isMet_41 : decode c_D_isMet 41 = .ok (.baload, 1) := by decide +kernel
theorem d_D_isMet_42 : decode c_D_isMet 42 = .ok (.if_icmp .eq 7, 3) := by decide +kernel
theorem d_D_isMet_45 : decode c_D_isMet 45 = .ok (.iconst 1, 1) := by decide +kernel
theorem d_D_isMet_46 : decode c_D_isMet 46 = .ok (.goto 4, 3) := by decide +kernel
theorem d_D_isMet_49 : decode c_D_isMet 49 = .ok (.iconst 0, 1) := by decide +kernel
theorem d_D_isMet_50 : decode c_D_isMet 50 = .ok (.istore_n 2, 1) := by decide +kernel
theorem d_D_isMet_51 : decode c_D_isMet 51 = .ok (.iinc 3 1, 3) := by decide +kernel
theorem d_D_isMet_54 : decode c_D_isMet 54 = .ok (.goto (-50), 3) := by decide +kernel
theorem d_D_isMet_57 : decode c_D_isMet 57 = .ok (.iload_n 2, 1) := by decide +kernel
theorem d_D_isMet_58 : decode c_D_isMet 58 = .ok (.ireturn, 1) := by decide +kernel
theorem d_D_behind_0 : decode c_D_behind 0 = .ok (.iconst 1, 1) := by decide +kernel
theorem d_D_behind_1 : decode c_D_behind 1 = .ok (.istore_n 3, 1) := by decide +kernel
theorem d_D_behind_2 : decode c_D_behind 2 = .ok (.aload_n 0, 1) := by decide +kernel
theorem d_D_behind_3 : decode c_D_behind 3 = .ok (.iload_n 1, 1) := by decide +kernel
theorem d_D_behind_4 : decode c_D_behind 4 = .ok (.invokevirtual 97, 3) := by decide +kernel
theorem d_D_behind_7 : decode c_D_behind 7 = .ok (.istore 4, 2) := by decide +kernel
theorem d_D_behind_9 : decode c_D_behind 9 = .ok (.iconst 1, 1) := by decide +kernel
theorem d_D_behind_10 : decode c_D_behind 10 = .ok (.istore 5, 2) := by decide +kernel
theorem d_D_behind_12 : decode c_D_behind 12 = .ok (.iload 5, 2) := by decide +kernel
theorem d_D_behind_14 : decode c_D_behind 14 = .ok (.aload_n 0, 1) := by decide +kernel
theorem d_D_behind_15 : decode c_D_behind 15 = .ok (.getfield 20, 3) := by decide +kernel
theorem d_D_behind_18 : decode c_D_behind 18 = .ok (.iload_n 1, 1) := by decide +kernel
theorem d_D_behind_19 : decode c_D_behind 19 = .ok (.iaload, 1) := by decide +kernel
theorem d_D_behind_20 : decode c_D_behind 20 = .ok (.if_icmp .gt 104, 3) := by decide +kernel
theorem d_D_behind_23 : decode c_D_behind 23 = .ok (.iconst 5, 1) := by decide +kernel
theorem d_D_behind_24 : decode c_D_behind 24 = .ok (.iload_n 1, 1) := by decide +kernel
theorem d_D_behind_25 : decode c_D_behind 25 = .ok (.imul, 1) := by decide +kernel
theorem d_D_behind_26 : decode c_D_behind 26 = .ok (.iload 5, 2) := by decide +kernel
theorem d_D_behind_28 : decode c_D_behind 28 = .ok (.iadd, 1) := by decide +kernel
theorem d_D_behind_29 : decode c_D_behind 29 = .ok (.istore 6, 2) := by decide +kernel
theorem d_D_behind_31 : decode c_D_behind 31 = .ok (.aload_n 0, 1) := by decide +kernel
theorem d_D_behind_32 : decode c_D_behind 32 = .ok (.aload_n 0, 1) := by decide +kernel
theorem d_D_behind_33 : decode c_D_behind 33 = .ok (.iload 6, 2) := by decide +kernel
theorem d_D_behind_35 : decode c_D_behind 35 = .ok (.invokevirtual 100, 3) := by decide +kernel
theorem d_D_behind_38 : decode c_D_behind 38 = .ok (.invokevirtual 103, 3) := by decide +kernel
theorem d_D_behind_41 : decode c_D_behind 41 = .ok (.aload_n 0, 1) := by decide +kernel
theorem d_D_behind_42 : decode c_D_behind 42 = .ok (.getfield 32, 3) := by decide +kernel
theorem d_D_behind_45 : decode c_D_behind 45 = .ok (.iload 6, 2) := by decide +kernel
theorem d_D_behind_47 : decode c_D_behind 47 = .ok (.baload, 1) := by decide +kernel
theorem d_D_behind_48 : decode c_D_behind 48 = .ok (.if_icmp .ne 70, 3) := by decide +kernel
theorem d_D_behind_51 : decode c_D_behind 51 = .ok (.iconst 1, 1) := by decide +kernel
theorem d_D_behind_52 : decode c_D_behind 52 = .ok (.istore 7, 2) := by decide +kernel
theorem d_D_behind_54 : decode c_D_behind 54 = .ok (.iconst 3, 1) := by decide +kernel
theorem d_D_behind_55 : decode c_D_behind 55 = .ok (.istore 8, 2) := by decide +kernel
theorem d_D_behind_57 : decode c_D_behind 57 = .ok (.iload 8, 2) := by decide +kernel
theorem d_D_behind_59 : decode c_D_behind 59 = .ok (.ifCond .lt 46, 3) := by decide +kernel
theorem d_D_behind_62 : decode c_D_behind 62 = .ok (.aload_n 0, 1) := by decide +kernel
theorem d_D_behind_63 : decode c_D_behind 63 = .ok (.iload 6, 2) := by decide +kernel
theorem d_D_behind_65 : decode c_D_behind 65 = .ok (.invokevirtual 84, 3) := by decide +kernel
theorem d_D_behind_68 : decode c_D_behind 68 = .ok (.iload 8, 2) := by decide +kernel
theorem d_D_behind_70 : decode c_D_behind 70 = .ok (.ishr, 1) := by decide +kernel
theorem d_D_behind_71 : decode c_D_behind 71 = .ok (.iconst 1, 1) := by decide +kernel
theorem d_D_behind_72 : decode c_D_behind 72 = .ok (.iand, 1) := by decide +kernel
theorem d_D_behind_73 : decode c_D_behind 73 = .ok (.ifCond .ne 32, 3) := by decide +kernel
theorem d_D_behind_76 : decode c_D_behind 76 = .ok (.iload 4, 2) := by decide +kernel
theorem d_D_behind_78 : decode c_D_behind 78 = .ok (.iload 8, 2) := by decide +kernel
theorem d_D_behind_80 : decode c_D_behind 80 = .ok (.ishr, 1) := by decide +kernel
theorem d_D_behind_81 : decode c_D_behind 81 = .ok (.iconst 1, 1) := by decide +kernel
theorem d_D_behind_82 : decode c_D_behind 82 = .ok (.iand, 1) := by decide +kernel
theorem d_D_behind_83 : decode c_D_behind 83 = .ok (.iconst 1, 1) := by decide +kernel
theorem d_D_behind_84 : decode c_D_behind 84 = .ok (.if_icmp .ne 11, 3) := by decide +kernel
theorem d_D_behind_87 : decode c_D_behind 87 = .ok (.bipush 12, 2) := by decide +kernel
theorem d_D_behind_89 : decode c_D_behind 89 = .ok (.iload 7, 2) := by decide +kernel
theorem d_D_behind_91 : decode c_D_behind 91 = .ok (.imul, 1) := by decide +kernel
theorem d_D_behind_92 : decode c_D_behind 92 = .ok (.goto 5, 3) := by decide +kernel
theorem d_D_behind_95 : decode c_D_behind 95 = .ok (.iload 7, 2) := by decide +kernel
theorem d_D_behind_97 : decode c_D_behind 97 = .ok (.istore 7, 2) := by decide +kernel
theorem d_D_behind_99 : decode c_D_behind 99 = .ok (.iinc 8 (-1), 3) := by decide +kernel
theorem d_D_behind_102 : decode c_D_behind 102 = .ok (.goto (-45), 3) := by decide +kernel
theorem d_D_behind_105 : decode c_D_behind 105 = .ok (.iload 7, 2) := by decide +kernel
theorem d_D_behind_107 : decode c_D_behind 107 = .ok (.iload_n 3, 1) := by decide +kernel
theorem d_D_behind_108 : decode c_D_behind 108 = .ok (.if_icmp .le 8, 3) := by decide +kernel
theorem d_D_behind_111 : decode c_D_behind 111 = .ok (.iload 7, 2) := by decide +kernel
theorem d_D_behind_113 : decode c_D_behind 113 = .ok (.goto 4, 3) := by decide +kernel
theorem d_D_behind_116 : decode c_D_behind 116 = .ok (.iload_n 3, 1) := by decide +kernel
theorem d_D_behind_117 : decode c_D_behind 117 = .ok (.istore_n 3, 1) := by decide +kernel
theorem d_D_behind_118 : decode c_D_behind 118 = .ok (.iinc 5 1, 3) := by decide +kernel
theorem d_D_behind_121 : decode c_D_behind 121 = .ok (.goto (-109), 3) := by decide +kernel
theorem d_D_behind_124 : decode c_D_behind 124 = .ok (.iload_n 2, 1) := by decide +kernel
theorem d_D_behind_125 : decode c_D_behind 125 = .ok (.iload_n 2, 1) := by decide +kernel
theorem d_D_behind_126 : decode c_D_behind 126 = .ok (.iload_n 3, 1) := by decide +kernel
theorem d_D_behind_127 : decode c_D_behind 127 = .ok (.irem, 1) := by decide +kernel
theorem d_D_behind_128 : decode c_D_behind 128 = .ok (.isub, 1) := by decide +kernel
theorem d_D_behind_129 : decode c_D_behind 129 = .ok (.iload_n 3, 1) := by decide +kernel
theorem d_D_behind_130 : decode c_D_behind 130 = .ok (.iadd, 1) := by decide +kernel
theorem d_D_behind_131 : decode c_D_behind 131 = .ok (.ireturn, 1) := by decide +kernel
theorem d_D_round_0 : decode c_D_round 0 = .ok (.iconst 0, 1) := by decide +kernel
theorem d_D_round_1 : decode c_D_round 1 = .ok (.istore_n 3, 1) := by decide +kernel
theorem d_D_round_2 : decode c_D_round 2 = .ok (.iconst 0, 1) := by decide +kernel
theorem d_D_round_3 : decode c_D_round 3 = .ok (.istore 4, 2) := by decide +kernel
theorem d_D_round_5 : decode c_D_round 5 = .ok (.iload 4, 2) := by decide +kernel
theorem d_D_round_7 : decode c_D_round 7 = .ok (.aload_n 0, 1) := by decide +kernel
theorem d_D_round_8 : decode c_D_round 8 = .ok (.getfield 51, 3) := by decide +kernel
theorem d_D_round_11 : decode c_D_round 11 = .ok (.if_icmp .ge 92, 3) := by decide +kernel
theorem d_D_round_14 : decode c_D_round 14 = .ok (.aload_n 0, 1) := by decide +kernel
theorem d_D_round_15 : decode c_D_round 15 = .ok (.getfield 35, 3) := by decide +kernel
theorem d_D_round_18 : decode c_D_round 18 = .ok (.aload_n 0, 1) := by decide +kernel
theorem d_D_round_19 : decode c_D_round 19 = .ok (.getfield 23, 3) := by decide +kernel
theorem d_D_round_22 : decode c_D_round 22 = .ok (.iconst 5, 1) := by decide +kernel
theorem d_D_round_23 : decode c_D_round 23 = .ok (.iload 4, 2) := by decide +kernel
theorem d_D_round_25 : decode c_D_round 25 = .ok (.imul, 1) := by decide +kernel
theorem d_D_round_26 : decode c_D_round 26 = .ok (.iaload, 1) := by decide +kernel
theorem d_D_round_27 : decode c_D_round 27 = .ok (.iaload, 1) := by decide +kernel
theorem d_D_round_28 : decode c_D_round 28 = .ok (.iload_n 1, 1) := by decide +kernel
theorem d_D_round_29 : decode c_D_round 29 = .ok (.if_icmp .ne 68, 3) := by decide +kernel
theorem d_D_round_32 : decode c_D_round 32 = .ok (.iconst 0, 1) := by decide +kernel
theorem d_D_round_33 : decode c_D_round 33 = .ok (.istore 5, 2) := by decide +kernel
theorem d_D_round_35 : decode c_D_round 35 = .ok (.aload_n 0, 1) := by decide +kernel
theorem d_D_round_36 : decode c_D_round 36 = .ok (.iload 4, 2) := by decide +kernel
theorem d_D_round_38 : decode c_D_round 38 = .ok (.iload 5, 2) := by decide +kernel
theorem d_D_round_40 : decode c_D_round 40 = .ok (.invokevirtual 106, 3) := by decide +kernel
theorem d_D_round_43 : decode c_D_round 43 = .ok (.ifCond .eq 54, 3) := by decide +kernel
theorem d_D_round_46 : decode c_D_round 46 = .ok (.aload_n 0, 1) := by decide +kernel
theorem d_D_round_47 : decode c_D_round 47 = .ok (.iconst 5, 1) := by decide +kernel
theorem d_D_round_48 : decode c_D_round 48 = .ok (.iload 4, 2) := by decide +kernel
theorem d_D_round_50 : decode c_D_round 50 = .ok (.imul, 1) := by decide +kernel
theorem d_D_round_51 : decode c_D_round 51 = .ok (.invokevirtual 100, 3) := by decide +kernel
theorem d_D_round_54 : decode c_D_round 54 = .ok (.istore 6, 2) := by decide +kernel
theorem d_D_round_56 : decode c_D_round 56 = .ok (.aload_n 0, 1) := by decide +kernel
theorem d_D_round_57 : decode c_D_round 57 = .ok (.iload 6, 2) := by decide +kernel
theorem d_D_round_59 : decode c_D_round 59 = .ok (.invokevirtual 103, 3) := by decide +kernel
theorem d_D_round_62 : decode c_D_round 62 = .ok (.ifCond .ne 22, 3) := by decide +kernel
theorem d_D_round_65 : decode c_D_round 65 = .ok (.aload_n 0, 1) := by decide +kernel
theorem d_D_round_66 : decode c_D_round 66 = .ok (.iload 4, 2) := by decide +kernel
theorem d_D_round_68 : decode c_D_round 68 = .ok (.invokevirtual 110, 3) := by decide +kernel
theorem d_D_round_71 : decode c_D_round 71 = .ok (.ifCond .eq 13, 3) := by decide +kernel
theorem d_D_round_74 : decode c_D_round 74 = .ok (.aload_n 0, 1) := by decide +kernel
theorem d_D_round_75 : decode c_D_round 75 = .ok (.getfield 41, 3) := by decide +kernel
theorem d_D_round_78 : decode c_D_round 78 = .ok (.iload 6, 2) := by decide +kernel
theorem d_D_round_80 : decode c_D_round 80 = .ok (.iconst 1, 1) := by decide +kernel
theorem d_D_round_81 : decode c_D_round 81 = .ok (.bastore, 1) := by decide +kernel
theorem d_D_round_82 : decode c_D_round 82 = .ok (.iconst 1, 1) := by decide +kernel
theorem d_D_round_83 : decode c_D_round 83 = .ok (.istore_n 3, 1) := by decide +kernel
theorem d_D_round_84 : decode c_D_round 84 = .ok (.aload_n 0, 1) := by decide +kernel
theorem d_D_round_85 : decode c_D_round 85 = .ok (.iload 4, 2) := by decide +kernel
theorem d_D_round_87 : decode c_D_round 87 = .ok (.iload 5, 2) := by decide +kernel
theorem d_D_round_89 : decode c_D_round 89 = .ok (.invokevirtual 113, 3) := by decide +kernel
theorem d_D_round_92 : decode c_D_round 92 = .ok (.istore 5, 2) := by decide +kernel
theorem d_D_round_94 : decode c_D_round 94 = .ok (.goto (-59), 3) := by decide +kernel
theorem d_D_round_97 : decode c_D_round 97 = .ok (.iinc 4 1, 3) := by decide +kernel
theorem d_D_round_100 : decode c_D_round 100 = .ok (.goto (-95), 3) := by decide +kernel
theorem d_D_round_103 : decode c_D_round 103 = .ok (.iconst 0, 1) := by decide +kernel
theorem d_D_round_104 : decode c_D_round 104 = .ok (.istore 4, 2) := by decide +kernel
theorem d_D_round_106 : decode c_D_round 106 = .ok (.iload 4, 2) := by decide +kernel
theorem d_D_round_108 : decode c_D_round 108 = .ok (.sipush 1152, 3) := by decide +kernel
theorem d_D_round_111 : decode c_D_round 111 = .ok (.if_icmp .ge 45, 3) := by decide +kernel
theorem d_D_round_114 : decode c_D_round 114 = .ok (.aload_n 0, 1) := by decide +kernel
theorem d_D_round_115 : decode c_D_round 115 = .ok (.getfield 17, 3) := by decide +kernel
theorem d_D_round_118 : decode c_D_round 118 = .ok (.iload 4, 2) := by decide +kernel
theorem d_D_round_120 : decode c_D_round 120 = .ok (.aload_n 0, 1) := by decide +kernel
theorem d_D_round_121 : decode c_D_round 121 = .ok (.getfield 41, 3) := by decide +kernel
theorem d_D_round_124 : decode c_D_round 124 = .ok (.iload 4, 2) := by decide +kernel
theorem d_D_round_126 : decode c_D_round 126 = .ok (.baload, 1) := by decide +kernel
theorem d_D_round_127 : decode c_D_round 127 = .ok (.ifCond .eq 7, 3) := by decide +kernel
theorem d_D_round_130 : decode c_D_round 130 = .ok (.iload_n 2, 1) := by decide +kernel
theorem d_D_round_131 : decode c_D_round 131 = .ok (.goto 10, 3) := by decide +kernel
theorem d_D_round_134 : decode c_D_round 134 = .ok (.aload_n 0, 1) := by decide +kernel
theorem d_D_round_135 : decode c_D_round 135 = .ok (.getfield 17, 3) := by decide +kernel
theorem d_D_round_138 : decode c_D_round 138 = .ok (.iload 4, 2) := by decide +kernel
theorem d_D_round_140 : decode c_D_round 140 = .ok (.iaload, 1) := by decide +kernel
theorem d_D_round_141 : decode c_D_round 141 = .ok (.iastore, 1) := by decide +kernel
theorem d_D_round_142 : decode c_D_round 142 = .ok (.aload_n 0, 1) := by decide +kernel
theorem d_D_round_143 : decode c_D_round 143 = .ok (.getfield 41, 3) := by decide +kernel
theorem d_D_round_146 : decode c_D_round 146 = .ok (.iload 4, 2) := by decide +kernel
theorem d_D_round_148 : decode c_D_round 148 = .ok (.iconst 0, 1) := by decide +kernel
theorem d_D_round_149 : decode c_D_round 149 = .ok (.bastore, 1) := by decide +kernel
theorem d_D_round_150 : decode c_D_round 150 = .ok (.iinc 4 1, 3) := by decide +kernel
theorem d_D_round_153 : decode c_D_round 153 = .ok (.goto (-47), 3) := by decide +kernel
theorem d_D_round_156 : decode c_D_round 156 = .ok (.iload_n 3, 1) := by decide +kernel
theorem d_D_round_157 : decode c_D_round 157 = .ok (.ireturn, 1) := by decide +kernel
theorem d_D_find_0 : decode c_D_find 0 = .ok (.aload_n 0, 1) := by decide +kernel
theorem d_D_find_1 : decode c_D_find 1 = .ok (.getfield 54, 3) := by decide +kernel
theorem d_D_find_4 : decode c_D_find 4 = .ok (.ifCond .eq 4, 3) := by decide +kernel
theorem d_D_find_7 : decode c_D_find 7 = .ok (.return_, 1) := by decide +kernel
theorem d_D_find_8 : decode c_D_find 8 = .ok (.aload_n 0, 1) := by decide +kernel
theorem d_D_find_9 : decode c_D_find 9 = .ok (.iconst 1, 1) := by decide +kernel
theorem d_D_find_10 : decode c_D_find 10 = .ok (.putfield 54, 3) := by decide +kernel
theorem d_D_find_13 : decode c_D_find 13 = .ok (.aload_n 0, 1) := by decide +kernel
theorem d_D_find_14 : decode c_D_find 14 = .ok (.aload_n 0, 1) := by decide +kernel
theorem d_D_find_15 : decode c_D_find 15 = .ok (.invokevirtual 117, 3) := by decide +kernel
theorem d_D_find_18 : decode c_D_find 18 = .ok (.putfield 121, 3) := by decide +kernel
theorem d_D_find_21 : decode c_D_find 21 = .ok (.aload_n 0, 1) := by decide +kernel
theorem d_D_find_22 : decode c_D_find 22 = .ok (.getfield 121, 3) := by decide +kernel
theorem d_D_find_25 : decode c_D_find 25 = .ok (.ifCond .lt 4, 3) := by decide +kernel
theorem d_D_find_28 : decode c_D_find 28 = .ok (.return_, 1) := by decide +kernel
theorem d_D_find_29 : decode c_D_find 29 = .ok (.iconst 0, 1) := by decide +kernel
theorem d_D_find_30 : decode c_D_find 30 = .ok (.istore_n 1, 1) := by decide +kernel
theorem d_D_find_31 : decode c_D_find 31 = .ok (.iload_n 1, 1) := by decide +kernel
theorem d_D_find_32 : decode c_D_find 32 = .ok (.sipush 1152, 3) := by decide +kernel
theorem d_D_find_35 : decode c_D_find 35 = .ok (.if_icmp .ge 23, 3) := by decide +kernel
theorem d_D_find_38 : decode c_D_find 38 = .ok (.aload_n 0, 1) := by decide +kernel
theorem d_D_find_39 : decode c_D_find 39 = .ok (.getfield 17, 3) := by decide +kernel
theorem d_D_find_42 : decode c_D_find 42 = .ok (.iload_n 1, 1) := by decide +kernel
theorem d_D_find_43 : decode c_D_find 43 = .ok (.iconst (-1), 1) := by decide +kernel
theorem d_D_find_44 : decode c_D_find 44 = .ok (.iastore, 1) := by decide +kernel
theorem d_D_find_45 : decode c_D_find 45 = .ok (.aload_n 0, 1) := by decide +kernel
theorem d_D_find_46 : decode c_D_find 46 = .ok (.getfield 41, 3) := by decide +kernel
theorem d_D_find_49 : decode c_D_find 49 = .ok (.iload_n 1, 1) := by decide +kernel
theorem d_D_find_50 : decode c_D_find 50 = .ok (.iconst 0, 1) := by decide +kernel
theorem d_D_find_51 : decode c_D_find 51 = .ok (.bastore, 1) := by decide +kernel
theorem d_D_find_52 : decode c_D_find 52 = .ok (.iinc 1 1, 3) := by decide +kernel
theorem d_D_find_55 : decode c_D_find 55 = .ok (.goto (-24), 3) := by decide +kernel
theorem d_D_find_58 : decode c_D_find 58 = .ok (.iconst 0, 1) := by decide +kernel
theorem d_D_find_59 : decode c_D_find 59 = .ok (.istore_n 1, 1) := by decide +kernel
theorem d_D_find_60 : decode c_D_find 60 = .ok (.iload_n 1, 1) := by decide +kernel
theorem d_D_find_61 : decode c_D_find 61 = .ok (.bipush 8, 2) := by decide +kernel
theorem d_D_find_63 : decode c_D_find 63 = .ok (.if_icmp .gt 92, 3) := by decide +kernel
theorem d_D_find_66 : decode c_D_find 66 = .ok (.iconst 0, 1) := by decide +kernel
theorem d_D_find_67 : decode c_D_find 67 = .ok (.istore_n 2, 1) := by decide +kernel
theorem d_D_find_68 : decode c_D_find 68 = .ok (.iload_n 2, 1) := by decide +kernel
theorem d_D_find_69 : decode c_D_find 69 = .ok (.sipush 1152, 3) := by decide +kernel
theorem d_D_find_72 : decode c_D_find 72 = .ok (.if_icmp .ge 60, 3) := by decide +kernel
theorem d_D_find_75 : decode c_D_find 75 = .ok (.aload_n 0, 1) := by decide +kernel
theorem d_D_find_76 : decode c_D_find 76 = .ok (.getfield 17, 3) := by decide +kernel
theorem d_D_find_79 : decode c_D_find 79 = .ok (.iload_n 2, 1) := by decide +kernel
theorem d_D_find_80 : decode c_D_find 80 = .ok (.aload_n 0, 1) := by decide +kernel
theorem d_D_find_81 : decode c_D_find 81 = .ok (.getfield 13, 3) := by decide +kernel
theorem d_D_find_84 : decode c_D_find 84 = .ok (.iload_n 2, 1) := by decide +kernel
theorem d_D_find_85 : decode c_D_find 85 = .ok (.baload, 1) := by decide +kernel
theorem d_D_find_86 : decode c_D_find 86 = .ok (.ifCond .eq 33, 3) := by decide +kernel
theorem d_D_find_89 : decode c_D_find 89 = .ok (.iload_n 2, 1) := by decide +kernel
theorem d_D_find_90 : decode c_D_find 90 = .ok (.sipush 144, 3) := by decide +kernel
theorem d_D_find_93 : decode c_D_find 93 = .ok (.idiv, 1) := by decide +kernel
theorem d_D_find_94 : decode c_D_find 94 = .ok (.aload_n 0, 1) := by decide +kernel
theorem d_D_find_95 : decode c_D_find 95 = .ok (.getfield 48, 3) := by decide +kernel
theorem d_D_find_98 : decode c_D_find 98 = .ok (.if_icmp .ge 21, 3) := by decide +kernel
theorem d_D_find_101 : decode c_D_find 101 = .ok (.aload_n 0, 1) := by decide +kernel
theorem d_D_find_102 : decode c_D_find 102 = .ok (.getfield 35, 3) := by decide +kernel
theorem d_D_find_105 : decode c_D_find 105 = .ok (.iload_n 2, 1) := by decide +kernel
theorem d_D_find_106 : decode c_D_find 106 = .ok (.sipush 144, 3) := by decide +kernel
theorem d_D_find_109 : decode c_D_find 109 = .ok (.idiv, 1) := by decide +kernel
theorem d_D_find_110 : decode c_D_find 110 = .ok (.iaload, 1) := by decide +kernel
theorem d_D_find_111 : decode c_D_find 111 = .ok (.iload_n 1, 1) := by decide +kernel
