theorem d_M_meets_43 : decode c_M_meets 43 = .ok (.ifCond .eq 15, 3) := by decide +kernel
theorem d_M_meets_46 : decode c_M_meets 46 = .ok (.aload_n 0, 1) := by decide +kernel
theorem d_M_meets_47 : decode c_M_meets 47 = .ok (.aload_n 1, 1) := by decide +kernel
theorem d_M_meets_48 : decode c_M_meets 48 = .ok (.invokevirtual 47, 3) := by decide +kernel
theorem d_M_meets_51 : decode c_M_meets 51 = .ok (.ifCond .eq 7, 3) := by decide +kernel
theorem d_M_meets_54 : decode c_M_meets 54 = .ok (.iconst 1, 1) := by decide +kernel
theorem d_M_meets_55 : decode c_M_meets 55 = .ok (.goto 4, 3) := by decide +kernel
theorem d_M_meets_58 : decode c_M_meets 58 = .ok (.iconst 0, 1) := by decide +kernel
theorem d_M_meets_59 : decode c_M_meets 59 = .ok (.ireturn, 1) := by decide +kernel
theorem d_M_knownAgree_0 : decode c_M_knownAgree 0 = .ok (.iconst 0, 1) := by decide +kernel
theorem d_M_knownAgree_1 : decode c_M_knownAgree 1 = .ok (.istore_n 2, 1) := by decide +kernel
theorem d_M_knownAgree_2 : decode c_M_knownAgree 2 = .ok (.iload_n 2, 1) := by decide +kernel
theorem d_M_knownAgree_3 : decode c_M_knownAgree 3 = .ok (.aload_n 1, 1) := by decide +kernel
theorem d_M_knownAgree_4 : decode c_M_knownAgree 4 = .ok (.getfield 51, 3) := by decide +kernel
theorem d_M_knownAgree_7 : decode c_M_knownAgree 7 = .ok (.if_icmp .ge 74, 3) := by decide +kernel
theorem d_M_knownAgree_10 : decode c_M_knownAgree 10 = .ok (.aload_n 1, 1) := by decide +kernel
theorem d_M_knownAgree_11 : decode c_M_knownAgree 11 = .ok (.getfield 54, 3) := by decide +kernel
theorem d_M_knownAgree_14 : decode c_M_knownAgree 14 = .ok (.iload_n 2, 1) := by decide +kernel
theorem d_M_knownAgree_15 : decode c_M_knownAgree 15 = .ok (.aaload, 1) := by decide +kernel
theorem d_M_knownAgree_16 : decode c_M_knownAgree 16 = .ok (.astore_n 3, 1) := by decide +kernel
theorem d_M_knownAgree_17 : decode c_M_knownAgree 17 = .ok (.aload_n 0, 1) := by decide +kernel
theorem d_M_knownAgree_18 : decode c_M_knownAgree 18 = .ok (.getfield 18, 3) := by decide +kernel
theorem d_M_knownAgree_21 : decode c_M_knownAgree 21 = .ok (.aload_n 3, 1) := by decide +kernel
theorem d_M_knownAgree_22 : decode c_M_knownAgree 22 = .ok (.getfield 37, 3) := by decide +kernel
theorem d_M_knownAgree_25 : decode c_M_knownAgree 25 = .ok (.iaload, 1) := by decide +kernel
theorem d_M_knownAgree_26 : decode c_M_knownAgree 26 = .ok (.istore 4, 2) := by decide +kernel
theorem d_M_knownAgree_28 : decode c_M_knownAgree 28 = .ok (.aload_n 0, 1) := by decide +kernel
theorem d_M_knownAgree_29 : decode c_M_knownAgree 29 = .ok (.getfield 18, 3) := by decide +kernel
theorem d_M_knownAgree_32 : decode c_M_knownAgree 32 = .ok (.aload_n 3, 1) := by decide +kernel
theorem d_M_knownAgree_33 : decode c_M_knownAgree 33 = .ok (.getfield 44, 3) := by decide +kernel
theorem d_M_knownAgree_36 : decode c_M_knownAgree 36 = .ok (.iaload, 1) := by decide +kernel
theorem d_M_knownAgree_37 : decode c_M_knownAgree 37 = .ok (.istore 5, 2) := by decide +kernel
theorem d_M_knownAgree_39 : decode c_M_knownAgree 39 = .ok (.iload 4, 2) := by decide +kernel
theorem d_M_knownAgree_41 : decode c_M_knownAgree 41 = .ok (.iconst (-1), 1) := by decide +kernel
theorem d_M_knownAgree_42 : decode c_M_knownAgree 42 = .ok (.if_icmp .eq 33, 3) := by decide +kernel
theorem d_M_knownAgree_45 : decode c_M_knownAgree 45 = .ok (.iload 5, 2) := by decide +kernel
theorem d_M_knownAgree_47 : decode c_M_knownAgree 47 = .ok (.iconst (-1), 1) := by decide +kernel
theorem d_M_knownAgree_48 : decode c_M_knownAgree 48 = .ok (.if_icmp .eq 27, 3) := by decide +kernel
theorem d_M_knownAgree_51 : decode c_M_knownAgree 51 = .ok (.aload_n 0, 1) := by decide +kernel
theorem d_M_knownAgree_52 : decode c_M_knownAgree 52 = .ok (.getfield 12, 3) := by decide +kernel
theorem d_M_knownAgree_55 : decode c_M_knownAgree 55 = .ok (.aload_n 3, 1) := by decide +kernel
theorem d_M_knownAgree_56 : decode c_M_knownAgree 56 = .ok (.getfield 31, 3) := by decide +kernel
theorem d_M_knownAgree_59 : decode c_M_knownAgree 59 = .ok (.iload 4, 2) := by decide +kernel
theorem d_M_knownAgree_61 : decode c_M_knownAgree 61 = .ok (.iload 5, 2) := by decide +kernel
theorem d_M_knownAgree_63 : decode c_M_knownAgree 63 = .ok (.invokevirtual 58, 3) := by decide +kernel
theorem d_M_knownAgree_66 : decode c_M_knownAgree 66 = .ok (.aload_n 3, 1) := by decide +kernel
theorem d_M_knownAgree_67 : decode c_M_knownAgree 67 = .ok (.getfield 62, 3) := by decide +kernel
theorem d_M_knownAgree_70 : decode c_M_knownAgree 70 = .ok (.if_icmp .ne 5, 3) := by decide +kernel
theorem d_M_knownAgree_73 : decode c_M_knownAgree 73 = .ok (.iconst 0, 1) := by decide +kernel
theorem d_M_knownAgree_74 : decode c_M_knownAgree 74 = .ok (.ireturn, 1) := by decide +kernel
theorem d_M_knownAgree_75 : decode c_M_knownAgree 75 = .ok (.iinc 2 1, 3) := by decide +kernel
theorem d_M_knownAgree_78 : decode c_M_knownAgree 78 = .ok (.goto (-76), 3) := by decide +kernel
theorem d_M_knownAgree_81 : decode c_M_knownAgree 81 = .ok (.iconst 1, 1) := by decide +kernel
theorem d_M_knownAgree_82 : decode c_M_knownAgree 82 = .ok (.ireturn, 1) := by decide +kernel
theorem d_M_choices_0 : decode c_M_choices 0 = .ok (.aload_n 0, 1) := by decide +kernel
theorem d_M_choices_1 : decode c_M_choices 1 = .ok (.getfield 18, 3) := by decide +kernel
theorem d_M_choices_4 : decode c_M_choices 4 = .ok (.iload_n 2, 1) := by decide +kernel
theorem d_M_choices_5 : decode c_M_choices 5 = .ok (.iaload, 1) := by decide +kernel
theorem d_M_choices_6 : decode c_M_choices 6 = .ok (.iconst (-1), 1) := by decide +kernel
theorem d_M_choices_7 : decode c_M_choices 7 = .ok (.if_icmp .eq 12, 3) := by decide +kernel
theorem d_M_choices_10 : decode c_M_choices 10 = .ok (.iconst 1, 1) := by decide +kernel
theorem d_M_choices_11 : decode c_M_choices 11 = .ok (.aload_n 0, 1) := by decide +kernel
theorem d_M_choices_12 : decode c_M_choices 12 = .ok (.getfield 18, 3) := by decide +kernel
theorem d_M_choices_15 : decode c_M_choices 15 = .ok (.iload_n 2, 1) := by decide +kernel
theorem d_M_choices_16 : decode c_M_choices 16 = .ok (.iaload, 1) := by decide +kernel
theorem d_M_choices_17 : decode c_M_choices 17 = .ok (.ishl, 1) := by decide +kernel
theorem d_M_choices_18 : decode c_M_choices 18 = .ok (.ireturn, 1) := by decide +kernel
theorem d_M_choices_19 : decode c_M_choices 19 = .ok (.sipush 4095, 3) := by decide +kernel
theorem d_M_choices_22 : decode c_M_choices 22 = .ok (.istore_n 3, 1) := by decide +kernel
theorem d_M_choices_23 : decode c_M_choices 23 = .ok (.iconst 0, 1) := by decide +kernel
theorem d_M_choices_24 : decode c_M_choices 24 = .ok (.istore 4, 2) := by decide +kernel
theorem d_M_choices_26 : decode c_M_choices 26 = .ok (.iload 4, 2) := by decide +kernel
theorem d_M_choices_28 : decode c_M_choices 28 = .ok (.aload_n 1, 1) := by decide +kernel
theorem d_M_choices_29 : decode c_M_choices 29 = .ok (.getfield 51, 3) := by decide +kernel
theorem d_M_choices_32 : decode c_M_choices 32 = .ok (.if_icmp .ge 46, 3) := by decide +kernel
theorem d_M_choices_35 : decode c_M_choices 35 = .ok (.aload_n 1, 1) := by decide +kernel
theorem d_M_choices_36 : decode c_M_choices 36 = .ok (.getfield 54, 3) := by decide +kernel
theorem d_M_choices_39 : decode c_M_choices 39 = .ok (.iload 4, 2) := by decide +kernel
theorem d_M_choices_41 : decode c_M_choices 41 = .ok (.aaload, 1) := by decide +kernel
theorem d_M_choices_42 : decode c_M_choices 42 = .ok (.astore 5, 2) := by decide +kernel
theorem d_M_choices_44 : decode c_M_choices 44 = .ok (.aload 5, 2) := by decide +kernel
theorem d_M_choices_46 : decode c_M_choices 46 = .ok (.getfield 37, 3) := by decide +kernel
theorem d_M_choices_49 : decode c_M_choices 49 = .ok (.iload_n 2, 1) := by decide +kernel
theorem d_M_choices_50 : decode c_M_choices 50 = .ok (.if_icmp .eq 12, 3) := by decide +kernel
theorem d_M_choices_53 : decode c_M_choices 53 = .ok (.aload 5, 2) := by decide +kernel
theorem d_M_choices_55 : decode c_M_choices 55 = .ok (.getfield 44, 3) := by decide +kernel
theorem d_M_choices_58 : decode c_M_choices 58 = .ok (.iload_n 2, 1) := by decide +kernel
theorem d_M_choices_59 : decode c_M_choices 59 = .ok (.if_icmp .ne 13, 3) := by decide +kernel
theorem d_M_choices_62 : decode c_M_choices 62 = .ok (.iload_n 3, 1) := by decide +kernel
theorem d_M_choices_63 : decode c_M_choices 63 = .ok (.aload_n 0, 1) := by decide +kernel
theorem d_M_choices_64 : decode c_M_choices 64 = .ok (.aload 5, 2) := by decide +kernel
theorem d_M_choices_66 : decode c_M_choices 66 = .ok (.iload_n 2, 1) := by decide +kernel
theorem d_M_choices_67 : decode c_M_choices 67 = .ok (.invokevirtual 66, 3) := by decide +kernel
theorem d_M_choices_70 : decode c_M_choices 70 = .ok (.iand, 1) := by decide +kernel
theorem d_M_choices_71 : decode c_M_choices 71 = .ok (.istore_n 3, 1) := by decide +kernel
theorem d_M_choices_72 : decode c_M_choices 72 = .ok (.iinc 4 1, 3) := by decide +kernel
theorem d_M_choices_75 : decode c_M_choices 75 = .ok (.goto (-49), 3) := by decide +kernel
theorem d_M_choices_78 : decode c_M_choices 78 = .ok (.iload_n 3, 1) := by decide +kernel
theorem d_M_choices_79 : decode c_M_choices 79 = .ok (.ireturn, 1) := by decide +kernel
theorem d_M_choicesBy_0 : decode c_M_choicesBy 0 = .ok (.aload_n 1, 1) := by decide +kernel
theorem d_M_choicesBy_1 : decode c_M_choicesBy 1 = .ok (.getfield 31, 3) := by decide +kernel
theorem d_M_choicesBy_4 : decode c_M_choicesBy 4 = .ok (.istore_n 3, 1) := by decide +kernel
theorem d_M_choicesBy_5 : decode c_M_choicesBy 5 = .ok (.aload_n 1, 1) := by decide +kernel
theorem d_M_choicesBy_6 : decode c_M_choicesBy 6 = .ok (.getfield 37, 3) := by decide +kernel
theorem d_M_choicesBy_9 : decode c_M_choicesBy 9 = .ok (.iload_n 2, 1) := by decide +kernel
theorem d_M_choicesBy_10 : decode c_M_choicesBy 10 = .ok (.if_icmp .ne 7, 3) := by decide +kernel
theorem d_M_choicesBy_13 : decode c_M_choicesBy 13 = .ok (.iconst 1, 1) := by decide +kernel
theorem d_M_choicesBy_14 : decode c_M_choicesBy 14 = .ok (.goto 4, 3) := by decide +kernel
theorem d_M_choicesBy_17 : decode c_M_choicesBy 17 = .ok (.iconst 0, 1) := by decide +kernel
theorem d_M_choicesBy_18 : decode c_M_choicesBy 18 = .ok (.istore 4, 2) := by decide +kernel
theorem d_M_choicesBy_20 : decode c_M_choicesBy 20 = .ok (.aload_n 0, 1) := by decide +kernel
theorem d_M_choicesBy_21 : decode c_M_choicesBy 21 = .ok (.getfield 18, 3) := by decide +kernel
theorem d_M_choicesBy_24 : decode c_M_choicesBy 24 = .ok (.iload 4, 2) := by decide +kernel
theorem d_M_choicesBy_26 : decode c_M_choicesBy 26 = .ok (.ifCond .eq 10, 3) := by decide +kernel
theorem d_M_choicesBy_29 : decode c_M_choicesBy 29 = .ok (.aload_n 1, 1) := by decide +kernel
theorem d_M_choicesBy_30 : decode c_M_choicesBy 30 = .ok (.getfield 44, 3) := by decide +kernel
theorem d_M_choicesBy_33 : decode c_M_choicesBy 33 = .ok (.goto 7, 3) := by decide +kernel
theorem d_M_choicesBy_36 : decode c_M_choicesBy 36 = .ok (.aload_n 1, 1) := by decide +kernel
theorem d_M_choicesBy_37 : decode c_M_choicesBy 37 = .ok (.getfield 37, 3) := by decide +kernel
theorem d_M_choicesBy_40 : decode c_M_choicesBy 40 = .ok (.iaload, 1) := by decide +kernel
theorem d_M_choicesBy_41 : decode c_M_choicesBy 41 = .ok (.istore 5, 2) := by decide +kernel
theorem d_M_choicesBy_43 : decode c_M_choicesBy 43 = .ok (.aload_n 1, 1) := by decide +kernel
theorem d_M_choicesBy_44 : decode c_M_choicesBy 44 = .ok (.getfield 37, 3) := by decide +kernel
theorem d_M_choicesBy_47 : decode c_M_choicesBy 47 = .ok (.aload_n 1, 1) := by decide +kernel
theorem d_M_choicesBy_48 : decode c_M_choicesBy 48 = .ok (.getfield 44, 3) := by decide +kernel
theorem d_M_choicesBy_51 : decode c_M_choicesBy 51 = .ok (.if_icmp .ne 17, 3) := by decide +kernel
theorem d_M_choicesBy_54 : decode c_M_choicesBy 54 = .ok (.aload_n 0, 1) := by decide +kernel
theorem d_M_choicesBy_55 : decode c_M_choicesBy 55 = .ok (.getfield 12, 3) := by decide +kernel
theorem d_M_choicesBy_58 : decode c_M_choicesBy 58 = .ok (.getfield 70, 3) := by decide +kernel
theorem d_M_choicesBy_61 : decode c_M_choicesBy 61 = .ok (.iload_n 3, 1) := by decide +kernel
theorem d_M_choicesBy_62 : decode c_M_choicesBy 62 = .ok (.iaload, 1) := by decide +kernel
theorem d_M_choicesBy_63 : decode c_M_choicesBy 63 = .ok (.istore 6, 2) := by decide +kernel
theorem d_M_choicesBy_65 : decode c_M_choicesBy 65 = .ok (.goto 92, 3) := by decide +kernel
theorem d_M_choicesBy_68 : decode c_M_choicesBy 68 = .ok (.iload 5, 2) := by decide +kernel
theorem d_M_choicesBy_70 : decode c_M_choicesBy 70 = .ok (.iconst (-1), 1) := by decide +kernel
theorem d_M_choicesBy_71 : decode c_M_choicesBy 71 = .ok (.if_icmp .eq 45, 3) := by decide +kernel
theorem d_M_choicesBy_74 : decode c_M_choicesBy 74 = .ok (.iload_n 3, 1) := by decide +kernel
theorem d_M_choicesBy_75 : decode c_M_choicesBy 75 = .ok (.bipush 12, 2) := by decide +kernel
theorem d_M_choicesBy_77 : decode c_M_choicesBy 77 = .ok (.imul, 1) := by decide +kernel
theorem d_M_choicesBy_78 : decode c_M_choicesBy 78 = .ok (.iload 5, 2) := by decide +kernel
theorem d_M_choicesBy_80 : decode c_M_choicesBy 80 = .ok (.iadd, 1) := by decide +kernel
theorem d_M_choicesBy_81 : decode c_M_choicesBy 81 = .ok (.istore 7, 2) := by decide +kernel
theorem d_M_choicesBy_83 : decode c_M_choicesBy 83 = .ok (.iload 4, 2) := by decide +kernel
theorem d_M_choicesBy_85 : decode c_M_choicesBy 85 = .ok (.ifCond .eq 16, 3) := by decide +kernel
theorem d_M_choicesBy_88 : decode c_M_choicesBy 88 = .ok (.aload_n 0, 1) := by decide +kernel
theorem d_M_choicesBy_89 : decode c_M_choicesBy 89 = .ok (.getfield 12, 3) := by decide +kernel
theorem d_M_choicesBy_92 : decode c_M_choicesBy 92 = .ok (.getfield 73, 3) := by decide +kernel
theorem d_M_choicesBy_95 : decode c_M_choicesBy 95 = .ok (.iload 7, 2) := by decide +kernel
theorem d_M_choicesBy_97 : decode c_M_choicesBy 97 = .ok (.iaload, 1) := by decide +kernel
theorem d_M_choicesBy_98 : decode c_M_choicesBy 98 = .ok (.goto 13, 3) := by decide +kernel
theorem d_M_choicesBy_101 : decode c_M_choicesBy 101 = .ok (.aload_n 0, 1) := by decide +kernel
theorem d_M_choicesBy_102 : decode c_M_choicesBy 102 = .ok (.getfield 12, 3) := by decide +kernel
theorem d_M_choicesBy_105 : decode c_M_choicesBy 105 = .ok (.getfield 76, 3) := by decide +kernel
theorem d_M_choicesBy_108 : decode c_M_choicesBy 108 = .ok (.iload 7, 2) := by decide +kernel
theorem d_M_choicesBy_110 : decode c_M_choicesBy 110 = .ok (.iaload, 1) := by decide +kernel
theorem d_M_choicesBy_111 : decode c_M_choicesBy 111 = .ok (.istore 6, 2) := by decide +kernel
theorem d_M_choicesBy_113 : decode c_M_choicesBy 113 = .ok (.goto 44, 3) := by decide +kernel
theorem d_M_choicesBy_116 : decode c_M_choicesBy 116 = .ok (.aload_n 1, 1) := by decide +kernel
theorem d_M_choicesBy_117 : decode c_M_choicesBy 117 = .ok (.getfield 62, 3) := by decide +kernel
theorem d_M_choicesBy_120 : decode c_M_choicesBy 120 = .ok (.ifCond .eq 9, 3) := by decide +kernel
theorem d_M_choicesBy_123 : decode c_M_choicesBy 123 = .ok (.iconst 0, 1) := by decide +kernel
theorem d_M_choicesBy_124 : decode c_M_choicesBy 124 = .ok (.istore 6, 2) := by decide +kernel
theorem d_M_choicesBy_126 : decode c_M_choicesBy 126 = .ok (.goto 31, 3) := by decide +kernel
theorem d_M_choicesBy_129 : decode c_M_choicesBy 129 = .ok (.iload 4, 2) := by decide +kernel
theorem d_M_choicesBy_131 : decode c_M_choicesBy 131 = .ok (.ifCond .eq 15, 3) := by decide +kernel
theorem d_M_choicesBy_134 : decode c_M_choicesBy 134 = .ok (.aload_n 0, 1) := by decide +kernel
theorem d_M_choicesBy_135 : decode c_M_choicesBy 135 = .ok (.getfield 12, 3) := by decide +kernel
theorem d_M_choicesBy_138 : decode c_M_choicesBy 138 = .ok (.getfield 79, 3) := by decide +kernel
theorem d_M_choicesBy_141 : decode c_M_choicesBy 141 = .ok (.iload_n 3, 1) := by decide +kernel
theorem d_M_choicesBy_142 : decode c_M_choicesBy 142 = .ok (.iaload, 1) := by decide +kernel
theorem d_M_choicesBy_143 : decode c_M_choicesBy 143 = .ok (.goto 12, 3) := by decide +kernel
theorem d_M_choicesBy_146 : decode c_M_choicesBy 146 = .ok (.aload_n 0, 1) := by decide +kernel
theorem d_M_choicesBy_147 : decode c_M_choicesBy 147 = .ok (.getfield 12, 3) := by decide +kernel
theorem d_M_choicesBy_150 : decode c_M_choicesBy 150 = .ok (.getfield 82, 3) := by decide +kernel
theorem d_M_choicesBy_153 : decode c_M_choicesBy 153 = .ok (.iload_n 3, 1) := by decide +kernel
theorem d_M_choicesBy_154 : decode c_M_choicesBy 154 = .ok (.iaload, 1) := by decide +kernel
theorem d_M_choicesBy_155 : decode c_M_choicesBy 155 = .ok (.istore 6, 2) := by decide +kernel
theorem d_M_choicesBy_157 : decode c_M_choicesBy 157 = .ok (.aload_n 1, 1) := by decide +kernel
theorem d_M_choicesBy_158 : decode c_M_choicesBy 158 = .ok (.getfield 62, 3) := by decide +kernel
theorem d_M_choicesBy_161 : decode c_M_choicesBy 161 = .ok (.ifCond .eq 10, 3) := by decide +kernel
theorem d_M_choicesBy_164 : decode c_M_choicesBy 164 = .ok (.iload 6, 2) := by decide +kernel
theorem d_M_choicesBy_166 : decode c_M_choicesBy 166 = .ok (.iconst (-1), 1) := by decide +kernel
theorem d_M_choicesBy_167 : decode c_M_choicesBy 167 = .ok (.ixor, 1) := by decide +kernel
theorem d_M_choicesBy_168 : decode c_M_choicesBy 168 = .ok (.goto 5, 3) := by decide +kernel
theorem d_M_choicesBy_171 : decode c_M_choicesBy 171 = .ok (.iload 6, 2) := by decide +kernel
theorem d_M_choicesBy_173 : decode c_M_choicesBy 173 = .ok (.ireturn, 1) := by decide +kernel
theorem d_M_nextOpen_0 : decode c_M_nextOpen 0 = .ok (.iload_n 2, 1) := by decide +kernel
theorem d_M_nextOpen_1 : decode c_M_nextOpen 1 = .ok (.istore_n 3, 1) := by decide +kernel
theorem d_M_nextOpen_2 : decode c_M_nextOpen 2 = .ok (.iload_n 3, 1) := by decide +kernel
theorem d_M_nextOpen_3 : decode c_M_nextOpen 3 = .ok (.bipush 24, 2) := by decide +kernel
theorem d_M_nextOpen_5 : decode c_M_nextOpen 5 = .ok (.if_icmp .ge 32, 3) := by decide +kernel
theorem d_M_nextOpen_8 : decode c_M_nextOpen 8 = .ok (.aload_n 1, 1) := by decide +kernel
theorem d_M_nextOpen_9 : decode c_M_nextOpen 9 = .ok (.getfield 85, 3) := by decide +kernel
theorem d_M_nextOpen_12 : decode c_M_nextOpen 12 = .ok (.iload_n 3, 1) := by decide +kernel
theorem d_M_nextOpen_13 : decode c_M_nextOpen 13 = .ok (.invokestatic 88, 3) := by decide +kernel
theorem d_M_nextOpen_16 : decode c_M_nextOpen 16 = .ok (.ifCond .eq 15, 3) := by decide +kernel
theorem d_M_nextOpen_19 : decode c_M_nextOpen 19 = .ok (.aload_n 0, 1) := by decide +kernel
theorem d_M_nextOpen_20 : decode c_M_nextOpen 20 = .ok (.getfield 18, 3) := by decide +kernel
theorem d_M_nextOpen_23 : decode c_M_nextOpen 23 = .ok (.iload_n 3, 1) := by decide +kernel
theorem d_M_nextOpen_24 : decode c_M_nextOpen 24 = .ok (.iaload, 1) := by decide +kernel
theorem d_M_nextOpen_25 : decode c_M_nextOpen 25 = .ok (.iconst (-1), 1) := by decide +kernel
theorem d_M_nextOpen_26 : decode c_M_nextOpen 26 = .ok (.if_icmp .ne 5, 3) := by decide +kernel
theorem d_M_nextOpen_29 : decode c_M_nextOpen 29 = .ok (.iload_n 3, 1) := by decide +kernel
theorem d_M_nextOpen_30 : decode c_M_nextOpen 30 = .ok (.ireturn, 1) := by decide +kernel
theorem d_M_nextOpen_31 : decode c_M_nextOpen 31 = .ok (.iinc 3 1, 3) := by decide +kernel
theorem d_M_nextOpen_34 : decode c_M_nextOpen 34 = .ok (.goto (-32), 3) := by decide +kernel
theorem d_M_nextOpen_37 : decode c_M_nextOpen 37 = .ok (.bipush 24, 2) := by decide +kernel
theorem d_M_nextOpen_39 : decode c_M_nextOpen 39 = .ok (.ireturn, 1) := by decide +kernel
theorem d_M_findLeast_0 : decode c_M_findLeast 0 = .ok (.aload_n 0, 1) := by decide +kernel
theorem d_M_findLeast_1 : decode c_M_findLeast 1 = .ok (.aload_n 1, 1) := by decide +kernel
theorem d_M_findLeast_2 : decode c_M_findLeast 2 = .ok (.iload_n 2, 1) := by decide +kernel
theorem d_M_findLeast_3 : decode c_M_findLeast 3 = .ok (.invokevirtual 91, 3) := by decide +kernel
theorem d_M_findLeast_6 : decode c_M_findLeast 6 = .ok (.istore_n 3, 1) := by decide +kernel
theorem d_M_findLeast_7 : decode c_M_findLeast 7 = .ok (.iload_n 3, 1) := by decide +kernel
theorem d_M_findLeast_8 : decode c_M_findLeast 8 = .ok (.bipush 24, 2) := by decide +kernel
theorem d_M_findLeast_10 : decode c_M_findLeast 10 = .ok (.if_icmp .lt 5, 3) := by decide +kernel
theorem d_M_findLeast_13 : decode c_M_findLeast 13 = .ok (.iconst 1, 1) := by decide +kernel
theorem d_M_findLeast_14 : decode c_M_findLeast 14 = .ok (.ireturn, 1) := by decide +kernel
theorem d_M_findLeast_15 : decode c_M_findLeast 15 = .ok (.aload_n 0, 1) := by decide +kernel
theorem d_M_findLeast_16 : decode c_M_findLeast 16 = .ok (.aload_n 1, 1) := by decide +kernel
theorem d_M_findLeast_17 : decode c_M_findLeast 17 = .ok (.iload_n 3, 1) := by decide +kernel
theorem d_M_findLeast_18 : decode c_M_findLeast 18 = .ok (.invokevirtual 95, 3) := by decide +kernel
theorem d_M_findLeast_21 : decode c_M_findLeast 21 = .ok (.istore 4, 2) := by decide +kernel
theorem d_M_findLeast_23 : decode c_M_findLeast 23 = .ok (.iconst 0, 1) := by decide +kernel
theorem d_M_findLeast_24 : decode c_M_findLeast 24 = .ok (.istore 5, 2) := by decide +kernel
theorem d_M_findLeast_26 : decode c_M_findLeast 26 = .ok (.iload 5, 2) := by decide +kernel
theorem d_M_findLeast_28 : decode c_M_findLeast 28 = .ok (.bipush 12, 2) := by decide +kernel
theorem d_M_findLeast_30 : decode c_M_findLeast 30 = .ok (.if_icmp .ge 40, 3) := by decide +kernel
theorem d_M_findLeast_33 : decode c_M_findLeast 33 = .ok (.iload 4, 2) := by decide +kernel
theorem d_M_findLeast_35 : decode c_M_findLeast 35 = .ok (.iload 5, 2) := by decide +kernel
theorem d_M_findLeast_37 : decode c_M_findLeast 37 = .ok (.invokestatic 88, 3) := by decide +kernel
theorem d_M_findLeast_40 : decode c_M_findLeast 40 = .ok (.ifCond .eq 24, 3) := by decide +kernel
theorem d_M_findLeast_43 : decode c_M_findLeast 43 = .ok (.aload_n 0, 1) := by decide +kernel
theorem d_M_findLeast_44 : decode c_M_findLeast 44 = .ok (.getfield 18, 3) := by decide +kernel
theorem d_M_findLeast_47 : decode c_M_findLeast 47 = .ok (.iload_n 3, 1) := by decide +kernel
theorem d_M_findLeast_48 : decode c_M_findLeast 48 = .ok (.iload 5, 2) := by decide +kernel
theorem d_M_findLeast_50 : decode c_M_findLeast 50 = .ok (.iastore, 1) := by decide +kernel
theorem d_M_findLeast_51 : decode c_M_findLeast 51 = .ok (.aload_n 0, 1) := by decide +kernel
theorem d_M_findLeast_52 : decode c_M_findLeast 52 = .ok (.aload_n 1, 1) := by decide +kernel
theorem d_M_findLeast_53 : decode c_M_findLeast 53 = .ok (.iload_n 3, 1) := by decide +kernel
theorem d_M_findLeast_54 : decode c_M_findLeast 54 = .ok (.iconst 1, 1) := by decide +kernel
theorem d_M_findLeast_55 : decode c_M_findLeast 55 = .ok (.iadd, 1) := by decide +kernel
theorem d_M_findLeast_56 : decode c_M_findLeast 56 = .ok (.invokevirtual 98, 3) := by decide +kernel
theorem d_M_findLeast_59 : decode c_M_findLeast 59 = .ok (.ifCond .eq 5, 3) := by decide +kernel
theorem d_M_findLeast_62 : decode c_M_findLeast 62 = .ok (.iconst 1, 1) := by decide +kernel
theorem d_M_findLeast_63 : decode c_M_findLeast 63 = .ok (.ireturn, 1) := by decide +kernel
theorem d_M_findLeast_64 : decode c_M_findLeast 64 = .ok (.iinc 5 1, 3) := by decide +kernel
theorem d_M_findLeast_67 : decode c_M_findLeast 67 = .ok (.goto (-41), 3) := by decide +kernel
theorem d_M_findLeast_70 : decode c_M_findLeast 70 = .ok (.aload_n 0, 1) := by decide +kernel
theorem d_M_findLeast_71 : decode c_M_findLeast 71 = .ok (.getfield 18, 3) := by decide +kernel
theorem d_M_findLeast_74 : decode c_M_findLeast 74 = .ok (.iload_n 3, 1) := by decide +kernel
theorem d_M_findLeast_75 : decode c_M_findLeast 75 = .ok (.iconst (-1), 1) := by decide +kernel
theorem d_M_findLeast_76 : decode c_M_findLeast 76 = .ok (.iastore, 1) := by decide +kernel
theorem d_M_findLeast_77 : decode c_M_findLeast 77 = .ok (.iconst 0, 1) := by decide +kernel
theorem d_M_findLeast_78 : decode c_M_findLeast 78 = .ok (.ireturn, 1) := by decide +kernel
theorem d_M_countInstances_0 : decode c_M_countInstances 0 = .ok (.aload_n 0, 1) := by decide +kernel
theorem d_M_countInstances_1 : decode c_M_countInstances 1 = .ok (.aload_n 1, 1) := by decide +kernel
theorem d_M_countInstances_2 : decode c_M_countInstances 2 = .ok (.iload_n 2, 1) := by decide +kernel
theorem d_M_countInstances_3 : decode c_M_countInstances 3 = .ok (.invokevirtual 91, 3) := by decide +kernel
theorem d_M_countInstances_6 : decode c_M_countInstances 6 = .ok (.istore_n 3, 1) := by decide +kernel
theorem d_M_countInstances_7 : decode c_M_countInstances 7 = .ok (.iload_n 3, 1) := by decide +kernel
theorem d_M_countInstances_8 : decode c_M_countInstances 8 = .ok (.bipush 24, 2) := by decide +kernel
theorem d_M_countInstances_10 : decode c_M_countInstances 10 = .ok (.if_icmp .lt 5, 3) := by decide +kernel
theorem d_M_countInstances_13 : decode c_M_countInstances 13 = .ok (.iconst 1, 1) := by decide +kernel
theorem d_M_countInstances_14 : decode c_M_countInstances 14 = .ok (.ireturn, 1) := by decide +kernel
theorem d_M_countInstances_15 : decode c_M_countInstances 15 = .ok (.aload_n 0, 1) := by decide +kernel
theorem d_M_countInstances_16 : decode c_M_countInstances 16 = .ok (.aload_n 1, 1) := by decide +kernel
theorem d_M_countInstances_17 : decode c_M_countInstances 17 = .ok (.iload_n 3, 1) := by decide +kernel
theorem d_M_countInstances_18 : decode c_M_countInstances 18 = .ok (.invokevirtual 95, 3) := by decide +kernel
theorem d_M_countInstances_21 : decode c_M_countInstances 21 = .ok (.istore 4, 2) := by decide +kernel
theorem d_M_countInstances_23 : decode c_M_countInstances 23 = .ok (.aload_n 0, 1) := by decide +kernel
theorem d_M_countInstances_24 : decode c_M_countInstances 24 = .ok (.aload_n 1, 1) := by decide +kernel
theorem d_M_countInstances_25 : decode c_M_countInstances 25 = .ok (.iload_n 3, 1) := by decide +kernel
theorem d_M_countInstances_26 : decode c_M_countInstances 26 = .ok (.iconst 1, 1) := by decide +kernel
theorem d_M_countInstances_27 : decode c_M_countInstances 27 = .ok (.iadd, 1) := by decide +kernel
theorem d_M_countInstances_28 : decode c_M_countInstances 28 = .ok (.invokevirtual 91, 3) := by decide +kernel
theorem d_M_countInstances_31 : decode c_M_countInstances 31 = .ok (.bipush 24, 2) := by decide +kernel
theorem d_M_countInstances_33 : decode c_M_countInstances 33 = .ok (.if_icmp .lt 9, 3) := by decide +kernel
theorem d_M_countInstances_36 : decode c_M_countInstances 36 = .ok (.iload 4, 2) := by decide +kernel
theorem d_M_countInstances_38 : decode c_M_countInstances 38 = .ok (.invokestatic 102, 3) := by decide +kernel
theorem d_M_countInstances_41 : decode c_M_countInstances 41 = .ok (.ireturn, 1) := by decide +kernel
theorem d_M_countInstances_42 : decode c_M_countInstances 42 = .ok (.iconst 0, 1) := by decide +kernel
theorem d_M_countInstances_43 : decode c_M_countInstances 43 = .ok (.istore 5, 2) := by decide +kernel
theorem d_M_countInstances_45 : decode c_M_countInstances 45 = .ok (.iconst 0, 1) := by decide +kernel
theorem d_M_countInstances_46 : decode c_M_countInstances 46 = .ok (.istore 6, 2) := by decide +kernel
theorem d_M_countInstances_48 : decode c_M_countInstances 48 = .ok (.iload 6, 2) := by decide +kernel
theorem d_M_countInstances_50 : decode c_M_countInstances 50 = .ok (.bipush 12, 2) := by decide +kernel
theorem d_M_countInstances_52 : decode c_M_countInstances 52 = .ok (.if_icmp .ge 40, 3) := by decide +kernel
theorem d_M_countInstances_55 : decode c_M_countInstances 55 = .ok (.iload 4, 2) := by decide +kernel
theorem d_M_countInstances_57 : decode c_M_countInstances 57 = .ok (.iload 6, 2) := by decide +kernel
theorem d_M_countInstances_59 : decode c_M_countInstances 59 = .ok (.invokestatic 88, 3) := by decide +kernel
theorem d_M_countInstances_62 : decode c_M_countInstances 62 = .ok (.ifCond .eq 24, 3) := by decide +kernel
theorem d_M_countInstances_65 : decode c_M_countInstances 65 = .ok (.aload_n 0, 1) := by decide +kernel
theorem d_M_countInstances_66 : decode c_M_countInstances 66 = .ok (.getfield 18, 3) := by decide +kernel
theorem d_M_countInstances_69 : decode c_M_countInstances 69 = .ok (.iload_n 3, 1) := by decide +kernel
theorem d_M_countInstances_70 : decode c_M_countInstances 70 = .ok (.iload 6, 2) := by decide +kernel
theorem d_M_countInstances_72 : decode c_M_countInstances 72 = .ok (.iastore, 1) := by decide +kernel
theorem d_M_countInstances_73 : decode c_M_countInstances 73 = .ok (.iload 5, 2) := by decide +kernel
theorem d_M_countInstances_75 : decode c_M_countInstances 75 = .ok (.aload_n 0, 1) := by decide +kernel
theorem d_M_countInstances_76 : decode c_M_countInstances 76 = .ok (.aload_n 1, 1) := by decide +kernel
theorem d_M_countInstances_77 : decode c_M_countInstances 77 = .ok (.iload_n 3, 1) := by decide +kernel
theorem d_M_countInstances_78 : decode c_M_countInstances 78 = .ok (.iconst 1, 1) := by decide +kernel
theorem d_M_countInstances_79 : decode c_M_countInstances 79 = .ok (.iadd, 1) := by decide +kernel
theorem d_M_countInstances_80 : decode c_M_countInstances 80 = .ok (.invokevirtual 108, 3) := by decide +kernel
theorem d_M_countInstances_83 : decode c_M_countInstances 83 = .ok (.iadd, 1) := by decide +kernel
theorem d_M_countInstances_84 : decode c_M_countInstances 84 = .ok (.istore 5, 2) := by decide +kernel
theorem d_M_countInstances_86 : decode c_M_countInstances 86 = .ok (.iinc 6 1, 3) := by decide +kernel
theorem d_M_countInstances_89 : decode c_M_countInstances 89 = .ok (.goto (-41), 3) := by decide +kernel
theorem d_M_countInstances_92 : decode c_M_countInstances 92 = .ok (.aload_n 0, 1) := by decide +kernel
theorem d_M_countInstances_93 : decode c_M_countInstances 93 = .ok (.getfield 18, 3) := by decide +kernel
theorem d_M_countInstances_96 : decode c_M_countInstances 96 = .ok (.iload_n 3, 1) := by decide +kernel
theorem d_M_countInstances_97 : decode c_M_countInstances 97 = .ok (.iconst (-1), 1) := by decide +kernel
theorem d_M_countInstances_98 : decode c_M_countInstances 98 = .ok (.iastore, 1) := by decide +kernel
theorem d_M_countInstances_99 : decode c_M_countInstances 99 = .ok (.iload 5, 2) := by decide +kernel
theorem d_M_countInstances_101 : decode c_M_countInstances 101 = .ok (.ireturn, 1) := by decide +kernel
theorem d_R_init_0 : decode c_R_init 0 = .ok (.aload_n 0, 1) := by decide +kernel
theorem d_R_init_1 : decode c_R_init 1 = .ok (.invokespecial 3, 3) := by decide +kernel
theorem d_R_init_4 : decode c_R_init 4 = .ok (.aload_n 0, 1) := by decide +kernel
theorem d_R_init_5 : decode c_R_init 5 = .ok (.new 9, 3) := by decide +kernel
theorem d_R_init_8 : decode c_R_init 8 = .ok (.dup, 1) := by decide +kernel
theorem d_R_init_9 : decode c_R_init 9 = .ok (.invokespecial 11, 3) := by decide +kernel
theorem d_R_init_12 : decode c_R_init 12 = .ok (.putfield 12, 3) := by decide +kernel
theorem d_R_init_15 : decode c_R_init 15 = .ok (.aload_n 0, 1) := by decide +kernel
theorem d_R_init_16 : decode c_R_init 16 = .ok (.iconst 4, 1) := by decide +kernel
theorem d_R_init_17 : decode c_R_init 17 = .ok (.anewarray 9, 3) := by decide +kernel
theorem d_R_init_20 : decode c_R_init 20 = .ok (.putfield 18, 3) := by decide +kernel
theorem d_R_init_23 : decode c_R_init 23 = .ok (.iconst 0, 1) := by decide +kernel
theorem d_R_init_24 : decode c_R_init 24 = .ok (.istore_n 1, 1) := by decide +kernel
theorem d_R_init_25 : decode c_R_init 25 = .ok (.iload_n 1, 1) := by decide +kernel
theorem d_R_init_26 : decode c_R_init 26 = .ok (.iconst 4, 1) := by decide +kernel
theorem d_R_init_27 : decode c_R_init 27 = .ok (.if_icmp .ge 22, 3) := by decide +kernel
theorem d_R_init_30 : decode c_R_init 30 = .ok (.aload_n 0, 1) := by decide +kernel
theorem d_R_init_31 : decode c_R_init 31 = .ok (.getfield 18, 3) := by decide +kernel
theorem d_R_init_34 : decode c_R_init 34 = .ok (.iload_n 1, 1) := by decide +kernel
theorem d_R_init_35 : decode c_R_init 35 = .ok (.new 9, 3) := by decide +kernel
theorem d_R_init_38 : decode c_R_init 38 = .ok (.dup, 1) := by decide +kernel
theorem d_R_init_39 : decode c_R_init 39 = .ok (.invokespecial 11, 3) := by decide +kernel
theorem d_R_init_42 : decode c_R_init 42 = .ok (.aastore, 1) := by decide +kernel
theorem d_R_init_43 : decode c_R_init 43 = .ok (.iinc 1 1, 3) := by decide +kernel
theorem d_R_init_46 : decode c_R_init 46 = .ok (.goto (-21), 3) := by decide +kernel
theorem d_R_init_49 : decode c_R_init 49 = .ok (.return_, 1) := by decide +kernel
theorem d_R_begin_0 : decode c_R_begin 0 = .ok (.aload_n 0, 1) := by decide +kernel
theorem d_R_begin_1 : decode c_R_begin 1 = .ok (.getfield 12, 3) := by decide +kernel
theorem d_R_begin_4 : decode c_R_begin 4 = .ok (.iload_n 1, 1) := by decide +kernel
theorem d_R_begin_5 : decode c_R_begin 5 = .ok (.iload_n 2, 1) := by decide +kernel
theorem d_R_begin_6 : decode c_R_begin 6 = .ok (.iload_n 3, 1) := by decide +kernel
theorem d_R_begin_7 : decode c_R_begin 7 = .ok (.iconst 0, 1) := by decide +kernel
theorem d_R_begin_8 : decode c_R_begin 8 = .ok (.invokevirtual 22, 3) := by decide +kernel
theorem d_R_begin_11 : decode c_R_begin 11 = .ok (.aload_n 0, 1) := by decide +kernel
theorem d_R_begin_12 : decode c_R_begin 12 = .ok (.iconst 0, 1) := by decide +kernel
theorem d_R_begin_13 : decode c_R_begin 13 = .ok (.putfield 26, 3) := by decide +kernel
theorem d_R_begin_16 : decode c_R_begin 16 = .ok (.aload_n 0, 1) := by decide +kernel
theorem d_R_begin_17 : decode c_R_begin 17 = .ok (.aload_n 0, 1) := by decide +kernel
theorem d_R_begin_18 : decode c_R_begin 18 = .ok (.getfield 12, 3) := by decide +kernel
theorem d_R_begin_21 : decode c_R_begin 21 = .ok (.invokevirtual 30, 3) := by decide +kernel
theorem d_R_begin_24 : decode c_R_begin 24 = .ok (.putfield 34, 3) := by decide +kernel
theorem d_R_begin_27 : decode c_R_begin 27 = .ok (.aload_n 0, 1) := by decide +kernel
theorem d_R_begin_28 : decode c_R_begin 28 = .ok (.iconst 0, 1) := by decide +kernel
theorem d_R_begin_29 : decode c_R_begin 29 = .ok (.putfield 36, 3) := by decide +kernel
theorem d_R_begin_32 : decode c_R_begin 32 = .ok (.aload_n 0, 1) := by decide +kernel
theorem d_R_begin_33 : decode c_R_begin 33 = .ok (.iconst 0, 1) := by decide +kernel
theorem d_R_begin_34 : decode c_R_begin 34 = .ok (.putfield 39, 3) := by decide +kernel
theorem d_R_begin_37 : decode c_R_begin 37 = .ok (.return_, 1) := by decide +kernel
theorem d_R_isFull_0 : decode c_R_isFull 0 = .ok (.aload_n 0, 1) := by decide +kernel
theorem d_R_isFull_1 : decode c_R_isFull 1 = .ok (.getfield 26, 3) := by decide +kernel
theorem d_R_isFull_4 : decode c_R_isFull 4 = .ok (.iconst 4, 1) := by decide +kernel
theorem d_R_isFull_5 : decode c_R_isFull 5 = .ok (.if_icmp .lt 7, 3) := by decide +kernel
theorem d_R_isFull_8 : decode c_R_isFull 8 = .ok (.iconst 1, 1) := by decide +kernel
theorem d_R_isFull_9 : decode c_R_isFull 9 = .ok (.goto 4, 3) := by decide +kernel
theorem d_R_isFull_12 : decode c_R_isFull 12 = .ok (.iconst 0, 1) := by decide +kernel
theorem d_R_isFull_13 : decode c_R_isFull 13 = .ok (.ireturn, 1) := by decide +kernel
theorem d_R_add_0 : decode c_R_add 0 = .ok (.aload_n 0, 1) := by decide +kernel
theorem d_R_add_1 : decode c_R_add 1 = .ok (.invokevirtual 42, 3) := by decide +kernel
theorem d_R_add_4 : decode c_R_add 4 = .ok (.ifCond .eq 4, 3) := by decide +kernel
theorem d_R_add_7 : decode c_R_add 7 = .ok (.return_, 1) := by decide +kernel
theorem d_R_add_8 : decode c_R_add 8 = .ok (.aload_n 0, 1) := by decide +kernel
theorem d_R_add_9 : decode c_R_add 9 = .ok (.getfield 18, 3) := by decide +kernel
theorem d_R_add_12 : decode c_R_add 12 = .ok (.aload_n 0, 1) := by decide +kernel
theorem d_R_add_13 : decode c_R_add 13 = .ok (.getfield 26, 3) := by decide +kernel
theorem d_R_add_16 : decode c_R_add 16 = .ok (.aaload, 1) := by decide +kernel
theorem d_R_add_17 : decode c_R_add 17 = .ok (.astore 5, 2) := by decide +kernel
theorem d_R_add_19 : decode c_R_add 19 = .ok (.aload 5, 2) := by decide +kernel
theorem d_R_add_21 : decode c_R_add 21 = .ok (.iload_n 1, 1) := by decide +kernel
theorem d_R_add_22 : decode c_R_add 22 = .ok (.iload_n 2, 1) := by decide +kernel
theorem d_R_add_23 : decode c_R_add 23 = .ok (.iload_n 3, 1) := by decide +kernel
theorem d_R_add_24 : decode c_R_add 24 = .ok (.iload 4, 2) := by decide +kernel
theorem d_R_add_26 : decode c_R_add 26 = .ok (.invokevirtual 22, 3) := by decide +kernel
theorem d_R_add_29 : decode c_R_add 29 = .ok (.aload_n 0, 1) := by decide +kernel
theorem d_R_add_30 : decode c_R_add 30 = .ok (.dup, 1) := by decide +kernel
theorem d_R_add_31 : decode c_R_add 31 = .ok (.getfield 26, 3) := by decide +kernel
theorem d_R_add_34 : decode c_R_add 34 = .ok (.iconst 1, 1) := by decide +kernel
theorem d_R_add_35 : decode c_R_add 35 = .ok (.iadd, 1) := by decide +kernel
theorem d_R_add_36 : decode c_R_add 36 = .ok (.putfield 26, 3) := by decide +kernel
theorem d_R_add_39 : decode c_R_add 39 = .ok (.aload_n 0, 1) := by decide +kernel
theorem d_R_add_40 : decode c_R_add 40 = .ok (.dup, 1) := by decide +kernel
theorem d_R_add_41 : decode c_R_add 41 = .ok (.getfield 34, 3) := by decide +kernel
theorem d_R_add_44 : decode c_R_add 44 = .ok (.aload 5, 2) := by decide +kernel
theorem d_R_add_46 : decode c_R_add 46 = .ok (.invokevirtual 30, 3) := by decide +kernel
theorem d_R_add_49 : decode c_R_add 49 = .ok (.ior, 1) := by decide +kernel
theorem d_R_add_50 : decode c_R_add 50 = .ok (.putfield 34, 3) := by decide +kernel
theorem d_R_add_53 : decode c_R_add 53 = .ok (.iload 4, 2) := by decide +kernel
theorem d_R_add_55 : decode c_R_add 55 = .ok (.ifCond .ne 29, 3) := by decide +kernel
theorem d_R_add_58 : decode c_R_add 58 = .ok (.aload_n 0, 1) := by decide +kernel
theorem d_R_add_59 : decode c_R_add 59 = .ok (.dup, 1) := by decide +kernel
theorem d_R_add_60 : decode c_R_add 60 = .ok (.getfield 36, 3) := by decide +kernel
theorem d_R_add_63 : decode c_R_add 63 = .ok (.aload 5, 2) := by decide +kernel
theorem d_R_add_65 : decode c_R_add 65 = .ok (.invokevirtual 30, 3) := by decide +kernel
theorem d_R_add_68 : decode c_R_add 68 = .ok (.ior, 1) := by decide +kernel
theorem d_R_add_69 : decode c_R_add 69 = .ok (.putfield 36, 3) := by decide +kernel
theorem d_R_add_72 : decode c_R_add 72 = .ok (.aload_n 0, 1) := by decide +kernel
theorem d_R_add_73 : decode c_R_add 73 = .ok (.dup, 1) := by decide +kernel
theorem d_R_add_74 : decode c_R_add 74 = .ok (.getfield 39, 3) := by decide +kernel
theorem d_R_add_77 : decode c_R_add 77 = .ok (.iconst 1, 1) := by decide +kernel
theorem d_R_add_78 : decode c_R_add 78 = .ok (.iload_n 1, 1) := by decide +kernel
theorem d_R_add_79 : decode c_R_add 79 = .ok (.ishl, 1) := by decide +kernel
theorem d_R_add_80 : decode c_R_add 80 = .ok (.ior, 1) := by decide +kernel
theorem d_R_add_81 : decode c_R_add 81 = .ok (.putfield 39, 3) := by decide +kernel
theorem d_R_add_84 : decode c_R_add 84 = .ok (.return_, 1) := by decide +kernel
theorem d_R_isSafe_0 : decode c_R_isSafe 0 = .ok (.aload_n 0, 1) := by decide +kernel
theorem d_R_isSafe_1 : decode c_R_isSafe 1 = .ok (.getfield 34, 3) := by decide +kernel
theorem d_R_isSafe_4 : decode c_R_isSafe 4 = .ok (.aload_n 0, 1) := by decide +kernel
theorem d_R_isSafe_5 : decode c_R_isSafe 5 = .ok (.getfield 36, 3) := by decide +kernel
theorem d_R_isSafe_8 : decode c_R_isSafe 8 = .ok (.if_icmp .ne 7, 3) := by decide +kernel
theorem d_R_isSafe_11 : decode c_R_isSafe 11 = .ok (.iconst 1, 1) := by decide +kernel
theorem d_R_isSafe_12 : decode c_R_isSafe 12 = .ok (.goto 4, 3) := by decide +kernel
theorem d_R_isSafe_15 : decode c_R_isSafe 15 = .ok (.iconst 0, 1) := by decide +kernel
theorem d_R_isSafe_16 : decode c_R_isSafe 16 = .ok (.ireturn, 1) := by decide +kernel
theorem d_R_leastLayer_0 : decode c_R_leastLayer 0 = .ok (.iconst 0, 1) := by decide +kernel
theorem d_R_leastLayer_1 : decode c_R_leastLayer 1 = .ok (.istore_n 2, 1) := by decide +kernel
theorem d_R_leastLayer_2 : decode c_R_leastLayer 2 = .ok (.iconst 0, 1) := by decide +kernel
theorem d_R_leastLayer_3 : decode c_R_leastLayer 3 = .ok (.istore_n 3, 1) := by decide +kernel
theorem d_R_leastLayer_4 : decode c_R_leastLayer 4 = .ok (.iload_n 3, 1) := by decide +kernel
theorem d_R_leastLayer_5 : decode c_R_leastLayer 5 = .ok (.aload_n 0, 1) := by decide +kernel
theorem d_R_leastLayer_6 : decode c_R_leastLayer 6 = .ok (.getfield 26, 3) := by decide +kernel
theorem d_R_leastLayer_9 : decode c_R_leastLayer 9 = .ok (.if_icmp .ge 43, 3) := by decide +kernel
theorem d_R_leastLayer_12 : decode c_R_leastLayer 12 = .ok (.aload_n 0, 1) := by decide +kernel
theorem d_R_leastLayer_13 : decode c_R_leastLayer 13 = .ok (.getfield 18, 3) := by decide +kernel
theorem d_R_leastLayer_16 : decode c_R_leastLayer 16 = .ok (.iload_n 3, 1) := by decide +kernel
theorem d_R_leastLayer_17 : decode c_R_leastLayer 17 = .ok (.aaload, 1) := by decide +kernel
theorem d_R_leastLayer_18 : decode c_R_leastLayer 18 = .ok (.astore 4, 2) := by decide +kernel
theorem d_R_leastLayer_20 : decode c_R_leastLayer 20 = .ok (.iload_n 2, 1) := by decide +kernel
theorem d_R_leastLayer_21 : decode c_R_leastLayer 21 = .ok (.aload_n 1, 1) := by decide +kernel
theorem d_R_leastLayer_22 : decode c_R_leastLayer 22 = .ok (.aload 4, 2) := by decide +kernel
theorem d_R_leastLayer_24 : decode c_R_leastLayer 24 = .ok (.getfield 46, 3) := by decide +kernel
theorem d_R_leastLayer_27 : decode c_R_leastLayer 27 = .ok (.iaload, 1) := by decide +kernel
theorem d_R_leastLayer_28 : decode c_R_leastLayer 28 = .ok (.aload 4, 2) := by decide +kernel
theorem d_R_leastLayer_30 : decode c_R_leastLayer 30 = .ok (.getfield 49, 3) := by decide +kernel
theorem d_R_leastLayer_33 : decode c_R_leastLayer 33 = .ok (.ifCond .eq 7, 3) := by decide +kernel
theorem d_R_leastLayer_36 : decode c_R_leastLayer 36 = .ok (.iconst 1, 1) := by decide +kernel
theorem d_R_leastLayer_37 : decode c_R_leastLayer 37 = .ok (.goto 4, 3) := by decide +kernel
theorem d_R_leastLayer_40 : decode c_R_leastLayer 40 = .ok (.iconst 0, 1) := by decide +kernel
theorem d_R_leastLayer_41 : decode c_R_leastLayer 41 = .ok (.iadd, 1) := by decide +kernel
theorem d_R_leastLayer_42 : decode c_R_leastLayer 42 = .ok (.invokestatic 53, 3) := by decide +kernel
theorem d_R_leastLayer_45 : decode c_R_leastLayer 45 = .ok (.istore_n 2, 1) := by decide +kernel
theorem d_R_leastLayer_46 : decode c_R_leastLayer 46 = .ok (.iinc 3 1, 3) := by decide +kernel
theorem d_R_leastLayer_49 : decode c_R_leastLayer 49 = .ok (.goto (-45), 3) := by decide +kernel
theorem d_R_leastLayer_52 : decode c_R_leastLayer 52 = .ok (.iload_n 2, 1) := by decide +kernel
theorem d_R_leastLayer_53 : decode c_R_leastLayer 53 = .ok (.ireturn, 1) := by decide +kernel
theorem d_S_init_0 : decode c_S_init 0 = .ok (.aload_n 0, 1) := by decide +kernel
theorem d_S_init_1 : decode c_S_init 1 = .ok (.invokespecial 3, 3) := by decide +kernel
theorem d_S_init_4 : decode c_S_init 4 = .ok (.aload_n 0, 1) := by decide +kernel
theorem d_S_init_5 : decode c_S_init 5 = .ok (.bipush 96, 2) := by decide +kernel
theorem d_S_init_7 : decode c_S_init 7 = .ok (.newarray .int, 2) := by decide +kernel
theorem d_S_init_9 : decode c_S_init 9 = .ok (.putfield 9, 3) := by decide +kernel
theorem d_S_init_12 : decode c_S_init 12 = .ok (.aload_n 0, 1) := by decide +kernel
theorem d_S_init_13 : decode c_S_init 13 = .ok (.bipush 96, 2) := by decide +kernel
theorem d_S_init_15 : decode c_S_init 15 = .ok (.newarray .int, 2) := by decide +kernel
theorem d_S_init_17 : decode c_S_init 17 = .ok (.putfield 15, 3) := by decide +kernel
theorem d_S_init_20 : decode c_S_init 20 = .ok (.aload_n 0, 1) := by decide +kernel
theorem d_S_init_21 : decode c_S_init 21 = .ok (.bipush 8, 2) := by decide +kernel
theorem d_S_init_23 : decode c_S_init 23 = .ok (.newarray .int, 2) := by decide +kernel
theorem d_S_init_25 : decode c_S_init 25 = .ok (.putfield 18, 3) := by decide +kernel
theorem d_S_init_28 : decode c_S_init 28 = .ok (.aload_n 0, 1) := by decide +kernel
theorem d_S_init_29 : decode c_S_init 29 = .ok (.bipush 8, 2) := by decide +kernel
theorem d_S_init_31 : decode c_S_init 31 = .ok (.newarray .int, 2) := by decide +kernel
theorem d_S_init_33 : decode c_S_init 33 = .ok (.putfield 21, 3) := by decide +kernel
theorem d_S_init_36 : decode c_S_init 36 = .ok (.aload_n 0, 1) := by decide +kernel
theorem d_S_init_37 : decode c_S_init 37 = .ok (.bipush 8, 2) := by decide +kernel
theorem d_S_init_39 : decode c_S_init 39 = .ok (.newarray .int, 2) := by decide +kernel
theorem d_S_init_41 : decode c_S_init 41 = .ok (.putfield 24, 3) := by decide +kernel
theorem d_S_init_44 : decode c_S_init 44 = .ok (.return_, 1) := by decide +kernel
theorem d_S_forget_0 : decode c_S_forget 0 = .ok (.aload_n 0, 1) := by decide +kernel
theorem d_S_forget_1 : decode c_S_forget 1 = .ok (.getfield 9, 3) := by decide +kernel
theorem d_S_forget_4 : decode c_S_forget 4 = .ok (.iconst 0, 1) := by decide +kernel
theorem d_S_forget_5 : decode c_S_forget 5 = .ok (.invokestatic 27, 3) := by decide +kernel
theorem d_S_forget_8 : decode c_S_forget 8 = .ok (.aload_n 0, 1) := by decide +kernel
theorem d_S_forget_9 : decode c_S_forget 9 = .ok (.getfield 15, 3) := by decide +kernel
theorem d_S_forget_12 : decode c_S_forget 12 = .ok (.iconst 0, 1) := by decide +kernel
theorem d_S_forget_13 : decode c_S_forget 13 = .ok (.invokestatic 27, 3) := by decide +kernel
theorem d_S_forget_16 : decode c_S_forget 16 = .ok (.aload_n 0, 1) := by decide +kernel
theorem d_S_forget_17 : decode c_S_forget 17 = .ok (.getfield 18, 3) := by decide +kernel
theorem d_S_forget_20 : decode c_S_forget 20 = .ok (.iconst 0, 1) := by decide +kernel
theorem d_S_forget_21 : decode c_S_forget 21 = .ok (.invokestatic 27, 3) := by decide +kernel
theorem d_S_forget_24 : decode c_S_forget 24 = .ok (.aload_n 0, 1) := by decide +kernel
theorem d_S_forget_25 : decode c_S_forget 25 = .ok (.getfield 21, 3) := by decide +kernel
theorem d_S_forget_28 : decode c_S_forget 28 = .ok (.iconst 0, 1) := by decide +kernel
theorem d_S_forget_29 : decode c_S_forget 29 = .ok (.invokestatic 27, 3) := by decide +kernel
theorem d_S_forget_32 : decode c_S_forget 32 = .ok (.aload_n 0, 1) := by decide +kernel
theorem d_S_forget_33 : decode c_S_forget 33 = .ok (.getfield 24, 3) := by decide +kernel
theorem d_S_forget_36 : decode c_S_forget 36 = .ok (.iconst 0, 1) := by decide +kernel
theorem d_S_forget_37 : decode c_S_forget 37 = .ok (.invokestatic 27, 3) := by decide +kernel
theorem d_S_forget_40 : decode c_S_forget 40 = .ok (.return_, 1) := by decide +kernel
theorem d_S_show_0 : decode c_S_show 0 = .ok (.aload_n 0, 1) := by decide +kernel
theorem d_S_show_1 : decode c_S_show 1 = .ok (.getfield 9, 3) := by decide +kernel
theorem d_S_show_4 : decode c_S_show 4 = .ok (.iload_n 1, 1) := by decide +kernel
theorem d_S_show_5 : decode c_S_show 5 = .ok (.iload_n 2, 1) := by decide +kernel
theorem d_S_show_6 : decode c_S_show 6 = .ok (.invokestatic 33, 3) := by decide +kernel
theorem d_S_show_9 : decode c_S_show 9 = .ok (.dup2, 1) := by decide +kernel
theorem d_S_show_10 : decode c_S_show 10 = .ok (.iaload, 1) := by decide +kernel
theorem d_S_show_11 : decode c_S_show 11 = .ok (.iconst 1, 1) := by decide +kernel
theorem d_S_show_12 : decode c_S_show 12 = .ok (.iload_n 3, 1) := by decide +kernel
theorem d_S_show_13 : decode c_S_show 13 = .ok (.ishl, 1) := by decide +kernel
theorem d_S_show_14 : decode c_S_show 14 = .ok (.ior, 1) := by decide +kernel
theorem d_S_show_15 : decode c_S_show 15 = .ok (.iastore, 1) := by decide +kernel
theorem d_S_show_16 : decode c_S_show 16 = .ok (.aload_n 0, 1) := by decide +kernel
theorem d_S_show_17 : decode c_S_show 17 = .ok (.getfield 15, 3) := by decide +kernel
theorem d_S_show_20 : decode c_S_show 20 = .ok (.iload_n 1, 1) := by decide +kernel
theorem d_S_show_21 : decode c_S_show 21 = .ok (.iload_n 3, 1) := by decide +kernel
theorem d_S_show_22 : decode c_S_show 22 = .ok (.invokestatic 33, 3) := by decide +kernel
theorem d_S_show_25 : decode c_S_show 25 = .ok (.dup2, 1) := by decide +kernel
theorem d_S_show_26 : decode c_S_show 26 = .ok (.iaload, 1) := by decide +kernel
theorem d_S_show_27 : decode c_S_show 27 = .ok (.iconst 1, 1) := by decide +kernel
theorem d_S_show_28 : decode c_S_show 28 = .ok (.iload_n 2, 1) := by decide +kernel
theorem d_S_show_29 : decode c_S_show 29 = .ok (.ishl, 1) := by decide +kernel
theorem d_S_show_30 : decode c_S_show 30 = .ok (.ior, 1) := by decide +kernel
theorem d_S_show_31 : decode c_S_show 31 = .ok (.iastore, 1) := by decide +kernel
theorem d_S_show_32 : decode c_S_show 32 = .ok (.aload_n 0, 1) := by decide +kernel
theorem d_S_show_33 : decode c_S_show 33 = .ok (.getfield 18, 3) := by decide +kernel
theorem d_S_show_36 : decode c_S_show 36 = .ok (.iload_n 1, 1) := by decide +kernel
theorem d_S_show_37 : decode c_S_show 37 = .ok (.dup2, 1) := by decide +kernel
theorem d_S_show_38 : decode c_S_show 38 = .ok (.iaload, 1) := by decide +kernel
theorem d_S_show_39 : decode c_S_show 39 = .ok (.iconst 1, 1) := by decide +kernel
theorem d_S_show_40 : decode c_S_show 40 = .ok (.iload_n 2, 1) := by decide +kernel
theorem d_S_show_41 : decode c_S_show 41 = .ok (.ishl, 1) := by decide +kernel
theorem d_S_show_42 : decode c_S_show 42 = .ok (.ior, 1) := by decide +kernel
theorem d_S_show_43 : decode c_S_show 43 = .ok (.iastore, 1) := by decide +kernel
theorem d_S_show_44 : decode c_S_show 44 = .ok (.aload_n 0, 1) := by decide +kernel
theorem d_S_show_45 : decode c_S_show 45 = .ok (.getfield 21, 3) := by decide +kernel
theorem d_S_show_48 : decode c_S_show 48 = .ok (.iload_n 1, 1) := by decide +kernel
theorem d_S_show_49 : decode c_S_show 49 = .ok (.dup2, 1) := by decide +kernel
theorem d_S_show_50 : decode c_S_show 50 = .ok (.iaload, 1) := by decide +kernel
theorem d_S_show_51 : decode c_S_show 51 = .ok (.iconst 1, 1) := by decide +kernel
theorem d_S_show_52 : decode c_S_show 52 = .ok (.iload_n 3, 1) := by decide +kernel
theorem d_S_show_53 : decode c_S_show 53 = .ok (.ishl, 1) := by decide +kernel
theorem d_S_show_54 : decode c_S_show 54 = .ok (.ior, 1) := by decide +kernel
theorem d_S_show_55 : decode c_S_show 55 = .ok (.iastore, 1) := by decide +kernel
theorem d_S_show_56 : decode c_S_show 56 = .ok (.iload_n 2, 1) := by decide +kernel
theorem d_S_show_57 : decode c_S_show 57 = .ok (.iload_n 3, 1) := by decide +kernel
theorem d_S_show_58 : decode c_S_show 58 = .ok (.if_icmp .ne 15, 3) := by decide +kernel
theorem d_S_show_61 : decode c_S_show 61 = .ok (.aload_n 0, 1) := by decide +kernel
theorem d_S_show_62 : decode c_S_show 62 = .ok (.getfield 24, 3) := by decide +kernel
theorem d_S_show_65 : decode c_S_show 65 = .ok (.iload_n 1, 1) := by decide +kernel
theorem d_S_show_66 : decode c_S_show 66 = .ok (.dup2, 1) := by decide +kernel
theorem d_S_show_67 : decode c_S_show 67 = .ok (.iaload, 1) := by decide +kernel
theorem d_S_show_68 : decode c_S_show 68 = .ok (.iconst 1, 1) := by decide +kernel
theorem d_S_show_69 : decode c_S_show 69 = .ok (.iload_n 2, 1) := by decide +kernel
theorem d_S_show_70 : decode c_S_show 70 = .ok (.ishl, 1) := by decide +kernel
theorem d_S_show_71 : decode c_S_show 71 = .ok (.ior, 1) := by decide +kernel
theorem d_S_show_72 : decode c_S_show 72 = .ok (.iastore, 1) := by decide +kernel
theorem d_S_show_73 : decode c_S_show 73 = .ok (.return_, 1) := by decide +kernel
theorem d_S_sees_0 : decode c_S_sees 0 = .ok (.aload_n 0, 1) := by decide +kernel
theorem d_S_sees_1 : decode c_S_sees 1 = .ok (.getfield 9, 3) := by decide +kernel
theorem d_S_sees_4 : decode c_S_sees 4 = .ok (.iload_n 1, 1) := by decide +kernel
theorem d_S_sees_5 : decode c_S_sees 5 = .ok (.bipush 12, 2) := by decide +kernel
theorem d_S_sees_7 : decode c_S_sees 7 = .ok (.imul, 1) := by decide +kernel
theorem d_S_sees_8 : decode c_S_sees 8 = .ok (.iload_n 2, 1) := by decide +kernel
theorem d_S_sees_9 : decode c_S_sees 9 = .ok (.iadd, 1) := by decide +kernel
theorem d_S_sees_10 : decode c_S_sees 10 = .ok (.iaload, 1) := by decide +kernel
theorem d_S_sees_11 : decode c_S_sees 11 = .ok (.iload_n 3, 1) := by decide +kernel
theorem d_S_sees_12 : decode c_S_sees 12 = .ok (.ishr, 1) := by decide +kernel
theorem d_S_sees_13 : decode c_S_sees 13 = .ok (.iconst 1, 1) := by decide +kernel
theorem d_S_sees_14 : decode c_S_sees 14 = .ok (.iand, 1) := by decide +kernel
theorem d_S_sees_15 : decode c_S_sees 15 = .ok (.ifCond .eq 7, 3) := by decide +kernel
theorem d_S_sees_18 : decode c_S_sees 18 = .ok (.iconst 1, 1) := by decide +kernel
theorem d_S_sees_19 : decode c_S_sees 19 = .ok (.goto 4, 3) := by decide +kernel
theorem d_S_sees_22 : decode c_S_sees 22 = .ok (.iconst 0, 1) := by decide +kernel
theorem d_S_sees_23 : decode c_S_sees 23 = .ok (.ireturn, 1) := by decide +kernel
