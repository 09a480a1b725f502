theorem dG_push_0 : decode prog_4_method_13_code 0 = .ok (.aload_n 0, 1) := by decide +kernel
theorem dG_push_1 : decode prog_4_method_13_code 1 = .ok (.getfield 67, 3) := by decide +kernel
theorem dG_push_4 : decode prog_4_method_13_code 4 = .ok (.aload_n 0, 1) := by decide +kernel
theorem dG_push_5 : decode prog_4_method_13_code 5 = .ok (.getfield 42, 3) := by decide +kernel
theorem dG_push_8 : decode prog_4_method_13_code 8 = .ok (.arraylength, 1) := by decide +kernel
theorem dG_push_9 : decode prog_4_method_13_code 9 = .ok (.if_icmp .ge 23, 3) := by decide +kernel
theorem dG_push_12 : decode prog_4_method_13_code 12 = .ok (.aload_n 0, 1) := by decide +kernel
theorem dG_push_13 : decode prog_4_method_13_code 13 = .ok (.getfield 42, 3) := by decide +kernel
theorem dG_push_16 : decode prog_4_method_13_code 16 = .ok (.aload_n 0, 1) := by decide +kernel
theorem dG_push_17 : decode prog_4_method_13_code 17 = .ok (.getfield 67, 3) := by decide +kernel
theorem dG_push_20 : decode prog_4_method_13_code 20 = .ok (.iload_n 1, 1) := by decide +kernel
theorem dG_push_21 : decode prog_4_method_13_code 21 = .ok (.iastore, 1) := by decide +kernel
theorem dG_push_22 : decode prog_4_method_13_code 22 = .ok (.aload_n 0, 1) := by decide +kernel
theorem dG_push_23 : decode prog_4_method_13_code 23 = .ok (.dup, 1) := by decide +kernel
theorem dG_push_24 : decode prog_4_method_13_code 24 = .ok (.getfield 67, 3) := by decide +kernel
theorem dG_push_27 : decode prog_4_method_13_code 27 = .ok (.iconst 1, 1) := by decide +kernel
theorem dG_push_28 : decode prog_4_method_13_code 28 = .ok (.iadd, 1) := by decide +kernel
theorem dG_push_29 : decode prog_4_method_13_code 29 = .ok (.putfield 67, 3) := by decide +kernel
theorem dG_push_32 : decode prog_4_method_13_code 32 = .ok (.return_, 1) := by decide +kernel
theorem dG_walk_0 : decode prog_4_method_15_code 0 = .ok (.aload_n 0, 1) := by decide +kernel
theorem dG_walk_1 : decode prog_4_method_15_code 1 = .ok (.iconst 0, 1) := by decide +kernel
theorem dG_walk_2 : decode prog_4_method_15_code 2 = .ok (.putfield 67, 3) := by decide +kernel
theorem dG_walk_5 : decode prog_4_method_15_code 5 = .ok (.aload_n 0, 1) := by decide +kernel
theorem dG_walk_6 : decode prog_4_method_15_code 6 = .ok (.aload_n 0, 1) := by decide +kernel
theorem dG_walk_7 : decode prog_4_method_15_code 7 = .ok (.iload_n 1, 1) := by decide +kernel
theorem dG_walk_8 : decode prog_4_method_15_code 8 = .ok (.invokevirtual 63, 3) := by decide +kernel
theorem dG_walk_11 : decode prog_4_method_15_code 11 = .ok (.invokevirtual 85, 3) := by decide +kernel
theorem dG_walk_14 : decode prog_4_method_15_code 14 = .ok (.iconst 0, 1) := by decide +kernel
theorem dG_walk_15 : decode prog_4_method_15_code 15 = .ok (.istore_n 2, 1) := by decide +kernel
theorem dG_walk_16 : decode prog_4_method_15_code 16 = .ok (.aload_n 0, 1) := by decide +kernel
theorem dG_walk_17 : decode prog_4_method_15_code 17 = .ok (.getfield 67, 3) := by decide +kernel
theorem dG_walk_20 : decode prog_4_method_15_code 20 = .ok (.ifCond .le 152, 3) := by decide +kernel
theorem dG_walk_23 : decode prog_4_method_15_code 23 = .ok (.iload_n 2, 1) := by decide +kernel
theorem dG_walk_24 : decode prog_4_method_15_code 24 = .ok (.ldc 74, 2) := by decide +kernel
theorem dG_walk_26 : decode prog_4_method_15_code 26 = .ok (.if_icmp .ge 146, 3) := by decide +kernel
theorem dG_walk_29 : decode prog_4_method_15_code 29 = .ok (.aload_n 0, 1) := by decide +kernel
theorem dG_walk_30 : decode prog_4_method_15_code 30 = .ok (.dup, 1) := by decide +kernel
theorem dG_walk_31 : decode prog_4_method_15_code 31 = .ok (.getfield 67, 3) := by decide +kernel
theorem dG_walk_34 : decode prog_4_method_15_code 34 = .ok (.iconst 1, 1) := by decide +kernel
theorem dG_walk_35 : decode prog_4_method_15_code 35 = .ok (.isub, 1) := by decide +kernel
theorem dG_walk_36 : decode prog_4_method_15_code 36 = .ok (.putfield 67, 3) := by decide +kernel
theorem dG_walk_39 : decode prog_4_method_15_code 39 = .ok (.aload_n 0, 1) := by decide +kernel
theorem dG_walk_40 : decode prog_4_method_15_code 40 = .ok (.getfield 42, 3) := by decide +kernel
theorem dG_walk_43 : decode prog_4_method_15_code 43 = .ok (.aload_n 0, 1) := by decide +kernel
theorem dG_walk_44 : decode prog_4_method_15_code 44 = .ok (.getfield 67, 3) := by decide +kernel
theorem dG_walk_47 : decode prog_4_method_15_code 47 = .ok (.iaload, 1) := by decide +kernel
theorem dG_walk_48 : decode prog_4_method_15_code 48 = .ok (.istore_n 3, 1) := by decide +kernel
theorem dG_walk_49 : decode prog_4_method_15_code 49 = .ok (.iload_n 3, 1) := by decide +kernel
theorem dG_walk_50 : decode prog_4_method_15_code 50 = .ok (.ifCond .ge 28, 3) := by decide +kernel
theorem dG_walk_53 : decode prog_4_method_15_code 53 = .ok (.aload_n 0, 1) := by decide +kernel
theorem dG_walk_54 : decode prog_4_method_15_code 54 = .ok (.getfield 39, 3) := by decide +kernel
theorem dG_walk_57 : decode prog_4_method_15_code 57 = .ok (.aload_n 0, 1) := by decide +kernel
theorem dG_walk_58 : decode prog_4_method_15_code 58 = .ok (.getfield 91, 3) := by decide +kernel
theorem dG_walk_61 : decode prog_4_method_15_code 61 = .ok (.iconst (-1), 1) := by decide +kernel
theorem dG_walk_62 : decode prog_4_method_15_code 62 = .ok (.iload_n 3, 1) := by decide +kernel
theorem dG_walk_63 : decode prog_4_method_15_code 63 = .ok (.isub, 1) := by decide +kernel
theorem dG_walk_64 : decode prog_4_method_15_code 64 = .ok (.iastore, 1) := by decide +kernel
theorem dG_walk_65 : decode prog_4_method_15_code 65 = .ok (.aload_n 0, 1) := by decide +kernel
theorem dG_walk_66 : decode prog_4_method_15_code 66 = .ok (.dup, 1) := by decide +kernel
theorem dG_walk_67 : decode prog_4_method_15_code 67 = .ok (.getfield 91, 3) := by decide +kernel
theorem dG_walk_70 : decode prog_4_method_15_code 70 = .ok (.iconst 1, 1) := by decide +kernel
theorem dG_walk_71 : decode prog_4_method_15_code 71 = .ok (.iadd, 1) := by decide +kernel
theorem dG_walk_72 : decode prog_4_method_15_code 72 = .ok (.putfield 91, 3) := by decide +kernel
theorem dG_walk_75 : decode prog_4_method_15_code 75 = .ok (.goto 91, 3) := by decide +kernel
theorem dG_walk_78 : decode prog_4_method_15_code 78 = .ok (.aload_n 0, 1) := by decide +kernel
theorem dG_walk_79 : decode prog_4_method_15_code 79 = .ok (.getfield 33, 3) := by decide +kernel
theorem dG_walk_82 : decode prog_4_method_15_code 82 = .ok (.iload_n 3, 1) := by decide +kernel
theorem dG_walk_83 : decode prog_4_method_15_code 83 = .ok (.iaload, 1) := by decide +kernel
theorem dG_walk_84 : decode prog_4_method_15_code 84 = .ok (.aload_n 0, 1) := by decide +kernel
theorem dG_walk_85 : decode prog_4_method_15_code 85 = .ok (.getfield 88, 3) := by decide +kernel
theorem dG_walk_88 : decode prog_4_method_15_code 88 = .ok (.if_icmp .ne 6, 3) := by decide +kernel
theorem dG_walk_91 : decode prog_4_method_15_code 91 = .ok (.goto 75, 3) := by decide +kernel
theorem dG_walk_94 : decode prog_4_method_15_code 94 = .ok (.aload_n 0, 1) := by decide +kernel
theorem dG_walk_95 : decode prog_4_method_15_code 95 = .ok (.getfield 33, 3) := by decide +kernel
theorem dG_walk_98 : decode prog_4_method_15_code 98 = .ok (.iload_n 3, 1) := by decide +kernel
theorem dG_walk_99 : decode prog_4_method_15_code 99 = .ok (.aload_n 0, 1) := by decide +kernel
theorem dG_walk_100 : decode prog_4_method_15_code 100 = .ok (.getfield 88, 3) := by decide +kernel
theorem dG_walk_103 : decode prog_4_method_15_code 103 = .ok (.iastore, 1) := by decide +kernel
theorem dG_walk_104 : decode prog_4_method_15_code 104 = .ok (.aload_n 0, 1) := by decide +kernel
theorem dG_walk_105 : decode prog_4_method_15_code 105 = .ok (.getfield 36, 3) := by decide +kernel
theorem dG_walk_108 : decode prog_4_method_15_code 108 = .ok (.iload_n 3, 1) := by decide +kernel
theorem dG_walk_109 : decode prog_4_method_15_code 109 = .ok (.iload_n 3, 1) := by decide +kernel
theorem dG_walk_110 : decode prog_4_method_15_code 110 = .ok (.iastore, 1) := by decide +kernel
theorem dG_walk_111 : decode prog_4_method_15_code 111 = .ok (.aload_n 0, 1) := by decide +kernel
theorem dG_walk_112 : decode prog_4_method_15_code 112 = .ok (.iconst (-1), 1) := by decide +kernel
theorem dG_walk_113 : decode prog_4_method_15_code 113 = .ok (.iload_n 3, 1) := by decide +kernel
theorem dG_walk_114 : decode prog_4_method_15_code 114 = .ok (.isub, 1) := by decide +kernel
theorem dG_walk_115 : decode prog_4_method_15_code 115 = .ok (.invokevirtual 85, 3) := by decide +kernel
theorem dG_walk_118 : decode prog_4_method_15_code 118 = .ok (.aload_n 0, 1) := by decide +kernel
theorem dG_walk_119 : decode prog_4_method_15_code 119 = .ok (.getfield 18, 3) := by decide +kernel
theorem dG_walk_122 : decode prog_4_method_15_code 122 = .ok (.iload_n 3, 1) := by decide +kernel
theorem dG_walk_123 : decode prog_4_method_15_code 123 = .ok (.iaload, 1) := by decide +kernel
theorem dG_walk_124 : decode prog_4_method_15_code 124 = .ok (.iconst (-1), 1) := by decide +kernel
theorem dG_walk_125 : decode prog_4_method_15_code 125 = .ok (.if_icmp .eq 17, 3) := by decide +kernel
theorem dG_walk_128 : decode prog_4_method_15_code 128 = .ok (.aload_n 0, 1) := by decide +kernel
theorem dG_walk_129 : decode prog_4_method_15_code 129 = .ok (.aload_n 0, 1) := by decide +kernel
theorem dG_walk_130 : decode prog_4_method_15_code 130 = .ok (.aload_n 0, 1) := by decide +kernel
theorem dG_walk_131 : decode prog_4_method_15_code 131 = .ok (.getfield 18, 3) := by decide +kernel
theorem dG_walk_134 : decode prog_4_method_15_code 134 = .ok (.iload_n 3, 1) := by decide +kernel
theorem dG_walk_135 : decode prog_4_method_15_code 135 = .ok (.iaload, 1) := by decide +kernel
theorem dG_walk_136 : decode prog_4_method_15_code 136 = .ok (.invokevirtual 63, 3) := by decide +kernel
theorem dG_walk_139 : decode prog_4_method_15_code 139 = .ok (.invokevirtual 85, 3) := by decide +kernel
theorem dG_walk_142 : decode prog_4_method_15_code 142 = .ok (.aload_n 0, 1) := by decide +kernel
theorem dG_walk_143 : decode prog_4_method_15_code 143 = .ok (.getfield 15, 3) := by decide +kernel
theorem dG_walk_146 : decode prog_4_method_15_code 146 = .ok (.iload_n 3, 1) := by decide +kernel
theorem dG_walk_147 : decode prog_4_method_15_code 147 = .ok (.iaload, 1) := by decide +kernel
theorem dG_walk_148 : decode prog_4_method_15_code 148 = .ok (.iconst (-1), 1) := by decide +kernel
theorem dG_walk_149 : decode prog_4_method_15_code 149 = .ok (.if_icmp .eq 17, 3) := by decide +kernel
theorem dG_walk_152 : decode prog_4_method_15_code 152 = .ok (.aload_n 0, 1) := by decide +kernel
theorem dG_walk_153 : decode prog_4_method_15_code 153 = .ok (.aload_n 0, 1) := by decide +kernel
theorem dG_walk_154 : decode prog_4_method_15_code 154 = .ok (.aload_n 0, 1) := by decide +kernel
theorem dG_walk_155 : decode prog_4_method_15_code 155 = .ok (.getfield 15, 3) := by decide +kernel
theorem dG_walk_158 : decode prog_4_method_15_code 158 = .ok (.iload_n 3, 1) := by decide +kernel
theorem dG_walk_159 : decode prog_4_method_15_code 159 = .ok (.iaload, 1) := by decide +kernel
theorem dG_walk_160 : decode prog_4_method_15_code 160 = .ok (.invokevirtual 63, 3) := by decide +kernel
theorem dG_walk_163 : decode prog_4_method_15_code 163 = .ok (.invokevirtual 85, 3) := by decide +kernel
theorem dG_walk_166 : decode prog_4_method_15_code 166 = .ok (.iinc 2 1, 3) := by decide +kernel
theorem dG_walk_169 : decode prog_4_method_15_code 169 = .ok (.goto (-153), 3) := by decide +kernel
theorem dG_walk_172 : decode prog_4_method_15_code 172 = .ok (.return_, 1) := by decide +kernel
theorem dY_markBound_0 : decode prog_7_method_14_code 0 = .ok (.aload_n 0, 1) := by decide +kernel
theorem dY_markBound_1 : decode prog_7_method_14_code 1 = .ok (.getfield 12, 3) := by decide +kernel
theorem dY_markBound_4 : decode prog_7_method_14_code 4 = .ok (.invokevirtual 191, 3) := by decide +kernel
theorem dY_markBound_7 : decode prog_7_method_14_code 7 = .ok (.iconst 0, 1) := by decide +kernel
theorem dY_markBound_8 : decode prog_7_method_14_code 8 = .ok (.istore_n 1, 1) := by decide +kernel
theorem dY_markBound_9 : decode prog_7_method_14_code 9 = .ok (.iload_n 1, 1) := by decide +kernel
theorem dY_markBound_10 : decode prog_7_method_14_code 10 = .ok (.aload_n 0, 1) := by decide +kernel
theorem dY_markBound_11 : decode prog_7_method_14_code 11 = .ok (.getfield 46, 3) := by decide +kernel
theorem dY_markBound_14 : decode prog_7_method_14_code 14 = .ok (.if_icmp .ge 32, 3) := by decide +kernel
theorem dY_markBound_17 : decode prog_7_method_14_code 17 = .ok (.aload_n 0, 1) := by decide +kernel
theorem dY_markBound_18 : decode prog_7_method_14_code 18 = .ok (.getfield 25, 3) := by decide +kernel
theorem dY_markBound_21 : decode prog_7_method_14_code 21 = .ok (.iload_n 1, 1) := by decide +kernel
theorem dY_markBound_22 : decode prog_7_method_14_code 22 = .ok (.iaload, 1) := by decide +kernel
theorem dY_markBound_23 : decode prog_7_method_14_code 23 = .ok (.iconst (-1), 1) := by decide +kernel
theorem dY_markBound_24 : decode prog_7_method_14_code 24 = .ok (.if_icmp .ne 16, 3) := by decide +kernel
theorem dY_markBound_27 : decode prog_7_method_14_code 27 = .ok (.aload_n 0, 1) := by decide +kernel
theorem dY_markBound_28 : decode prog_7_method_14_code 28 = .ok (.getfield 12, 3) := by decide +kernel
theorem dY_markBound_31 : decode prog_7_method_14_code 31 = .ok (.aload_n 0, 1) := by decide +kernel
theorem dY_markBound_32 : decode prog_7_method_14_code 32 = .ok (.getfield 22, 3) := by decide +kernel
theorem dY_markBound_35 : decode prog_7_method_14_code 35 = .ok (.iload_n 1, 1) := by decide +kernel
theorem dY_markBound_36 : decode prog_7_method_14_code 36 = .ok (.iaload, 1) := by decide +kernel
theorem dY_markBound_37 : decode prog_7_method_14_code 37 = .ok (.invokevirtual 194, 3) := by decide +kernel
theorem dY_markBound_40 : decode prog_7_method_14_code 40 = .ok (.iinc 1 1, 3) := by decide +kernel
theorem dY_markBound_43 : decode prog_7_method_14_code 43 = .ok (.goto (-34), 3) := by decide +kernel
theorem dY_markBound_46 : decode prog_7_method_14_code 46 = .ok (.iconst 0, 1) := by decide +kernel
theorem dY_markBound_47 : decode prog_7_method_14_code 47 = .ok (.istore_n 1, 1) := by decide +kernel
theorem dY_markBound_48 : decode prog_7_method_14_code 48 = .ok (.iload_n 1, 1) := by decide +kernel
theorem dY_markBound_49 : decode prog_7_method_14_code 49 = .ok (.aload_n 0, 1) := by decide +kernel
theorem dY_markBound_50 : decode prog_7_method_14_code 50 = .ok (.getfield 12, 3) := by decide +kernel
theorem dY_markBound_53 : decode prog_7_method_14_code 53 = .ok (.getfield 172, 3) := by decide +kernel
theorem dY_markBound_56 : decode prog_7_method_14_code 56 = .ok (.if_icmp .ge 30, 3) := by decide +kernel
theorem dY_markBound_59 : decode prog_7_method_14_code 59 = .ok (.aload_n 0, 1) := by decide +kernel
theorem dY_markBound_60 : decode prog_7_method_14_code 60 = .ok (.getfield 12, 3) := by decide +kernel
theorem dY_markBound_63 : decode prog_7_method_14_code 63 = .ok (.getfield 197, 3) := by decide +kernel
theorem dY_markBound_66 : decode prog_7_method_14_code 66 = .ok (.aload_n 0, 1) := by decide +kernel
theorem dY_markBound_67 : decode prog_7_method_14_code 67 = .ok (.getfield 12, 3) := by decide +kernel
theorem dY_markBound_70 : decode prog_7_method_14_code 70 = .ok (.getfield 175, 3) := by decide +kernel
theorem dY_markBound_73 : decode prog_7_method_14_code 73 = .ok (.iload_n 1, 1) := by decide +kernel
theorem dY_markBound_74 : decode prog_7_method_14_code 74 = .ok (.iaload, 1) := by decide +kernel
theorem dY_markBound_75 : decode prog_7_method_14_code 75 = .ok (.aload_n 0, 1) := by decide +kernel
theorem dY_markBound_76 : decode prog_7_method_14_code 76 = .ok (.getfield 159, 3) := by decide +kernel
theorem dY_markBound_79 : decode prog_7_method_14_code 79 = .ok (.iastore, 1) := by decide +kernel
theorem dY_markBound_80 : decode prog_7_method_14_code 80 = .ok (.iinc 1 1, 3) := by decide +kernel
theorem dY_markBound_83 : decode prog_7_method_14_code 83 = .ok (.goto (-35), 3) := by decide +kernel
theorem dY_markBound_86 : decode prog_7_method_14_code 86 = .ok (.return_, 1) := by decide +kernel
theorem dG_isVariable_0 : decode prog_4_method_5_code 0 = .ok (.aload_n 0, 1) := by decide +kernel
theorem dG_isVariable_1 : decode prog_4_method_5_code 1 = .ok (.getfield 9, 3) := by decide +kernel
theorem dG_isVariable_4 : decode prog_4_method_5_code 4 = .ok (.iload_n 1, 1) := by decide +kernel
theorem dG_isVariable_5 : decode prog_4_method_5_code 5 = .ok (.iaload, 1) := by decide +kernel
theorem dG_isVariable_6 : decode prog_4_method_5_code 6 = .ok (.iconst (-1), 1) := by decide +kernel
theorem dG_isVariable_7 : decode prog_4_method_5_code 7 = .ok (.if_icmp .ne 7, 3) := by decide +kernel
theorem dG_isVariable_10 : decode prog_4_method_5_code 10 = .ok (.iconst 1, 1) := by decide +kernel
theorem dG_isVariable_11 : decode prog_4_method_5_code 11 = .ok (.goto 4, 3) := by decide +kernel
theorem dG_isVariable_14 : decode prog_4_method_5_code 14 = .ok (.iconst 0, 1) := by decide +kernel
theorem dG_isVariable_15 : decode prog_4_method_5_code 15 = .ok (.ireturn, 1) := by decide +kernel
theorem dG_firstOf_0 : decode prog_4_method_7_code 0 = .ok (.aload_n 0, 1) := by decide +kernel
theorem dG_firstOf_1 : decode prog_4_method_7_code 1 = .ok (.getfield 15, 3) := by decide +kernel
theorem dG_firstOf_4 : decode prog_4_method_7_code 4 = .ok (.iload_n 1, 1) := by decide +kernel
theorem dG_firstOf_5 : decode prog_4_method_7_code 5 = .ok (.iaload, 1) := by decide +kernel
theorem dG_firstOf_6 : decode prog_4_method_7_code 6 = .ok (.iconst (-1), 1) := by decide +kernel
theorem dG_firstOf_7 : decode prog_4_method_7_code 7 = .ok (.if_icmp .ne 7, 3) := by decide +kernel
theorem dG_firstOf_10 : decode prog_4_method_7_code 10 = .ok (.iconst (-1), 1) := by decide +kernel
theorem dG_firstOf_11 : decode prog_4_method_7_code 11 = .ok (.goto 13, 3) := by decide +kernel
theorem dG_firstOf_14 : decode prog_4_method_7_code 14 = .ok (.aload_n 0, 1) := by decide +kernel
theorem dG_firstOf_15 : decode prog_4_method_7_code 15 = .ok (.aload_n 0, 1) := by decide +kernel
theorem dG_firstOf_16 : decode prog_4_method_7_code 16 = .ok (.getfield 15, 3) := by decide +kernel
theorem dG_firstOf_19 : decode prog_4_method_7_code 19 = .ok (.iload_n 1, 1) := by decide +kernel
theorem dG_firstOf_20 : decode prog_4_method_7_code 20 = .ok (.iaload, 1) := by decide +kernel
theorem dG_firstOf_21 : decode prog_4_method_7_code 21 = .ok (.invokevirtual 63, 3) := by decide +kernel
theorem dG_firstOf_24 : decode prog_4_method_7_code 24 = .ok (.ireturn, 1) := by decide +kernel
theorem dY_holdsOpen_0 : decode prog_7_method_16_code 0 = .ok (.iload_n 1, 1) := by decide +kernel
theorem dY_holdsOpen_1 : decode prog_7_method_16_code 1 = .ok (.iconst (-1), 1) := by decide +kernel
theorem dY_holdsOpen_2 : decode prog_7_method_16_code 2 = .ok (.if_icmp .eq 20, 3) := by decide +kernel
theorem dY_holdsOpen_5 : decode prog_7_method_16_code 5 = .ok (.aload_n 0, 1) := by decide +kernel
theorem dY_holdsOpen_6 : decode prog_7_method_16_code 6 = .ok (.getfield 12, 3) := by decide +kernel
theorem dY_holdsOpen_9 : decode prog_7_method_16_code 9 = .ok (.getfield 209, 3) := by decide +kernel
theorem dY_holdsOpen_12 : decode prog_7_method_16_code 12 = .ok (.iload_n 1, 1) := by decide +kernel
theorem dY_holdsOpen_13 : decode prog_7_method_16_code 13 = .ok (.iaload, 1) := by decide +kernel
theorem dY_holdsOpen_14 : decode prog_7_method_16_code 14 = .ok (.iconst 1, 1) := by decide +kernel
theorem dY_holdsOpen_15 : decode prog_7_method_16_code 15 = .ok (.if_icmp .ne 7, 3) := by decide +kernel
theorem dY_holdsOpen_18 : decode prog_7_method_16_code 18 = .ok (.iconst 1, 1) := by decide +kernel
theorem dY_holdsOpen_19 : decode prog_7_method_16_code 19 = .ok (.goto 4, 3) := by decide +kernel
theorem dY_holdsOpen_22 : decode prog_7_method_16_code 22 = .ok (.iconst 0, 1) := by decide +kernel
theorem dY_holdsOpen_23 : decode prog_7_method_16_code 23 = .ok (.ireturn, 1) := by decide +kernel
theorem dG_secondOf_0 : decode prog_4_method_8_code 0 = .ok (.aload_n 0, 1) := by decide +kernel
theorem dG_secondOf_1 : decode prog_4_method_8_code 1 = .ok (.getfield 18, 3) := by decide +kernel
theorem dG_secondOf_4 : decode prog_4_method_8_code 4 = .ok (.iload_n 1, 1) := by decide +kernel
theorem dG_secondOf_5 : decode prog_4_method_8_code 5 = .ok (.iaload, 1) := by decide +kernel
theorem dG_secondOf_6 : decode prog_4_method_8_code 6 = .ok (.iconst (-1), 1) := by decide +kernel
theorem dG_secondOf_7 : decode prog_4_method_8_code 7 = .ok (.if_icmp .ne 7, 3) := by decide +kernel
theorem dG_secondOf_10 : decode prog_4_method_8_code 10 = .ok (.iconst (-1), 1) := by decide +kernel
theorem dG_secondOf_11 : decode prog_4_method_8_code 11 = .ok (.goto 13, 3) := by decide +kernel
theorem dG_secondOf_14 : decode prog_4_method_8_code 14 = .ok (.aload_n 0, 1) := by decide +kernel
theorem dG_secondOf_15 : decode prog_4_method_8_code 15 = .ok (.aload_n 0, 1) := by decide +kernel
theorem dG_secondOf_16 : decode prog_4_method_8_code 16 = .ok (.getfield 18, 3) := by decide +kernel
theorem dG_secondOf_19 : decode prog_4_method_8_code 19 = .ok (.iload_n 1, 1) := by decide +kernel
theorem dG_secondOf_20 : decode prog_4_method_8_code 20 = .ok (.iaload, 1) := by decide +kernel
theorem dG_secondOf_21 : decode prog_4_method_8_code 21 = .ok (.invokevirtual 63, 3) := by decide +kernel
theorem dG_secondOf_24 : decode prog_4_method_8_code 24 = .ok (.ireturn, 1) := by decide +kernel
theorem dY_markOpen_0 : decode prog_7_method_15_code 0 = .ok (.aload_n 0, 1) := by decide +kernel
theorem dY_markOpen_1 : decode prog_7_method_15_code 1 = .ok (.getfield 12, 3) := by decide +kernel
theorem dY_markOpen_4 : decode prog_7_method_15_code 4 = .ok (.invokevirtual 191, 3) := by decide +kernel
theorem dY_markOpen_7 : decode prog_7_method_15_code 7 = .ok (.aload_n 0, 1) := by decide +kernel
theorem dY_markOpen_8 : decode prog_7_method_15_code 8 = .ok (.getfield 12, 3) := by decide +kernel
theorem dY_markOpen_11 : decode prog_7_method_15_code 11 = .ok (.iload_n 1, 1) := by decide +kernel
theorem dY_markOpen_12 : decode prog_7_method_15_code 12 = .ok (.invokevirtual 194, 3) := by decide +kernel
theorem dY_markOpen_15 : decode prog_7_method_15_code 15 = .ok (.iconst 0, 1) := by decide +kernel
theorem dY_markOpen_16 : decode prog_7_method_15_code 16 = .ok (.istore_n 2, 1) := by decide +kernel
theorem dY_markOpen_17 : decode prog_7_method_15_code 17 = .ok (.iload_n 2, 1) := by decide +kernel
theorem dY_markOpen_18 : decode prog_7_method_15_code 18 = .ok (.aload_n 0, 1) := by decide +kernel
theorem dY_markOpen_19 : decode prog_7_method_15_code 19 = .ok (.getfield 12, 3) := by decide +kernel
theorem dY_markOpen_22 : decode prog_7_method_15_code 22 = .ok (.getfield 172, 3) := by decide +kernel
theorem dY_markOpen_25 : decode prog_7_method_15_code 25 = .ok (.if_icmp .ge 110, 3) := by decide +kernel
theorem dY_markOpen_28 : decode prog_7_method_15_code 28 = .ok (.aload_n 0, 1) := by decide +kernel
theorem dY_markOpen_29 : decode prog_7_method_15_code 29 = .ok (.getfield 12, 3) := by decide +kernel
theorem dY_markOpen_32 : decode prog_7_method_15_code 32 = .ok (.getfield 175, 3) := by decide +kernel
theorem dY_markOpen_35 : decode prog_7_method_15_code 35 = .ok (.iload_n 2, 1) := by decide +kernel
theorem dY_markOpen_36 : decode prog_7_method_15_code 36 = .ok (.iaload, 1) := by decide +kernel
theorem dY_markOpen_37 : decode prog_7_method_15_code 37 = .ok (.istore_n 3, 1) := by decide +kernel
theorem dY_markOpen_38 : decode prog_7_method_15_code 38 = .ok (.aload_n 0, 1) := by decide +kernel
theorem dY_markOpen_39 : decode prog_7_method_15_code 39 = .ok (.getfield 12, 3) := by decide +kernel
theorem dY_markOpen_42 : decode prog_7_method_15_code 42 = .ok (.iload_n 3, 1) := by decide +kernel
theorem dY_markOpen_43 : decode prog_7_method_15_code 43 = .ok (.invokevirtual 181, 3) := by decide +kernel
theorem dY_markOpen_46 : decode prog_7_method_15_code 46 = .ok (.ifCond .eq 27, 3) := by decide +kernel
theorem dY_markOpen_49 : decode prog_7_method_15_code 49 = .ok (.aload_n 0, 1) := by decide +kernel
theorem dY_markOpen_50 : decode prog_7_method_15_code 50 = .ok (.getfield 12, 3) := by decide +kernel
theorem dY_markOpen_53 : decode prog_7_method_15_code 53 = .ok (.getfield 197, 3) := by decide +kernel
theorem dY_markOpen_56 : decode prog_7_method_15_code 56 = .ok (.iload_n 3, 1) := by decide +kernel
theorem dY_markOpen_57 : decode prog_7_method_15_code 57 = .ok (.iaload, 1) := by decide +kernel
theorem dY_markOpen_58 : decode prog_7_method_15_code 58 = .ok (.aload_n 0, 1) := by decide +kernel
theorem dY_markOpen_59 : decode prog_7_method_15_code 59 = .ok (.getfield 159, 3) := by decide +kernel
theorem dY_markOpen_62 : decode prog_7_method_15_code 62 = .ok (.if_icmp .eq 7, 3) := by decide +kernel
theorem dY_markOpen_65 : decode prog_7_method_15_code 65 = .ok (.iconst 1, 1) := by decide +kernel
theorem dY_markOpen_66 : decode prog_7_method_15_code 66 = .ok (.goto 42, 3) := by decide +kernel
theorem dY_markOpen_69 : decode prog_7_method_15_code 69 = .ok (.iconst 0, 1) := by decide +kernel
theorem dY_markOpen_70 : decode prog_7_method_15_code 70 = .ok (.goto 38, 3) := by decide +kernel
theorem dY_markOpen_73 : decode prog_7_method_15_code 73 = .ok (.aload_n 0, 1) := by decide +kernel
theorem dY_markOpen_74 : decode prog_7_method_15_code 74 = .ok (.aload_n 0, 1) := by decide +kernel
theorem dY_markOpen_75 : decode prog_7_method_15_code 75 = .ok (.getfield 12, 3) := by decide +kernel
theorem dY_markOpen_78 : decode prog_7_method_15_code 78 = .ok (.iload_n 3, 1) := by decide +kernel
theorem dY_markOpen_79 : decode prog_7_method_15_code 79 = .ok (.invokevirtual 200, 3) := by decide +kernel
theorem dY_markOpen_82 : decode prog_7_method_15_code 82 = .ok (.invokevirtual 203, 3) := by decide +kernel
theorem dY_markOpen_85 : decode prog_7_method_15_code 85 = .ok (.ifCond .ne 18, 3) := by decide +kernel
theorem dY_markOpen_88 : decode prog_7_method_15_code 88 = .ok (.aload_n 0, 1) := by decide +kernel
theorem dY_markOpen_89 : decode prog_7_method_15_code 89 = .ok (.aload_n 0, 1) := by decide +kernel
theorem dY_markOpen_90 : decode prog_7_method_15_code 90 = .ok (.getfield 12, 3) := by decide +kernel
theorem dY_markOpen_93 : decode prog_7_method_15_code 93 = .ok (.iload_n 3, 1) := by decide +kernel
theorem dY_markOpen_94 : decode prog_7_method_15_code 94 = .ok (.invokevirtual 206, 3) := by decide +kernel
theorem dY_markOpen_97 : decode prog_7_method_15_code 97 = .ok (.invokevirtual 203, 3) := by decide +kernel
theorem dY_markOpen_100 : decode prog_7_method_15_code 100 = .ok (.ifCond .eq 7, 3) := by decide +kernel
theorem dY_markOpen_103 : decode prog_7_method_15_code 103 = .ok (.iconst 1, 1) := by decide +kernel
theorem dY_markOpen_104 : decode prog_7_method_15_code 104 = .ok (.goto 4, 3) := by decide +kernel
theorem dY_markOpen_107 : decode prog_7_method_15_code 107 = .ok (.iconst 0, 1) := by decide +kernel
theorem dY_markOpen_108 : decode prog_7_method_15_code 108 = .ok (.istore 4, 2) := by decide +kernel
theorem dY_markOpen_110 : decode prog_7_method_15_code 110 = .ok (.aload_n 0, 1) := by decide +kernel
theorem dY_markOpen_111 : decode prog_7_method_15_code 111 = .ok (.getfield 12, 3) := by decide +kernel
theorem dY_markOpen_114 : decode prog_7_method_15_code 114 = .ok (.getfield 209, 3) := by decide +kernel
theorem dY_markOpen_117 : decode prog_7_method_15_code 117 = .ok (.iload_n 3, 1) := by decide +kernel
theorem dY_markOpen_118 : decode prog_7_method_15_code 118 = .ok (.iload 4, 2) := by decide +kernel
theorem dY_markOpen_120 : decode prog_7_method_15_code 120 = .ok (.ifCond .eq 7, 3) := by decide +kernel
theorem dY_markOpen_123 : decode prog_7_method_15_code 123 = .ok (.iconst 1, 1) := by decide +kernel
theorem dY_markOpen_124 : decode prog_7_method_15_code 124 = .ok (.goto 4, 3) := by decide +kernel
theorem dY_markOpen_127 : decode prog_7_method_15_code 127 = .ok (.iconst 0, 1) := by decide +kernel
theorem dY_markOpen_128 : decode prog_7_method_15_code 128 = .ok (.iastore, 1) := by decide +kernel
theorem dY_markOpen_129 : decode prog_7_method_15_code 129 = .ok (.iinc 2 1, 3) := by decide +kernel
theorem dY_markOpen_132 : decode prog_7_method_15_code 132 = .ok (.goto (-115), 3) := by decide +kernel
theorem dY_markOpen_135 : decode prog_7_method_15_code 135 = .ok (.return_, 1) := by decide +kernel
theorem dY_gatherAsked_0 : decode prog_7_method_17_code 0 = .ok (.aload_n 0, 1) := by decide +kernel
theorem dY_gatherAsked_1 : decode prog_7_method_17_code 1 = .ok (.getfield 12, 3) := by decide +kernel
theorem dY_gatherAsked_4 : decode prog_7_method_17_code 4 = .ok (.invokevirtual 191, 3) := by decide +kernel
theorem dY_gatherAsked_7 : decode prog_7_method_17_code 7 = .ok (.iload_n 1, 1) := by decide +kernel
theorem dY_gatherAsked_8 : decode prog_7_method_17_code 8 = .ok (.istore_n 2, 1) := by decide +kernel
theorem dY_gatherAsked_9 : decode prog_7_method_17_code 9 = .ok (.iload_n 2, 1) := by decide +kernel
theorem dY_gatherAsked_10 : decode prog_7_method_17_code 10 = .ok (.aload_n 0, 1) := by decide +kernel
theorem dY_gatherAsked_11 : decode prog_7_method_17_code 11 = .ok (.getfield 12, 3) := by decide +kernel
theorem dY_gatherAsked_14 : decode prog_7_method_17_code 14 = .ok (.getfield 128, 3) := by decide +kernel
theorem dY_gatherAsked_17 : decode prog_7_method_17_code 17 = .ok (.if_icmp .ge 29, 3) := by decide +kernel
theorem dY_gatherAsked_20 : decode prog_7_method_17_code 20 = .ok (.aload_n 0, 1) := by decide +kernel
theorem dY_gatherAsked_21 : decode prog_7_method_17_code 21 = .ok (.getfield 12, 3) := by decide +kernel
theorem dY_gatherAsked_24 : decode prog_7_method_17_code 24 = .ok (.getfield 136, 3) := by decide +kernel
theorem dY_gatherAsked_27 : decode prog_7_method_17_code 27 = .ok (.iload_n 2, 1) := by decide +kernel
theorem dY_gatherAsked_28 : decode prog_7_method_17_code 28 = .ok (.iaload, 1) := by decide +kernel
theorem dY_gatherAsked_29 : decode prog_7_method_17_code 29 = .ok (.ifCond .eq 11, 3) := by decide +kernel
theorem dY_gatherAsked_32 : decode prog_7_method_17_code 32 = .ok (.aload_n 0, 1) := by decide +kernel
theorem dY_gatherAsked_33 : decode prog_7_method_17_code 33 = .ok (.getfield 12, 3) := by decide +kernel
theorem dY_gatherAsked_36 : decode prog_7_method_17_code 36 = .ok (.iload_n 2, 1) := by decide +kernel
theorem dY_gatherAsked_37 : decode prog_7_method_17_code 37 = .ok (.invokevirtual 194, 3) := by decide +kernel
theorem dY_gatherAsked_40 : decode prog_7_method_17_code 40 = .ok (.iinc 2 1, 3) := by decide +kernel
theorem dY_gatherAsked_43 : decode prog_7_method_17_code 43 = .ok (.goto (-34), 3) := by decide +kernel
theorem dY_gatherAsked_46 : decode prog_7_method_17_code 46 = .ok (.iconst 0, 1) := by decide +kernel
theorem dY_gatherAsked_47 : decode prog_7_method_17_code 47 = .ok (.istore_n 2, 1) := by decide +kernel
theorem dY_gatherAsked_48 : decode prog_7_method_17_code 48 = .ok (.iload_n 2, 1) := by decide +kernel
theorem dY_gatherAsked_49 : decode prog_7_method_17_code 49 = .ok (.aload_n 0, 1) := by decide +kernel
theorem dY_gatherAsked_50 : decode prog_7_method_17_code 50 = .ok (.getfield 12, 3) := by decide +kernel
theorem dY_gatherAsked_53 : decode prog_7_method_17_code 53 = .ok (.getfield 172, 3) := by decide +kernel
theorem dY_gatherAsked_56 : decode prog_7_method_17_code 56 = .ok (.if_icmp .ge 27, 3) := by decide +kernel
theorem dY_gatherAsked_59 : decode prog_7_method_17_code 59 = .ok (.aload_n 0, 1) := by decide +kernel
theorem dY_gatherAsked_60 : decode prog_7_method_17_code 60 = .ok (.getfield 12, 3) := by decide +kernel
theorem dY_gatherAsked_63 : decode prog_7_method_17_code 63 = .ok (.getfield 178, 3) := by decide +kernel
theorem dY_gatherAsked_66 : decode prog_7_method_17_code 66 = .ok (.aload_n 0, 1) := by decide +kernel
theorem dY_gatherAsked_67 : decode prog_7_method_17_code 67 = .ok (.getfield 12, 3) := by decide +kernel
theorem dY_gatherAsked_70 : decode prog_7_method_17_code 70 = .ok (.getfield 175, 3) := by decide +kernel
theorem dY_gatherAsked_73 : decode prog_7_method_17_code 73 = .ok (.iload_n 2, 1) := by decide +kernel
theorem dY_gatherAsked_74 : decode prog_7_method_17_code 74 = .ok (.iaload, 1) := by decide +kernel
theorem dY_gatherAsked_75 : decode prog_7_method_17_code 75 = .ok (.iconst 0, 1) := by decide +kernel
theorem dY_gatherAsked_76 : decode prog_7_method_17_code 76 = .ok (.iastore, 1) := by decide +kernel
theorem dY_gatherAsked_77 : decode prog_7_method_17_code 77 = .ok (.iinc 2 1, 3) := by decide +kernel
theorem dY_gatherAsked_80 : decode prog_7_method_17_code 80 = .ok (.goto (-32), 3) := by decide +kernel
theorem dY_gatherAsked_83 : decode prog_7_method_17_code 83 = .ok (.iload_n 1, 1) := by decide +kernel
theorem dY_gatherAsked_84 : decode prog_7_method_17_code 84 = .ok (.istore_n 2, 1) := by decide +kernel
theorem dY_gatherAsked_85 : decode prog_7_method_17_code 85 = .ok (.iload_n 2, 1) := by decide +kernel
theorem dY_gatherAsked_86 : decode prog_7_method_17_code 86 = .ok (.aload_n 0, 1) := by decide +kernel
theorem dY_gatherAsked_87 : decode prog_7_method_17_code 87 = .ok (.getfield 12, 3) := by decide +kernel
theorem dY_gatherAsked_90 : decode prog_7_method_17_code 90 = .ok (.getfield 128, 3) := by decide +kernel
theorem dY_gatherAsked_93 : decode prog_7_method_17_code 93 = .ok (.if_icmp .ge 59, 3) := by decide +kernel
theorem dY_gatherAsked_96 : decode prog_7_method_17_code 96 = .ok (.aload_n 0, 1) := by decide +kernel
theorem dY_gatherAsked_97 : decode prog_7_method_17_code 97 = .ok (.getfield 12, 3) := by decide +kernel
theorem dY_gatherAsked_100 : decode prog_7_method_17_code 100 = .ok (.getfield 136, 3) := by decide +kernel
theorem dY_gatherAsked_103 : decode prog_7_method_17_code 103 = .ok (.iload_n 2, 1) := by decide +kernel
theorem dY_gatherAsked_104 : decode prog_7_method_17_code 104 = .ok (.iaload, 1) := by decide +kernel
theorem dY_gatherAsked_105 : decode prog_7_method_17_code 105 = .ok (.ifCond .eq 41, 3) := by decide +kernel
theorem dY_gatherAsked_108 : decode prog_7_method_17_code 108 = .ok (.aload_n 0, 1) := by decide +kernel
theorem dY_gatherAsked_109 : decode prog_7_method_17_code 109 = .ok (.getfield 12, 3) := by decide +kernel
theorem dY_gatherAsked_112 : decode prog_7_method_17_code 112 = .ok (.getfield 178, 3) := by decide +kernel
theorem dY_gatherAsked_115 : decode prog_7_method_17_code 115 = .ok (.aload_n 0, 1) := by decide +kernel
theorem dY_gatherAsked_116 : decode prog_7_method_17_code 116 = .ok (.getfield 12, 3) := by decide +kernel
theorem dY_gatherAsked_119 : decode prog_7_method_17_code 119 = .ok (.iload_n 2, 1) := by decide +kernel
theorem dY_gatherAsked_120 : decode prog_7_method_17_code 120 = .ok (.invokevirtual 212, 3) := by decide +kernel
theorem dY_gatherAsked_123 : decode prog_7_method_17_code 123 = .ok (.dup2, 1) := by decide +kernel
theorem dY_gatherAsked_124 : decode prog_7_method_17_code 124 = .ok (.iaload, 1) := by decide +kernel
theorem dY_gatherAsked_125 : decode prog_7_method_17_code 125 = .ok (.aload_n 0, 1) := by decide +kernel
theorem dY_gatherAsked_126 : decode prog_7_method_17_code 126 = .ok (.getfield 12, 3) := by decide +kernel
theorem dY_gatherAsked_129 : decode prog_7_method_17_code 129 = .ok (.getfield 136, 3) := by decide +kernel
theorem dY_gatherAsked_132 : decode prog_7_method_17_code 132 = .ok (.iload_n 2, 1) := by decide +kernel
theorem dY_gatherAsked_133 : decode prog_7_method_17_code 133 = .ok (.iaload, 1) := by decide +kernel
theorem dY_gatherAsked_134 : decode prog_7_method_17_code 134 = .ok (.ior, 1) := by decide +kernel
theorem dY_gatherAsked_135 : decode prog_7_method_17_code 135 = .ok (.iastore, 1) := by decide +kernel
theorem dY_gatherAsked_136 : decode prog_7_method_17_code 136 = .ok (.aload_n 0, 1) := by decide +kernel
theorem dY_gatherAsked_137 : decode prog_7_method_17_code 137 = .ok (.getfield 12, 3) := by decide +kernel
theorem dY_gatherAsked_140 : decode prog_7_method_17_code 140 = .ok (.getfield 136, 3) := by decide +kernel
theorem dY_gatherAsked_143 : decode prog_7_method_17_code 143 = .ok (.iload_n 2, 1) := by decide +kernel
theorem dY_gatherAsked_144 : decode prog_7_method_17_code 144 = .ok (.iconst 0, 1) := by decide +kernel
theorem dY_gatherAsked_145 : decode prog_7_method_17_code 145 = .ok (.iastore, 1) := by decide +kernel
theorem dY_gatherAsked_146 : decode prog_7_method_17_code 146 = .ok (.iinc 2 1, 3) := by decide +kernel
theorem dY_gatherAsked_149 : decode prog_7_method_17_code 149 = .ok (.goto (-64), 3) := by decide +kernel
theorem dY_gatherAsked_152 : decode prog_7_method_17_code 152 = .ok (.return_, 1) := by decide +kernel
theorem dJ_bitCount_0 : decode prog_11_method_49_code 0 = .ok (.iload_n 0, 1) := by decide +kernel
theorem dJ_bitCount_1 : decode prog_11_method_49_code 1 = .ok (.iload_n 0, 1) := by decide +kernel
theorem dJ_bitCount_2 : decode prog_11_method_49_code 2 = .ok (.iconst 1, 1) := by decide +kernel
theorem dJ_bitCount_3 : decode prog_11_method_49_code 3 = .ok (.iushr, 1) := by decide +kernel
theorem dJ_bitCount_4 : decode prog_11_method_49_code 4 = .ok (.ldc_w 265, 3) := by decide +kernel
theorem dJ_bitCount_7 : decode prog_11_method_49_code 7 = .ok (.iand, 1) := by decide +kernel
theorem dJ_bitCount_8 : decode prog_11_method_49_code 8 = .ok (.isub, 1) := by decide +kernel
theorem dJ_bitCount_9 : decode prog_11_method_49_code 9 = .ok (.istore_n 0, 1) := by decide +kernel
theorem dJ_bitCount_10 : decode prog_11_method_49_code 10 = .ok (.iload_n 0, 1) := by decide +kernel
theorem dJ_bitCount_11 : decode prog_11_method_49_code 11 = .ok (.ldc_w 266, 3) := by decide +kernel
theorem dJ_bitCount_14 : decode prog_11_method_49_code 14 = .ok (.iand, 1) := by decide +kernel
theorem dJ_bitCount_15 : decode prog_11_method_49_code 15 = .ok (.iload_n 0, 1) := by decide +kernel
theorem dJ_bitCount_16 : decode prog_11_method_49_code 16 = .ok (.iconst 2, 1) := by decide +kernel
theorem dJ_bitCount_17 : decode prog_11_method_49_code 17 = .ok (.iushr, 1) := by decide +kernel
theorem dJ_bitCount_18 : decode prog_11_method_49_code 18 = .ok (.ldc_w 266, 3) := by decide +kernel
theorem dJ_bitCount_21 : decode prog_11_method_49_code 21 = .ok (.iand, 1) := by decide +kernel
theorem dJ_bitCount_22 : decode prog_11_method_49_code 22 = .ok (.iadd, 1) := by decide +kernel
theorem dJ_bitCount_23 : decode prog_11_method_49_code 23 = .ok (.istore_n 0, 1) := by decide +kernel
theorem dJ_bitCount_24 : decode prog_11_method_49_code 24 = .ok (.iload_n 0, 1) := by decide +kernel
theorem dJ_bitCount_25 : decode prog_11_method_49_code 25 = .ok (.iload_n 0, 1) := by decide +kernel
theorem dJ_bitCount_26 : decode prog_11_method_49_code 26 = .ok (.iconst 4, 1) := by decide +kernel
theorem dJ_bitCount_27 : decode prog_11_method_49_code 27 = .ok (.iushr, 1) := by decide +kernel
theorem dJ_bitCount_28 : decode prog_11_method_49_code 28 = .ok (.iadd, 1) := by decide +kernel
theorem dJ_bitCount_29 : decode prog_11_method_49_code 29 = .ok (.ldc_w 267, 3) := by decide +kernel
theorem dJ_bitCount_32 : decode prog_11_method_49_code 32 = .ok (.iand, 1) := by decide +kernel
theorem dJ_bitCount_33 : decode prog_11_method_49_code 33 = .ok (.istore_n 0, 1) := by decide +kernel
theorem dJ_bitCount_34 : decode prog_11_method_49_code 34 = .ok (.iload_n 0, 1) := by decide +kernel
theorem dJ_bitCount_35 : decode prog_11_method_49_code 35 = .ok (.iload_n 0, 1) := by decide +kernel
theorem dJ_bitCount_36 : decode prog_11_method_49_code 36 = .ok (.bipush 8, 2) := by decide +kernel
theorem dJ_bitCount_38 : decode prog_11_method_49_code 38 = .ok (.iushr, 1) := by decide +kernel
theorem dJ_bitCount_39 : decode prog_11_method_49_code 39 = .ok (.iadd, 1) := by decide +kernel
theorem dJ_bitCount_40 : decode prog_11_method_49_code 40 = .ok (.istore_n 0, 1) := by decide +kernel
theorem dJ_bitCount_41 : decode prog_11_method_49_code 41 = .ok (.iload_n 0, 1) := by decide +kernel
theorem dJ_bitCount_42 : decode prog_11_method_49_code 42 = .ok (.iload_n 0, 1) := by decide +kernel
theorem dJ_bitCount_43 : decode prog_11_method_49_code 43 = .ok (.bipush 16, 2) := by decide +kernel
theorem dJ_bitCount_45 : decode prog_11_method_49_code 45 = .ok (.iushr, 1) := by decide +kernel
theorem dJ_bitCount_46 : decode prog_11_method_49_code 46 = .ok (.iadd, 1) := by decide +kernel
theorem dJ_bitCount_47 : decode prog_11_method_49_code 47 = .ok (.istore_n 0, 1) := by decide +kernel
theorem dJ_bitCount_48 : decode prog_11_method_49_code 48 = .ok (.iload_n 0, 1) := by decide +kernel
theorem dJ_bitCount_49 : decode prog_11_method_49_code 49 = .ok (.bipush 63, 2) := by decide +kernel
theorem dJ_bitCount_51 : decode prog_11_method_49_code 51 = .ok (.iand, 1) := by decide +kernel
theorem dJ_bitCount_52 : decode prog_11_method_49_code 52 = .ok (.ireturn, 1) := by decide +kernel
theorem dY_settleVariable_0 : decode prog_7_method_18_code 0 = .ok (.aload_n 0, 1) := by decide +kernel
theorem dY_settleVariable_1 : decode prog_7_method_18_code 1 = .ok (.getfield 12, 3) := by decide +kernel
theorem dY_settleVariable_4 : decode prog_7_method_18_code 4 = .ok (.getfield 209, 3) := by decide +kernel
theorem dY_settleVariable_7 : decode prog_7_method_18_code 7 = .ok (.iload_n 1, 1) := by decide +kernel
theorem dY_settleVariable_8 : decode prog_7_method_18_code 8 = .ok (.iaload, 1) := by decide +kernel
theorem dY_settleVariable_9 : decode prog_7_method_18_code 9 = .ok (.iconst 1, 1) := by decide +kernel
theorem dY_settleVariable_10 : decode prog_7_method_18_code 10 = .ok (.if_icmp .ne 33, 3) := by decide +kernel
theorem dY_settleVariable_13 : decode prog_7_method_18_code 13 = .ok (.aload_n 0, 1) := by decide +kernel
theorem dY_settleVariable_14 : decode prog_7_method_18_code 14 = .ok (.getfield 12, 3) := by decide +kernel
theorem dY_settleVariable_17 : decode prog_7_method_18_code 17 = .ok (.getfield 215, 3) := by decide +kernel
theorem dY_settleVariable_20 : decode prog_7_method_18_code 20 = .ok (.iload_n 1, 1) := by decide +kernel
theorem dY_settleVariable_21 : decode prog_7_method_18_code 21 = .ok (.aload_n 0, 1) := by decide +kernel
theorem dY_settleVariable_22 : decode prog_7_method_18_code 22 = .ok (.getfield 35, 3) := by decide +kernel
theorem dY_settleVariable_25 : decode prog_7_method_18_code 25 = .ok (.iload_n 2, 1) := by decide +kernel
theorem dY_settleVariable_26 : decode prog_7_method_18_code 26 = .ok (.invokevirtual 218, 3) := by decide +kernel
theorem dY_settleVariable_29 : decode prog_7_method_18_code 29 = .ok (.iastore, 1) := by decide +kernel
theorem dY_settleVariable_30 : decode prog_7_method_18_code 30 = .ok (.aload_n 0, 1) := by decide +kernel
theorem dY_settleVariable_31 : decode prog_7_method_18_code 31 = .ok (.getfield 12, 3) := by decide +kernel
theorem dY_settleVariable_34 : decode prog_7_method_18_code 34 = .ok (.getfield 215, 3) := by decide +kernel
theorem dY_settleVariable_37 : decode prog_7_method_18_code 37 = .ok (.iload_n 1, 1) := by decide +kernel
theorem dY_settleVariable_38 : decode prog_7_method_18_code 38 = .ok (.iaload, 1) := by decide +kernel
theorem dY_settleVariable_39 : decode prog_7_method_18_code 39 = .ok (.invokestatic 221, 3) := by decide +kernel
theorem dY_settleVariable_42 : decode prog_7_method_18_code 42 = .ok (.ireturn, 1) := by decide +kernel
theorem dY_settleVariable_43 : decode prog_7_method_18_code 43 = .ok (.aload_n 0, 1) := by decide +kernel
theorem dY_settleVariable_44 : decode prog_7_method_18_code 44 = .ok (.getfield 12, 3) := by decide +kernel
theorem dY_settleVariable_47 : decode prog_7_method_18_code 47 = .ok (.getfield 197, 3) := by decide +kernel
theorem dY_settleVariable_50 : decode prog_7_method_18_code 50 = .ok (.iload_n 1, 1) := by decide +kernel
theorem dY_settleVariable_51 : decode prog_7_method_18_code 51 = .ok (.iaload, 1) := by decide +kernel
theorem dY_settleVariable_52 : decode prog_7_method_18_code 52 = .ok (.aload_n 0, 1) := by decide +kernel
theorem dY_settleVariable_53 : decode prog_7_method_18_code 53 = .ok (.getfield 159, 3) := by decide +kernel
theorem dY_settleVariable_56 : decode prog_7_method_18_code 56 = .ok (.if_icmp .ne 19, 3) := by decide +kernel
theorem dY_settleVariable_59 : decode prog_7_method_18_code 59 = .ok (.aload_n 0, 1) := by decide +kernel
theorem dY_settleVariable_60 : decode prog_7_method_18_code 60 = .ok (.getfield 12, 3) := by decide +kernel
theorem dY_settleVariable_63 : decode prog_7_method_18_code 63 = .ok (.getfield 136, 3) := by decide +kernel
theorem dY_settleVariable_66 : decode prog_7_method_18_code 66 = .ok (.iload_n 1, 1) := by decide +kernel
theorem dY_settleVariable_67 : decode prog_7_method_18_code 67 = .ok (.dup2, 1) := by decide +kernel
theorem dY_settleVariable_68 : decode prog_7_method_18_code 68 = .ok (.iaload, 1) := by decide +kernel
theorem dY_settleVariable_69 : decode prog_7_method_18_code 69 = .ok (.iload_n 2, 1) := by decide +kernel
theorem dY_settleVariable_70 : decode prog_7_method_18_code 70 = .ok (.ior, 1) := by decide +kernel
theorem dY_settleVariable_71 : decode prog_7_method_18_code 71 = .ok (.iastore, 1) := by decide +kernel
theorem dY_settleVariable_72 : decode prog_7_method_18_code 72 = .ok (.goto 8, 3) := by decide +kernel
theorem dY_settleVariable_75 : decode prog_7_method_18_code 75 = .ok (.aload_n 0, 1) := by decide +kernel
theorem dY_settleVariable_76 : decode prog_7_method_18_code 76 = .ok (.iconst 1, 1) := by decide +kernel
theorem dY_settleVariable_77 : decode prog_7_method_18_code 77 = .ok (.putfield 57, 3) := by decide +kernel
theorem dY_settleVariable_80 : decode prog_7_method_18_code 80 = .ok (.iconst 0, 1) := by decide +kernel
theorem dY_settleVariable_81 : decode prog_7_method_18_code 81 = .ok (.ireturn, 1) := by decide +kernel
theorem dY_handDown_0 : decode prog_7_method_19_code 0 = .ok (.aload_n 0, 1) := by decide +kernel
theorem dY_handDown_1 : decode prog_7_method_19_code 1 = .ok (.getfield 12, 3) := by decide +kernel
theorem dY_handDown_4 : decode prog_7_method_19_code 4 = .ok (.getfield 226, 3) := by decide +kernel
theorem dY_handDown_7 : decode prog_7_method_19_code 7 = .ok (.iload_n 1, 1) := by decide +kernel
theorem dY_handDown_8 : decode prog_7_method_19_code 8 = .ok (.iaload, 1) := by decide +kernel
theorem dY_handDown_9 : decode prog_7_method_19_code 9 = .ok (.istore_n 3, 1) := by decide +kernel
theorem dY_handDown_10 : decode prog_7_method_19_code 10 = .ok (.aload_n 0, 1) := by decide +kernel
theorem dY_handDown_11 : decode prog_7_method_19_code 11 = .ok (.getfield 35, 3) := by decide +kernel
theorem dY_handDown_14 : decode prog_7_method_19_code 14 = .ok (.iload_n 2, 1) := by decide +kernel
theorem dY_handDown_15 : decode prog_7_method_19_code 15 = .ok (.iload_n 3, 1) := by decide +kernel
theorem dY_handDown_16 : decode prog_7_method_19_code 16 = .ok (.invokevirtual 227, 3) := by decide +kernel
theorem dY_handDown_19 : decode prog_7_method_19_code 19 = .ok (.ifCond .ne 8, 3) := by decide +kernel
theorem dY_handDown_22 : decode prog_7_method_19_code 22 = .ok (.aload_n 0, 1) := by decide +kernel
theorem dY_handDown_23 : decode prog_7_method_19_code 23 = .ok (.iconst 1, 1) := by decide +kernel
theorem dY_handDown_24 : decode prog_7_method_19_code 24 = .ok (.putfield 53, 3) := by decide +kernel
theorem dY_handDown_27 : decode prog_7_method_19_code 27 = .ok (.aload_n 0, 1) := by decide +kernel
theorem dY_handDown_28 : decode prog_7_method_19_code 28 = .ok (.getfield 12, 3) := by decide +kernel
theorem dY_handDown_31 : decode prog_7_method_19_code 31 = .ok (.iload_n 1, 1) := by decide +kernel
theorem dY_handDown_32 : decode prog_7_method_19_code 32 = .ok (.invokevirtual 200, 3) := by decide +kernel
theorem dY_handDown_35 : decode prog_7_method_19_code 35 = .ok (.istore 4, 2) := by decide +kernel
theorem dY_handDown_37 : decode prog_7_method_19_code 37 = .ok (.aload_n 0, 1) := by decide +kernel
theorem dY_handDown_38 : decode prog_7_method_19_code 38 = .ok (.getfield 12, 3) := by decide +kernel
theorem dY_handDown_41 : decode prog_7_method_19_code 41 = .ok (.iload_n 1, 1) := by decide +kernel
theorem dY_handDown_42 : decode prog_7_method_19_code 42 = .ok (.invokevirtual 206, 3) := by decide +kernel
theorem dY_handDown_45 : decode prog_7_method_19_code 45 = .ok (.istore 5, 2) := by decide +kernel
theorem dY_handDown_47 : decode prog_7_method_19_code 47 = .ok (.iload 4, 2) := by decide +kernel
theorem dY_handDown_49 : decode prog_7_method_19_code 49 = .ok (.iconst (-1), 1) := by decide +kernel
theorem dY_handDown_50 : decode prog_7_method_19_code 50 = .ok (.if_icmp .eq 32, 3) := by decide +kernel
theorem dY_handDown_53 : decode prog_7_method_19_code 53 = .ok (.aload_n 0, 1) := by decide +kernel
theorem dY_handDown_54 : decode prog_7_method_19_code 54 = .ok (.getfield 12, 3) := by decide +kernel
theorem dY_handDown_57 : decode prog_7_method_19_code 57 = .ok (.getfield 178, 3) := by decide +kernel
theorem dY_handDown_60 : decode prog_7_method_19_code 60 = .ok (.iload 4, 2) := by decide +kernel
theorem dY_handDown_62 : decode prog_7_method_19_code 62 = .ok (.dup2, 1) := by decide +kernel
theorem dY_handDown_63 : decode prog_7_method_19_code 63 = .ok (.iaload, 1) := by decide +kernel
theorem dY_handDown_64 : decode prog_7_method_19_code 64 = .ok (.aload_n 0, 1) := by decide +kernel
theorem dY_handDown_65 : decode prog_7_method_19_code 65 = .ok (.getfield 35, 3) := by decide +kernel
theorem dY_handDown_68 : decode prog_7_method_19_code 68 = .ok (.aload_n 0, 1) := by decide +kernel
theorem dY_handDown_69 : decode prog_7_method_19_code 69 = .ok (.getfield 35, 3) := by decide +kernel
theorem dY_handDown_72 : decode prog_7_method_19_code 72 = .ok (.getfield 231, 3) := by decide +kernel
theorem dY_handDown_75 : decode prog_7_method_19_code 75 = .ok (.iload_n 2, 1) := by decide +kernel
theorem dY_handDown_76 : decode prog_7_method_19_code 76 = .ok (.iload_n 3, 1) := by decide +kernel
theorem dY_handDown_77 : decode prog_7_method_19_code 77 = .ok (.invokevirtual 234, 3) := by decide +kernel
theorem dY_handDown_80 : decode prog_7_method_19_code 80 = .ok (.ior, 1) := by decide +kernel
theorem dY_handDown_81 : decode prog_7_method_19_code 81 = .ok (.iastore, 1) := by decide +kernel
theorem dY_handDown_82 : decode prog_7_method_19_code 82 = .ok (.iload 5, 2) := by decide +kernel
theorem dY_handDown_84 : decode prog_7_method_19_code 84 = .ok (.iconst (-1), 1) := by decide +kernel
theorem dY_handDown_85 : decode prog_7_method_19_code 85 = .ok (.if_icmp .eq 32, 3) := by decide +kernel
theorem dY_handDown_88 : decode prog_7_method_19_code 88 = .ok (.aload_n 0, 1) := by decide +kernel
theorem dY_handDown_89 : decode prog_7_method_19_code 89 = .ok (.getfield 12, 3) := by decide +kernel
theorem dY_handDown_92 : decode prog_7_method_19_code 92 = .ok (.getfield 178, 3) := by decide +kernel
theorem dY_handDown_95 : decode prog_7_method_19_code 95 = .ok (.iload 5, 2) := by decide +kernel
theorem dY_handDown_97 : decode prog_7_method_19_code 97 = .ok (.dup2, 1) := by decide +kernel
theorem dY_handDown_98 : decode prog_7_method_19_code 98 = .ok (.iaload, 1) := by decide +kernel
theorem dY_handDown_99 : decode prog_7_method_19_code 99 = .ok (.aload_n 0, 1) := by decide +kernel
theorem dY_handDown_100 : decode prog_7_method_19_code 100 = .ok (.getfield 35, 3) := by decide +kernel
theorem dY_handDown_103 : decode prog_7_method_19_code 103 = .ok (.aload_n 0, 1) := by decide +kernel
theorem dY_handDown_104 : decode prog_7_method_19_code 104 = .ok (.getfield 35, 3) := by decide +kernel
theorem dY_handDown_107 : decode prog_7_method_19_code 107 = .ok (.getfield 238, 3) := by decide +kernel
theorem dY_handDown_110 : decode prog_7_method_19_code 110 = .ok (.iload_n 2, 1) := by decide +kernel
theorem dY_handDown_111 : decode prog_7_method_19_code 111 = .ok (.iload_n 3, 1) := by decide +kernel
theorem dY_handDown_112 : decode prog_7_method_19_code 112 = .ok (.invokevirtual 234, 3) := by decide +kernel
theorem dY_handDown_115 : decode prog_7_method_19_code 115 = .ok (.ior, 1) := by decide +kernel
theorem dY_handDown_116 : decode prog_7_method_19_code 116 = .ok (.iastore, 1) := by decide +kernel
theorem dY_handDown_117 : decode prog_7_method_19_code 117 = .ok (.return_, 1) := by decide +kernel
theorem dY_settle_0 : decode prog_7_method_13_code 0 = .ok (.aload_n 0, 1) := by decide +kernel
theorem dY_settle_1 : decode prog_7_method_13_code 1 = .ok (.dup, 1) := by decide +kernel
theorem dY_settle_2 : decode prog_7_method_13_code 2 = .ok (.getfield 159, 3) := by decide +kernel
theorem dY_settle_5 : decode prog_7_method_13_code 5 = .ok (.iconst 1, 1) := by decide +kernel
theorem dY_settle_6 : decode prog_7_method_13_code 6 = .ok (.iadd, 1) := by decide +kernel
theorem dY_settle_7 : decode prog_7_method_13_code 7 = .ok (.putfield 159, 3) := by decide +kernel
theorem dY_settle_10 : decode prog_7_method_13_code 10 = .ok (.aload_n 0, 1) := by decide +kernel
theorem dY_settle_11 : decode prog_7_method_13_code 11 = .ok (.invokevirtual 162, 3) := by decide +kernel
theorem dY_settle_14 : decode prog_7_method_13_code 14 = .ok (.aload_n 0, 1) := by decide +kernel
theorem dY_settle_15 : decode prog_7_method_13_code 15 = .ok (.iload_n 2, 1) := by decide +kernel
theorem dY_settle_16 : decode prog_7_method_13_code 16 = .ok (.invokevirtual 165, 3) := by decide +kernel
theorem dY_settle_19 : decode prog_7_method_13_code 19 = .ok (.aload_n 0, 1) := by decide +kernel
theorem dY_settle_20 : decode prog_7_method_13_code 20 = .ok (.iload_n 1, 1) := by decide +kernel
theorem dY_settle_21 : decode prog_7_method_13_code 21 = .ok (.invokevirtual 169, 3) := by decide +kernel
theorem dY_settle_24 : decode prog_7_method_13_code 24 = .ok (.iconst 0, 1) := by decide +kernel
theorem dY_settle_25 : decode prog_7_method_13_code 25 = .ok (.istore_n 3, 1) := by decide +kernel
theorem dY_settle_26 : decode prog_7_method_13_code 26 = .ok (.aload_n 0, 1) := by decide +kernel
theorem dY_settle_27 : decode prog_7_method_13_code 27 = .ok (.getfield 12, 3) := by decide +kernel
theorem dY_settle_30 : decode prog_7_method_13_code 30 = .ok (.getfield 172, 3) := by decide +kernel
theorem dY_settle_33 : decode prog_7_method_13_code 33 = .ok (.iconst 1, 1) := by decide +kernel
theorem dY_settle_34 : decode prog_7_method_13_code 34 = .ok (.isub, 1) := by decide +kernel
theorem dY_settle_35 : decode prog_7_method_13_code 35 = .ok (.istore 4, 2) := by decide +kernel
theorem dY_settle_37 : decode prog_7_method_13_code 37 = .ok (.iload 4, 2) := by decide +kernel
theorem dY_settle_39 : decode prog_7_method_13_code 39 = .ok (.ifCond .lt 87, 3) := by decide +kernel
theorem dY_settle_42 : decode prog_7_method_13_code 42 = .ok (.aload_n 0, 1) := by decide +kernel
theorem dY_settle_43 : decode prog_7_method_13_code 43 = .ok (.getfield 12, 3) := by decide +kernel
theorem dY_settle_46 : decode prog_7_method_13_code 46 = .ok (.getfield 175, 3) := by decide +kernel
theorem dY_settle_49 : decode prog_7_method_13_code 49 = .ok (.iload 4, 2) := by decide +kernel
theorem dY_settle_51 : decode prog_7_method_13_code 51 = .ok (.iaload, 1) := by decide +kernel
theorem dY_settle_52 : decode prog_7_method_13_code 52 = .ok (.istore 5, 2) := by decide +kernel
theorem dY_settle_54 : decode prog_7_method_13_code 54 = .ok (.aload_n 0, 1) := by decide +kernel
theorem dY_settle_55 : decode prog_7_method_13_code 55 = .ok (.getfield 12, 3) := by decide +kernel
theorem dY_settle_58 : decode prog_7_method_13_code 58 = .ok (.getfield 178, 3) := by decide +kernel
theorem dY_settle_61 : decode prog_7_method_13_code 61 = .ok (.iload 5, 2) := by decide +kernel
theorem dY_settle_63 : decode prog_7_method_13_code 63 = .ok (.iaload, 1) := by decide +kernel
theorem dY_settle_64 : decode prog_7_method_13_code 64 = .ok (.ifCond .ne 6, 3) := by decide +kernel
theorem dY_settle_67 : decode prog_7_method_13_code 67 = .ok (.goto 53, 3) := by decide +kernel
theorem dY_settle_70 : decode prog_7_method_13_code 70 = .ok (.aload_n 0, 1) := by decide +kernel
theorem dY_settle_71 : decode prog_7_method_13_code 71 = .ok (.getfield 12, 3) := by decide +kernel
theorem dY_settle_74 : decode prog_7_method_13_code 74 = .ok (.iload 5, 2) := by decide +kernel
theorem dY_settle_76 : decode prog_7_method_13_code 76 = .ok (.invokevirtual 181, 3) := by decide +kernel
theorem dY_settle_79 : decode prog_7_method_13_code 79 = .ok (.ifCond .eq 25, 3) := by decide +kernel
theorem dY_settle_82 : decode prog_7_method_13_code 82 = .ok (.iload_n 3, 1) := by decide +kernel
theorem dY_settle_83 : decode prog_7_method_13_code 83 = .ok (.aload_n 0, 1) := by decide +kernel
theorem dY_settle_84 : decode prog_7_method_13_code 84 = .ok (.iload 5, 2) := by decide +kernel
theorem dY_settle_86 : decode prog_7_method_13_code 86 = .ok (.aload_n 0, 1) := by decide +kernel
theorem dY_settle_87 : decode prog_7_method_13_code 87 = .ok (.getfield 12, 3) := by decide +kernel
theorem dY_settle_90 : decode prog_7_method_13_code 90 = .ok (.getfield 178, 3) := by decide +kernel
theorem dY_settle_93 : decode prog_7_method_13_code 93 = .ok (.iload 5, 2) := by decide +kernel
theorem dY_settle_95 : decode prog_7_method_13_code 95 = .ok (.iaload, 1) := by decide +kernel
theorem dY_settle_96 : decode prog_7_method_13_code 96 = .ok (.invokevirtual 185, 3) := by decide +kernel
theorem dY_settle_99 : decode prog_7_method_13_code 99 = .ok (.iadd, 1) := by decide +kernel
theorem dY_settle_100 : decode prog_7_method_13_code 100 = .ok (.istore_n 3, 1) := by decide +kernel
theorem dY_settle_101 : decode prog_7_method_13_code 101 = .ok (.goto 19, 3) := by decide +kernel
theorem dY_settle_104 : decode prog_7_method_13_code 104 = .ok (.aload_n 0, 1) := by decide +kernel
theorem dY_settle_105 : decode prog_7_method_13_code 105 = .ok (.iload 5, 2) := by decide +kernel
theorem dY_settle_107 : decode prog_7_method_13_code 107 = .ok (.aload_n 0, 1) := by decide +kernel
theorem dY_settle_108 : decode prog_7_method_13_code 108 = .ok (.getfield 12, 3) := by decide +kernel
theorem dY_settle_111 : decode prog_7_method_13_code 111 = .ok (.getfield 178, 3) := by decide +kernel
theorem dY_settle_114 : decode prog_7_method_13_code 114 = .ok (.iload 5, 2) := by decide +kernel
theorem dY_settle_116 : decode prog_7_method_13_code 116 = .ok (.iaload, 1) := by decide +kernel
theorem dY_settle_117 : decode prog_7_method_13_code 117 = .ok (.invokevirtual 188, 3) := by decide +kernel
theorem dY_settle_120 : decode prog_7_method_13_code 120 = .ok (.iinc 4 (-1), 3) := by decide +kernel
theorem dY_settle_123 : decode prog_7_method_13_code 123 = .ok (.goto (-86), 3) := by decide +kernel
theorem dY_settle_126 : decode prog_7_method_13_code 126 = .ok (.iload_n 3, 1) := by decide +kernel
theorem dY_settle_127 : decode prog_7_method_13_code 127 = .ok (.ireturn, 1) := by decide +kernel
theorem dG_clear_0 : decode prog_4_method_2_code 0 = .ok (.aload_n 0, 1) := by decide +kernel
theorem dG_clear_1 : decode prog_4_method_2_code 1 = .ok (.iconst 0, 1) := by decide +kernel
theorem dG_clear_2 : decode prog_4_method_2_code 2 = .ok (.putfield 45, 3) := by decide +kernel
theorem dG_clear_5 : decode prog_4_method_2_code 5 = .ok (.aload_n 0, 1) := by decide +kernel
theorem dG_clear_6 : decode prog_4_method_2_code 6 = .ok (.iconst 0, 1) := by decide +kernel
theorem dG_clear_7 : decode prog_4_method_2_code 7 = .ok (.putfield 49, 3) := by decide +kernel
theorem dG_clear_10 : decode prog_4_method_2_code 10 = .ok (.return_, 1) := by decide +kernel
