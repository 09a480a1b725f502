theorem dM_infer_0 : decode prog_9_method_42_code 0 = .ok (.aload_n 0, 1) := by decide +kernel
theorem dM_infer_1 : decode prog_9_method_42_code 1 = .ok (.iconst 0, 1) := by decide +kernel
theorem dM_infer_2 : decode prog_9_method_42_code 2 = .ok (.putfield 176, 3) := by decide +kernel
theorem dM_infer_5 : decode prog_9_method_42_code 5 = .ok (.aload_n 0, 1) := by decide +kernel
theorem dM_infer_6 : decode prog_9_method_42_code 6 = .ok (.iload_n 1, 1) := by decide +kernel
theorem dM_infer_7 : decode prog_9_method_42_code 7 = .ok (.invokevirtual 217, 3) := by decide +kernel
theorem dM_infer_10 : decode prog_9_method_42_code 10 = .ok (.ifCond .ne 5, 3) := by decide +kernel
theorem dM_infer_13 : decode prog_9_method_42_code 13 = .ok (.iconst (-1), 1) := by decide +kernel
theorem dM_infer_14 : decode prog_9_method_42_code 14 = .ok (.ireturn, 1) := by decide +kernel
theorem dM_infer_15 : decode prog_9_method_42_code 15 = .ok (.aload_n 0, 1) := by decide +kernel
theorem dM_infer_16 : decode prog_9_method_42_code 16 = .ok (.getfield 57, 3) := by decide +kernel
theorem dM_infer_19 : decode prog_9_method_42_code 19 = .ok (.iload_n 1, 1) := by decide +kernel
theorem dM_infer_20 : decode prog_9_method_42_code 20 = .ok (.iaload, 1) := by decide +kernel
theorem dM_infer_21 : decode prog_9_method_42_code 21 = .ok (.bipush 24, 2) := by decide +kernel
theorem dM_infer_23 : decode prog_9_method_42_code 23 = .ok (.if_icmp .le 6, 3) := by decide +kernel
theorem dM_infer_26 : decode prog_9_method_42_code 26 = .ok (.bipush (-3), 2) := by decide +kernel
theorem dM_infer_28 : decode prog_9_method_42_code 28 = .ok (.ireturn, 1) := by decide +kernel
theorem dM_infer_29 : decode prog_9_method_42_code 29 = .ok (.aload_n 0, 1) := by decide +kernel
theorem dM_infer_30 : decode prog_9_method_42_code 30 = .ok (.iconst 0, 1) := by decide +kernel
theorem dM_infer_31 : decode prog_9_method_42_code 31 = .ok (.putfield 231, 3) := by decide +kernel
theorem dM_infer_34 : decode prog_9_method_42_code 34 = .ok (.aload_n 0, 1) := by decide +kernel
theorem dM_infer_35 : decode prog_9_method_42_code 35 = .ok (.iconst 0, 1) := by decide +kernel
theorem dM_infer_36 : decode prog_9_method_42_code 36 = .ok (.putfield 247, 3) := by decide +kernel
theorem dM_infer_39 : decode prog_9_method_42_code 39 = .ok (.aload_n 0, 1) := by decide +kernel
theorem dM_infer_40 : decode prog_9_method_42_code 40 = .ok (.iconst 0, 1) := by decide +kernel
theorem dM_infer_41 : decode prog_9_method_42_code 41 = .ok (.putfield 257, 3) := by decide +kernel
theorem dM_infer_44 : decode prog_9_method_42_code 44 = .ok (.aload_n 0, 1) := by decide +kernel
theorem dM_infer_45 : decode prog_9_method_42_code 45 = .ok (.iconst 0, 1) := by decide +kernel
theorem dM_infer_46 : decode prog_9_method_42_code 46 = .ok (.putfield 282, 3) := by decide +kernel
theorem dM_infer_49 : decode prog_9_method_42_code 49 = .ok (.aload_n 0, 1) := by decide +kernel
theorem dM_infer_50 : decode prog_9_method_42_code 50 = .ok (.iconst 0, 1) := by decide +kernel
theorem dM_infer_51 : decode prog_9_method_42_code 51 = .ok (.putfield 237, 3) := by decide +kernel
theorem dM_infer_54 : decode prog_9_method_42_code 54 = .ok (.aload_n 0, 1) := by decide +kernel
theorem dM_infer_55 : decode prog_9_method_42_code 55 = .ok (.iconst 0, 1) := by decide +kernel
theorem dM_infer_56 : decode prog_9_method_42_code 56 = .ok (.putfield 260, 3) := by decide +kernel
theorem dM_infer_59 : decode prog_9_method_42_code 59 = .ok (.aload_n 0, 1) := by decide +kernel
theorem dM_infer_60 : decode prog_9_method_42_code 60 = .ok (.iconst 0, 1) := by decide +kernel
theorem dM_infer_61 : decode prog_9_method_42_code 61 = .ok (.putfield 288, 3) := by decide +kernel
theorem dM_infer_64 : decode prog_9_method_42_code 64 = .ok (.aload_n 0, 1) := by decide +kernel
theorem dM_infer_65 : decode prog_9_method_42_code 65 = .ok (.iconst 0, 1) := by decide +kernel
theorem dM_infer_66 : decode prog_9_method_42_code 66 = .ok (.putfield 294, 3) := by decide +kernel
theorem dM_infer_69 : decode prog_9_method_42_code 69 = .ok (.aload_n 0, 1) := by decide +kernel
theorem dM_infer_70 : decode prog_9_method_42_code 70 = .ok (.iload_n 1, 1) := by decide +kernel
theorem dM_infer_71 : decode prog_9_method_42_code 71 = .ok (.invokevirtual 325, 3) := by decide +kernel
theorem dM_infer_74 : decode prog_9_method_42_code 74 = .ok (.aload_n 0, 1) := by decide +kernel
theorem dM_infer_75 : decode prog_9_method_42_code 75 = .ok (.invokevirtual 328, 3) := by decide +kernel
theorem dM_infer_78 : decode prog_9_method_42_code 78 = .ok (.aload_n 0, 1) := by decide +kernel
theorem dM_infer_79 : decode prog_9_method_42_code 79 = .ok (.invokevirtual 266, 3) := by decide +kernel
theorem dM_infer_82 : decode prog_9_method_42_code 82 = .ok (.aload_n 0, 1) := by decide +kernel
theorem dM_infer_83 : decode prog_9_method_42_code 83 = .ok (.getfield 237, 3) := by decide +kernel
theorem dM_infer_86 : decode prog_9_method_42_code 86 = .ok (.ifCond .eq 6, 3) := by decide +kernel
theorem dM_infer_89 : decode prog_9_method_42_code 89 = .ok (.bipush (-2), 2) := by decide +kernel
theorem dM_infer_91 : decode prog_9_method_42_code 91 = .ok (.ireturn, 1) := by decide +kernel
theorem dM_infer_92 : decode prog_9_method_42_code 92 = .ok (.aload_n 0, 1) := by decide +kernel
theorem dM_infer_93 : decode prog_9_method_42_code 93 = .ok (.iconst 0, 1) := by decide +kernel
theorem dM_infer_94 : decode prog_9_method_42_code 94 = .ok (.invokevirtual 269, 3) := by decide +kernel
theorem dM_infer_97 : decode prog_9_method_42_code 97 = .ok (.aload_n 0, 1) := by decide +kernel
theorem dM_infer_98 : decode prog_9_method_42_code 98 = .ok (.invokevirtual 272, 3) := by decide +kernel
theorem dM_infer_101 : decode prog_9_method_42_code 101 = .ok (.aload_n 0, 1) := by decide +kernel
theorem dM_infer_102 : decode prog_9_method_42_code 102 = .ok (.iconst 0, 1) := by decide +kernel
theorem dM_infer_103 : decode prog_9_method_42_code 103 = .ok (.putfield 250, 3) := by decide +kernel
theorem dM_infer_106 : decode prog_9_method_42_code 106 = .ok (.aload_n 0, 1) := by decide +kernel
theorem dM_infer_107 : decode prog_9_method_42_code 107 = .ok (.dup, 1) := by decide +kernel
theorem dM_infer_108 : decode prog_9_method_42_code 108 = .ok (.getfield 247, 3) := by decide +kernel
theorem dM_infer_111 : decode prog_9_method_42_code 111 = .ok (.iconst 1, 1) := by decide +kernel
theorem dM_infer_112 : decode prog_9_method_42_code 112 = .ok (.iadd, 1) := by decide +kernel
theorem dM_infer_113 : decode prog_9_method_42_code 113 = .ok (.putfield 247, 3) := by decide +kernel
theorem dM_infer_116 : decode prog_9_method_42_code 116 = .ok (.aload_n 0, 1) := by decide +kernel
theorem dM_infer_117 : decode prog_9_method_42_code 117 = .ok (.aload_n 0, 1) := by decide +kernel
theorem dM_infer_118 : decode prog_9_method_42_code 118 = .ok (.getfield 75, 3) := by decide +kernel
theorem dM_infer_121 : decode prog_9_method_42_code 121 = .ok (.iconst 0, 1) := by decide +kernel
theorem dM_infer_122 : decode prog_9_method_42_code 122 = .ok (.iaload, 1) := by decide +kernel
theorem dM_infer_123 : decode prog_9_method_42_code 123 = .ok (.invokevirtual 275, 3) := by decide +kernel
theorem dM_infer_126 : decode prog_9_method_42_code 126 = .ok (.iconst 0, 1) := by decide +kernel
theorem dM_infer_127 : decode prog_9_method_42_code 127 = .ok (.istore_n 2, 1) := by decide +kernel
theorem dM_infer_128 : decode prog_9_method_42_code 128 = .ok (.iload_n 2, 1) := by decide +kernel
theorem dM_infer_129 : decode prog_9_method_42_code 129 = .ok (.aload_n 0, 1) := by decide +kernel
theorem dM_infer_130 : decode prog_9_method_42_code 130 = .ok (.getfield 263, 3) := by decide +kernel
theorem dM_infer_133 : decode prog_9_method_42_code 133 = .ok (.if_icmp .ge 43, 3) := by decide +kernel
theorem dM_infer_136 : decode prog_9_method_42_code 136 = .ok (.aload_n 0, 1) := by decide +kernel
theorem dM_infer_137 : decode prog_9_method_42_code 137 = .ok (.aload_n 0, 1) := by decide +kernel
theorem dM_infer_138 : decode prog_9_method_42_code 138 = .ok (.getfield 288, 3) := by decide +kernel
theorem dM_infer_141 : decode prog_9_method_42_code 141 = .ok (.ifCond .ne 21, 3) := by decide +kernel
theorem dM_infer_144 : decode prog_9_method_42_code 144 = .ok (.aload_n 0, 1) := by decide +kernel
theorem dM_infer_145 : decode prog_9_method_42_code 145 = .ok (.getfield 115, 3) := by decide +kernel
theorem dM_infer_148 : decode prog_9_method_42_code 148 = .ok (.aload_n 0, 1) := by decide +kernel
theorem dM_infer_149 : decode prog_9_method_42_code 149 = .ok (.getfield 170, 3) := by decide +kernel
theorem dM_infer_152 : decode prog_9_method_42_code 152 = .ok (.iload_n 2, 1) := by decide +kernel
theorem dM_infer_153 : decode prog_9_method_42_code 153 = .ok (.iaload, 1) := by decide +kernel
theorem dM_infer_154 : decode prog_9_method_42_code 154 = .ok (.iaload, 1) := by decide +kernel
theorem dM_infer_155 : decode prog_9_method_42_code 155 = .ok (.aload_n 0, 1) := by decide +kernel
theorem dM_infer_156 : decode prog_9_method_42_code 156 = .ok (.getfield 247, 3) := by decide +kernel
theorem dM_infer_159 : decode prog_9_method_42_code 159 = .ok (.if_icmp .eq 7, 3) := by decide +kernel
theorem dM_infer_162 : decode prog_9_method_42_code 162 = .ok (.iconst 1, 1) := by decide +kernel
theorem dM_infer_163 : decode prog_9_method_42_code 163 = .ok (.goto 4, 3) := by decide +kernel
theorem dM_infer_166 : decode prog_9_method_42_code 166 = .ok (.iconst 0, 1) := by decide +kernel
theorem dM_infer_167 : decode prog_9_method_42_code 167 = .ok (.putfield 288, 3) := by decide +kernel
theorem dM_infer_170 : decode prog_9_method_42_code 170 = .ok (.iinc 2 1, 3) := by decide +kernel
theorem dM_infer_173 : decode prog_9_method_42_code 173 = .ok (.goto (-45), 3) := by decide +kernel
theorem dM_infer_176 : decode prog_9_method_42_code 176 = .ok (.aload_n 0, 1) := by decide +kernel
theorem dM_infer_177 : decode prog_9_method_42_code 177 = .ok (.getfield 260, 3) := by decide +kernel
theorem dM_infer_180 : decode prog_9_method_42_code 180 = .ok (.ifCond .eq 6, 3) := by decide +kernel
theorem dM_infer_183 : decode prog_9_method_42_code 183 = .ok (.bipush (-4), 2) := by decide +kernel
theorem dM_infer_185 : decode prog_9_method_42_code 185 = .ok (.ireturn, 1) := by decide +kernel
theorem dM_infer_186 : decode prog_9_method_42_code 186 = .ok (.aload_n 0, 1) := by decide +kernel
theorem dM_infer_187 : decode prog_9_method_42_code 187 = .ok (.getfield 288, 3) := by decide +kernel
theorem dM_infer_190 : decode prog_9_method_42_code 190 = .ok (.ifCond .eq 6, 3) := by decide +kernel
theorem dM_infer_193 : decode prog_9_method_42_code 193 = .ok (.bipush (-5), 2) := by decide +kernel
theorem dM_infer_195 : decode prog_9_method_42_code 195 = .ok (.ireturn, 1) := by decide +kernel
theorem dM_infer_196 : decode prog_9_method_42_code 196 = .ok (.aload_n 0, 1) := by decide +kernel
theorem dM_infer_197 : decode prog_9_method_42_code 197 = .ok (.invokevirtual 331, 3) := by decide +kernel
theorem dM_infer_200 : decode prog_9_method_42_code 200 = .ok (.aload_n 0, 1) := by decide +kernel
theorem dM_infer_201 : decode prog_9_method_42_code 201 = .ok (.getfield 158, 3) := by decide +kernel
theorem dM_infer_204 : decode prog_9_method_42_code 204 = .ok (.aload_n 0, 1) := by decide +kernel
theorem dM_infer_205 : decode prog_9_method_42_code 205 = .ok (.getfield 334, 3) := by decide +kernel
theorem dM_infer_208 : decode prog_9_method_42_code 208 = .ok (.iaload, 1) := by decide +kernel
theorem dM_infer_209 : decode prog_9_method_42_code 209 = .ok (.ireturn, 1) := by decide +kernel
theorem dM_sum_0 : decode prog_9_method_43_code 0 = .ok (.iload_n 0, 1) := by decide +kernel
theorem dM_sum_1 : decode prog_9_method_43_code 1 = .ok (.iload_n 1, 1) := by decide +kernel
theorem dM_sum_2 : decode prog_9_method_43_code 2 = .ok (.iadd, 1) := by decide +kernel
theorem dM_sum_3 : decode prog_9_method_43_code 3 = .ok (.ldc_w 337, 3) := by decide +kernel
theorem dM_sum_6 : decode prog_9_method_43_code 6 = .ok (.if_icmp .le 9, 3) := by decide +kernel
theorem dM_sum_9 : decode prog_9_method_43_code 9 = .ok (.ldc_w 337, 3) := by decide +kernel
theorem dM_sum_12 : decode prog_9_method_43_code 12 = .ok (.goto 6, 3) := by decide +kernel
theorem dM_sum_15 : decode prog_9_method_43_code 15 = .ok (.iload_n 0, 1) := by decide +kernel
theorem dM_sum_16 : decode prog_9_method_43_code 16 = .ok (.iload_n 1, 1) := by decide +kernel
theorem dM_sum_17 : decode prog_9_method_43_code 17 = .ok (.iadd, 1) := by decide +kernel
theorem dM_sum_18 : decode prog_9_method_43_code 18 = .ok (.ireturn, 1) := by decide +kernel
theorem dM_keep_0 : decode prog_9_method_44_code 0 = .ok (.aload_n 0, 1) := by decide +kernel
theorem dM_keep_1 : decode prog_9_method_44_code 1 = .ok (.aload_n 0, 1) := by decide +kernel
theorem dM_keep_2 : decode prog_9_method_44_code 2 = .ok (.aload_n 0, 1) := by decide +kernel
theorem dM_keep_3 : decode prog_9_method_44_code 3 = .ok (.getfield 75, 3) := by decide +kernel
theorem dM_keep_6 : decode prog_9_method_44_code 6 = .ok (.iconst 0, 1) := by decide +kernel
theorem dM_keep_7 : decode prog_9_method_44_code 7 = .ok (.iaload, 1) := by decide +kernel
theorem dM_keep_8 : decode prog_9_method_44_code 8 = .ok (.invokevirtual 241, 3) := by decide +kernel
theorem dM_keep_11 : decode prog_9_method_44_code 11 = .ok (.putfield 334, 3) := by decide +kernel
theorem dM_keep_14 : decode prog_9_method_44_code 14 = .ok (.iconst 0, 1) := by decide +kernel
theorem dM_keep_15 : decode prog_9_method_44_code 15 = .ok (.istore_n 1, 1) := by decide +kernel
theorem dM_keep_16 : decode prog_9_method_44_code 16 = .ok (.iload_n 1, 1) := by decide +kernel
theorem dM_keep_17 : decode prog_9_method_44_code 17 = .ok (.aload_n 0, 1) := by decide +kernel
theorem dM_keep_18 : decode prog_9_method_44_code 18 = .ok (.getfield 250, 3) := by decide +kernel
theorem dM_keep_21 : decode prog_9_method_44_code 21 = .ok (.if_icmp .ge 93, 3) := by decide +kernel
theorem dM_keep_24 : decode prog_9_method_44_code 24 = .ok (.aload_n 0, 1) := by decide +kernel
theorem dM_keep_25 : decode prog_9_method_44_code 25 = .ok (.getfield 134, 3) := by decide +kernel
theorem dM_keep_28 : decode prog_9_method_44_code 28 = .ok (.iload_n 1, 1) := by decide +kernel
theorem dM_keep_29 : decode prog_9_method_44_code 29 = .ok (.iaload, 1) := by decide +kernel
theorem dM_keep_30 : decode prog_9_method_44_code 30 = .ok (.istore_n 2, 1) := by decide +kernel
theorem dM_keep_31 : decode prog_9_method_44_code 31 = .ok (.aload_n 0, 1) := by decide +kernel
theorem dM_keep_32 : decode prog_9_method_44_code 32 = .ok (.getfield 149, 3) := by decide +kernel
theorem dM_keep_35 : decode prog_9_method_44_code 35 = .ok (.iload_n 2, 1) := by decide +kernel
theorem dM_keep_36 : decode prog_9_method_44_code 36 = .ok (.aload_n 0, 1) := by decide +kernel
theorem dM_keep_37 : decode prog_9_method_44_code 37 = .ok (.getfield 106, 3) := by decide +kernel
theorem dM_keep_40 : decode prog_9_method_44_code 40 = .ok (.iload_n 2, 1) := by decide +kernel
theorem dM_keep_41 : decode prog_9_method_44_code 41 = .ok (.iaload, 1) := by decide +kernel
theorem dM_keep_42 : decode prog_9_method_44_code 42 = .ok (.iastore, 1) := by decide +kernel
theorem dM_keep_43 : decode prog_9_method_44_code 43 = .ok (.aload_n 0, 1) := by decide +kernel
theorem dM_keep_44 : decode prog_9_method_44_code 44 = .ok (.getfield 152, 3) := by decide +kernel
theorem dM_keep_47 : decode prog_9_method_44_code 47 = .ok (.iload_n 2, 1) := by decide +kernel
theorem dM_keep_48 : decode prog_9_method_44_code 48 = .ok (.aload_n 0, 1) := by decide +kernel
theorem dM_keep_49 : decode prog_9_method_44_code 49 = .ok (.getfield 109, 3) := by decide +kernel
theorem dM_keep_52 : decode prog_9_method_44_code 52 = .ok (.iload_n 2, 1) := by decide +kernel
theorem dM_keep_53 : decode prog_9_method_44_code 53 = .ok (.iaload, 1) := by decide +kernel
theorem dM_keep_54 : decode prog_9_method_44_code 54 = .ok (.ifCond .ge 7, 3) := by decide +kernel
theorem dM_keep_57 : decode prog_9_method_44_code 57 = .ok (.iconst (-1), 1) := by decide +kernel
theorem dM_keep_58 : decode prog_9_method_44_code 58 = .ok (.goto 13, 3) := by decide +kernel
theorem dM_keep_61 : decode prog_9_method_44_code 61 = .ok (.aload_n 0, 1) := by decide +kernel
theorem dM_keep_62 : decode prog_9_method_44_code 62 = .ok (.aload_n 0, 1) := by decide +kernel
theorem dM_keep_63 : decode prog_9_method_44_code 63 = .ok (.getfield 109, 3) := by decide +kernel
theorem dM_keep_66 : decode prog_9_method_44_code 66 = .ok (.iload_n 2, 1) := by decide +kernel
theorem dM_keep_67 : decode prog_9_method_44_code 67 = .ok (.iaload, 1) := by decide +kernel
theorem dM_keep_68 : decode prog_9_method_44_code 68 = .ok (.invokevirtual 241, 3) := by decide +kernel
theorem dM_keep_71 : decode prog_9_method_44_code 71 = .ok (.iastore, 1) := by decide +kernel
theorem dM_keep_72 : decode prog_9_method_44_code 72 = .ok (.aload_n 0, 1) := by decide +kernel
theorem dM_keep_73 : decode prog_9_method_44_code 73 = .ok (.getfield 155, 3) := by decide +kernel
theorem dM_keep_76 : decode prog_9_method_44_code 76 = .ok (.iload_n 2, 1) := by decide +kernel
theorem dM_keep_77 : decode prog_9_method_44_code 77 = .ok (.aload_n 0, 1) := by decide +kernel
theorem dM_keep_78 : decode prog_9_method_44_code 78 = .ok (.getfield 112, 3) := by decide +kernel
theorem dM_keep_81 : decode prog_9_method_44_code 81 = .ok (.iload_n 2, 1) := by decide +kernel
theorem dM_keep_82 : decode prog_9_method_44_code 82 = .ok (.iaload, 1) := by decide +kernel
theorem dM_keep_83 : decode prog_9_method_44_code 83 = .ok (.ifCond .ge 7, 3) := by decide +kernel
theorem dM_keep_86 : decode prog_9_method_44_code 86 = .ok (.iconst (-1), 1) := by decide +kernel
theorem dM_keep_87 : decode prog_9_method_44_code 87 = .ok (.goto 13, 3) := by decide +kernel
theorem dM_keep_90 : decode prog_9_method_44_code 90 = .ok (.aload_n 0, 1) := by decide +kernel
theorem dM_keep_91 : decode prog_9_method_44_code 91 = .ok (.aload_n 0, 1) := by decide +kernel
theorem dM_keep_92 : decode prog_9_method_44_code 92 = .ok (.getfield 112, 3) := by decide +kernel
theorem dM_keep_95 : decode prog_9_method_44_code 95 = .ok (.iload_n 2, 1) := by decide +kernel
theorem dM_keep_96 : decode prog_9_method_44_code 96 = .ok (.iaload, 1) := by decide +kernel
theorem dM_keep_97 : decode prog_9_method_44_code 97 = .ok (.invokevirtual 241, 3) := by decide +kernel
theorem dM_keep_100 : decode prog_9_method_44_code 100 = .ok (.iastore, 1) := by decide +kernel
theorem dM_keep_101 : decode prog_9_method_44_code 101 = .ok (.aload_n 0, 1) := by decide +kernel
theorem dM_keep_102 : decode prog_9_method_44_code 102 = .ok (.getfield 158, 3) := by decide +kernel
theorem dM_keep_105 : decode prog_9_method_44_code 105 = .ok (.iload_n 2, 1) := by decide +kernel
theorem dM_keep_106 : decode prog_9_method_44_code 106 = .ok (.iconst 0, 1) := by decide +kernel
theorem dM_keep_107 : decode prog_9_method_44_code 107 = .ok (.iastore, 1) := by decide +kernel
theorem dM_keep_108 : decode prog_9_method_44_code 108 = .ok (.iinc 1 1, 3) := by decide +kernel
theorem dM_keep_111 : decode prog_9_method_44_code 111 = .ok (.goto (-95), 3) := by decide +kernel
theorem dM_keep_114 : decode prog_9_method_44_code 114 = .ok (.iconst 1, 1) := by decide +kernel
theorem dM_keep_115 : decode prog_9_method_44_code 115 = .ok (.istore_n 1, 1) := by decide +kernel
theorem dM_keep_116 : decode prog_9_method_44_code 116 = .ok (.iload_n 1, 1) := by decide +kernel
theorem dM_keep_117 : decode prog_9_method_44_code 117 = .ok (.ifCond .eq 151, 3) := by decide +kernel
theorem dM_keep_120 : decode prog_9_method_44_code 120 = .ok (.iconst 0, 1) := by decide +kernel
theorem dM_keep_121 : decode prog_9_method_44_code 121 = .ok (.istore_n 1, 1) := by decide +kernel
theorem dM_keep_122 : decode prog_9_method_44_code 122 = .ok (.iconst 0, 1) := by decide +kernel
theorem dM_keep_123 : decode prog_9_method_44_code 123 = .ok (.istore_n 2, 1) := by decide +kernel
theorem dM_keep_124 : decode prog_9_method_44_code 124 = .ok (.iload_n 2, 1) := by decide +kernel
theorem dM_keep_125 : decode prog_9_method_44_code 125 = .ok (.aload_n 0, 1) := by decide +kernel
theorem dM_keep_126 : decode prog_9_method_44_code 126 = .ok (.getfield 250, 3) := by decide +kernel
theorem dM_keep_129 : decode prog_9_method_44_code 129 = .ok (.if_icmp .ge 136, 3) := by decide +kernel
theorem dM_keep_132 : decode prog_9_method_44_code 132 = .ok (.aload_n 0, 1) := by decide +kernel
theorem dM_keep_133 : decode prog_9_method_44_code 133 = .ok (.getfield 134, 3) := by decide +kernel
theorem dM_keep_136 : decode prog_9_method_44_code 136 = .ok (.iload_n 2, 1) := by decide +kernel
theorem dM_keep_137 : decode prog_9_method_44_code 137 = .ok (.iaload, 1) := by decide +kernel
theorem dM_keep_138 : decode prog_9_method_44_code 138 = .ok (.istore_n 3, 1) := by decide +kernel
theorem dM_keep_139 : decode prog_9_method_44_code 139 = .ok (.aload_n 0, 1) := by decide +kernel
theorem dM_keep_140 : decode prog_9_method_44_code 140 = .ok (.getfield 152, 3) := by decide +kernel
theorem dM_keep_143 : decode prog_9_method_44_code 143 = .ok (.iload_n 3, 1) := by decide +kernel
theorem dM_keep_144 : decode prog_9_method_44_code 144 = .ok (.iaload, 1) := by decide +kernel
theorem dM_keep_145 : decode prog_9_method_44_code 145 = .ok (.ifCond .ge 7, 3) := by decide +kernel
theorem dM_keep_148 : decode prog_9_method_44_code 148 = .ok (.iconst 0, 1) := by decide +kernel
theorem dM_keep_149 : decode prog_9_method_44_code 149 = .ok (.goto 14, 3) := by decide +kernel
theorem dM_keep_152 : decode prog_9_method_44_code 152 = .ok (.aload_n 0, 1) := by decide +kernel
theorem dM_keep_153 : decode prog_9_method_44_code 153 = .ok (.getfield 158, 3) := by decide +kernel
theorem dM_keep_156 : decode prog_9_method_44_code 156 = .ok (.aload_n 0, 1) := by decide +kernel
theorem dM_keep_157 : decode prog_9_method_44_code 157 = .ok (.getfield 152, 3) := by decide +kernel
theorem dM_keep_160 : decode prog_9_method_44_code 160 = .ok (.iload_n 3, 1) := by decide +kernel
theorem dM_keep_161 : decode prog_9_method_44_code 161 = .ok (.iaload, 1) := by decide +kernel
theorem dM_keep_162 : decode prog_9_method_44_code 162 = .ok (.iaload, 1) := by decide +kernel
theorem dM_keep_163 : decode prog_9_method_44_code 163 = .ok (.istore 4, 2) := by decide +kernel
theorem dM_keep_165 : decode prog_9_method_44_code 165 = .ok (.aload_n 0, 1) := by decide +kernel
theorem dM_keep_166 : decode prog_9_method_44_code 166 = .ok (.getfield 155, 3) := by decide +kernel
theorem dM_keep_169 : decode prog_9_method_44_code 169 = .ok (.iload_n 3, 1) := by decide +kernel
theorem dM_keep_170 : decode prog_9_method_44_code 170 = .ok (.iaload, 1) := by decide +kernel
theorem dM_keep_171 : decode prog_9_method_44_code 171 = .ok (.ifCond .ge 7, 3) := by decide +kernel
theorem dM_keep_174 : decode prog_9_method_44_code 174 = .ok (.iconst 0, 1) := by decide +kernel
theorem dM_keep_175 : decode prog_9_method_44_code 175 = .ok (.goto 14, 3) := by decide +kernel
theorem dM_keep_178 : decode prog_9_method_44_code 178 = .ok (.aload_n 0, 1) := by decide +kernel
theorem dM_keep_179 : decode prog_9_method_44_code 179 = .ok (.getfield 158, 3) := by decide +kernel
theorem dM_keep_182 : decode prog_9_method_44_code 182 = .ok (.aload_n 0, 1) := by decide +kernel
theorem dM_keep_183 : decode prog_9_method_44_code 183 = .ok (.getfield 155, 3) := by decide +kernel
theorem dM_keep_186 : decode prog_9_method_44_code 186 = .ok (.iload_n 3, 1) := by decide +kernel
theorem dM_keep_187 : decode prog_9_method_44_code 187 = .ok (.iaload, 1) := by decide +kernel
theorem dM_keep_188 : decode prog_9_method_44_code 188 = .ok (.iaload, 1) := by decide +kernel
theorem dM_keep_189 : decode prog_9_method_44_code 189 = .ok (.istore 5, 2) := by decide +kernel
theorem dM_keep_191 : decode prog_9_method_44_code 191 = .ok (.aload_n 0, 1) := by decide +kernel
theorem dM_keep_192 : decode prog_9_method_44_code 192 = .ok (.getfield 152, 3) := by decide +kernel
theorem dM_keep_195 : decode prog_9_method_44_code 195 = .ok (.iload_n 3, 1) := by decide +kernel
theorem dM_keep_196 : decode prog_9_method_44_code 196 = .ok (.iaload, 1) := by decide +kernel
theorem dM_keep_197 : decode prog_9_method_44_code 197 = .ok (.ifCond .lt 8, 3) := by decide +kernel
theorem dM_keep_200 : decode prog_9_method_44_code 200 = .ok (.iload 4, 2) := by decide +kernel
theorem dM_keep_202 : decode prog_9_method_44_code 202 = .ok (.ifCond .le 21, 3) := by decide +kernel
theorem dM_keep_205 : decode prog_9_method_44_code 205 = .ok (.aload_n 0, 1) := by decide +kernel
theorem dM_keep_206 : decode prog_9_method_44_code 206 = .ok (.getfield 155, 3) := by decide +kernel
theorem dM_keep_209 : decode prog_9_method_44_code 209 = .ok (.iload_n 3, 1) := by decide +kernel
theorem dM_keep_210 : decode prog_9_method_44_code 210 = .ok (.iaload, 1) := by decide +kernel
theorem dM_keep_211 : decode prog_9_method_44_code 211 = .ok (.ifCond .lt 8, 3) := by decide +kernel
theorem dM_keep_214 : decode prog_9_method_44_code 214 = .ok (.iload 5, 2) := by decide +kernel
theorem dM_keep_216 : decode prog_9_method_44_code 216 = .ok (.ifCond .le 7, 3) := by decide +kernel
theorem dM_keep_219 : decode prog_9_method_44_code 219 = .ok (.iconst 1, 1) := by decide +kernel
theorem dM_keep_220 : decode prog_9_method_44_code 220 = .ok (.goto 4, 3) := by decide +kernel
theorem dM_keep_223 : decode prog_9_method_44_code 223 = .ok (.iconst 0, 1) := by decide +kernel
theorem dM_keep_224 : decode prog_9_method_44_code 224 = .ok (.istore 6, 2) := by decide +kernel
theorem dM_keep_226 : decode prog_9_method_44_code 226 = .ok (.aload_n 0, 1) := by decide +kernel
theorem dM_keep_227 : decode prog_9_method_44_code 227 = .ok (.getfield 158, 3) := by decide +kernel
theorem dM_keep_230 : decode prog_9_method_44_code 230 = .ok (.iload_n 3, 1) := by decide +kernel
theorem dM_keep_231 : decode prog_9_method_44_code 231 = .ok (.iaload, 1) := by decide +kernel
theorem dM_keep_232 : decode prog_9_method_44_code 232 = .ok (.ifCond .ne 27, 3) := by decide +kernel
theorem dM_keep_235 : decode prog_9_method_44_code 235 = .ok (.iload 6, 2) := by decide +kernel
theorem dM_keep_237 : decode prog_9_method_44_code 237 = .ok (.ifCond .eq 22, 3) := by decide +kernel
theorem dM_keep_240 : decode prog_9_method_44_code 240 = .ok (.aload_n 0, 1) := by decide +kernel
theorem dM_keep_241 : decode prog_9_method_44_code 241 = .ok (.getfield 158, 3) := by decide +kernel
theorem dM_keep_244 : decode prog_9_method_44_code 244 = .ok (.iload_n 3, 1) := by decide +kernel
theorem dM_keep_245 : decode prog_9_method_44_code 245 = .ok (.iconst 1, 1) := by decide +kernel
theorem dM_keep_246 : decode prog_9_method_44_code 246 = .ok (.iload 4, 2) := by decide +kernel
theorem dM_keep_248 : decode prog_9_method_44_code 248 = .ok (.iload 5, 2) := by decide +kernel
theorem dM_keep_250 : decode prog_9_method_44_code 250 = .ok (.invokestatic 338, 3) := by decide +kernel
theorem dM_keep_253 : decode prog_9_method_44_code 253 = .ok (.invokestatic 338, 3) := by decide +kernel
theorem dM_keep_256 : decode prog_9_method_44_code 256 = .ok (.iastore, 1) := by decide +kernel
theorem dM_keep_257 : decode prog_9_method_44_code 257 = .ok (.iconst 1, 1) := by decide +kernel
theorem dM_keep_258 : decode prog_9_method_44_code 258 = .ok (.istore_n 1, 1) := by decide +kernel
theorem dM_keep_259 : decode prog_9_method_44_code 259 = .ok (.iinc 2 1, 3) := by decide +kernel
theorem dM_keep_262 : decode prog_9_method_44_code 262 = .ok (.goto (-138), 3) := by decide +kernel
theorem dM_keep_265 : decode prog_9_method_44_code 265 = .ok (.goto (-149), 3) := by decide +kernel
theorem dM_keep_268 : decode prog_9_method_44_code 268 = .ok (.aload_n 0, 1) := by decide +kernel
theorem dM_keep_269 : decode prog_9_method_44_code 269 = .ok (.invokevirtual 341, 3) := by decide +kernel
theorem dM_keep_272 : decode prog_9_method_44_code 272 = .ok (.aload_n 0, 1) := by decide +kernel
theorem dM_keep_273 : decode prog_9_method_44_code 273 = .ok (.aload_n 0, 1) := by decide +kernel
theorem dM_keep_274 : decode prog_9_method_44_code 274 = .ok (.getfield 294, 3) := by decide +kernel
theorem dM_keep_277 : decode prog_9_method_44_code 277 = .ok (.putfield 344, 3) := by decide +kernel
theorem dM_keep_280 : decode prog_9_method_44_code 280 = .ok (.aload_n 0, 1) := by decide +kernel
theorem dM_keep_281 : decode prog_9_method_44_code 281 = .ok (.iconst 0, 1) := by decide +kernel
theorem dM_keep_282 : decode prog_9_method_44_code 282 = .ok (.putfield 347, 3) := by decide +kernel
theorem dM_keep_285 : decode prog_9_method_44_code 285 = .ok (.iconst 0, 1) := by decide +kernel
theorem dM_keep_286 : decode prog_9_method_44_code 286 = .ok (.istore_n 2, 1) := by decide +kernel
theorem dM_keep_287 : decode prog_9_method_44_code 287 = .ok (.iload_n 2, 1) := by decide +kernel
theorem dM_keep_288 : decode prog_9_method_44_code 288 = .ok (.aload_n 0, 1) := by decide +kernel
theorem dM_keep_289 : decode prog_9_method_44_code 289 = .ok (.getfield 350, 3) := by decide +kernel
theorem dM_keep_292 : decode prog_9_method_44_code 292 = .ok (.if_icmp .ge 116, 3) := by decide +kernel
theorem dM_keep_295 : decode prog_9_method_44_code 295 = .ok (.iconst 0, 1) := by decide +kernel
theorem dM_keep_296 : decode prog_9_method_44_code 296 = .ok (.istore_n 3, 1) := by decide +kernel
theorem dM_keep_297 : decode prog_9_method_44_code 297 = .ok (.iload_n 3, 1) := by decide +kernel
theorem dM_keep_298 : decode prog_9_method_44_code 298 = .ok (.aload_n 0, 1) := by decide +kernel
theorem dM_keep_299 : decode prog_9_method_44_code 299 = .ok (.getfield 263, 3) := by decide +kernel
theorem dM_keep_302 : decode prog_9_method_44_code 302 = .ok (.if_icmp .ge 100, 3) := by decide +kernel
theorem dM_keep_305 : decode prog_9_method_44_code 305 = .ok (.aload_n 0, 1) := by decide +kernel
theorem dM_keep_306 : decode prog_9_method_44_code 306 = .ok (.getfield 167, 3) := by decide +kernel
theorem dM_keep_309 : decode prog_9_method_44_code 309 = .ok (.aload_n 0, 1) := by decide +kernel
theorem dM_keep_310 : decode prog_9_method_44_code 310 = .ok (.getfield 170, 3) := by decide +kernel
theorem dM_keep_313 : decode prog_9_method_44_code 313 = .ok (.iload_n 3, 1) := by decide +kernel
theorem dM_keep_314 : decode prog_9_method_44_code 314 = .ok (.iaload, 1) := by decide +kernel
theorem dM_keep_315 : decode prog_9_method_44_code 315 = .ok (.iaload, 1) := by decide +kernel
theorem dM_keep_316 : decode prog_9_method_44_code 316 = .ok (.iload_n 2, 1) := by decide +kernel
theorem dM_keep_317 : decode prog_9_method_44_code 317 = .ok (.if_icmp .ne 16, 3) := by decide +kernel
theorem dM_keep_320 : decode prog_9_method_44_code 320 = .ok (.aload_n 0, 1) := by decide +kernel
theorem dM_keep_321 : decode prog_9_method_44_code 321 = .ok (.aload_n 0, 1) := by decide +kernel
theorem dM_keep_322 : decode prog_9_method_44_code 322 = .ok (.getfield 173, 3) := by decide +kernel
theorem dM_keep_325 : decode prog_9_method_44_code 325 = .ok (.iload_n 3, 1) := by decide +kernel
theorem dM_keep_326 : decode prog_9_method_44_code 326 = .ok (.iaload, 1) := by decide +kernel
theorem dM_keep_327 : decode prog_9_method_44_code 327 = .ok (.invokevirtual 285, 3) := by decide +kernel
theorem dM_keep_330 : decode prog_9_method_44_code 330 = .ok (.goto 4, 3) := by decide +kernel
theorem dM_keep_333 : decode prog_9_method_44_code 333 = .ok (.iconst 0, 1) := by decide +kernel
theorem dM_keep_334 : decode prog_9_method_44_code 334 = .ok (.istore 4, 2) := by decide +kernel
theorem dM_keep_336 : decode prog_9_method_44_code 336 = .ok (.iconst 0, 1) := by decide +kernel
theorem dM_keep_337 : decode prog_9_method_44_code 337 = .ok (.istore 5, 2) := by decide +kernel
theorem dM_keep_339 : decode prog_9_method_44_code 339 = .ok (.iload 5, 2) := by decide +kernel
theorem dM_keep_341 : decode prog_9_method_44_code 341 = .ok (.aload_n 0, 1) := by decide +kernel
theorem dM_keep_342 : decode prog_9_method_44_code 342 = .ok (.getfield 190, 3) := by decide +kernel
theorem dM_keep_345 : decode prog_9_method_44_code 345 = .ok (.if_icmp .ge 51, 3) := by decide +kernel
theorem dM_keep_348 : decode prog_9_method_44_code 348 = .ok (.iload 4, 2) := by decide +kernel
theorem dM_keep_350 : decode prog_9_method_44_code 350 = .ok (.iload 5, 2) := by decide +kernel
theorem dM_keep_352 : decode prog_9_method_44_code 352 = .ok (.ishr, 1) := by decide +kernel
theorem dM_keep_353 : decode prog_9_method_44_code 353 = .ok (.iconst 1, 1) := by decide +kernel
theorem dM_keep_354 : decode prog_9_method_44_code 354 = .ok (.iand, 1) := by decide +kernel
theorem dM_keep_355 : decode prog_9_method_44_code 355 = .ok (.iconst 1, 1) := by decide +kernel
theorem dM_keep_356 : decode prog_9_method_44_code 356 = .ok (.if_icmp .ne 34, 3) := by decide +kernel
theorem dM_keep_359 : decode prog_9_method_44_code 359 = .ok (.aload_n 0, 1) := by decide +kernel
theorem dM_keep_360 : decode prog_9_method_44_code 360 = .ok (.getfield 161, 3) := by decide +kernel
theorem dM_keep_363 : decode prog_9_method_44_code 363 = .ok (.aload_n 0, 1) := by decide +kernel
theorem dM_keep_364 : decode prog_9_method_44_code 364 = .ok (.getfield 347, 3) := by decide +kernel
theorem dM_keep_367 : decode prog_9_method_44_code 367 = .ok (.iload 5, 2) := by decide +kernel
theorem dM_keep_369 : decode prog_9_method_44_code 369 = .ok (.iastore, 1) := by decide +kernel
theorem dM_keep_370 : decode prog_9_method_44_code 370 = .ok (.aload_n 0, 1) := by decide +kernel
theorem dM_keep_371 : decode prog_9_method_44_code 371 = .ok (.getfield 164, 3) := by decide +kernel
theorem dM_keep_374 : decode prog_9_method_44_code 374 = .ok (.aload_n 0, 1) := by decide +kernel
theorem dM_keep_375 : decode prog_9_method_44_code 375 = .ok (.getfield 347, 3) := by decide +kernel
theorem dM_keep_378 : decode prog_9_method_44_code 378 = .ok (.iload_n 2, 1) := by decide +kernel
theorem dM_keep_379 : decode prog_9_method_44_code 379 = .ok (.iastore, 1) := by decide +kernel
theorem dM_keep_380 : decode prog_9_method_44_code 380 = .ok (.aload_n 0, 1) := by decide +kernel
theorem dM_keep_381 : decode prog_9_method_44_code 381 = .ok (.dup, 1) := by decide +kernel
theorem dM_keep_382 : decode prog_9_method_44_code 382 = .ok (.getfield 347, 3) := by decide +kernel
theorem dM_keep_385 : decode prog_9_method_44_code 385 = .ok (.iconst 1, 1) := by decide +kernel
theorem dM_keep_386 : decode prog_9_method_44_code 386 = .ok (.iadd, 1) := by decide +kernel
theorem dM_keep_387 : decode prog_9_method_44_code 387 = .ok (.putfield 347, 3) := by decide +kernel
theorem dM_keep_390 : decode prog_9_method_44_code 390 = .ok (.iinc 5 1, 3) := by decide +kernel
theorem dM_keep_393 : decode prog_9_method_44_code 393 = .ok (.goto (-54), 3) := by decide +kernel
theorem dM_keep_396 : decode prog_9_method_44_code 396 = .ok (.iinc 3 1, 3) := by decide +kernel
theorem dM_keep_399 : decode prog_9_method_44_code 399 = .ok (.goto (-102), 3) := by decide +kernel
theorem dM_keep_402 : decode prog_9_method_44_code 402 = .ok (.iinc 2 1, 3) := by decide +kernel
theorem dM_keep_405 : decode prog_9_method_44_code 405 = .ok (.goto (-118), 3) := by decide +kernel
theorem dM_keep_408 : decode prog_9_method_44_code 408 = .ok (.return_, 1) := by decide +kernel
theorem dM_number_0 : decode prog_9_method_45_code 0 = .ok (.aload_n 0, 1) := by decide +kernel
theorem dM_number_1 : decode prog_9_method_45_code 1 = .ok (.iconst 0, 1) := by decide +kernel
theorem dM_number_2 : decode prog_9_method_45_code 2 = .ok (.putfield 350, 3) := by decide +kernel
theorem dM_number_5 : decode prog_9_method_45_code 5 = .ok (.aload_n 0, 1) := by decide +kernel
theorem dM_number_6 : decode prog_9_method_45_code 6 = .ok (.dup, 1) := by decide +kernel
theorem dM_number_7 : decode prog_9_method_45_code 7 = .ok (.getfield 247, 3) := by decide +kernel
theorem dM_number_10 : decode prog_9_method_45_code 10 = .ok (.iconst 1, 1) := by decide +kernel
theorem dM_number_11 : decode prog_9_method_45_code 11 = .ok (.iadd, 1) := by decide +kernel
theorem dM_number_12 : decode prog_9_method_45_code 12 = .ok (.putfield 247, 3) := by decide +kernel
theorem dM_number_15 : decode prog_9_method_45_code 15 = .ok (.iconst 1, 1) := by decide +kernel
theorem dM_number_16 : decode prog_9_method_45_code 16 = .ok (.istore_n 1, 1) := by decide +kernel
theorem dM_number_17 : decode prog_9_method_45_code 17 = .ok (.aload_n 0, 1) := by decide +kernel
theorem dM_number_18 : decode prog_9_method_45_code 18 = .ok (.getfield 131, 3) := by decide +kernel
theorem dM_number_21 : decode prog_9_method_45_code 21 = .ok (.iconst 0, 1) := by decide +kernel
theorem dM_number_22 : decode prog_9_method_45_code 22 = .ok (.aload_n 0, 1) := by decide +kernel
theorem dM_number_23 : decode prog_9_method_45_code 23 = .ok (.getfield 334, 3) := by decide +kernel
theorem dM_number_26 : decode prog_9_method_45_code 26 = .ok (.iastore, 1) := by decide +kernel
theorem dM_number_27 : decode prog_9_method_45_code 27 = .ok (.iload_n 1, 1) := by decide +kernel
theorem dM_number_28 : decode prog_9_method_45_code 28 = .ok (.ifCond .le 116, 3) := by decide +kernel
theorem dM_number_31 : decode prog_9_method_45_code 31 = .ok (.iinc 1 (-1), 3) := by decide +kernel
theorem dM_number_34 : decode prog_9_method_45_code 34 = .ok (.aload_n 0, 1) := by decide +kernel
theorem dM_number_35 : decode prog_9_method_45_code 35 = .ok (.getfield 131, 3) := by decide +kernel
theorem dM_number_38 : decode prog_9_method_45_code 38 = .ok (.iload_n 1, 1) := by decide +kernel
theorem dM_number_39 : decode prog_9_method_45_code 39 = .ok (.iaload, 1) := by decide +kernel
theorem dM_number_40 : decode prog_9_method_45_code 40 = .ok (.istore_n 2, 1) := by decide +kernel
theorem dM_number_41 : decode prog_9_method_45_code 41 = .ok (.aload_n 0, 1) := by decide +kernel
theorem dM_number_42 : decode prog_9_method_45_code 42 = .ok (.getfield 115, 3) := by decide +kernel
theorem dM_number_45 : decode prog_9_method_45_code 45 = .ok (.iload_n 2, 1) := by decide +kernel
theorem dM_number_46 : decode prog_9_method_45_code 46 = .ok (.iaload, 1) := by decide +kernel
theorem dM_number_47 : decode prog_9_method_45_code 47 = .ok (.aload_n 0, 1) := by decide +kernel
theorem dM_number_48 : decode prog_9_method_45_code 48 = .ok (.getfield 247, 3) := by decide +kernel
theorem dM_number_51 : decode prog_9_method_45_code 51 = .ok (.if_icmp .eq 90, 3) := by decide +kernel
theorem dM_number_54 : decode prog_9_method_45_code 54 = .ok (.aload_n 0, 1) := by decide +kernel
theorem dM_number_55 : decode prog_9_method_45_code 55 = .ok (.getfield 115, 3) := by decide +kernel
theorem dM_number_58 : decode prog_9_method_45_code 58 = .ok (.iload_n 2, 1) := by decide +kernel
theorem dM_number_59 : decode prog_9_method_45_code 59 = .ok (.aload_n 0, 1) := by decide +kernel
theorem dM_number_60 : decode prog_9_method_45_code 60 = .ok (.getfield 247, 3) := by decide +kernel
theorem dM_number_63 : decode prog_9_method_45_code 63 = .ok (.iastore, 1) := by decide +kernel
theorem dM_number_64 : decode prog_9_method_45_code 64 = .ok (.aload_n 0, 1) := by decide +kernel
theorem dM_number_65 : decode prog_9_method_45_code 65 = .ok (.getfield 149, 3) := by decide +kernel
theorem dM_number_68 : decode prog_9_method_45_code 68 = .ok (.iload_n 2, 1) := by decide +kernel
theorem dM_number_69 : decode prog_9_method_45_code 69 = .ok (.iaload, 1) := by decide +kernel
theorem dM_number_70 : decode prog_9_method_45_code 70 = .ok (.ifCond .ge 23, 3) := by decide +kernel
theorem dM_number_73 : decode prog_9_method_45_code 73 = .ok (.aload_n 0, 1) := by decide +kernel
theorem dM_number_74 : decode prog_9_method_45_code 74 = .ok (.getfield 167, 3) := by decide +kernel
theorem dM_number_77 : decode prog_9_method_45_code 77 = .ok (.iload_n 2, 1) := by decide +kernel
theorem dM_number_78 : decode prog_9_method_45_code 78 = .ok (.aload_n 0, 1) := by decide +kernel
theorem dM_number_79 : decode prog_9_method_45_code 79 = .ok (.getfield 350, 3) := by decide +kernel
theorem dM_number_82 : decode prog_9_method_45_code 82 = .ok (.iastore, 1) := by decide +kernel
theorem dM_number_83 : decode prog_9_method_45_code 83 = .ok (.aload_n 0, 1) := by decide +kernel
theorem dM_number_84 : decode prog_9_method_45_code 84 = .ok (.dup, 1) := by decide +kernel
theorem dM_number_85 : decode prog_9_method_45_code 85 = .ok (.getfield 350, 3) := by decide +kernel
theorem dM_number_88 : decode prog_9_method_45_code 88 = .ok (.iconst 1, 1) := by decide +kernel
theorem dM_number_89 : decode prog_9_method_45_code 89 = .ok (.iadd, 1) := by decide +kernel
theorem dM_number_90 : decode prog_9_method_45_code 90 = .ok (.putfield 350, 3) := by decide +kernel
theorem dM_number_93 : decode prog_9_method_45_code 93 = .ok (.aload_n 0, 1) := by decide +kernel
theorem dM_number_94 : decode prog_9_method_45_code 94 = .ok (.getfield 155, 3) := by decide +kernel
theorem dM_number_97 : decode prog_9_method_45_code 97 = .ok (.iload_n 2, 1) := by decide +kernel
theorem dM_number_98 : decode prog_9_method_45_code 98 = .ok (.iaload, 1) := by decide +kernel
theorem dM_number_99 : decode prog_9_method_45_code 99 = .ok (.ifCond .lt 18, 3) := by decide +kernel
theorem dM_number_102 : decode prog_9_method_45_code 102 = .ok (.aload_n 0, 1) := by decide +kernel
theorem dM_number_103 : decode prog_9_method_45_code 103 = .ok (.getfield 131, 3) := by decide +kernel
theorem dM_number_106 : decode prog_9_method_45_code 106 = .ok (.iload_n 1, 1) := by decide +kernel
theorem dM_number_107 : decode prog_9_method_45_code 107 = .ok (.aload_n 0, 1) := by decide +kernel
theorem dM_number_108 : decode prog_9_method_45_code 108 = .ok (.getfield 155, 3) := by decide +kernel
theorem dM_number_111 : decode prog_9_method_45_code 111 = .ok (.iload_n 2, 1) := by decide +kernel
theorem dM_number_112 : decode prog_9_method_45_code 112 = .ok (.iaload, 1) := by decide +kernel
theorem dM_number_113 : decode prog_9_method_45_code 113 = .ok (.iastore, 1) := by decide +kernel
theorem dM_number_114 : decode prog_9_method_45_code 114 = .ok (.iinc 1 1, 3) := by decide +kernel
theorem dM_number_117 : decode prog_9_method_45_code 117 = .ok (.aload_n 0, 1) := by decide +kernel
theorem dM_number_118 : decode prog_9_method_45_code 118 = .ok (.getfield 152, 3) := by decide +kernel
theorem dM_number_121 : decode prog_9_method_45_code 121 = .ok (.iload_n 2, 1) := by decide +kernel
theorem dM_number_122 : decode prog_9_method_45_code 122 = .ok (.iaload, 1) := by decide +kernel
theorem dM_number_123 : decode prog_9_method_45_code 123 = .ok (.ifCond .lt 18, 3) := by decide +kernel
theorem dM_number_126 : decode prog_9_method_45_code 126 = .ok (.aload_n 0, 1) := by decide +kernel
theorem dM_number_127 : decode prog_9_method_45_code 127 = .ok (.getfield 131, 3) := by decide +kernel
theorem dM_number_130 : decode prog_9_method_45_code 130 = .ok (.iload_n 1, 1) := by decide +kernel
theorem dM_number_131 : decode prog_9_method_45_code 131 = .ok (.aload_n 0, 1) := by decide +kernel
theorem dM_number_132 : decode prog_9_method_45_code 132 = .ok (.getfield 152, 3) := by decide +kernel
theorem dM_number_135 : decode prog_9_method_45_code 135 = .ok (.iload_n 2, 1) := by decide +kernel
theorem dM_number_136 : decode prog_9_method_45_code 136 = .ok (.iaload, 1) := by decide +kernel
theorem dM_number_137 : decode prog_9_method_45_code 137 = .ok (.iastore, 1) := by decide +kernel
theorem dM_number_138 : decode prog_9_method_45_code 138 = .ok (.iinc 1 1, 3) := by decide +kernel
theorem dM_number_141 : decode prog_9_method_45_code 141 = .ok (.goto (-114), 3) := by decide +kernel
theorem dM_number_144 : decode prog_9_method_45_code 144 = .ok (.iconst 0, 1) := by decide +kernel
theorem dM_number_145 : decode prog_9_method_45_code 145 = .ok (.istore_n 2, 1) := by decide +kernel
theorem dM_number_146 : decode prog_9_method_45_code 146 = .ok (.iload_n 2, 1) := by decide +kernel
theorem dM_number_147 : decode prog_9_method_45_code 147 = .ok (.aload_n 0, 1) := by decide +kernel
theorem dM_number_148 : decode prog_9_method_45_code 148 = .ok (.getfield 250, 3) := by decide +kernel
theorem dM_number_151 : decode prog_9_method_45_code 151 = .ok (.if_icmp .ge 61, 3) := by decide +kernel
theorem dM_number_154 : decode prog_9_method_45_code 154 = .ok (.aload_n 0, 1) := by decide +kernel
theorem dM_number_155 : decode prog_9_method_45_code 155 = .ok (.getfield 149, 3) := by decide +kernel
theorem dM_number_158 : decode prog_9_method_45_code 158 = .ok (.aload_n 0, 1) := by decide +kernel
theorem dM_number_159 : decode prog_9_method_45_code 159 = .ok (.getfield 134, 3) := by decide +kernel
theorem dM_number_162 : decode prog_9_method_45_code 162 = .ok (.iload_n 2, 1) := by decide +kernel
theorem dM_number_163 : decode prog_9_method_45_code 163 = .ok (.iaload, 1) := by decide +kernel
theorem dM_number_164 : decode prog_9_method_45_code 164 = .ok (.aload_n 0, 1) := by decide +kernel
theorem dM_number_165 : decode prog_9_method_45_code 165 = .ok (.getfield 149, 3) := by decide +kernel
theorem dM_number_168 : decode prog_9_method_45_code 168 = .ok (.aload_n 0, 1) := by decide +kernel
theorem dM_number_169 : decode prog_9_method_45_code 169 = .ok (.getfield 134, 3) := by decide +kernel
theorem dM_number_172 : decode prog_9_method_45_code 172 = .ok (.iload_n 2, 1) := by decide +kernel
theorem dM_number_173 : decode prog_9_method_45_code 173 = .ok (.iaload, 1) := by decide +kernel
theorem dM_number_174 : decode prog_9_method_45_code 174 = .ok (.iaload, 1) := by decide +kernel
theorem dM_number_175 : decode prog_9_method_45_code 175 = .ok (.ifCond .ge 19, 3) := by decide +kernel
theorem dM_number_178 : decode prog_9_method_45_code 178 = .ok (.iconst (-1), 1) := by decide +kernel
theorem dM_number_179 : decode prog_9_method_45_code 179 = .ok (.aload_n 0, 1) := by decide +kernel
theorem dM_number_180 : decode prog_9_method_45_code 180 = .ok (.getfield 167, 3) := by decide +kernel
theorem dM_number_183 : decode prog_9_method_45_code 183 = .ok (.aload_n 0, 1) := by decide +kernel
theorem dM_number_184 : decode prog_9_method_45_code 184 = .ok (.getfield 134, 3) := by decide +kernel
theorem dM_number_187 : decode prog_9_method_45_code 187 = .ok (.iload_n 2, 1) := by decide +kernel
theorem dM_number_188 : decode prog_9_method_45_code 188 = .ok (.iaload, 1) := by decide +kernel
theorem dM_number_189 : decode prog_9_method_45_code 189 = .ok (.iaload, 1) := by decide +kernel
theorem dM_number_190 : decode prog_9_method_45_code 190 = .ok (.isub, 1) := by decide +kernel
theorem dM_number_191 : decode prog_9_method_45_code 191 = .ok (.goto 14, 3) := by decide +kernel
theorem dM_number_194 : decode prog_9_method_45_code 194 = .ok (.aload_n 0, 1) := by decide +kernel
theorem dM_number_195 : decode prog_9_method_45_code 195 = .ok (.getfield 149, 3) := by decide +kernel
theorem dM_number_198 : decode prog_9_method_45_code 198 = .ok (.aload_n 0, 1) := by decide +kernel
theorem dM_number_199 : decode prog_9_method_45_code 199 = .ok (.getfield 134, 3) := by decide +kernel
theorem dM_number_202 : decode prog_9_method_45_code 202 = .ok (.iload_n 2, 1) := by decide +kernel
theorem dM_number_203 : decode prog_9_method_45_code 203 = .ok (.iaload, 1) := by decide +kernel
theorem dM_number_204 : decode prog_9_method_45_code 204 = .ok (.iaload, 1) := by decide +kernel
theorem dM_number_205 : decode prog_9_method_45_code 205 = .ok (.iastore, 1) := by decide +kernel
theorem dM_number_206 : decode prog_9_method_45_code 206 = .ok (.iinc 2 1, 3) := by decide +kernel
theorem dM_number_209 : decode prog_9_method_45_code 209 = .ok (.goto (-63), 3) := by decide +kernel
theorem dM_number_212 : decode prog_9_method_45_code 212 = .ok (.return_, 1) := by decide +kernel
theorem dM_hasLast_0 : decode prog_9_method_46_code 0 = .ok (.aload_n 0, 1) := by decide +kernel
theorem dM_hasLast_1 : decode prog_9_method_46_code 1 = .ok (.getfield 158, 3) := by decide +kernel
theorem dM_hasLast_4 : decode prog_9_method_46_code 4 = .ok (.aload_n 0, 1) := by decide +kernel
theorem dM_hasLast_5 : decode prog_9_method_46_code 5 = .ok (.getfield 334, 3) := by decide +kernel
theorem dM_hasLast_8 : decode prog_9_method_46_code 8 = .ok (.iaload, 1) := by decide +kernel
theorem dM_hasLast_9 : decode prog_9_method_46_code 9 = .ok (.ifCond .le 7, 3) := by decide +kernel
theorem dM_hasLast_12 : decode prog_9_method_46_code 12 = .ok (.iconst 1, 1) := by decide +kernel
theorem dM_hasLast_13 : decode prog_9_method_46_code 13 = .ok (.goto 4, 3) := by decide +kernel
theorem dM_hasLast_16 : decode prog_9_method_46_code 16 = .ok (.iconst 0, 1) := by decide +kernel
theorem dM_hasLast_17 : decode prog_9_method_46_code 17 = .ok (.ireturn, 1) := by decide +kernel
theorem dM_shape_0 : decode prog_9_method_47_code 0 = .ok (.aload_n 0, 1) := by decide +kernel
theorem dM_shape_1 : decode prog_9_method_47_code 1 = .ok (.iconst 0, 1) := by decide +kernel
theorem dM_shape_2 : decode prog_9_method_47_code 2 = .ok (.putfield 176, 3) := by decide +kernel
theorem dM_shape_5 : decode prog_9_method_47_code 5 = .ok (.aload_n 0, 1) := by decide +kernel
theorem dM_shape_6 : decode prog_9_method_47_code 6 = .ok (.invokevirtual 353, 3) := by decide +kernel
theorem dM_shape_9 : decode prog_9_method_47_code 9 = .ok (.ifCond .eq 20, 3) := by decide +kernel
theorem dM_shape_12 : decode prog_9_method_47_code 12 = .ok (.iload_n 1, 1) := by decide +kernel
theorem dM_shape_13 : decode prog_9_method_47_code 13 = .ok (.ifCond .lt 16, 3) := by decide +kernel
theorem dM_shape_16 : decode prog_9_method_47_code 16 = .ok (.iload_n 1, 1) := by decide +kernel
theorem dM_shape_17 : decode prog_9_method_47_code 17 = .ok (.aload_n 0, 1) := by decide +kernel
theorem dM_shape_18 : decode prog_9_method_47_code 18 = .ok (.getfield 158, 3) := by decide +kernel
theorem dM_shape_21 : decode prog_9_method_47_code 21 = .ok (.aload_n 0, 1) := by decide +kernel
theorem dM_shape_22 : decode prog_9_method_47_code 22 = .ok (.getfield 334, 3) := by decide +kernel
theorem dM_shape_25 : decode prog_9_method_47_code 25 = .ok (.iaload, 1) := by decide +kernel
theorem dM_shape_26 : decode prog_9_method_47_code 26 = .ok (.if_icmp .lt 6, 3) := by decide +kernel
theorem dM_shape_29 : decode prog_9_method_47_code 29 = .ok (.bipush (-100), 2) := by decide +kernel
theorem dM_shape_31 : decode prog_9_method_47_code 31 = .ok (.ireturn, 1) := by decide +kernel
theorem dM_shape_32 : decode prog_9_method_47_code 32 = .ok (.aload_n 0, 1) := by decide +kernel
theorem dM_shape_33 : decode prog_9_method_47_code 33 = .ok (.getfield 334, 3) := by decide +kernel
theorem dM_shape_36 : decode prog_9_method_47_code 36 = .ok (.istore_n 2, 1) := by decide +kernel
theorem dM_shape_37 : decode prog_9_method_47_code 37 = .ok (.iload_n 1, 1) := by decide +kernel
theorem dM_shape_38 : decode prog_9_method_47_code 38 = .ok (.istore_n 3, 1) := by decide +kernel
theorem dM_shape_39 : decode prog_9_method_47_code 39 = .ok (.iload_n 3, 1) := by decide +kernel
theorem dM_shape_40 : decode prog_9_method_47_code 40 = .ok (.ifCond .le 50, 3) := by decide +kernel
theorem dM_shape_43 : decode prog_9_method_47_code 43 = .ok (.iinc 3 (-1), 3) := by decide +kernel
theorem dM_shape_46 : decode prog_9_method_47_code 46 = .ok (.aload_n 0, 1) := by decide +kernel
theorem dM_shape_47 : decode prog_9_method_47_code 47 = .ok (.getfield 158, 3) := by decide +kernel
theorem dM_shape_50 : decode prog_9_method_47_code 50 = .ok (.aload_n 0, 1) := by decide +kernel
theorem dM_shape_51 : decode prog_9_method_47_code 51 = .ok (.getfield 152, 3) := by decide +kernel
theorem dM_shape_54 : decode prog_9_method_47_code 54 = .ok (.iload_n 2, 1) := by decide +kernel
theorem dM_shape_55 : decode prog_9_method_47_code 55 = .ok (.iaload, 1) := by decide +kernel
theorem dM_shape_56 : decode prog_9_method_47_code 56 = .ok (.iaload, 1) := by decide +kernel
theorem dM_shape_57 : decode prog_9_method_47_code 57 = .ok (.istore 4, 2) := by decide +kernel
theorem dM_shape_59 : decode prog_9_method_47_code 59 = .ok (.iload_n 3, 1) := by decide +kernel
theorem dM_shape_60 : decode prog_9_method_47_code 60 = .ok (.iload 4, 2) := by decide +kernel
theorem dM_shape_62 : decode prog_9_method_47_code 62 = .ok (.if_icmp .ge 13, 3) := by decide +kernel
theorem dM_shape_65 : decode prog_9_method_47_code 65 = .ok (.aload_n 0, 1) := by decide +kernel
theorem dM_shape_66 : decode prog_9_method_47_code 66 = .ok (.getfield 152, 3) := by decide +kernel
theorem dM_shape_69 : decode prog_9_method_47_code 69 = .ok (.iload_n 2, 1) := by decide +kernel
theorem dM_shape_70 : decode prog_9_method_47_code 70 = .ok (.iaload, 1) := by decide +kernel
theorem dM_shape_71 : decode prog_9_method_47_code 71 = .ok (.istore_n 2, 1) := by decide +kernel
theorem dM_shape_72 : decode prog_9_method_47_code 72 = .ok (.goto 15, 3) := by decide +kernel
theorem dM_shape_75 : decode prog_9_method_47_code 75 = .ok (.iload_n 3, 1) := by decide +kernel
theorem dM_shape_76 : decode prog_9_method_47_code 76 = .ok (.iload 4, 2) := by decide +kernel
theorem dM_shape_78 : decode prog_9_method_47_code 78 = .ok (.isub, 1) := by decide +kernel
theorem dM_shape_79 : decode prog_9_method_47_code 79 = .ok (.istore_n 3, 1) := by decide +kernel
theorem dM_shape_80 : decode prog_9_method_47_code 80 = .ok (.aload_n 0, 1) := by decide +kernel
theorem dM_shape_81 : decode prog_9_method_47_code 81 = .ok (.getfield 155, 3) := by decide +kernel
theorem dM_shape_84 : decode prog_9_method_47_code 84 = .ok (.iload_n 2, 1) := by decide +kernel
theorem dM_shape_85 : decode prog_9_method_47_code 85 = .ok (.iaload, 1) := by decide +kernel
theorem dM_shape_86 : decode prog_9_method_47_code 86 = .ok (.istore_n 2, 1) := by decide +kernel
theorem dM_shape_87 : decode prog_9_method_47_code 87 = .ok (.goto (-48), 3) := by decide +kernel
theorem dM_shape_90 : decode prog_9_method_47_code 90 = .ok (.aload_n 0, 1) := by decide +kernel
theorem dM_shape_91 : decode prog_9_method_47_code 91 = .ok (.getfield 149, 3) := by decide +kernel
theorem dM_shape_94 : decode prog_9_method_47_code 94 = .ok (.iload_n 2, 1) := by decide +kernel
theorem dM_shape_95 : decode prog_9_method_47_code 95 = .ok (.iaload, 1) := by decide +kernel
theorem dM_shape_96 : decode prog_9_method_47_code 96 = .ok (.ireturn, 1) := by decide +kernel
theorem dM_wants_0 : decode prog_9_method_48_code 0 = .ok (.aload_n 0, 1) := by decide +kernel
theorem dM_wants_1 : decode prog_9_method_48_code 1 = .ok (.iconst 0, 1) := by decide +kernel
theorem dM_wants_2 : decode prog_9_method_48_code 2 = .ok (.putfield 176, 3) := by decide +kernel
theorem dM_wants_5 : decode prog_9_method_48_code 5 = .ok (.aload_n 0, 1) := by decide +kernel
theorem dM_wants_6 : decode prog_9_method_48_code 6 = .ok (.getfield 347, 3) := by decide +kernel
theorem dM_wants_9 : decode prog_9_method_48_code 9 = .ok (.ireturn, 1) := by decide +kernel
theorem dM_want_0 : decode prog_9_method_49_code 0 = .ok (.aload_n 0, 1) := by decide +kernel
theorem dM_want_1 : decode prog_9_method_49_code 1 = .ok (.iconst 0, 1) := by decide +kernel
theorem dM_want_2 : decode prog_9_method_49_code 2 = .ok (.putfield 176, 3) := by decide +kernel
theorem dM_want_5 : decode prog_9_method_49_code 5 = .ok (.iload_n 1, 1) := by decide +kernel
theorem dM_want_6 : decode prog_9_method_49_code 6 = .ok (.iconst 0, 1) := by decide +kernel
theorem dM_want_7 : decode prog_9_method_49_code 7 = .ok (.aload_n 0, 1) := by decide +kernel
theorem dM_want_8 : decode prog_9_method_49_code 8 = .ok (.getfield 347, 3) := by decide +kernel
theorem dM_want_11 : decode prog_9_method_49_code 11 = .ok (.iconst 1, 1) := by decide +kernel
theorem dM_want_12 : decode prog_9_method_49_code 12 = .ok (.isub, 1) := by decide +kernel
theorem dM_want_13 : decode prog_9_method_49_code 13 = .ok (.invokestatic 179, 3) := by decide +kernel
theorem dM_want_16 : decode prog_9_method_49_code 16 = .ok (.ifCond .eq 12, 3) := by decide +kernel
theorem dM_want_19 : decode prog_9_method_49_code 19 = .ok (.iload_n 2, 1) := by decide +kernel
theorem dM_want_20 : decode prog_9_method_49_code 20 = .ok (.iconst 0, 1) := by decide +kernel
theorem dM_want_21 : decode prog_9_method_49_code 21 = .ok (.iconst 1, 1) := by decide +kernel
theorem dM_want_22 : decode prog_9_method_49_code 22 = .ok (.invokestatic 179, 3) := by decide +kernel
theorem dM_want_25 : decode prog_9_method_49_code 25 = .ok (.ifCond .ne 7, 3) := by decide +kernel
theorem dM_want_28 : decode prog_9_method_49_code 28 = .ok (.iconst (-1), 1) := by decide +kernel
theorem dM_want_29 : decode prog_9_method_49_code 29 = .ok (.goto 22, 3) := by decide +kernel
theorem dM_want_32 : decode prog_9_method_49_code 32 = .ok (.iload_n 2, 1) := by decide +kernel
theorem dM_want_33 : decode prog_9_method_49_code 33 = .ok (.ifCond .ne 12, 3) := by decide +kernel
theorem dM_want_36 : decode prog_9_method_49_code 36 = .ok (.aload_n 0, 1) := by decide +kernel
theorem dM_want_37 : decode prog_9_method_49_code 37 = .ok (.getfield 161, 3) := by decide +kernel
theorem dM_want_40 : decode prog_9_method_49_code 40 = .ok (.iload_n 1, 1) := by decide +kernel
theorem dM_want_41 : decode prog_9_method_49_code 41 = .ok (.iaload, 1) := by decide +kernel
theorem dM_want_42 : decode prog_9_method_49_code 42 = .ok (.goto 9, 3) := by decide +kernel
theorem dM_want_45 : decode prog_9_method_49_code 45 = .ok (.aload_n 0, 1) := by decide +kernel
theorem dM_want_46 : decode prog_9_method_49_code 46 = .ok (.getfield 164, 3) := by decide +kernel
theorem dM_want_49 : decode prog_9_method_49_code 49 = .ok (.iload_n 1, 1) := by decide +kernel
theorem dM_want_50 : decode prog_9_method_49_code 50 = .ok (.iaload, 1) := by decide +kernel
theorem dM_want_51 : decode prog_9_method_49_code 51 = .ok (.ireturn, 1) := by decide +kernel
theorem dM_passes_0 : decode prog_9_method_50_code 0 = .ok (.aload_n 0, 1) := by decide +kernel
theorem dM_passes_1 : decode prog_9_method_50_code 1 = .ok (.iconst 0, 1) := by decide +kernel
theorem dM_passes_2 : decode prog_9_method_50_code 2 = .ok (.putfield 176, 3) := by decide +kernel
theorem dM_passes_5 : decode prog_9_method_50_code 5 = .ok (.aload_n 0, 1) := by decide +kernel
theorem dM_passes_6 : decode prog_9_method_50_code 6 = .ok (.getfield 344, 3) := by decide +kernel
theorem dM_passes_9 : decode prog_9_method_50_code 9 = .ok (.ireturn, 1) := by decide +kernel
