theorem dI_isName_0 : decode prog_1_method_10_code 0 = .ok (.iload_n 0, 1) := by decide +kernel
theorem dI_isName_1 : decode prog_1_method_10_code 1 = .ok (.ifCond .lt 13, 3) := by decide +kernel
theorem dI_isName_4 : decode prog_1_method_10_code 4 = .ok (.iload_n 0, 1) := by decide +kernel
theorem dI_isName_5 : decode prog_1_method_10_code 5 = .ok (.bipush 16, 2) := by decide +kernel
theorem dI_isName_7 : decode prog_1_method_10_code 7 = .ok (.if_icmp .ge 7, 3) := by decide +kernel
theorem dI_isName_10 : decode prog_1_method_10_code 10 = .ok (.iconst 1, 1) := by decide +kernel
theorem dI_isName_11 : decode prog_1_method_10_code 11 = .ok (.goto 4, 3) := by decide +kernel
theorem dI_isName_14 : decode prog_1_method_10_code 14 = .ok (.iconst 0, 1) := by decide +kernel
theorem dI_isName_15 : decode prog_1_method_10_code 15 = .ok (.ireturn, 1) := by decide +kernel
theorem dE_has_0 : decode prog_3_method_2_code 0 = .ok (.iload_n 1, 1) := by decide +kernel
theorem dE_has_1 : decode prog_3_method_2_code 1 = .ok (.ifCond .lt 15, 3) := by decide +kernel
theorem dE_has_4 : decode prog_3_method_2_code 4 = .ok (.iload_n 1, 1) := by decide +kernel
theorem dE_has_5 : decode prog_3_method_2_code 5 = .ok (.aload_n 0, 1) := by decide +kernel
theorem dE_has_6 : decode prog_3_method_2_code 6 = .ok (.getfield 27, 3) := by decide +kernel
theorem dE_has_9 : decode prog_3_method_2_code 9 = .ok (.if_icmp .ge 7, 3) := by decide +kernel
theorem dE_has_12 : decode prog_3_method_2_code 12 = .ok (.iconst 1, 1) := by decide +kernel
theorem dE_has_13 : decode prog_3_method_2_code 13 = .ok (.goto 4, 3) := by decide +kernel
theorem dE_has_16 : decode prog_3_method_2_code 16 = .ok (.iconst 0, 1) := by decide +kernel
theorem dE_has_17 : decode prog_3_method_2_code 17 = .ok (.ireturn, 1) := by decide +kernel
theorem dI_mayStand_0 : decode prog_1_method_9_code 0 = .ok (.iload_n 1, 1) := by decide +kernel
theorem dI_mayStand_1 : decode prog_1_method_9_code 1 = .ok (.tableswitch 170 0 5 #[39, 44, 68, 96, 132, 161], 39) := by decide +kernel
theorem dI_mayStand_40 : decode prog_1_method_9_code 40 = .ok (.iload_n 2, 1) := by decide +kernel
theorem dI_mayStand_41 : decode prog_1_method_9_code 41 = .ok (.invokestatic 98, 3) := by decide +kernel
theorem dI_mayStand_44 : decode prog_1_method_9_code 44 = .ok (.ireturn, 1) := by decide +kernel
theorem dI_mayStand_45 : decode prog_1_method_9_code 45 = .ok (.iload_n 2, 1) := by decide +kernel
theorem dI_mayStand_46 : decode prog_1_method_9_code 46 = .ok (.invokestatic 98, 3) := by decide +kernel
theorem dI_mayStand_49 : decode prog_1_method_9_code 49 = .ok (.ifCond .eq 18, 3) := by decide +kernel
theorem dI_mayStand_52 : decode prog_1_method_9_code 52 = .ok (.aload_n 0, 1) := by decide +kernel
theorem dI_mayStand_53 : decode prog_1_method_9_code 53 = .ok (.getfield 26, 3) := by decide +kernel
theorem dI_mayStand_56 : decode prog_1_method_9_code 56 = .ok (.iload_n 3, 1) := by decide +kernel
theorem dI_mayStand_57 : decode prog_1_method_9_code 57 = .ok (.invokevirtual 101, 3) := by decide +kernel
theorem dI_mayStand_60 : decode prog_1_method_9_code 60 = .ok (.ifCond .eq 7, 3) := by decide +kernel
theorem dI_mayStand_63 : decode prog_1_method_9_code 63 = .ok (.iconst 1, 1) := by decide +kernel
theorem dI_mayStand_64 : decode prog_1_method_9_code 64 = .ok (.goto 4, 3) := by decide +kernel
theorem dI_mayStand_67 : decode prog_1_method_9_code 67 = .ok (.iconst 0, 1) := by decide +kernel
theorem dI_mayStand_68 : decode prog_1_method_9_code 68 = .ok (.ireturn, 1) := by decide +kernel
theorem dI_mayStand_69 : decode prog_1_method_9_code 69 = .ok (.aload_n 0, 1) := by decide +kernel
theorem dI_mayStand_70 : decode prog_1_method_9_code 70 = .ok (.getfield 26, 3) := by decide +kernel
theorem dI_mayStand_73 : decode prog_1_method_9_code 73 = .ok (.iload_n 2, 1) := by decide +kernel
theorem dI_mayStand_74 : decode prog_1_method_9_code 74 = .ok (.invokevirtual 101, 3) := by decide +kernel
theorem dI_mayStand_77 : decode prog_1_method_9_code 77 = .ok (.ifCond .eq 18, 3) := by decide +kernel
theorem dI_mayStand_80 : decode prog_1_method_9_code 80 = .ok (.aload_n 0, 1) := by decide +kernel
theorem dI_mayStand_81 : decode prog_1_method_9_code 81 = .ok (.getfield 26, 3) := by decide +kernel
theorem dI_mayStand_84 : decode prog_1_method_9_code 84 = .ok (.iload_n 3, 1) := by decide +kernel
theorem dI_mayStand_85 : decode prog_1_method_9_code 85 = .ok (.invokevirtual 101, 3) := by decide +kernel
theorem dI_mayStand_88 : decode prog_1_method_9_code 88 = .ok (.ifCond .eq 7, 3) := by decide +kernel
theorem dI_mayStand_91 : decode prog_1_method_9_code 91 = .ok (.iconst 1, 1) := by decide +kernel
theorem dI_mayStand_92 : decode prog_1_method_9_code 92 = .ok (.goto 4, 3) := by decide +kernel
theorem dI_mayStand_95 : decode prog_1_method_9_code 95 = .ok (.iconst 0, 1) := by decide +kernel
theorem dI_mayStand_96 : decode prog_1_method_9_code 96 = .ok (.ireturn, 1) := by decide +kernel
theorem dI_mayStand_97 : decode prog_1_method_9_code 97 = .ok (.iload_n 2, 1) := by decide +kernel
theorem dI_mayStand_98 : decode prog_1_method_9_code 98 = .ok (.invokestatic 98, 3) := by decide +kernel
theorem dI_mayStand_101 : decode prog_1_method_9_code 101 = .ok (.ifCond .eq 30, 3) := by decide +kernel
theorem dI_mayStand_104 : decode prog_1_method_9_code 104 = .ok (.aload_n 0, 1) := by decide +kernel
theorem dI_mayStand_105 : decode prog_1_method_9_code 105 = .ok (.getfield 26, 3) := by decide +kernel
theorem dI_mayStand_108 : decode prog_1_method_9_code 108 = .ok (.iload_n 3, 1) := by decide +kernel
theorem dI_mayStand_109 : decode prog_1_method_9_code 109 = .ok (.invokevirtual 101, 3) := by decide +kernel
theorem dI_mayStand_112 : decode prog_1_method_9_code 112 = .ok (.ifCond .eq 19, 3) := by decide +kernel
theorem dI_mayStand_115 : decode prog_1_method_9_code 115 = .ok (.aload_n 0, 1) := by decide +kernel
theorem dI_mayStand_116 : decode prog_1_method_9_code 116 = .ok (.getfield 26, 3) := by decide +kernel
theorem dI_mayStand_119 : decode prog_1_method_9_code 119 = .ok (.iload 4, 2) := by decide +kernel
theorem dI_mayStand_121 : decode prog_1_method_9_code 121 = .ok (.invokevirtual 101, 3) := by decide +kernel
theorem dI_mayStand_124 : decode prog_1_method_9_code 124 = .ok (.ifCond .eq 7, 3) := by decide +kernel
theorem dI_mayStand_127 : decode prog_1_method_9_code 127 = .ok (.iconst 1, 1) := by decide +kernel
theorem dI_mayStand_128 : decode prog_1_method_9_code 128 = .ok (.goto 4, 3) := by decide +kernel
theorem dI_mayStand_131 : decode prog_1_method_9_code 131 = .ok (.iconst 0, 1) := by decide +kernel
theorem dI_mayStand_132 : decode prog_1_method_9_code 132 = .ok (.ireturn, 1) := by decide +kernel
theorem dI_mayStand_133 : decode prog_1_method_9_code 133 = .ok (.aload_n 0, 1) := by decide +kernel
theorem dI_mayStand_134 : decode prog_1_method_9_code 134 = .ok (.getfield 19, 3) := by decide +kernel
theorem dI_mayStand_137 : decode prog_1_method_9_code 137 = .ok (.iload_n 2, 1) := by decide +kernel
theorem dI_mayStand_138 : decode prog_1_method_9_code 138 = .ok (.invokevirtual 67, 3) := by decide +kernel
theorem dI_mayStand_141 : decode prog_1_method_9_code 141 = .ok (.ifCond .eq 19, 3) := by decide +kernel
theorem dI_mayStand_144 : decode prog_1_method_9_code 144 = .ok (.aload_n 0, 1) := by decide +kernel
theorem dI_mayStand_145 : decode prog_1_method_9_code 145 = .ok (.getfield 19, 3) := by decide +kernel
theorem dI_mayStand_148 : decode prog_1_method_9_code 148 = .ok (.iload_n 2, 1) := by decide +kernel
theorem dI_mayStand_149 : decode prog_1_method_9_code 149 = .ok (.invokevirtual 73, 3) := by decide +kernel
theorem dI_mayStand_152 : decode prog_1_method_9_code 152 = .ok (.iconst (-1), 1) := by decide +kernel
theorem dI_mayStand_153 : decode prog_1_method_9_code 153 = .ok (.if_icmp .eq 7, 3) := by decide +kernel
theorem dI_mayStand_156 : decode prog_1_method_9_code 156 = .ok (.iconst 1, 1) := by decide +kernel
theorem dI_mayStand_157 : decode prog_1_method_9_code 157 = .ok (.goto 4, 3) := by decide +kernel
theorem dI_mayStand_160 : decode prog_1_method_9_code 160 = .ok (.iconst 0, 1) := by decide +kernel
theorem dI_mayStand_161 : decode prog_1_method_9_code 161 = .ok (.ireturn, 1) := by decide +kernel
theorem dI_mayStand_162 : decode prog_1_method_9_code 162 = .ok (.aload_n 0, 1) := by decide +kernel
theorem dI_mayStand_163 : decode prog_1_method_9_code 163 = .ok (.getfield 10, 3) := by decide +kernel
theorem dI_mayStand_166 : decode prog_1_method_9_code 166 = .ok (.iload_n 2, 1) := by decide +kernel
theorem dI_mayStand_167 : decode prog_1_method_9_code 167 = .ok (.invokevirtual 60, 3) := by decide +kernel
theorem dI_mayStand_170 : decode prog_1_method_9_code 170 = .ok (.ireturn, 1) := by decide +kernel
theorem dI_mayStand_171 : decode prog_1_method_9_code 171 = .ok (.iconst 0, 1) := by decide +kernel
theorem dI_mayStand_172 : decode prog_1_method_9_code 172 = .ok (.ireturn, 1) := by decide +kernel
theorem dE_nodesOfParts_0 : decode prog_3_method_5_code 0 = .ok (.aload_n 0, 1) := by decide +kernel
theorem dE_nodesOfParts_1 : decode prog_3_method_5_code 1 = .ok (.getfield 9, 3) := by decide +kernel
theorem dE_nodesOfParts_4 : decode prog_3_method_5_code 4 = .ok (.iload_n 1, 1) := by decide +kernel
theorem dE_nodesOfParts_5 : decode prog_3_method_5_code 5 = .ok (.iaload, 1) := by decide +kernel
theorem dE_nodesOfParts_6 : decode prog_3_method_5_code 6 = .ok (.tableswitch 86 1 3 #[26, 38, 62], 26) := by decide +kernel
theorem dE_nodesOfParts_32 : decode prog_3_method_5_code 32 = .ok (.aload_n 0, 1) := by decide +kernel
theorem dE_nodesOfParts_33 : decode prog_3_method_5_code 33 = .ok (.getfield 24, 3) := by decide +kernel
theorem dE_nodesOfParts_36 : decode prog_3_method_5_code 36 = .ok (.aload_n 0, 1) := by decide +kernel
theorem dE_nodesOfParts_37 : decode prog_3_method_5_code 37 = .ok (.getfield 18, 3) := by decide +kernel
theorem dE_nodesOfParts_40 : decode prog_3_method_5_code 40 = .ok (.iload_n 1, 1) := by decide +kernel
theorem dE_nodesOfParts_41 : decode prog_3_method_5_code 41 = .ok (.iaload, 1) := by decide +kernel
theorem dE_nodesOfParts_42 : decode prog_3_method_5_code 42 = .ok (.iaload, 1) := by decide +kernel
theorem dE_nodesOfParts_43 : decode prog_3_method_5_code 43 = .ok (.ireturn, 1) := by decide +kernel
theorem dE_nodesOfParts_44 : decode prog_3_method_5_code 44 = .ok (.aload_n 0, 1) := by decide +kernel
theorem dE_nodesOfParts_45 : decode prog_3_method_5_code 45 = .ok (.getfield 24, 3) := by decide +kernel
theorem dE_nodesOfParts_48 : decode prog_3_method_5_code 48 = .ok (.aload_n 0, 1) := by decide +kernel
theorem dE_nodesOfParts_49 : decode prog_3_method_5_code 49 = .ok (.getfield 15, 3) := by decide +kernel
theorem dE_nodesOfParts_52 : decode prog_3_method_5_code 52 = .ok (.iload_n 1, 1) := by decide +kernel
theorem dE_nodesOfParts_53 : decode prog_3_method_5_code 53 = .ok (.iaload, 1) := by decide +kernel
theorem dE_nodesOfParts_54 : decode prog_3_method_5_code 54 = .ok (.iaload, 1) := by decide +kernel
theorem dE_nodesOfParts_55 : decode prog_3_method_5_code 55 = .ok (.aload_n 0, 1) := by decide +kernel
theorem dE_nodesOfParts_56 : decode prog_3_method_5_code 56 = .ok (.getfield 24, 3) := by decide +kernel
theorem dE_nodesOfParts_59 : decode prog_3_method_5_code 59 = .ok (.aload_n 0, 1) := by decide +kernel
theorem dE_nodesOfParts_60 : decode prog_3_method_5_code 60 = .ok (.getfield 18, 3) := by decide +kernel
theorem dE_nodesOfParts_63 : decode prog_3_method_5_code 63 = .ok (.iload_n 1, 1) := by decide +kernel
theorem dE_nodesOfParts_64 : decode prog_3_method_5_code 64 = .ok (.iaload, 1) := by decide +kernel
theorem dE_nodesOfParts_65 : decode prog_3_method_5_code 65 = .ok (.iaload, 1) := by decide +kernel
theorem dE_nodesOfParts_66 : decode prog_3_method_5_code 66 = .ok (.iadd, 1) := by decide +kernel
theorem dE_nodesOfParts_67 : decode prog_3_method_5_code 67 = .ok (.ireturn, 1) := by decide +kernel
theorem dE_nodesOfParts_68 : decode prog_3_method_5_code 68 = .ok (.aload_n 0, 1) := by decide +kernel
theorem dE_nodesOfParts_69 : decode prog_3_method_5_code 69 = .ok (.getfield 24, 3) := by decide +kernel
theorem dE_nodesOfParts_72 : decode prog_3_method_5_code 72 = .ok (.aload_n 0, 1) := by decide +kernel
theorem dE_nodesOfParts_73 : decode prog_3_method_5_code 73 = .ok (.getfield 18, 3) := by decide +kernel
theorem dE_nodesOfParts_76 : decode prog_3_method_5_code 76 = .ok (.iload_n 1, 1) := by decide +kernel
theorem dE_nodesOfParts_77 : decode prog_3_method_5_code 77 = .ok (.iaload, 1) := by decide +kernel
theorem dE_nodesOfParts_78 : decode prog_3_method_5_code 78 = .ok (.iaload, 1) := by decide +kernel
theorem dE_nodesOfParts_79 : decode prog_3_method_5_code 79 = .ok (.aload_n 0, 1) := by decide +kernel
theorem dE_nodesOfParts_80 : decode prog_3_method_5_code 80 = .ok (.getfield 24, 3) := by decide +kernel
theorem dE_nodesOfParts_83 : decode prog_3_method_5_code 83 = .ok (.aload_n 0, 1) := by decide +kernel
theorem dE_nodesOfParts_84 : decode prog_3_method_5_code 84 = .ok (.getfield 21, 3) := by decide +kernel
theorem dE_nodesOfParts_87 : decode prog_3_method_5_code 87 = .ok (.iload_n 1, 1) := by decide +kernel
theorem dE_nodesOfParts_88 : decode prog_3_method_5_code 88 = .ok (.iaload, 1) := by decide +kernel
theorem dE_nodesOfParts_89 : decode prog_3_method_5_code 89 = .ok (.iaload, 1) := by decide +kernel
theorem dE_nodesOfParts_90 : decode prog_3_method_5_code 90 = .ok (.iadd, 1) := by decide +kernel
theorem dE_nodesOfParts_91 : decode prog_3_method_5_code 91 = .ok (.ireturn, 1) := by decide +kernel
theorem dE_nodesOfParts_92 : decode prog_3_method_5_code 92 = .ok (.iconst 0, 1) := by decide +kernel
theorem dE_nodesOfParts_93 : decode prog_3_method_5_code 93 = .ok (.ireturn, 1) := by decide +kernel
theorem dE_add_0 : decode prog_3_method_4_code 0 = .ok (.aload_n 0, 1) := by decide +kernel
theorem dE_add_1 : decode prog_3_method_4_code 1 = .ok (.getfield 27, 3) := by decide +kernel
theorem dE_add_4 : decode prog_3_method_4_code 4 = .ok (.bipush 120, 2) := by decide +kernel
theorem dE_add_6 : decode prog_3_method_4_code 6 = .ok (.if_icmp .lt 6, 3) := by decide +kernel
theorem dE_add_9 : decode prog_3_method_4_code 9 = .ok (.bipush (-3), 2) := by decide +kernel
theorem dE_add_11 : decode prog_3_method_4_code 11 = .ok (.ireturn, 1) := by decide +kernel
theorem dE_add_12 : decode prog_3_method_4_code 12 = .ok (.aload_n 0, 1) := by decide +kernel
theorem dE_add_13 : decode prog_3_method_4_code 13 = .ok (.getfield 9, 3) := by decide +kernel
theorem dE_add_16 : decode prog_3_method_4_code 16 = .ok (.aload_n 0, 1) := by decide +kernel
theorem dE_add_17 : decode prog_3_method_4_code 17 = .ok (.getfield 27, 3) := by decide +kernel
theorem dE_add_20 : decode prog_3_method_4_code 20 = .ok (.iload_n 1, 1) := by decide +kernel
theorem dE_add_21 : decode prog_3_method_4_code 21 = .ok (.iastore, 1) := by decide +kernel
theorem dE_add_22 : decode prog_3_method_4_code 22 = .ok (.aload_n 0, 1) := by decide +kernel
theorem dE_add_23 : decode prog_3_method_4_code 23 = .ok (.getfield 15, 3) := by decide +kernel
theorem dE_add_26 : decode prog_3_method_4_code 26 = .ok (.aload_n 0, 1) := by decide +kernel
theorem dE_add_27 : decode prog_3_method_4_code 27 = .ok (.getfield 27, 3) := by decide +kernel
theorem dE_add_30 : decode prog_3_method_4_code 30 = .ok (.iload_n 2, 1) := by decide +kernel
theorem dE_add_31 : decode prog_3_method_4_code 31 = .ok (.iastore, 1) := by decide +kernel
theorem dE_add_32 : decode prog_3_method_4_code 32 = .ok (.aload_n 0, 1) := by decide +kernel
theorem dE_add_33 : decode prog_3_method_4_code 33 = .ok (.getfield 18, 3) := by decide +kernel
theorem dE_add_36 : decode prog_3_method_4_code 36 = .ok (.aload_n 0, 1) := by decide +kernel
theorem dE_add_37 : decode prog_3_method_4_code 37 = .ok (.getfield 27, 3) := by decide +kernel
theorem dE_add_40 : decode prog_3_method_4_code 40 = .ok (.iload_n 3, 1) := by decide +kernel
theorem dE_add_41 : decode prog_3_method_4_code 41 = .ok (.iastore, 1) := by decide +kernel
theorem dE_add_42 : decode prog_3_method_4_code 42 = .ok (.aload_n 0, 1) := by decide +kernel
theorem dE_add_43 : decode prog_3_method_4_code 43 = .ok (.getfield 21, 3) := by decide +kernel
theorem dE_add_46 : decode prog_3_method_4_code 46 = .ok (.aload_n 0, 1) := by decide +kernel
theorem dE_add_47 : decode prog_3_method_4_code 47 = .ok (.getfield 27, 3) := by decide +kernel
theorem dE_add_50 : decode prog_3_method_4_code 50 = .ok (.iload 4, 2) := by decide +kernel
theorem dE_add_52 : decode prog_3_method_4_code 52 = .ok (.iastore, 1) := by decide +kernel
theorem dE_add_53 : decode prog_3_method_4_code 53 = .ok (.aload_n 0, 1) := by decide +kernel
theorem dE_add_54 : decode prog_3_method_4_code 54 = .ok (.getfield 24, 3) := by decide +kernel
theorem dE_add_57 : decode prog_3_method_4_code 57 = .ok (.aload_n 0, 1) := by decide +kernel
theorem dE_add_58 : decode prog_3_method_4_code 58 = .ok (.getfield 27, 3) := by decide +kernel
theorem dE_add_61 : decode prog_3_method_4_code 61 = .ok (.iconst 1, 1) := by decide +kernel
theorem dE_add_62 : decode prog_3_method_4_code 62 = .ok (.aload_n 0, 1) := by decide +kernel
theorem dE_add_63 : decode prog_3_method_4_code 63 = .ok (.aload_n 0, 1) := by decide +kernel
theorem dE_add_64 : decode prog_3_method_4_code 64 = .ok (.getfield 27, 3) := by decide +kernel
theorem dE_add_67 : decode prog_3_method_4_code 67 = .ok (.invokevirtual 31, 3) := by decide +kernel
theorem dE_add_70 : decode prog_3_method_4_code 70 = .ok (.iadd, 1) := by decide +kernel
theorem dE_add_71 : decode prog_3_method_4_code 71 = .ok (.bipush 25, 2) := by decide +kernel
theorem dE_add_73 : decode prog_3_method_4_code 73 = .ok (.invokestatic 35, 3) := by decide +kernel
theorem dE_add_76 : decode prog_3_method_4_code 76 = .ok (.iastore, 1) := by decide +kernel
theorem dE_add_77 : decode prog_3_method_4_code 77 = .ok (.aload_n 0, 1) := by decide +kernel
theorem dE_add_78 : decode prog_3_method_4_code 78 = .ok (.dup, 1) := by decide +kernel
theorem dE_add_79 : decode prog_3_method_4_code 79 = .ok (.getfield 27, 3) := by decide +kernel
theorem dE_add_82 : decode prog_3_method_4_code 82 = .ok (.iconst 1, 1) := by decide +kernel
theorem dE_add_83 : decode prog_3_method_4_code 83 = .ok (.iadd, 1) := by decide +kernel
theorem dE_add_84 : decode prog_3_method_4_code 84 = .ok (.putfield 27, 3) := by decide +kernel
theorem dE_add_87 : decode prog_3_method_4_code 87 = .ok (.aload_n 0, 1) := by decide +kernel
theorem dE_add_88 : decode prog_3_method_4_code 88 = .ok (.getfield 27, 3) := by decide +kernel
theorem dE_add_91 : decode prog_3_method_4_code 91 = .ok (.iconst 1, 1) := by decide +kernel
theorem dE_add_92 : decode prog_3_method_4_code 92 = .ok (.isub, 1) := by decide +kernel
theorem dE_add_93 : decode prog_3_method_4_code 93 = .ok (.ireturn, 1) := by decide +kernel
theorem dI_expression_0 : decode prog_1_method_8_code 0 = .ok (.aload_n 0, 1) := by decide +kernel
theorem dI_expression_1 : decode prog_1_method_8_code 1 = .ok (.iload_n 1, 1) := by decide +kernel
theorem dI_expression_2 : decode prog_1_method_8_code 2 = .ok (.iload_n 2, 1) := by decide +kernel
theorem dI_expression_3 : decode prog_1_method_8_code 3 = .ok (.iload_n 3, 1) := by decide +kernel
theorem dI_expression_4 : decode prog_1_method_8_code 4 = .ok (.iload 4, 2) := by decide +kernel
theorem dI_expression_6 : decode prog_1_method_8_code 6 = .ok (.invokevirtual 91, 3) := by decide +kernel
theorem dI_expression_9 : decode prog_1_method_8_code 9 = .ok (.ifCond .ne 5, 3) := by decide +kernel
theorem dI_expression_12 : decode prog_1_method_8_code 12 = .ok (.iconst (-1), 1) := by decide +kernel
theorem dI_expression_13 : decode prog_1_method_8_code 13 = .ok (.ireturn, 1) := by decide +kernel
theorem dI_expression_14 : decode prog_1_method_8_code 14 = .ok (.aload_n 0, 1) := by decide +kernel
theorem dI_expression_15 : decode prog_1_method_8_code 15 = .ok (.getfield 26, 3) := by decide +kernel
theorem dI_expression_18 : decode prog_1_method_8_code 18 = .ok (.iload_n 1, 1) := by decide +kernel
theorem dI_expression_19 : decode prog_1_method_8_code 19 = .ok (.iload_n 2, 1) := by decide +kernel
theorem dI_expression_20 : decode prog_1_method_8_code 20 = .ok (.iload_n 3, 1) := by decide +kernel
theorem dI_expression_21 : decode prog_1_method_8_code 21 = .ok (.iload 4, 2) := by decide +kernel
theorem dI_expression_23 : decode prog_1_method_8_code 23 = .ok (.invokevirtual 95, 3) := by decide +kernel
theorem dI_expression_26 : decode prog_1_method_8_code 26 = .ok (.ireturn, 1) := by decide +kernel
theorem dD_sizeOf_0 : decode prog_5_method_5_code 0 = .ok (.iload_n 1, 1) := by decide +kernel
theorem dD_sizeOf_1 : decode prog_5_method_5_code 1 = .ok (.iconst (-1), 1) := by decide +kernel
theorem dD_sizeOf_2 : decode prog_5_method_5_code 2 = .ok (.if_icmp .ne 7, 3) := by decide +kernel
theorem dD_sizeOf_5 : decode prog_5_method_5_code 5 = .ok (.lconst 0, 1) := by decide +kernel
theorem dD_sizeOf_6 : decode prog_5_method_5_code 6 = .ok (.goto 9, 3) := by decide +kernel
theorem dD_sizeOf_9 : decode prog_5_method_5_code 9 = .ok (.aload_n 0, 1) := by decide +kernel
theorem dD_sizeOf_10 : decode prog_5_method_5_code 10 = .ok (.getfield 21, 3) := by decide +kernel
theorem dD_sizeOf_13 : decode prog_5_method_5_code 13 = .ok (.iload_n 1, 1) := by decide +kernel
theorem dD_sizeOf_14 : decode prog_5_method_5_code 14 = .ok (.laload, 1) := by decide +kernel
theorem dD_sizeOf_15 : decode prog_5_method_5_code 15 = .ok (.lreturn, 1) := by decide +kernel
theorem dD_headAt_0 : decode prog_5_method_7_code 0 = .ok (.iload_n 1, 1) := by decide +kernel
theorem dD_headAt_1 : decode prog_5_method_7_code 1 = .ok (.ifCond .lt 27, 3) := by decide +kernel
theorem dD_headAt_4 : decode prog_5_method_7_code 4 = .ok (.aload_n 0, 1) := by decide +kernel
theorem dD_headAt_5 : decode prog_5_method_7_code 5 = .ok (.getfield 28, 3) := by decide +kernel
theorem dD_headAt_8 : decode prog_5_method_7_code 8 = .ok (.ifCond .eq 20, 3) := by decide +kernel
theorem dD_headAt_11 : decode prog_5_method_7_code 11 = .ok (.iload_n 1, 1) := by decide +kernel
theorem dD_headAt_12 : decode prog_5_method_7_code 12 = .ok (.i2l, 1) := by decide +kernel
theorem dD_headAt_13 : decode prog_5_method_7_code 13 = .ok (.aload_n 0, 1) := by decide +kernel
theorem dD_headAt_14 : decode prog_5_method_7_code 14 = .ok (.getfield 21, 3) := by decide +kernel
theorem dD_headAt_17 : decode prog_5_method_7_code 17 = .ok (.aload_n 0, 1) := by decide +kernel
theorem dD_headAt_18 : decode prog_5_method_7_code 18 = .ok (.getfield 28, 3) := by decide +kernel
theorem dD_headAt_21 : decode prog_5_method_7_code 21 = .ok (.iconst 1, 1) := by decide +kernel
theorem dD_headAt_22 : decode prog_5_method_7_code 22 = .ok (.isub, 1) := by decide +kernel
theorem dD_headAt_23 : decode prog_5_method_7_code 23 = .ok (.laload, 1) := by decide +kernel
theorem dD_headAt_24 : decode prog_5_method_7_code 24 = .ok (.lcmp, 1) := by decide +kernel
theorem dD_headAt_25 : decode prog_5_method_7_code 25 = .ok (.ifCond .lt 6, 3) := by decide +kernel
theorem dD_headAt_28 : decode prog_5_method_7_code 28 = .ok (.bipush (-100), 2) := by decide +kernel
theorem dD_headAt_30 : decode prog_5_method_7_code 30 = .ok (.ireturn, 1) := by decide +kernel
theorem dD_headAt_31 : decode prog_5_method_7_code 31 = .ok (.aload_n 0, 1) := by decide +kernel
theorem dD_headAt_32 : decode prog_5_method_7_code 32 = .ok (.getfield 28, 3) := by decide +kernel
theorem dD_headAt_35 : decode prog_5_method_7_code 35 = .ok (.iconst 1, 1) := by decide +kernel
theorem dD_headAt_36 : decode prog_5_method_7_code 36 = .ok (.isub, 1) := by decide +kernel
theorem dD_headAt_37 : decode prog_5_method_7_code 37 = .ok (.istore_n 2, 1) := by decide +kernel
theorem dD_headAt_38 : decode prog_5_method_7_code 38 = .ok (.iload_n 1, 1) := by decide +kernel
theorem dD_headAt_39 : decode prog_5_method_7_code 39 = .ok (.istore_n 3, 1) := by decide +kernel
theorem dD_headAt_40 : decode prog_5_method_7_code 40 = .ok (.iconst 0, 1) := by decide +kernel
theorem dD_headAt_41 : decode prog_5_method_7_code 41 = .ok (.istore 4, 2) := by decide +kernel
theorem dD_headAt_43 : decode prog_5_method_7_code 43 = .ok (.iload_n 3, 1) := by decide +kernel
theorem dD_headAt_44 : decode prog_5_method_7_code 44 = .ok (.ifCond .le 64, 3) := by decide +kernel
theorem dD_headAt_47 : decode prog_5_method_7_code 47 = .ok (.iload 4, 2) := by decide +kernel
theorem dD_headAt_49 : decode prog_5_method_7_code 49 = .ok (.aload_n 0, 1) := by decide +kernel
theorem dD_headAt_50 : decode prog_5_method_7_code 50 = .ok (.getfield 28, 3) := by decide +kernel
theorem dD_headAt_53 : decode prog_5_method_7_code 53 = .ok (.if_icmp .ge 55, 3) := by decide +kernel
theorem dD_headAt_56 : decode prog_5_method_7_code 56 = .ok (.iinc 3 (-1), 3) := by decide +kernel
theorem dD_headAt_59 : decode prog_5_method_7_code 59 = .ok (.aload_n 0, 1) := by decide +kernel
theorem dD_headAt_60 : decode prog_5_method_7_code 60 = .ok (.aload_n 0, 1) := by decide +kernel
theorem dD_headAt_61 : decode prog_5_method_7_code 61 = .ok (.getfield 15, 3) := by decide +kernel
theorem dD_headAt_64 : decode prog_5_method_7_code 64 = .ok (.iload_n 2, 1) := by decide +kernel
theorem dD_headAt_65 : decode prog_5_method_7_code 65 = .ok (.iaload, 1) := by decide +kernel
theorem dD_headAt_66 : decode prog_5_method_7_code 66 = .ok (.invokevirtual 51, 3) := by decide +kernel
theorem dD_headAt_69 : decode prog_5_method_7_code 69 = .ok (.lstore 5, 2) := by decide +kernel
theorem dD_headAt_71 : decode prog_5_method_7_code 71 = .ok (.iload_n 3, 1) := by decide +kernel
theorem dD_headAt_72 : decode prog_5_method_7_code 72 = .ok (.i2l, 1) := by decide +kernel
theorem dD_headAt_73 : decode prog_5_method_7_code 73 = .ok (.lload 5, 2) := by decide +kernel
theorem dD_headAt_75 : decode prog_5_method_7_code 75 = .ok (.lcmp, 1) := by decide +kernel
theorem dD_headAt_76 : decode prog_5_method_7_code 76 = .ok (.ifCond .ge 13, 3) := by decide +kernel
theorem dD_headAt_79 : decode prog_5_method_7_code 79 = .ok (.aload_n 0, 1) := by decide +kernel
theorem dD_headAt_80 : decode prog_5_method_7_code 80 = .ok (.getfield 15, 3) := by decide +kernel
theorem dD_headAt_83 : decode prog_5_method_7_code 83 = .ok (.iload_n 2, 1) := by decide +kernel
theorem dD_headAt_84 : decode prog_5_method_7_code 84 = .ok (.iaload, 1) := by decide +kernel
theorem dD_headAt_85 : decode prog_5_method_7_code 85 = .ok (.istore_n 2, 1) := by decide +kernel
theorem dD_headAt_86 : decode prog_5_method_7_code 86 = .ok (.goto 16, 3) := by decide +kernel
theorem dD_headAt_89 : decode prog_5_method_7_code 89 = .ok (.iload_n 3, 1) := by decide +kernel
theorem dD_headAt_90 : decode prog_5_method_7_code 90 = .ok (.lload 5, 2) := by decide +kernel
theorem dD_headAt_92 : decode prog_5_method_7_code 92 = .ok (.l2i, 1) := by decide +kernel
theorem dD_headAt_93 : decode prog_5_method_7_code 93 = .ok (.isub, 1) := by decide +kernel
theorem dD_headAt_94 : decode prog_5_method_7_code 94 = .ok (.istore_n 3, 1) := by decide +kernel
theorem dD_headAt_95 : decode prog_5_method_7_code 95 = .ok (.aload_n 0, 1) := by decide +kernel
theorem dD_headAt_96 : decode prog_5_method_7_code 96 = .ok (.getfield 18, 3) := by decide +kernel
theorem dD_headAt_99 : decode prog_5_method_7_code 99 = .ok (.iload_n 2, 1) := by decide +kernel
theorem dD_headAt_100 : decode prog_5_method_7_code 100 = .ok (.iaload, 1) := by decide +kernel
theorem dD_headAt_101 : decode prog_5_method_7_code 101 = .ok (.istore_n 2, 1) := by decide +kernel
theorem dD_headAt_102 : decode prog_5_method_7_code 102 = .ok (.iinc 4 1, 3) := by decide +kernel
theorem dD_headAt_105 : decode prog_5_method_7_code 105 = .ok (.goto (-62), 3) := by decide +kernel
theorem dD_headAt_108 : decode prog_5_method_7_code 108 = .ok (.aload_n 0, 1) := by decide +kernel
theorem dD_headAt_109 : decode prog_5_method_7_code 109 = .ok (.getfield 9, 3) := by decide +kernel
theorem dD_headAt_112 : decode prog_5_method_7_code 112 = .ok (.iload_n 2, 1) := by decide +kernel
theorem dD_headAt_113 : decode prog_5_method_7_code 113 = .ok (.iaload, 1) := by decide +kernel
theorem dD_headAt_114 : decode prog_5_method_7_code 114 = .ok (.ireturn, 1) := by decide +kernel
theorem dI_shape_0 : decode prog_1_method_12_code 0 = .ok (.aload_n 0, 1) := by decide +kernel
theorem dI_shape_1 : decode prog_1_method_12_code 1 = .ok (.getfield 42, 3) := by decide +kernel
theorem dI_shape_4 : decode prog_1_method_12_code 4 = .ok (.iload_n 1, 1) := by decide +kernel
theorem dI_shape_5 : decode prog_1_method_12_code 5 = .ok (.invokevirtual 118, 3) := by decide +kernel
theorem dI_shape_8 : decode prog_1_method_12_code 8 = .ok (.ireturn, 1) := by decide +kernel
theorem dD_wantCount_0 : decode prog_5_method_8_code 0 = .ok (.aload_n 0, 1) := by decide +kernel
theorem dD_wantCount_1 : decode prog_5_method_8_code 1 = .ok (.getfield 35, 3) := by decide +kernel
theorem dD_wantCount_4 : decode prog_5_method_8_code 4 = .ok (.ireturn, 1) := by decide +kernel
theorem dI_wants_0 : decode prog_1_method_13_code 0 = .ok (.aload_n 0, 1) := by decide +kernel
theorem dI_wants_1 : decode prog_1_method_13_code 1 = .ok (.getfield 42, 3) := by decide +kernel
theorem dI_wants_4 : decode prog_1_method_13_code 4 = .ok (.invokevirtual 121, 3) := by decide +kernel
theorem dI_wants_7 : decode prog_1_method_13_code 7 = .ok (.ireturn, 1) := by decide +kernel
theorem dD_wantAt_0 : decode prog_5_method_10_code 0 = .ok (.iload_n 1, 1) := by decide +kernel
theorem dD_wantAt_1 : decode prog_5_method_10_code 1 = .ok (.istore_n 3, 1) := by decide +kernel
theorem dD_wantAt_2 : decode prog_5_method_10_code 2 = .ok (.iconst 0, 1) := by decide +kernel
theorem dD_wantAt_3 : decode prog_5_method_10_code 3 = .ok (.istore 4, 2) := by decide +kernel
theorem dD_wantAt_5 : decode prog_5_method_10_code 5 = .ok (.iload 4, 2) := by decide +kernel
theorem dD_wantAt_7 : decode prog_5_method_10_code 7 = .ok (.aload_n 0, 1) := by decide +kernel
theorem dD_wantAt_8 : decode prog_5_method_10_code 8 = .ok (.getfield 32, 3) := by decide +kernel
theorem dD_wantAt_11 : decode prog_5_method_10_code 11 = .ok (.if_icmp .ge 62, 3) := by decide +kernel
theorem dD_wantAt_14 : decode prog_5_method_10_code 14 = .ok (.iconst 0, 1) := by decide +kernel
theorem dD_wantAt_15 : decode prog_5_method_10_code 15 = .ok (.istore 5, 2) := by decide +kernel
theorem dD_wantAt_17 : decode prog_5_method_10_code 17 = .ok (.iload 5, 2) := by decide +kernel
theorem dD_wantAt_19 : decode prog_5_method_10_code 19 = .ok (.bipush 8, 2) := by decide +kernel
theorem dD_wantAt_21 : decode prog_5_method_10_code 21 = .ok (.if_icmp .ge 46, 3) := by decide +kernel
theorem dD_wantAt_24 : decode prog_5_method_10_code 24 = .ok (.aload_n 0, 1) := by decide +kernel
theorem dD_wantAt_25 : decode prog_5_method_10_code 25 = .ok (.getfield 25, 3) := by decide +kernel
theorem dD_wantAt_28 : decode prog_5_method_10_code 28 = .ok (.iload 4, 2) := by decide +kernel
theorem dD_wantAt_30 : decode prog_5_method_10_code 30 = .ok (.iaload, 1) := by decide +kernel
theorem dD_wantAt_31 : decode prog_5_method_10_code 31 = .ok (.iconst 1, 1) := by decide +kernel
theorem dD_wantAt_32 : decode prog_5_method_10_code 32 = .ok (.iload 5, 2) := by decide +kernel
theorem dD_wantAt_34 : decode prog_5_method_10_code 34 = .ok (.ishl, 1) := by decide +kernel
theorem dD_wantAt_35 : decode prog_5_method_10_code 35 = .ok (.iand, 1) := by decide +kernel
theorem dD_wantAt_36 : decode prog_5_method_10_code 36 = .ok (.ifCond .ne 6, 3) := by decide +kernel
theorem dD_wantAt_39 : decode prog_5_method_10_code 39 = .ok (.goto 22, 3) := by decide +kernel
theorem dD_wantAt_42 : decode prog_5_method_10_code 42 = .ok (.iload_n 3, 1) := by decide +kernel
theorem dD_wantAt_43 : decode prog_5_method_10_code 43 = .ok (.ifCond .ne 15, 3) := by decide +kernel
theorem dD_wantAt_46 : decode prog_5_method_10_code 46 = .ok (.iload_n 2, 1) := by decide +kernel
theorem dD_wantAt_47 : decode prog_5_method_10_code 47 = .ok (.ifCond .ne 8, 3) := by decide +kernel
theorem dD_wantAt_50 : decode prog_5_method_10_code 50 = .ok (.iload 5, 2) := by decide +kernel
theorem dD_wantAt_52 : decode prog_5_method_10_code 52 = .ok (.goto 5, 3) := by decide +kernel
theorem dD_wantAt_55 : decode prog_5_method_10_code 55 = .ok (.iload 4, 2) := by decide +kernel
theorem dD_wantAt_57 : decode prog_5_method_10_code 57 = .ok (.ireturn, 1) := by decide +kernel
theorem dD_wantAt_58 : decode prog_5_method_10_code 58 = .ok (.iinc 3 (-1), 3) := by decide +kernel
theorem dD_wantAt_61 : decode prog_5_method_10_code 61 = .ok (.iinc 5 1, 3) := by decide +kernel
theorem dD_wantAt_64 : decode prog_5_method_10_code 64 = .ok (.goto (-47), 3) := by decide +kernel
theorem dD_wantAt_67 : decode prog_5_method_10_code 67 = .ok (.iinc 4 1, 3) := by decide +kernel
theorem dD_wantAt_70 : decode prog_5_method_10_code 70 = .ok (.goto (-65), 3) := by decide +kernel
theorem dD_wantAt_73 : decode prog_5_method_10_code 73 = .ok (.iconst (-1), 1) := by decide +kernel
theorem dD_wantAt_74 : decode prog_5_method_10_code 74 = .ok (.ireturn, 1) := by decide +kernel
theorem dI_want_0 : decode prog_1_method_14_code 0 = .ok (.iload_n 1, 1) := by decide +kernel
theorem dI_want_1 : decode prog_1_method_14_code 1 = .ok (.ifCond .lt 23, 3) := by decide +kernel
theorem dI_want_4 : decode prog_1_method_14_code 4 = .ok (.iload_n 1, 1) := by decide +kernel
theorem dI_want_5 : decode prog_1_method_14_code 5 = .ok (.aload_n 0, 1) := by decide +kernel
theorem dI_want_6 : decode prog_1_method_14_code 6 = .ok (.getfield 42, 3) := by decide +kernel
theorem dI_want_9 : decode prog_1_method_14_code 9 = .ok (.invokevirtual 121, 3) := by decide +kernel
theorem dI_want_12 : decode prog_1_method_14_code 12 = .ok (.if_icmp .ge 12, 3) := by decide +kernel
theorem dI_want_15 : decode prog_1_method_14_code 15 = .ok (.iload_n 2, 1) := by decide +kernel
theorem dI_want_16 : decode prog_1_method_14_code 16 = .ok (.ifCond .lt 8, 3) := by decide +kernel
theorem dI_want_19 : decode prog_1_method_14_code 19 = .ok (.iload_n 2, 1) := by decide +kernel
theorem dI_want_20 : decode prog_1_method_14_code 20 = .ok (.iconst 1, 1) := by decide +kernel
theorem dI_want_21 : decode prog_1_method_14_code 21 = .ok (.if_icmp .le 5, 3) := by decide +kernel
theorem dI_want_24 : decode prog_1_method_14_code 24 = .ok (.iconst (-1), 1) := by decide +kernel
theorem dI_want_25 : decode prog_1_method_14_code 25 = .ok (.ireturn, 1) := by decide +kernel
theorem dI_want_26 : decode prog_1_method_14_code 26 = .ok (.aload_n 0, 1) := by decide +kernel
theorem dI_want_27 : decode prog_1_method_14_code 27 = .ok (.getfield 42, 3) := by decide +kernel
theorem dI_want_30 : decode prog_1_method_14_code 30 = .ok (.iload_n 1, 1) := by decide +kernel
theorem dI_want_31 : decode prog_1_method_14_code 31 = .ok (.iload_n 2, 1) := by decide +kernel
theorem dI_want_32 : decode prog_1_method_14_code 32 = .ok (.invokevirtual 124, 3) := by decide +kernel
theorem dI_want_35 : decode prog_1_method_14_code 35 = .ok (.ireturn, 1) := by decide +kernel
theorem dD_handedOver_0 : decode prog_5_method_9_code 0 = .ok (.aload_n 0, 1) := by decide +kernel
theorem dD_handedOver_1 : decode prog_5_method_9_code 1 = .ok (.getfield 38, 3) := by decide +kernel
theorem dD_handedOver_4 : decode prog_5_method_9_code 4 = .ok (.ireturn, 1) := by decide +kernel
theorem dI_passes_0 : decode prog_1_method_15_code 0 = .ok (.aload_n 0, 1) := by decide +kernel
theorem dI_passes_1 : decode prog_1_method_15_code 1 = .ok (.getfield 42, 3) := by decide +kernel
theorem dI_passes_4 : decode prog_1_method_15_code 4 = .ok (.invokevirtual 128, 3) := by decide +kernel
theorem dI_passes_7 : decode prog_1_method_15_code 7 = .ok (.ireturn, 1) := by decide +kernel
theorem dI_under_0 : decode prog_1_method_17_code 0 = .ok (.aload_n 0, 1) := by decide +kernel
theorem dI_under_1 : decode prog_1_method_17_code 1 = .ok (.getfield 19, 3) := by decide +kernel
theorem dI_under_4 : decode prog_1_method_17_code 4 = .ok (.iload_n 1, 1) := by decide +kernel
theorem dI_under_5 : decode prog_1_method_17_code 5 = .ok (.invokevirtual 67, 3) := by decide +kernel
theorem dI_under_8 : decode prog_1_method_17_code 8 = .ok (.ifCond .eq 14, 3) := by decide +kernel
theorem dI_under_11 : decode prog_1_method_17_code 11 = .ok (.aload_n 0, 1) := by decide +kernel
theorem dI_under_12 : decode prog_1_method_17_code 12 = .ok (.getfield 19, 3) := by decide +kernel
theorem dI_under_15 : decode prog_1_method_17_code 15 = .ok (.iload_n 2, 1) := by decide +kernel
theorem dI_under_16 : decode prog_1_method_17_code 16 = .ok (.invokevirtual 67, 3) := by decide +kernel
theorem dI_under_19 : decode prog_1_method_17_code 19 = .ok (.ifCond .ne 5, 3) := by decide +kernel
theorem dI_under_22 : decode prog_1_method_17_code 22 = .ok (.iconst (-1), 1) := by decide +kernel
theorem dI_under_23 : decode prog_1_method_17_code 23 = .ok (.ireturn, 1) := by decide +kernel
theorem dI_under_24 : decode prog_1_method_17_code 24 = .ok (.aload_n 0, 1) := by decide +kernel
theorem dI_under_25 : decode prog_1_method_17_code 25 = .ok (.getfield 19, 3) := by decide +kernel
theorem dI_under_28 : decode prog_1_method_17_code 28 = .ok (.iconst 1, 1) := by decide +kernel
theorem dI_under_29 : decode prog_1_method_17_code 29 = .ok (.iload_n 1, 1) := by decide +kernel
theorem dI_under_30 : decode prog_1_method_17_code 30 = .ok (.ishl, 1) := by decide +kernel
theorem dI_under_31 : decode prog_1_method_17_code 31 = .ok (.iconst 1, 1) := by decide +kernel
theorem dI_under_32 : decode prog_1_method_17_code 32 = .ok (.iload_n 2, 1) := by decide +kernel
theorem dI_under_33 : decode prog_1_method_17_code 33 = .ok (.ishl, 1) := by decide +kernel
theorem dI_under_34 : decode prog_1_method_17_code 34 = .ok (.invokevirtual 138, 3) := by decide +kernel
theorem dI_under_37 : decode prog_1_method_17_code 37 = .ok (.ifCond .eq 7, 3) := by decide +kernel
theorem dI_under_40 : decode prog_1_method_17_code 40 = .ok (.iconst 1, 1) := by decide +kernel
theorem dI_under_41 : decode prog_1_method_17_code 41 = .ok (.goto 4, 3) := by decide +kernel
theorem dI_under_44 : decode prog_1_method_17_code 44 = .ok (.iconst 0, 1) := by decide +kernel
theorem dI_under_45 : decode prog_1_method_17_code 45 = .ok (.ireturn, 1) := by decide +kernel
theorem dI_types_0 : decode prog_1_method_18_code 0 = .ok (.aload_n 0, 1) := by decide +kernel
theorem dI_types_1 : decode prog_1_method_18_code 1 = .ok (.getfield 10, 3) := by decide +kernel
theorem dI_types_4 : decode prog_1_method_18_code 4 = .ok (.getfield 141, 3) := by decide +kernel
theorem dI_types_7 : decode prog_1_method_18_code 7 = .ok (.ireturn, 1) := by decide +kernel
theorem dI_classes_0 : decode prog_1_method_19_code 0 = .ok (.aload_n 0, 1) := by decide +kernel
theorem dI_classes_1 : decode prog_1_method_19_code 1 = .ok (.getfield 19, 3) := by decide +kernel
theorem dI_classes_4 : decode prog_1_method_19_code 4 = .ok (.getfield 145, 3) := by decide +kernel
theorem dI_classes_7 : decode prog_1_method_19_code 7 = .ok (.ireturn, 1) := by decide +kernel
theorem dI_expressions_0 : decode prog_1_method_20_code 0 = .ok (.aload_n 0, 1) := by decide +kernel
theorem dI_expressions_1 : decode prog_1_method_20_code 1 = .ok (.getfield 26, 3) := by decide +kernel
theorem dI_expressions_4 : decode prog_1_method_20_code 4 = .ok (.getfield 146, 3) := by decide +kernel
theorem dI_expressions_7 : decode prog_1_method_20_code 7 = .ok (.ireturn, 1) := by decide +kernel
theorem dT_holdsVariables_0 : decode prog_6_method_5_code 0 = .ok (.aload_n 0, 1) := by decide +kernel
theorem dT_holdsVariables_1 : decode prog_6_method_5_code 1 = .ok (.getfield 27, 3) := by decide +kernel
theorem dT_holdsVariables_4 : decode prog_6_method_5_code 4 = .ok (.iload_n 1, 1) := by decide +kernel
theorem dT_holdsVariables_5 : decode prog_6_method_5_code 5 = .ok (.iaload, 1) := by decide +kernel
theorem dT_holdsVariables_6 : decode prog_6_method_5_code 6 = .ok (.ifCond .eq 7, 3) := by decide +kernel
theorem dT_holdsVariables_9 : decode prog_6_method_5_code 9 = .ok (.iconst 1, 1) := by decide +kernel
theorem dT_holdsVariables_10 : decode prog_6_method_5_code 10 = .ok (.goto 4, 3) := by decide +kernel
theorem dT_holdsVariables_13 : decode prog_6_method_5_code 13 = .ok (.iconst 0, 1) := by decide +kernel
theorem dT_holdsVariables_14 : decode prog_6_method_5_code 14 = .ok (.ireturn, 1) := by decide +kernel
theorem dK_lowest_0 : decode prog_2_method_11_code 0 = .ok (.iconst 0, 1) := by decide +kernel
theorem dK_lowest_1 : decode prog_2_method_11_code 1 = .ok (.istore_n 2, 1) := by decide +kernel
theorem dK_lowest_2 : decode prog_2_method_11_code 2 = .ok (.iconst 0, 1) := by decide +kernel
theorem dK_lowest_3 : decode prog_2_method_11_code 3 = .ok (.istore_n 3, 1) := by decide +kernel
theorem dK_lowest_4 : decode prog_2_method_11_code 4 = .ok (.iload_n 3, 1) := by decide +kernel
theorem dK_lowest_5 : decode prog_2_method_11_code 5 = .ok (.aload_n 0, 1) := by decide +kernel
theorem dK_lowest_6 : decode prog_2_method_11_code 6 = .ok (.getfield 36, 3) := by decide +kernel
theorem dK_lowest_9 : decode prog_2_method_11_code 9 = .ok (.if_icmp .ge 32, 3) := by decide +kernel
theorem dK_lowest_12 : decode prog_2_method_11_code 12 = .ok (.iload_n 1, 1) := by decide +kernel
theorem dK_lowest_13 : decode prog_2_method_11_code 13 = .ok (.iconst 1, 1) := by decide +kernel
theorem dK_lowest_14 : decode prog_2_method_11_code 14 = .ok (.iload_n 3, 1) := by decide +kernel
theorem dK_lowest_15 : decode prog_2_method_11_code 15 = .ok (.ishl, 1) := by decide +kernel
theorem dK_lowest_16 : decode prog_2_method_11_code 16 = .ok (.iand, 1) := by decide +kernel
theorem dK_lowest_17 : decode prog_2_method_11_code 17 = .ok (.ifCond .eq 18, 3) := by decide +kernel
theorem dK_lowest_20 : decode prog_2_method_11_code 20 = .ok (.iload_n 2, 1) := by decide +kernel
theorem dK_lowest_21 : decode prog_2_method_11_code 21 = .ok (.aload_n 0, 1) := by decide +kernel
theorem dK_lowest_22 : decode prog_2_method_11_code 22 = .ok (.getfield 15, 3) := by decide +kernel
theorem dK_lowest_25 : decode prog_2_method_11_code 25 = .ok (.iload_n 3, 1) := by decide +kernel
theorem dK_lowest_26 : decode prog_2_method_11_code 26 = .ok (.iaload, 1) := by decide +kernel
theorem dK_lowest_27 : decode prog_2_method_11_code 27 = .ok (.iconst 1, 1) := by decide +kernel
theorem dK_lowest_28 : decode prog_2_method_11_code 28 = .ok (.iload_n 3, 1) := by decide +kernel
theorem dK_lowest_29 : decode prog_2_method_11_code 29 = .ok (.ishl, 1) := by decide +kernel
theorem dK_lowest_30 : decode prog_2_method_11_code 30 = .ok (.iconst (-1), 1) := by decide +kernel
theorem dK_lowest_31 : decode prog_2_method_11_code 31 = .ok (.ixor, 1) := by decide +kernel
theorem dK_lowest_32 : decode prog_2_method_11_code 32 = .ok (.iand, 1) := by decide +kernel
theorem dK_lowest_33 : decode prog_2_method_11_code 33 = .ok (.ior, 1) := by decide +kernel
theorem dK_lowest_34 : decode prog_2_method_11_code 34 = .ok (.istore_n 2, 1) := by decide +kernel
theorem dK_lowest_35 : decode prog_2_method_11_code 35 = .ok (.iinc 3 1, 3) := by decide +kernel
theorem dK_lowest_38 : decode prog_2_method_11_code 38 = .ok (.goto (-34), 3) := by decide +kernel
theorem dK_lowest_41 : decode prog_2_method_11_code 41 = .ok (.iload_n 1, 1) := by decide +kernel
theorem dK_lowest_42 : decode prog_2_method_11_code 42 = .ok (.iload_n 2, 1) := by decide +kernel
theorem dK_lowest_43 : decode prog_2_method_11_code 43 = .ok (.iconst (-1), 1) := by decide +kernel
theorem dK_lowest_44 : decode prog_2_method_11_code 44 = .ok (.ixor, 1) := by decide +kernel
theorem dK_lowest_45 : decode prog_2_method_11_code 45 = .ok (.iand, 1) := by decide +kernel
theorem dK_lowest_46 : decode prog_2_method_11_code 46 = .ok (.ireturn, 1) := by decide +kernel
theorem dK_haveInstances_0 : decode prog_2_method_12_code 0 = .ok (.iconst 0, 1) := by decide +kernel
theorem dK_haveInstances_1 : decode prog_2_method_12_code 1 = .ok (.istore_n 3, 1) := by decide +kernel
theorem dK_haveInstances_2 : decode prog_2_method_12_code 2 = .ok (.iload_n 3, 1) := by decide +kernel
theorem dK_haveInstances_3 : decode prog_2_method_12_code 3 = .ok (.aload_n 0, 1) := by decide +kernel
theorem dK_haveInstances_4 : decode prog_2_method_12_code 4 = .ok (.getfield 36, 3) := by decide +kernel
theorem dK_haveInstances_7 : decode prog_2_method_12_code 7 = .ok (.if_icmp .ge 33, 3) := by decide +kernel
theorem dK_haveInstances_10 : decode prog_2_method_12_code 10 = .ok (.iload_n 1, 1) := by decide +kernel
theorem dK_haveInstances_11 : decode prog_2_method_12_code 11 = .ok (.iconst 1, 1) := by decide +kernel
theorem dK_haveInstances_12 : decode prog_2_method_12_code 12 = .ok (.iload_n 3, 1) := by decide +kernel
theorem dK_haveInstances_13 : decode prog_2_method_12_code 13 = .ok (.ishl, 1) := by decide +kernel
theorem dK_haveInstances_14 : decode prog_2_method_12_code 14 = .ok (.iand, 1) := by decide +kernel
theorem dK_haveInstances_15 : decode prog_2_method_12_code 15 = .ok (.ifCond .eq 19, 3) := by decide +kernel
theorem dK_haveInstances_18 : decode prog_2_method_12_code 18 = .ok (.aload_n 0, 1) := by decide +kernel
theorem dK_haveInstances_19 : decode prog_2_method_12_code 19 = .ok (.getfield 21, 3) := by decide +kernel
theorem dK_haveInstances_22 : decode prog_2_method_12_code 22 = .ok (.iload_n 3, 1) := by decide +kernel
theorem dK_haveInstances_23 : decode prog_2_method_12_code 23 = .ok (.iload_n 2, 1) := by decide +kernel
theorem dK_haveInstances_24 : decode prog_2_method_12_code 24 = .ok (.invokestatic 44, 3) := by decide +kernel
theorem dK_haveInstances_27 : decode prog_2_method_12_code 27 = .ok (.iaload, 1) := by decide +kernel
theorem dK_haveInstances_28 : decode prog_2_method_12_code 28 = .ok (.iconst (-1), 1) := by decide +kernel
theorem dK_haveInstances_29 : decode prog_2_method_12_code 29 = .ok (.if_icmp .ne 5, 3) := by decide +kernel
theorem dK_haveInstances_32 : decode prog_2_method_12_code 32 = .ok (.iconst 0, 1) := by decide +kernel
theorem dK_haveInstances_33 : decode prog_2_method_12_code 33 = .ok (.ireturn, 1) := by decide +kernel
theorem dK_haveInstances_34 : decode prog_2_method_12_code 34 = .ok (.iinc 3 1, 3) := by decide +kernel
theorem dK_haveInstances_37 : decode prog_2_method_12_code 37 = .ok (.goto (-35), 3) := by decide +kernel
theorem dK_haveInstances_40 : decode prog_2_method_12_code 40 = .ok (.iconst 1, 1) := by decide +kernel
theorem dK_haveInstances_41 : decode prog_2_method_12_code 41 = .ok (.ireturn, 1) := by decide +kernel
theorem dK_joined_0 : decode prog_2_method_13_code 0 = .ok (.iconst 0, 1) := by decide +kernel
theorem dK_joined_1 : decode prog_2_method_13_code 1 = .ok (.istore 4, 2) := by decide +kernel
theorem dK_joined_3 : decode prog_2_method_13_code 3 = .ok (.iconst 0, 1) := by decide +kernel
theorem dK_joined_4 : decode prog_2_method_13_code 4 = .ok (.istore 5, 2) := by decide +kernel
theorem dK_joined_6 : decode prog_2_method_13_code 6 = .ok (.iload 5, 2) := by decide +kernel
theorem dK_joined_8 : decode prog_2_method_13_code 8 = .ok (.aload_n 0, 1) := by decide +kernel
theorem dK_joined_9 : decode prog_2_method_13_code 9 = .ok (.getfield 36, 3) := by decide +kernel
theorem dK_joined_12 : decode prog_2_method_13_code 12 = .ok (.if_icmp .ge 31, 3) := by decide +kernel
theorem dK_joined_15 : decode prog_2_method_13_code 15 = .ok (.iload_n 2, 1) := by decide +kernel
theorem dK_joined_16 : decode prog_2_method_13_code 16 = .ok (.iconst 1, 1) := by decide +kernel
theorem dK_joined_17 : decode prog_2_method_13_code 17 = .ok (.iload 5, 2) := by decide +kernel
theorem dK_joined_19 : decode prog_2_method_13_code 19 = .ok (.ishl, 1) := by decide +kernel
theorem dK_joined_20 : decode prog_2_method_13_code 20 = .ok (.iand, 1) := by decide +kernel
theorem dK_joined_21 : decode prog_2_method_13_code 21 = .ok (.ifCond .eq 16, 3) := by decide +kernel
theorem dK_joined_24 : decode prog_2_method_13_code 24 = .ok (.iload 4, 2) := by decide +kernel
theorem dK_joined_26 : decode prog_2_method_13_code 26 = .ok (.aload_n 1, 1) := by decide +kernel
theorem dK_joined_27 : decode prog_2_method_13_code 27 = .ok (.iload 5, 2) := by decide +kernel
theorem dK_joined_29 : decode prog_2_method_13_code 29 = .ok (.iload_n 3, 1) := by decide +kernel
theorem dK_joined_30 : decode prog_2_method_13_code 30 = .ok (.invokestatic 44, 3) := by decide +kernel
theorem dK_joined_33 : decode prog_2_method_13_code 33 = .ok (.iaload, 1) := by decide +kernel
theorem dK_joined_34 : decode prog_2_method_13_code 34 = .ok (.ior, 1) := by decide +kernel
theorem dK_joined_35 : decode prog_2_method_13_code 35 = .ok (.istore 4, 2) := by decide +kernel
theorem dK_joined_37 : decode prog_2_method_13_code 37 = .ok (.iinc 5 1, 3) := by decide +kernel
theorem dK_joined_40 : decode prog_2_method_13_code 40 = .ok (.goto (-34), 3) := by decide +kernel
theorem dK_joined_43 : decode prog_2_method_13_code 43 = .ok (.iload 4, 2) := by decide +kernel
theorem dK_joined_45 : decode prog_2_method_13_code 45 = .ok (.ireturn, 1) := by decide +kernel
theorem dE_nodesOf_0 : decode prog_3_method_3_code 0 = .ok (.aload_n 0, 1) := by decide +kernel
theorem dE_nodesOf_1 : decode prog_3_method_3_code 1 = .ok (.getfield 24, 3) := by decide +kernel
theorem dE_nodesOf_4 : decode prog_3_method_3_code 4 = .ok (.iload_n 1, 1) := by decide +kernel
theorem dE_nodesOf_5 : decode prog_3_method_3_code 5 = .ok (.iaload, 1) := by decide +kernel
theorem dE_nodesOf_6 : decode prog_3_method_3_code 6 = .ok (.ireturn, 1) := by decide +kernel
theorem dY_enter_0 : decode prog_7_method_9_code 0 = .ok (.aload_n 0, 1) := by decide +kernel
theorem dY_enter_1 : decode prog_7_method_9_code 1 = .ok (.getfield 46, 3) := by decide +kernel
theorem dY_enter_4 : decode prog_7_method_9_code 4 = .ok (.bipush 24, 2) := by decide +kernel
theorem dY_enter_6 : decode prog_7_method_9_code 6 = .ok (.if_icmp .ge 43, 3) := by decide +kernel
theorem dY_enter_9 : decode prog_7_method_9_code 9 = .ok (.aload_n 0, 1) := by decide +kernel
theorem dY_enter_10 : decode prog_7_method_9_code 10 = .ok (.getfield 18, 3) := by decide +kernel
theorem dY_enter_13 : decode prog_7_method_9_code 13 = .ok (.aload_n 0, 1) := by decide +kernel
theorem dY_enter_14 : decode prog_7_method_9_code 14 = .ok (.getfield 46, 3) := by decide +kernel
theorem dY_enter_17 : decode prog_7_method_9_code 17 = .ok (.iload_n 1, 1) := by decide +kernel
theorem dY_enter_18 : decode prog_7_method_9_code 18 = .ok (.iastore, 1) := by decide +kernel
theorem dY_enter_19 : decode prog_7_method_9_code 19 = .ok (.aload_n 0, 1) := by decide +kernel
theorem dY_enter_20 : decode prog_7_method_9_code 20 = .ok (.getfield 22, 3) := by decide +kernel
theorem dY_enter_23 : decode prog_7_method_9_code 23 = .ok (.aload_n 0, 1) := by decide +kernel
theorem dY_enter_24 : decode prog_7_method_9_code 24 = .ok (.getfield 46, 3) := by decide +kernel
theorem dY_enter_27 : decode prog_7_method_9_code 27 = .ok (.iload_n 2, 1) := by decide +kernel
theorem dY_enter_28 : decode prog_7_method_9_code 28 = .ok (.iastore, 1) := by decide +kernel
theorem dY_enter_29 : decode prog_7_method_9_code 29 = .ok (.aload_n 0, 1) := by decide +kernel
theorem dY_enter_30 : decode prog_7_method_9_code 30 = .ok (.getfield 25, 3) := by decide +kernel
theorem dY_enter_33 : decode prog_7_method_9_code 33 = .ok (.aload_n 0, 1) := by decide +kernel
theorem dY_enter_34 : decode prog_7_method_9_code 34 = .ok (.getfield 46, 3) := by decide +kernel
theorem dY_enter_37 : decode prog_7_method_9_code 37 = .ok (.iload_n 3, 1) := by decide +kernel
theorem dY_enter_38 : decode prog_7_method_9_code 38 = .ok (.iastore, 1) := by decide +kernel
theorem dY_enter_39 : decode prog_7_method_9_code 39 = .ok (.aload_n 0, 1) := by decide +kernel
theorem dY_enter_40 : decode prog_7_method_9_code 40 = .ok (.dup, 1) := by decide +kernel
theorem dY_enter_41 : decode prog_7_method_9_code 41 = .ok (.getfield 46, 3) := by decide +kernel
theorem dY_enter_44 : decode prog_7_method_9_code 44 = .ok (.iconst 1, 1) := by decide +kernel
theorem dY_enter_45 : decode prog_7_method_9_code 45 = .ok (.iadd, 1) := by decide +kernel
theorem dY_enter_46 : decode prog_7_method_9_code 46 = .ok (.putfield 46, 3) := by decide +kernel
theorem dY_enter_49 : decode prog_7_method_9_code 49 = .ok (.return_, 1) := by decide +kernel
theorem dY_leave_0 : decode prog_7_method_10_code 0 = .ok (.aload_n 0, 1) := by decide +kernel
theorem dY_leave_1 : decode prog_7_method_10_code 1 = .ok (.getfield 46, 3) := by decide +kernel
theorem dY_leave_4 : decode prog_7_method_10_code 4 = .ok (.ifCond .le 13, 3) := by decide +kernel
theorem dY_leave_7 : decode prog_7_method_10_code 7 = .ok (.aload_n 0, 1) := by decide +kernel
theorem dY_leave_8 : decode prog_7_method_10_code 8 = .ok (.dup, 1) := by decide +kernel
theorem dY_leave_9 : decode prog_7_method_10_code 9 = .ok (.getfield 46, 3) := by decide +kernel
theorem dY_leave_12 : decode prog_7_method_10_code 12 = .ok (.iconst 1, 1) := by decide +kernel
theorem dY_leave_13 : decode prog_7_method_10_code 13 = .ok (.isub, 1) := by decide +kernel
theorem dY_leave_14 : decode prog_7_method_10_code 14 = .ok (.putfield 46, 3) := by decide +kernel
theorem dY_leave_17 : decode prog_7_method_10_code 17 = .ok (.return_, 1) := by decide +kernel
theorem dG_startWalk_0 : decode prog_4_method_14_code 0 = .ok (.aload_n 0, 1) := by decide +kernel
theorem dG_startWalk_1 : decode prog_4_method_14_code 1 = .ok (.dup, 1) := by decide +kernel
theorem dG_startWalk_2 : decode prog_4_method_14_code 2 = .ok (.getfield 88, 3) := by decide +kernel
theorem dG_startWalk_5 : decode prog_4_method_14_code 5 = .ok (.iconst 1, 1) := by decide +kernel
theorem dG_startWalk_6 : decode prog_4_method_14_code 6 = .ok (.iadd, 1) := by decide +kernel
theorem dG_startWalk_7 : decode prog_4_method_14_code 7 = .ok (.putfield 88, 3) := by decide +kernel
theorem dG_startWalk_10 : decode prog_4_method_14_code 10 = .ok (.aload_n 0, 1) := by decide +kernel
theorem dG_startWalk_11 : decode prog_4_method_14_code 11 = .ok (.iconst 0, 1) := by decide +kernel
theorem dG_startWalk_12 : decode prog_4_method_14_code 12 = .ok (.putfield 91, 3) := by decide +kernel
theorem dG_startWalk_15 : decode prog_4_method_14_code 15 = .ok (.return_, 1) := by decide +kernel
theorem dG_settled_0 : decode prog_4_method_6_code 0 = .ok (.iload_n 1, 1) := by decide +kernel
theorem dG_settled_1 : decode prog_4_method_6_code 1 = .ok (.istore_n 2, 1) := by decide +kernel
theorem dG_settled_2 : decode prog_4_method_6_code 2 = .ok (.iconst 0, 1) := by decide +kernel
theorem dG_settled_3 : decode prog_4_method_6_code 3 = .ok (.istore_n 3, 1) := by decide +kernel
theorem dG_settled_4 : decode prog_4_method_6_code 4 = .ok (.aload_n 0, 1) := by decide +kernel
theorem dG_settled_5 : decode prog_4_method_6_code 5 = .ok (.getfield 9, 3) := by decide +kernel
theorem dG_settled_8 : decode prog_4_method_6_code 8 = .ok (.iload_n 2, 1) := by decide +kernel
theorem dG_settled_9 : decode prog_4_method_6_code 9 = .ok (.iaload, 1) := by decide +kernel
theorem dG_settled_10 : decode prog_4_method_6_code 10 = .ok (.bipush (-2), 2) := by decide +kernel
theorem dG_settled_12 : decode prog_4_method_6_code 12 = .ok (.if_icmp .ne 24, 3) := by decide +kernel
theorem dG_settled_15 : decode prog_4_method_6_code 15 = .ok (.iload_n 3, 1) := by decide +kernel
theorem dG_settled_16 : decode prog_4_method_6_code 16 = .ok (.aload_n 0, 1) := by decide +kernel
theorem dG_settled_17 : decode prog_4_method_6_code 17 = .ok (.getfield 45, 3) := by decide +kernel
theorem dG_settled_20 : decode prog_4_method_6_code 20 = .ok (.if_icmp .ge 16, 3) := by decide +kernel
theorem dG_settled_23 : decode prog_4_method_6_code 23 = .ok (.aload_n 0, 1) := by decide +kernel
theorem dG_settled_24 : decode prog_4_method_6_code 24 = .ok (.getfield 15, 3) := by decide +kernel
theorem dG_settled_27 : decode prog_4_method_6_code 27 = .ok (.iload_n 2, 1) := by decide +kernel
theorem dG_settled_28 : decode prog_4_method_6_code 28 = .ok (.iaload, 1) := by decide +kernel
theorem dG_settled_29 : decode prog_4_method_6_code 29 = .ok (.istore_n 2, 1) := by decide +kernel
theorem dG_settled_30 : decode prog_4_method_6_code 30 = .ok (.iinc 3 1, 3) := by decide +kernel
theorem dG_settled_33 : decode prog_4_method_6_code 33 = .ok (.goto (-29), 3) := by decide +kernel
theorem dG_settled_36 : decode prog_4_method_6_code 36 = .ok (.iload_n 2, 1) := by decide +kernel
theorem dG_settled_37 : decode prog_4_method_6_code 37 = .ok (.iload_n 1, 1) := by decide +kernel
theorem dG_settled_38 : decode prog_4_method_6_code 38 = .ok (.if_icmp .eq 10, 3) := by decide +kernel
theorem dG_settled_41 : decode prog_4_method_6_code 41 = .ok (.aload_n 0, 1) := by decide +kernel
theorem dG_settled_42 : decode prog_4_method_6_code 42 = .ok (.getfield 15, 3) := by decide +kernel
theorem dG_settled_45 : decode prog_4_method_6_code 45 = .ok (.iload_n 1, 1) := by decide +kernel
theorem dG_settled_46 : decode prog_4_method_6_code 46 = .ok (.iload_n 2, 1) := by decide +kernel
theorem dG_settled_47 : decode prog_4_method_6_code 47 = .ok (.iastore, 1) := by decide +kernel
theorem dG_settled_48 : decode prog_4_method_6_code 48 = .ok (.iload_n 2, 1) := by decide +kernel
theorem dG_settled_49 : decode prog_4_method_6_code 49 = .ok (.ireturn, 1) := by decide +kernel
