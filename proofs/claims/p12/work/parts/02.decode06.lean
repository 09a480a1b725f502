theorem dM_type_0 : decode prog_9_method_7_code 0 = .ok (.aload_n 0, 1) := by decide +kernel
theorem dM_type_1 : decode prog_9_method_7_code 1 = .ok (.iconst 0, 1) := by decide +kernel
theorem dM_type_2 : decode prog_9_method_7_code 2 = .ok (.putfield 176, 3) := by decide +kernel
theorem dM_type_5 : decode prog_9_method_7_code 5 = .ok (.iload_n 1, 1) := by decide +kernel
theorem dM_type_6 : decode prog_9_method_7_code 6 = .ok (.iconst 0, 1) := by decide +kernel
theorem dM_type_7 : decode prog_9_method_7_code 7 = .ok (.aload_n 0, 1) := by decide +kernel
theorem dM_type_8 : decode prog_9_method_7_code 8 = .ok (.getfield 7, 3) := by decide +kernel
theorem dM_type_11 : decode prog_9_method_7_code 11 = .ok (.iconst 1, 1) := by decide +kernel
theorem dM_type_12 : decode prog_9_method_7_code 12 = .ok (.isub, 1) := by decide +kernel
theorem dM_type_13 : decode prog_9_method_7_code 13 = .ok (.invokestatic 179, 3) := by decide +kernel
theorem dM_type_16 : decode prog_9_method_7_code 16 = .ok (.ifCond .ne 5, 3) := by decide +kernel
theorem dM_type_19 : decode prog_9_method_7_code 19 = .ok (.iconst (-1), 1) := by decide +kernel
theorem dM_type_20 : decode prog_9_method_7_code 20 = .ok (.ireturn, 1) := by decide +kernel
theorem dM_type_21 : decode prog_9_method_7_code 21 = .ok (.aload_n 0, 1) := by decide +kernel
theorem dM_type_22 : decode prog_9_method_7_code 22 = .ok (.getfield 13, 3) := by decide +kernel
theorem dM_type_25 : decode prog_9_method_7_code 25 = .ok (.iload_n 1, 1) := by decide +kernel
theorem dM_type_26 : decode prog_9_method_7_code 26 = .ok (.iaload, 1) := by decide +kernel
theorem dM_type_27 : decode prog_9_method_7_code 27 = .ok (.istore 4, 2) := by decide +kernel
theorem dM_type_29 : decode prog_9_method_7_code 29 = .ok (.iload 4, 2) := by decide +kernel
theorem dM_type_31 : decode prog_9_method_7_code 31 = .ok (.ifCond .le 17, 3) := by decide +kernel
theorem dM_type_34 : decode prog_9_method_7_code 34 = .ok (.iload_n 2, 1) := by decide +kernel
theorem dM_type_35 : decode prog_9_method_7_code 35 = .ok (.iconst 0, 1) := by decide +kernel
theorem dM_type_36 : decode prog_9_method_7_code 36 = .ok (.aload_n 0, 1) := by decide +kernel
theorem dM_type_37 : decode prog_9_method_7_code 37 = .ok (.getfield 183, 3) := by decide +kernel
theorem dM_type_40 : decode prog_9_method_7_code 40 = .ok (.iconst 1, 1) := by decide +kernel
theorem dM_type_41 : decode prog_9_method_7_code 41 = .ok (.isub, 1) := by decide +kernel
theorem dM_type_42 : decode prog_9_method_7_code 42 = .ok (.invokestatic 179, 3) := by decide +kernel
theorem dM_type_45 : decode prog_9_method_7_code 45 = .ok (.ifCond .eq 23, 3) := by decide +kernel
theorem dM_type_48 : decode prog_9_method_7_code 48 = .ok (.iload 4, 2) := by decide +kernel
theorem dM_type_50 : decode prog_9_method_7_code 50 = .ok (.iconst 1, 1) := by decide +kernel
theorem dM_type_51 : decode prog_9_method_7_code 51 = .ok (.if_icmp .le 19, 3) := by decide +kernel
theorem dM_type_54 : decode prog_9_method_7_code 54 = .ok (.iload_n 3, 1) := by decide +kernel
theorem dM_type_55 : decode prog_9_method_7_code 55 = .ok (.iconst 0, 1) := by decide +kernel
theorem dM_type_56 : decode prog_9_method_7_code 56 = .ok (.aload_n 0, 1) := by decide +kernel
theorem dM_type_57 : decode prog_9_method_7_code 57 = .ok (.getfield 183, 3) := by decide +kernel
theorem dM_type_60 : decode prog_9_method_7_code 60 = .ok (.iconst 1, 1) := by decide +kernel
theorem dM_type_61 : decode prog_9_method_7_code 61 = .ok (.isub, 1) := by decide +kernel
theorem dM_type_62 : decode prog_9_method_7_code 62 = .ok (.invokestatic 179, 3) := by decide +kernel
theorem dM_type_65 : decode prog_9_method_7_code 65 = .ok (.ifCond .ne 5, 3) := by decide +kernel
theorem dM_type_68 : decode prog_9_method_7_code 68 = .ok (.iconst (-1), 1) := by decide +kernel
theorem dM_type_69 : decode prog_9_method_7_code 69 = .ok (.ireturn, 1) := by decide +kernel
theorem dM_type_70 : decode prog_9_method_7_code 70 = .ok (.iconst 1, 1) := by decide +kernel
theorem dM_type_71 : decode prog_9_method_7_code 71 = .ok (.iload 4, 2) := by decide +kernel
theorem dM_type_73 : decode prog_9_method_7_code 73 = .ok (.ifCond .le 12, 3) := by decide +kernel
theorem dM_type_76 : decode prog_9_method_7_code 76 = .ok (.aload_n 0, 1) := by decide +kernel
theorem dM_type_77 : decode prog_9_method_7_code 77 = .ok (.getfield 26, 3) := by decide +kernel
theorem dM_type_80 : decode prog_9_method_7_code 80 = .ok (.iload_n 2, 1) := by decide +kernel
theorem dM_type_81 : decode prog_9_method_7_code 81 = .ok (.iaload, 1) := by decide +kernel
theorem dM_type_82 : decode prog_9_method_7_code 82 = .ok (.goto 4, 3) := by decide +kernel
theorem dM_type_85 : decode prog_9_method_7_code 85 = .ok (.iconst 0, 1) := by decide +kernel
theorem dM_type_86 : decode prog_9_method_7_code 86 = .ok (.iadd, 1) := by decide +kernel
theorem dM_type_87 : decode prog_9_method_7_code 87 = .ok (.iload 4, 2) := by decide +kernel
theorem dM_type_89 : decode prog_9_method_7_code 89 = .ok (.iconst 1, 1) := by decide +kernel
theorem dM_type_90 : decode prog_9_method_7_code 90 = .ok (.if_icmp .le 12, 3) := by decide +kernel
theorem dM_type_93 : decode prog_9_method_7_code 93 = .ok (.aload_n 0, 1) := by decide +kernel
theorem dM_type_94 : decode prog_9_method_7_code 94 = .ok (.getfield 26, 3) := by decide +kernel
theorem dM_type_97 : decode prog_9_method_7_code 97 = .ok (.iload_n 3, 1) := by decide +kernel
theorem dM_type_98 : decode prog_9_method_7_code 98 = .ok (.iaload, 1) := by decide +kernel
theorem dM_type_99 : decode prog_9_method_7_code 99 = .ok (.goto 4, 3) := by decide +kernel
theorem dM_type_102 : decode prog_9_method_7_code 102 = .ok (.iconst 0, 1) := by decide +kernel
theorem dM_type_103 : decode prog_9_method_7_code 103 = .ok (.iadd, 1) := by decide +kernel
theorem dM_type_104 : decode prog_9_method_7_code 104 = .ok (.istore 5, 2) := by decide +kernel
theorem dM_type_106 : decode prog_9_method_7_code 106 = .ok (.aload_n 0, 1) := by decide +kernel
theorem dM_type_107 : decode prog_9_method_7_code 107 = .ok (.iload_n 1, 1) := by decide +kernel
theorem dM_type_108 : decode prog_9_method_7_code 108 = .ok (.iload 4, 2) := by decide +kernel
theorem dM_type_110 : decode prog_9_method_7_code 110 = .ok (.ifCond .le 7, 3) := by decide +kernel
theorem dM_type_113 : decode prog_9_method_7_code 113 = .ok (.iload_n 2, 1) := by decide +kernel
theorem dM_type_114 : decode prog_9_method_7_code 114 = .ok (.goto 4, 3) := by decide +kernel
theorem dM_type_117 : decode prog_9_method_7_code 117 = .ok (.iconst (-1), 1) := by decide +kernel
theorem dM_type_118 : decode prog_9_method_7_code 118 = .ok (.iload 4, 2) := by decide +kernel
theorem dM_type_120 : decode prog_9_method_7_code 120 = .ok (.iconst 1, 1) := by decide +kernel
theorem dM_type_121 : decode prog_9_method_7_code 121 = .ok (.if_icmp .le 7, 3) := by decide +kernel
theorem dM_type_124 : decode prog_9_method_7_code 124 = .ok (.iload_n 3, 1) := by decide +kernel
theorem dM_type_125 : decode prog_9_method_7_code 125 = .ok (.goto 4, 3) := by decide +kernel
theorem dM_type_128 : decode prog_9_method_7_code 128 = .ok (.iconst (-1), 1) := by decide +kernel
theorem dM_type_129 : decode prog_9_method_7_code 129 = .ok (.iload 5, 2) := by decide +kernel
theorem dM_type_131 : decode prog_9_method_7_code 131 = .ok (.invokevirtual 186, 3) := by decide +kernel
theorem dM_type_134 : decode prog_9_method_7_code 134 = .ok (.ireturn, 1) := by decide +kernel
theorem dM_isClass_0 : decode prog_9_method_8_code 0 = .ok (.iload_n 1, 1) := by decide +kernel
theorem dM_isClass_1 : decode prog_9_method_8_code 1 = .ok (.ifCond .lt 15, 3) := by decide +kernel
theorem dM_isClass_4 : decode prog_9_method_8_code 4 = .ok (.iload_n 1, 1) := by decide +kernel
theorem dM_isClass_5 : decode prog_9_method_8_code 5 = .ok (.aload_n 0, 1) := by decide +kernel
theorem dM_isClass_6 : decode prog_9_method_8_code 6 = .ok (.getfield 190, 3) := by decide +kernel
theorem dM_isClass_9 : decode prog_9_method_8_code 9 = .ok (.if_icmp .ge 7, 3) := by decide +kernel
theorem dM_isClass_12 : decode prog_9_method_8_code 12 = .ok (.iconst 1, 1) := by decide +kernel
theorem dM_isClass_13 : decode prog_9_method_8_code 13 = .ok (.goto 4, 3) := by decide +kernel
theorem dM_isClass_16 : decode prog_9_method_8_code 16 = .ok (.iconst 0, 1) := by decide +kernel
theorem dM_isClass_17 : decode prog_9_method_8_code 17 = .ok (.ireturn, 1) := by decide +kernel
theorem dM_class0_0 : decode prog_9_method_9_code 0 = .ok (.aload_n 0, 1) := by decide +kernel
theorem dM_class0_1 : decode prog_9_method_9_code 1 = .ok (.iconst 0, 1) := by decide +kernel
theorem dM_class0_2 : decode prog_9_method_9_code 2 = .ok (.putfield 176, 3) := by decide +kernel
theorem dM_class0_5 : decode prog_9_method_9_code 5 = .ok (.iload_n 1, 1) := by decide +kernel
theorem dM_class0_6 : decode prog_9_method_9_code 6 = .ok (.iconst (-1), 1) := by decide +kernel
theorem dM_class0_7 : decode prog_9_method_9_code 7 = .ok (.if_icmp .eq 13, 3) := by decide +kernel
theorem dM_class0_10 : decode prog_9_method_9_code 10 = .ok (.aload_n 0, 1) := by decide +kernel
theorem dM_class0_11 : decode prog_9_method_9_code 11 = .ok (.iload_n 1, 1) := by decide +kernel
theorem dM_class0_12 : decode prog_9_method_9_code 12 = .ok (.invokevirtual 193, 3) := by decide +kernel
theorem dM_class0_15 : decode prog_9_method_9_code 15 = .ok (.ifCond .ne 5, 3) := by decide +kernel
theorem dM_class0_18 : decode prog_9_method_9_code 18 = .ok (.iconst (-1), 1) := by decide +kernel
theorem dM_class0_19 : decode prog_9_method_9_code 19 = .ok (.ireturn, 1) := by decide +kernel
theorem dM_class0_20 : decode prog_9_method_9_code 20 = .ok (.aload_n 0, 1) := by decide +kernel
theorem dM_class0_21 : decode prog_9_method_9_code 21 = .ok (.getfield 190, 3) := by decide +kernel
theorem dM_class0_24 : decode prog_9_method_9_code 24 = .ok (.bipush 8, 2) := by decide +kernel
theorem dM_class0_26 : decode prog_9_method_9_code 26 = .ok (.if_icmp .ne 6, 3) := by decide +kernel
theorem dM_class0_29 : decode prog_9_method_9_code 29 = .ok (.bipush (-3), 2) := by decide +kernel
theorem dM_class0_31 : decode prog_9_method_9_code 31 = .ok (.ireturn, 1) := by decide +kernel
theorem dM_class0_32 : decode prog_9_method_9_code 32 = .ok (.aload_n 0, 1) := by decide +kernel
theorem dM_class0_33 : decode prog_9_method_9_code 33 = .ok (.getfield 29, 3) := by decide +kernel
theorem dM_class0_36 : decode prog_9_method_9_code 36 = .ok (.aload_n 0, 1) := by decide +kernel
theorem dM_class0_37 : decode prog_9_method_9_code 37 = .ok (.getfield 190, 3) := by decide +kernel
theorem dM_class0_40 : decode prog_9_method_9_code 40 = .ok (.iload_n 1, 1) := by decide +kernel
theorem dM_class0_41 : decode prog_9_method_9_code 41 = .ok (.iastore, 1) := by decide +kernel
theorem dM_class0_42 : decode prog_9_method_9_code 42 = .ok (.aload_n 0, 1) := by decide +kernel
theorem dM_class0_43 : decode prog_9_method_9_code 43 = .ok (.dup, 1) := by decide +kernel
theorem dM_class0_44 : decode prog_9_method_9_code 44 = .ok (.getfield 190, 3) := by decide +kernel
theorem dM_class0_47 : decode prog_9_method_9_code 47 = .ok (.iconst 1, 1) := by decide +kernel
theorem dM_class0_48 : decode prog_9_method_9_code 48 = .ok (.iadd, 1) := by decide +kernel
theorem dM_class0_49 : decode prog_9_method_9_code 49 = .ok (.putfield 190, 3) := by decide +kernel
theorem dM_class0_52 : decode prog_9_method_9_code 52 = .ok (.aload_n 0, 1) := by decide +kernel
theorem dM_class0_53 : decode prog_9_method_9_code 53 = .ok (.getfield 190, 3) := by decide +kernel
theorem dM_class0_56 : decode prog_9_method_9_code 56 = .ok (.iconst 1, 1) := by decide +kernel
theorem dM_class0_57 : decode prog_9_method_9_code 57 = .ok (.isub, 1) := by decide +kernel
theorem dM_class0_58 : decode prog_9_method_9_code 58 = .ok (.ireturn, 1) := by decide +kernel
theorem dM_markStatic_0 : decode prog_9_method_10_code 0 = .ok (.iconst 0, 1) := by decide +kernel
theorem dM_markStatic_1 : decode prog_9_method_10_code 1 = .ok (.istore_n 2, 1) := by decide +kernel
theorem dM_markStatic_2 : decode prog_9_method_10_code 2 = .ok (.iload_n 2, 1) := by decide +kernel
theorem dM_markStatic_3 : decode prog_9_method_10_code 3 = .ok (.bipush 60, 2) := by decide +kernel
theorem dM_markStatic_5 : decode prog_9_method_10_code 5 = .ok (.if_icmp .ge 25, 3) := by decide +kernel
theorem dM_markStatic_8 : decode prog_9_method_10_code 8 = .ok (.aload_n 0, 1) := by decide +kernel
theorem dM_markStatic_9 : decode prog_9_method_10_code 9 = .ok (.getfield 140, 3) := by decide +kernel
theorem dM_markStatic_12 : decode prog_9_method_10_code 12 = .ok (.iload_n 2, 1) := by decide +kernel
theorem dM_markStatic_13 : decode prog_9_method_10_code 13 = .ok (.iload_n 2, 1) := by decide +kernel
theorem dM_markStatic_14 : decode prog_9_method_10_code 14 = .ok (.iload_n 1, 1) := by decide +kernel
theorem dM_markStatic_15 : decode prog_9_method_10_code 15 = .ok (.if_icmp .ne 7, 3) := by decide +kernel
theorem dM_markStatic_18 : decode prog_9_method_10_code 18 = .ok (.iconst 1, 1) := by decide +kernel
theorem dM_markStatic_19 : decode prog_9_method_10_code 19 = .ok (.goto 4, 3) := by decide +kernel
theorem dM_markStatic_22 : decode prog_9_method_10_code 22 = .ok (.iconst 0, 1) := by decide +kernel
theorem dM_markStatic_23 : decode prog_9_method_10_code 23 = .ok (.bastore, 1) := by decide +kernel
theorem dM_markStatic_24 : decode prog_9_method_10_code 24 = .ok (.iinc 2 1, 3) := by decide +kernel
theorem dM_markStatic_27 : decode prog_9_method_10_code 27 = .ok (.goto (-25), 3) := by decide +kernel
theorem dM_markStatic_30 : decode prog_9_method_10_code 30 = .ok (.iload_n 1, 1) := by decide +kernel
theorem dM_markStatic_31 : decode prog_9_method_10_code 31 = .ok (.istore_n 2, 1) := by decide +kernel
theorem dM_markStatic_32 : decode prog_9_method_10_code 32 = .ok (.iload_n 2, 1) := by decide +kernel
theorem dM_markStatic_33 : decode prog_9_method_10_code 33 = .ok (.ifCond .lt 69, 3) := by decide +kernel
theorem dM_markStatic_36 : decode prog_9_method_10_code 36 = .ok (.aload_n 0, 1) := by decide +kernel
theorem dM_markStatic_37 : decode prog_9_method_10_code 37 = .ok (.getfield 140, 3) := by decide +kernel
theorem dM_markStatic_40 : decode prog_9_method_10_code 40 = .ok (.iload_n 2, 1) := by decide +kernel
theorem dM_markStatic_41 : decode prog_9_method_10_code 41 = .ok (.baload, 1) := by decide +kernel
theorem dM_markStatic_42 : decode prog_9_method_10_code 42 = .ok (.ifCond .eq 24, 3) := by decide +kernel
theorem dM_markStatic_45 : decode prog_9_method_10_code 45 = .ok (.aload_n 0, 1) := by decide +kernel
theorem dM_markStatic_46 : decode prog_9_method_10_code 46 = .ok (.getfield 20, 3) := by decide +kernel
theorem dM_markStatic_49 : decode prog_9_method_10_code 49 = .ok (.iload_n 2, 1) := by decide +kernel
theorem dM_markStatic_50 : decode prog_9_method_10_code 50 = .ok (.iaload, 1) := by decide +kernel
theorem dM_markStatic_51 : decode prog_9_method_10_code 51 = .ok (.ifCond .lt 15, 3) := by decide +kernel
theorem dM_markStatic_54 : decode prog_9_method_10_code 54 = .ok (.aload_n 0, 1) := by decide +kernel
theorem dM_markStatic_55 : decode prog_9_method_10_code 55 = .ok (.getfield 140, 3) := by decide +kernel
theorem dM_markStatic_58 : decode prog_9_method_10_code 58 = .ok (.aload_n 0, 1) := by decide +kernel
theorem dM_markStatic_59 : decode prog_9_method_10_code 59 = .ok (.getfield 20, 3) := by decide +kernel
theorem dM_markStatic_62 : decode prog_9_method_10_code 62 = .ok (.iload_n 2, 1) := by decide +kernel
theorem dM_markStatic_63 : decode prog_9_method_10_code 63 = .ok (.iaload, 1) := by decide +kernel
theorem dM_markStatic_64 : decode prog_9_method_10_code 64 = .ok (.iconst 1, 1) := by decide +kernel
theorem dM_markStatic_65 : decode prog_9_method_10_code 65 = .ok (.bastore, 1) := by decide +kernel
theorem dM_markStatic_66 : decode prog_9_method_10_code 66 = .ok (.aload_n 0, 1) := by decide +kernel
theorem dM_markStatic_67 : decode prog_9_method_10_code 67 = .ok (.getfield 140, 3) := by decide +kernel
theorem dM_markStatic_70 : decode prog_9_method_10_code 70 = .ok (.iload_n 2, 1) := by decide +kernel
theorem dM_markStatic_71 : decode prog_9_method_10_code 71 = .ok (.baload, 1) := by decide +kernel
theorem dM_markStatic_72 : decode prog_9_method_10_code 72 = .ok (.ifCond .eq 24, 3) := by decide +kernel
theorem dM_markStatic_75 : decode prog_9_method_10_code 75 = .ok (.aload_n 0, 1) := by decide +kernel
theorem dM_markStatic_76 : decode prog_9_method_10_code 76 = .ok (.getfield 23, 3) := by decide +kernel
theorem dM_markStatic_79 : decode prog_9_method_10_code 79 = .ok (.iload_n 2, 1) := by decide +kernel
theorem dM_markStatic_80 : decode prog_9_method_10_code 80 = .ok (.iaload, 1) := by decide +kernel
theorem dM_markStatic_81 : decode prog_9_method_10_code 81 = .ok (.ifCond .lt 15, 3) := by decide +kernel
theorem dM_markStatic_84 : decode prog_9_method_10_code 84 = .ok (.aload_n 0, 1) := by decide +kernel
theorem dM_markStatic_85 : decode prog_9_method_10_code 85 = .ok (.getfield 140, 3) := by decide +kernel
theorem dM_markStatic_88 : decode prog_9_method_10_code 88 = .ok (.aload_n 0, 1) := by decide +kernel
theorem dM_markStatic_89 : decode prog_9_method_10_code 89 = .ok (.getfield 23, 3) := by decide +kernel
theorem dM_markStatic_92 : decode prog_9_method_10_code 92 = .ok (.iload_n 2, 1) := by decide +kernel
theorem dM_markStatic_93 : decode prog_9_method_10_code 93 = .ok (.iaload, 1) := by decide +kernel
theorem dM_markStatic_94 : decode prog_9_method_10_code 94 = .ok (.iconst 1, 1) := by decide +kernel
theorem dM_markStatic_95 : decode prog_9_method_10_code 95 = .ok (.bastore, 1) := by decide +kernel
theorem dM_markStatic_96 : decode prog_9_method_10_code 96 = .ok (.iinc 2 (-1), 3) := by decide +kernel
theorem dM_markStatic_99 : decode prog_9_method_10_code 99 = .ok (.goto (-67), 3) := by decide +kernel
theorem dM_markStatic_102 : decode prog_9_method_10_code 102 = .ok (.return_, 1) := by decide +kernel
theorem dM_hasVariable_0 : decode prog_9_method_11_code 0 = .ok (.aload_n 0, 1) := by decide +kernel
theorem dM_hasVariable_1 : decode prog_9_method_11_code 1 = .ok (.iload_n 1, 1) := by decide +kernel
theorem dM_hasVariable_2 : decode prog_9_method_11_code 2 = .ok (.invokevirtual 197, 3) := by decide +kernel
theorem dM_hasVariable_5 : decode prog_9_method_11_code 5 = .ok (.iconst 0, 1) := by decide +kernel
theorem dM_hasVariable_6 : decode prog_9_method_11_code 6 = .ok (.istore_n 3, 1) := by decide +kernel
theorem dM_hasVariable_7 : decode prog_9_method_11_code 7 = .ok (.iconst 0, 1) := by decide +kernel
theorem dM_hasVariable_8 : decode prog_9_method_11_code 8 = .ok (.istore 4, 2) := by decide +kernel
theorem dM_hasVariable_10 : decode prog_9_method_11_code 10 = .ok (.iload 4, 2) := by decide +kernel
theorem dM_hasVariable_12 : decode prog_9_method_11_code 12 = .ok (.iload_n 1, 1) := by decide +kernel
theorem dM_hasVariable_13 : decode prog_9_method_11_code 13 = .ok (.if_icmp .gt 42, 3) := by decide +kernel
theorem dM_hasVariable_16 : decode prog_9_method_11_code 16 = .ok (.iload_n 3, 1) := by decide +kernel
theorem dM_hasVariable_17 : decode prog_9_method_11_code 17 = .ok (.ifCond .ne 26, 3) := by decide +kernel
theorem dM_hasVariable_20 : decode prog_9_method_11_code 20 = .ok (.aload_n 0, 1) := by decide +kernel
theorem dM_hasVariable_21 : decode prog_9_method_11_code 21 = .ok (.getfield 140, 3) := by decide +kernel
theorem dM_hasVariable_24 : decode prog_9_method_11_code 24 = .ok (.iload 4, 2) := by decide +kernel
theorem dM_hasVariable_26 : decode prog_9_method_11_code 26 = .ok (.baload, 1) := by decide +kernel
theorem dM_hasVariable_27 : decode prog_9_method_11_code 27 = .ok (.ifCond .eq 20, 3) := by decide +kernel
theorem dM_hasVariable_30 : decode prog_9_method_11_code 30 = .ok (.aload_n 0, 1) := by decide +kernel
theorem dM_hasVariable_31 : decode prog_9_method_11_code 31 = .ok (.getfield 17, 3) := by decide +kernel
theorem dM_hasVariable_34 : decode prog_9_method_11_code 34 = .ok (.iload 4, 2) := by decide +kernel
theorem dM_hasVariable_36 : decode prog_9_method_11_code 36 = .ok (.iaload, 1) := by decide +kernel
theorem dM_hasVariable_37 : decode prog_9_method_11_code 37 = .ok (.iconst (-1), 1) := by decide +kernel
theorem dM_hasVariable_38 : decode prog_9_method_11_code 38 = .ok (.iload_n 2, 1) := by decide +kernel
theorem dM_hasVariable_39 : decode prog_9_method_11_code 39 = .ok (.isub, 1) := by decide +kernel
theorem dM_hasVariable_40 : decode prog_9_method_11_code 40 = .ok (.if_icmp .ne 7, 3) := by decide +kernel
theorem dM_hasVariable_43 : decode prog_9_method_11_code 43 = .ok (.iconst 1, 1) := by decide +kernel
theorem dM_hasVariable_44 : decode prog_9_method_11_code 44 = .ok (.goto 4, 3) := by decide +kernel
theorem dM_hasVariable_47 : decode prog_9_method_11_code 47 = .ok (.iconst 0, 1) := by decide +kernel
theorem dM_hasVariable_48 : decode prog_9_method_11_code 48 = .ok (.istore_n 3, 1) := by decide +kernel
theorem dM_hasVariable_49 : decode prog_9_method_11_code 49 = .ok (.iinc 4 1, 3) := by decide +kernel
theorem dM_hasVariable_52 : decode prog_9_method_11_code 52 = .ok (.goto (-42), 3) := by decide +kernel
theorem dM_hasVariable_55 : decode prog_9_method_11_code 55 = .ok (.iload_n 3, 1) := by decide +kernel
theorem dM_hasVariable_56 : decode prog_9_method_11_code 56 = .ok (.ireturn, 1) := by decide +kernel
theorem dM_method_0 : decode prog_9_method_12_code 0 = .ok (.aload_n 0, 1) := by decide +kernel
theorem dM_method_1 : decode prog_9_method_12_code 1 = .ok (.iconst 0, 1) := by decide +kernel
theorem dM_method_2 : decode prog_9_method_12_code 2 = .ok (.putfield 176, 3) := by decide +kernel
theorem dM_method_5 : decode prog_9_method_12_code 5 = .ok (.aload_n 0, 1) := by decide +kernel
theorem dM_method_6 : decode prog_9_method_12_code 6 = .ok (.iload_n 1, 1) := by decide +kernel
theorem dM_method_7 : decode prog_9_method_12_code 7 = .ok (.invokevirtual 193, 3) := by decide +kernel
theorem dM_method_10 : decode prog_9_method_12_code 10 = .ok (.ifCond .eq 35, 3) := by decide +kernel
theorem dM_method_13 : decode prog_9_method_12_code 13 = .ok (.iload_n 2, 1) := by decide +kernel
theorem dM_method_14 : decode prog_9_method_12_code 14 = .ok (.iconst 0, 1) := by decide +kernel
theorem dM_method_15 : decode prog_9_method_12_code 15 = .ok (.aload_n 0, 1) := by decide +kernel
theorem dM_method_16 : decode prog_9_method_12_code 16 = .ok (.getfield 183, 3) := by decide +kernel
theorem dM_method_19 : decode prog_9_method_12_code 19 = .ok (.iconst 1, 1) := by decide +kernel
theorem dM_method_20 : decode prog_9_method_12_code 20 = .ok (.isub, 1) := by decide +kernel
theorem dM_method_21 : decode prog_9_method_12_code 21 = .ok (.invokestatic 179, 3) := by decide +kernel
theorem dM_method_24 : decode prog_9_method_12_code 24 = .ok (.ifCond .eq 21, 3) := by decide +kernel
theorem dM_method_27 : decode prog_9_method_12_code 27 = .ok (.aload_n 0, 1) := by decide +kernel
theorem dM_method_28 : decode prog_9_method_12_code 28 = .ok (.getfield 32, 3) := by decide +kernel
theorem dM_method_31 : decode prog_9_method_12_code 31 = .ok (.iload_n 1, 1) := by decide +kernel
theorem dM_method_32 : decode prog_9_method_12_code 32 = .ok (.iaload, 1) := by decide +kernel
theorem dM_method_33 : decode prog_9_method_12_code 33 = .ok (.ifCond .ge 12, 3) := by decide +kernel
theorem dM_method_36 : decode prog_9_method_12_code 36 = .ok (.aload_n 0, 1) := by decide +kernel
theorem dM_method_37 : decode prog_9_method_12_code 37 = .ok (.iload_n 2, 1) := by decide +kernel
theorem dM_method_38 : decode prog_9_method_12_code 38 = .ok (.iconst 0, 1) := by decide +kernel
theorem dM_method_39 : decode prog_9_method_12_code 39 = .ok (.invokevirtual 201, 3) := by decide +kernel
theorem dM_method_42 : decode prog_9_method_12_code 42 = .ok (.ifCond .ne 5, 3) := by decide +kernel
theorem dM_method_45 : decode prog_9_method_12_code 45 = .ok (.iconst (-1), 1) := by decide +kernel
theorem dM_method_46 : decode prog_9_method_12_code 46 = .ok (.ireturn, 1) := by decide +kernel
theorem dM_method_47 : decode prog_9_method_12_code 47 = .ok (.aload_n 0, 1) := by decide +kernel
theorem dM_method_48 : decode prog_9_method_12_code 48 = .ok (.getfield 32, 3) := by decide +kernel
theorem dM_method_51 : decode prog_9_method_12_code 51 = .ok (.iload_n 1, 1) := by decide +kernel
theorem dM_method_52 : decode prog_9_method_12_code 52 = .ok (.iload_n 2, 1) := by decide +kernel
theorem dM_method_53 : decode prog_9_method_12_code 53 = .ok (.iastore, 1) := by decide +kernel
theorem dM_method_54 : decode prog_9_method_12_code 54 = .ok (.iconst 1, 1) := by decide +kernel
theorem dM_method_55 : decode prog_9_method_12_code 55 = .ok (.ireturn, 1) := by decide +kernel
theorem dM_isUnder_0 : decode prog_9_method_13_code 0 = .ok (.iload_n 1, 1) := by decide +kernel
theorem dM_isUnder_1 : decode prog_9_method_13_code 1 = .ok (.istore_n 3, 1) := by decide +kernel
theorem dM_isUnder_2 : decode prog_9_method_13_code 2 = .ok (.iload_n 3, 1) := by decide +kernel
theorem dM_isUnder_3 : decode prog_9_method_13_code 3 = .ok (.ifCond .lt 18, 3) := by decide +kernel
theorem dM_isUnder_6 : decode prog_9_method_13_code 6 = .ok (.iload_n 3, 1) := by decide +kernel
theorem dM_isUnder_7 : decode prog_9_method_13_code 7 = .ok (.iload_n 2, 1) := by decide +kernel
theorem dM_isUnder_8 : decode prog_9_method_13_code 8 = .ok (.if_icmp .eq 13, 3) := by decide +kernel
theorem dM_isUnder_11 : decode prog_9_method_13_code 11 = .ok (.aload_n 0, 1) := by decide +kernel
theorem dM_isUnder_12 : decode prog_9_method_13_code 12 = .ok (.getfield 29, 3) := by decide +kernel
theorem dM_isUnder_15 : decode prog_9_method_13_code 15 = .ok (.iload_n 3, 1) := by decide +kernel
theorem dM_isUnder_16 : decode prog_9_method_13_code 16 = .ok (.iaload, 1) := by decide +kernel
theorem dM_isUnder_17 : decode prog_9_method_13_code 17 = .ok (.istore_n 3, 1) := by decide +kernel
theorem dM_isUnder_18 : decode prog_9_method_13_code 18 = .ok (.goto (-16), 3) := by decide +kernel
theorem dM_isUnder_21 : decode prog_9_method_13_code 21 = .ok (.iload_n 3, 1) := by decide +kernel
theorem dM_isUnder_22 : decode prog_9_method_13_code 22 = .ok (.iload_n 2, 1) := by decide +kernel
theorem dM_isUnder_23 : decode prog_9_method_13_code 23 = .ok (.if_icmp .ne 7, 3) := by decide +kernel
theorem dM_isUnder_26 : decode prog_9_method_13_code 26 = .ok (.iconst 1, 1) := by decide +kernel
theorem dM_isUnder_27 : decode prog_9_method_13_code 27 = .ok (.goto 4, 3) := by decide +kernel
theorem dM_isUnder_30 : decode prog_9_method_13_code 30 = .ok (.iconst 0, 1) := by decide +kernel
theorem dM_isUnder_31 : decode prog_9_method_13_code 31 = .ok (.ireturn, 1) := by decide +kernel
theorem dM_covers_0 : decode prog_9_method_14_code 0 = .ok (.iconst 1, 1) := by decide +kernel
theorem dM_covers_1 : decode prog_9_method_14_code 1 = .ok (.istore_n 3, 1) := by decide +kernel
theorem dM_covers_2 : decode prog_9_method_14_code 2 = .ok (.iconst 0, 1) := by decide +kernel
theorem dM_covers_3 : decode prog_9_method_14_code 3 = .ok (.istore 4, 2) := by decide +kernel
theorem dM_covers_5 : decode prog_9_method_14_code 5 = .ok (.iload 4, 2) := by decide +kernel
theorem dM_covers_7 : decode prog_9_method_14_code 7 = .ok (.aload_n 0, 1) := by decide +kernel
theorem dM_covers_8 : decode prog_9_method_14_code 8 = .ok (.getfield 190, 3) := by decide +kernel
theorem dM_covers_11 : decode prog_9_method_14_code 11 = .ok (.if_icmp .ge 88, 3) := by decide +kernel
theorem dM_covers_14 : decode prog_9_method_14_code 14 = .ok (.iload_n 2, 1) := by decide +kernel
theorem dM_covers_15 : decode prog_9_method_14_code 15 = .ok (.iload 4, 2) := by decide +kernel
theorem dM_covers_17 : decode prog_9_method_14_code 17 = .ok (.ishr, 1) := by decide +kernel
theorem dM_covers_18 : decode prog_9_method_14_code 18 = .ok (.iconst 1, 1) := by decide +kernel
theorem dM_covers_19 : decode prog_9_method_14_code 19 = .ok (.iand, 1) := by decide +kernel
theorem dM_covers_20 : decode prog_9_method_14_code 20 = .ok (.iconst 1, 1) := by decide +kernel
theorem dM_covers_21 : decode prog_9_method_14_code 21 = .ok (.if_icmp .ne 72, 3) := by decide +kernel
theorem dM_covers_24 : decode prog_9_method_14_code 24 = .ok (.iconst 0, 1) := by decide +kernel
theorem dM_covers_25 : decode prog_9_method_14_code 25 = .ok (.istore 5, 2) := by decide +kernel
theorem dM_covers_27 : decode prog_9_method_14_code 27 = .ok (.iconst 0, 1) := by decide +kernel
theorem dM_covers_28 : decode prog_9_method_14_code 28 = .ok (.istore 6, 2) := by decide +kernel
theorem dM_covers_30 : decode prog_9_method_14_code 30 = .ok (.iload 6, 2) := by decide +kernel
theorem dM_covers_32 : decode prog_9_method_14_code 32 = .ok (.aload_n 0, 1) := by decide +kernel
theorem dM_covers_33 : decode prog_9_method_14_code 33 = .ok (.getfield 190, 3) := by decide +kernel
theorem dM_covers_36 : decode prog_9_method_14_code 36 = .ok (.if_icmp .ge 42, 3) := by decide +kernel
theorem dM_covers_39 : decode prog_9_method_14_code 39 = .ok (.iload 5, 2) := by decide +kernel
theorem dM_covers_41 : decode prog_9_method_14_code 41 = .ok (.ifCond .ne 24, 3) := by decide +kernel
theorem dM_covers_44 : decode prog_9_method_14_code 44 = .ok (.iload_n 1, 1) := by decide +kernel
theorem dM_covers_45 : decode prog_9_method_14_code 45 = .ok (.iload 6, 2) := by decide +kernel
theorem dM_covers_47 : decode prog_9_method_14_code 47 = .ok (.ishr, 1) := by decide +kernel
theorem dM_covers_48 : decode prog_9_method_14_code 48 = .ok (.iconst 1, 1) := by decide +kernel
theorem dM_covers_49 : decode prog_9_method_14_code 49 = .ok (.iand, 1) := by decide +kernel
theorem dM_covers_50 : decode prog_9_method_14_code 50 = .ok (.iconst 1, 1) := by decide +kernel
theorem dM_covers_51 : decode prog_9_method_14_code 51 = .ok (.if_icmp .ne 18, 3) := by decide +kernel
theorem dM_covers_54 : decode prog_9_method_14_code 54 = .ok (.aload_n 0, 1) := by decide +kernel
theorem dM_covers_55 : decode prog_9_method_14_code 55 = .ok (.iload 6, 2) := by decide +kernel
theorem dM_covers_57 : decode prog_9_method_14_code 57 = .ok (.iload 4, 2) := by decide +kernel
theorem dM_covers_59 : decode prog_9_method_14_code 59 = .ok (.invokevirtual 205, 3) := by decide +kernel
theorem dM_covers_62 : decode prog_9_method_14_code 62 = .ok (.ifCond .eq 7, 3) := by decide +kernel
theorem dM_covers_65 : decode prog_9_method_14_code 65 = .ok (.iconst 1, 1) := by decide +kernel
theorem dM_covers_66 : decode prog_9_method_14_code 66 = .ok (.goto 4, 3) := by decide +kernel
theorem dM_covers_69 : decode prog_9_method_14_code 69 = .ok (.iconst 0, 1) := by decide +kernel
theorem dM_covers_70 : decode prog_9_method_14_code 70 = .ok (.istore 5, 2) := by decide +kernel
theorem dM_covers_72 : decode prog_9_method_14_code 72 = .ok (.iinc 6 1, 3) := by decide +kernel
theorem dM_covers_75 : decode prog_9_method_14_code 75 = .ok (.goto (-45), 3) := by decide +kernel
theorem dM_covers_78 : decode prog_9_method_14_code 78 = .ok (.iload_n 3, 1) := by decide +kernel
theorem dM_covers_79 : decode prog_9_method_14_code 79 = .ok (.ifCond .eq 12, 3) := by decide +kernel
theorem dM_covers_82 : decode prog_9_method_14_code 82 = .ok (.iload 5, 2) := by decide +kernel
theorem dM_covers_84 : decode prog_9_method_14_code 84 = .ok (.ifCond .eq 7, 3) := by decide +kernel
theorem dM_covers_87 : decode prog_9_method_14_code 87 = .ok (.iconst 1, 1) := by decide +kernel
theorem dM_covers_88 : decode prog_9_method_14_code 88 = .ok (.goto 4, 3) := by decide +kernel
theorem dM_covers_91 : decode prog_9_method_14_code 91 = .ok (.iconst 0, 1) := by decide +kernel
theorem dM_covers_92 : decode prog_9_method_14_code 92 = .ok (.istore_n 3, 1) := by decide +kernel
theorem dM_covers_93 : decode prog_9_method_14_code 93 = .ok (.iinc 4 1, 3) := by decide +kernel
theorem dM_covers_96 : decode prog_9_method_14_code 96 = .ok (.goto (-91), 3) := by decide +kernel
theorem dM_covers_99 : decode prog_9_method_14_code 99 = .ok (.iload_n 3, 1) := by decide +kernel
theorem dM_covers_100 : decode prog_9_method_14_code 100 = .ok (.ireturn, 1) := by decide +kernel
theorem dM_instance_0 : decode prog_9_method_15_code 0 = .ok (.aload_n 0, 1) := by decide +kernel
theorem dM_instance_1 : decode prog_9_method_15_code 1 = .ok (.iconst 0, 1) := by decide +kernel
theorem dM_instance_2 : decode prog_9_method_15_code 2 = .ok (.putfield 176, 3) := by decide +kernel
theorem dM_instance_5 : decode prog_9_method_15_code 5 = .ok (.aload_n 0, 1) := by decide +kernel
theorem dM_instance_6 : decode prog_9_method_15_code 6 = .ok (.iload_n 1, 1) := by decide +kernel
theorem dM_instance_7 : decode prog_9_method_15_code 7 = .ok (.invokevirtual 193, 3) := by decide +kernel
theorem dM_instance_10 : decode prog_9_method_15_code 10 = .ok (.ifCond .eq 17, 3) := by decide +kernel
theorem dM_instance_13 : decode prog_9_method_15_code 13 = .ok (.iload_n 2, 1) := by decide +kernel
theorem dM_instance_14 : decode prog_9_method_15_code 14 = .ok (.iconst 0, 1) := by decide +kernel
theorem dM_instance_15 : decode prog_9_method_15_code 15 = .ok (.aload_n 0, 1) := by decide +kernel
theorem dM_instance_16 : decode prog_9_method_15_code 16 = .ok (.getfield 7, 3) := by decide +kernel
theorem dM_instance_19 : decode prog_9_method_15_code 19 = .ok (.iconst 1, 1) := by decide +kernel
theorem dM_instance_20 : decode prog_9_method_15_code 20 = .ok (.isub, 1) := by decide +kernel
theorem dM_instance_21 : decode prog_9_method_15_code 21 = .ok (.invokestatic 179, 3) := by decide +kernel
theorem dM_instance_24 : decode prog_9_method_15_code 24 = .ok (.ifCond .ne 5, 3) := by decide +kernel
theorem dM_instance_27 : decode prog_9_method_15_code 27 = .ok (.iconst (-1), 1) := by decide +kernel
theorem dM_instance_28 : decode prog_9_method_15_code 28 = .ok (.ireturn, 1) := by decide +kernel
theorem dM_instance_29 : decode prog_9_method_15_code 29 = .ok (.aload_n 0, 1) := by decide +kernel
theorem dM_instance_30 : decode prog_9_method_15_code 30 = .ok (.getfield 13, 3) := by decide +kernel
theorem dM_instance_33 : decode prog_9_method_15_code 33 = .ok (.iload_n 2, 1) := by decide +kernel
theorem dM_instance_34 : decode prog_9_method_15_code 34 = .ok (.iaload, 1) := by decide +kernel
theorem dM_instance_35 : decode prog_9_method_15_code 35 = .ok (.istore 5, 2) := by decide +kernel
theorem dM_instance_37 : decode prog_9_method_15_code 37 = .ok (.iload 5, 2) := by decide +kernel
theorem dM_instance_39 : decode prog_9_method_15_code 39 = .ok (.ifCond .le 7, 3) := by decide +kernel
theorem dM_instance_42 : decode prog_9_method_15_code 42 = .ok (.iload_n 3, 1) := by decide +kernel
theorem dM_instance_43 : decode prog_9_method_15_code 43 = .ok (.goto 4, 3) := by decide +kernel
theorem dM_instance_46 : decode prog_9_method_15_code 46 = .ok (.iconst 0, 1) := by decide +kernel
theorem dM_instance_47 : decode prog_9_method_15_code 47 = .ok (.istore 6, 2) := by decide +kernel
theorem dM_instance_49 : decode prog_9_method_15_code 49 = .ok (.iload 5, 2) := by decide +kernel
theorem dM_instance_51 : decode prog_9_method_15_code 51 = .ok (.iconst 1, 1) := by decide +kernel
theorem dM_instance_52 : decode prog_9_method_15_code 52 = .ok (.if_icmp .le 8, 3) := by decide +kernel
theorem dM_instance_55 : decode prog_9_method_15_code 55 = .ok (.iload 4, 2) := by decide +kernel
theorem dM_instance_57 : decode prog_9_method_15_code 57 = .ok (.goto 4, 3) := by decide +kernel
theorem dM_instance_60 : decode prog_9_method_15_code 60 = .ok (.iconst 0, 1) := by decide +kernel
theorem dM_instance_61 : decode prog_9_method_15_code 61 = .ok (.istore 7, 2) := by decide +kernel
theorem dM_instance_63 : decode prog_9_method_15_code 63 = .ok (.iconst 1, 1) := by decide +kernel
theorem dM_instance_64 : decode prog_9_method_15_code 64 = .ok (.aload_n 0, 1) := by decide +kernel
theorem dM_instance_65 : decode prog_9_method_15_code 65 = .ok (.getfield 190, 3) := by decide +kernel
theorem dM_instance_68 : decode prog_9_method_15_code 68 = .ok (.ishl, 1) := by decide +kernel
theorem dM_instance_69 : decode prog_9_method_15_code 69 = .ok (.iconst 1, 1) := by decide +kernel
theorem dM_instance_70 : decode prog_9_method_15_code 70 = .ok (.isub, 1) := by decide +kernel
theorem dM_instance_71 : decode prog_9_method_15_code 71 = .ok (.istore 8, 2) := by decide +kernel
theorem dM_instance_73 : decode prog_9_method_15_code 73 = .ok (.iload_n 3, 1) := by decide +kernel
theorem dM_instance_74 : decode prog_9_method_15_code 74 = .ok (.iload 8, 2) := by decide +kernel
theorem dM_instance_76 : decode prog_9_method_15_code 76 = .ok (.iconst (-1), 1) := by decide +kernel
theorem dM_instance_77 : decode prog_9_method_15_code 77 = .ok (.ixor, 1) := by decide +kernel
theorem dM_instance_78 : decode prog_9_method_15_code 78 = .ok (.iand, 1) := by decide +kernel
theorem dM_instance_79 : decode prog_9_method_15_code 79 = .ok (.ifCond .ne 13, 3) := by decide +kernel
theorem dM_instance_82 : decode prog_9_method_15_code 82 = .ok (.iload 4, 2) := by decide +kernel
theorem dM_instance_84 : decode prog_9_method_15_code 84 = .ok (.iload 8, 2) := by decide +kernel
theorem dM_instance_86 : decode prog_9_method_15_code 86 = .ok (.iconst (-1), 1) := by decide +kernel
theorem dM_instance_87 : decode prog_9_method_15_code 87 = .ok (.ixor, 1) := by decide +kernel
theorem dM_instance_88 : decode prog_9_method_15_code 88 = .ok (.iand, 1) := by decide +kernel
theorem dM_instance_89 : decode prog_9_method_15_code 89 = .ok (.ifCond .eq 5, 3) := by decide +kernel
theorem dM_instance_92 : decode prog_9_method_15_code 92 = .ok (.iconst (-1), 1) := by decide +kernel
theorem dM_instance_93 : decode prog_9_method_15_code 93 = .ok (.ireturn, 1) := by decide +kernel
theorem dM_instance_94 : decode prog_9_method_15_code 94 = .ok (.bipush 8, 2) := by decide +kernel
theorem dM_instance_96 : decode prog_9_method_15_code 96 = .ok (.iload_n 1, 1) := by decide +kernel
theorem dM_instance_97 : decode prog_9_method_15_code 97 = .ok (.imul, 1) := by decide +kernel
theorem dM_instance_98 : decode prog_9_method_15_code 98 = .ok (.iload_n 2, 1) := by decide +kernel
theorem dM_instance_99 : decode prog_9_method_15_code 99 = .ok (.iadd, 1) := by decide +kernel
theorem dM_instance_100 : decode prog_9_method_15_code 100 = .ok (.istore 9, 2) := by decide +kernel
theorem dM_instance_102 : decode prog_9_method_15_code 102 = .ok (.bipush 8, 2) := by decide +kernel
theorem dM_instance_104 : decode prog_9_method_15_code 104 = .ok (.aload_n 0, 1) := by decide +kernel
theorem dM_instance_105 : decode prog_9_method_15_code 105 = .ok (.getfield 29, 3) := by decide +kernel
theorem dM_instance_108 : decode prog_9_method_15_code 108 = .ok (.iload_n 1, 1) := by decide +kernel
theorem dM_instance_109 : decode prog_9_method_15_code 109 = .ok (.iaload, 1) := by decide +kernel
theorem dM_instance_110 : decode prog_9_method_15_code 110 = .ok (.imul, 1) := by decide +kernel
theorem dM_instance_111 : decode prog_9_method_15_code 111 = .ok (.iload_n 2, 1) := by decide +kernel
theorem dM_instance_112 : decode prog_9_method_15_code 112 = .ok (.iadd, 1) := by decide +kernel
theorem dM_instance_113 : decode prog_9_method_15_code 113 = .ok (.istore 10, 2) := by decide +kernel
theorem dM_instance_115 : decode prog_9_method_15_code 115 = .ok (.aload_n 0, 1) := by decide +kernel
theorem dM_instance_116 : decode prog_9_method_15_code 116 = .ok (.getfield 35, 3) := by decide +kernel
theorem dM_instance_119 : decode prog_9_method_15_code 119 = .ok (.iload 9, 2) := by decide +kernel
theorem dM_instance_121 : decode prog_9_method_15_code 121 = .ok (.baload, 1) := by decide +kernel
theorem dM_instance_122 : decode prog_9_method_15_code 122 = .ok (.ifCond .ne 54, 3) := by decide +kernel
theorem dM_instance_125 : decode prog_9_method_15_code 125 = .ok (.aload_n 0, 1) := by decide +kernel
theorem dM_instance_126 : decode prog_9_method_15_code 126 = .ok (.getfield 29, 3) := by decide +kernel
theorem dM_instance_129 : decode prog_9_method_15_code 129 = .ok (.iload_n 1, 1) := by decide +kernel
theorem dM_instance_130 : decode prog_9_method_15_code 130 = .ok (.iaload, 1) := by decide +kernel
theorem dM_instance_131 : decode prog_9_method_15_code 131 = .ok (.ifCond .lt 48, 3) := by decide +kernel
theorem dM_instance_134 : decode prog_9_method_15_code 134 = .ok (.aload_n 0, 1) := by decide +kernel
theorem dM_instance_135 : decode prog_9_method_15_code 135 = .ok (.getfield 35, 3) := by decide +kernel
theorem dM_instance_138 : decode prog_9_method_15_code 138 = .ok (.iload 10, 2) := by decide +kernel
theorem dM_instance_140 : decode prog_9_method_15_code 140 = .ok (.baload, 1) := by decide +kernel
theorem dM_instance_141 : decode prog_9_method_15_code 141 = .ok (.ifCond .eq 35, 3) := by decide +kernel
theorem dM_instance_144 : decode prog_9_method_15_code 144 = .ok (.aload_n 0, 1) := by decide +kernel
theorem dM_instance_145 : decode prog_9_method_15_code 145 = .ok (.iload 6, 2) := by decide +kernel
theorem dM_instance_147 : decode prog_9_method_15_code 147 = .ok (.aload_n 0, 1) := by decide +kernel
theorem dM_instance_148 : decode prog_9_method_15_code 148 = .ok (.getfield 39, 3) := by decide +kernel
theorem dM_instance_151 : decode prog_9_method_15_code 151 = .ok (.iload 10, 2) := by decide +kernel
theorem dM_instance_153 : decode prog_9_method_15_code 153 = .ok (.iaload, 1) := by decide +kernel
theorem dM_instance_154 : decode prog_9_method_15_code 154 = .ok (.invokevirtual 208, 3) := by decide +kernel
theorem dM_instance_157 : decode prog_9_method_15_code 157 = .ok (.ifCond .eq 19, 3) := by decide +kernel
theorem dM_instance_160 : decode prog_9_method_15_code 160 = .ok (.aload_n 0, 1) := by decide +kernel
theorem dM_instance_161 : decode prog_9_method_15_code 161 = .ok (.iload 7, 2) := by decide +kernel
theorem dM_instance_163 : decode prog_9_method_15_code 163 = .ok (.aload_n 0, 1) := by decide +kernel
theorem dM_instance_164 : decode prog_9_method_15_code 164 = .ok (.getfield 42, 3) := by decide +kernel
theorem dM_instance_167 : decode prog_9_method_15_code 167 = .ok (.iload 10, 2) := by decide +kernel
theorem dM_instance_169 : decode prog_9_method_15_code 169 = .ok (.iaload, 1) := by decide +kernel
theorem dM_instance_170 : decode prog_9_method_15_code 170 = .ok (.invokevirtual 208, 3) := by decide +kernel
theorem dM_instance_173 : decode prog_9_method_15_code 173 = .ok (.ifCond .ne 6, 3) := by decide +kernel
theorem dM_instance_176 : decode prog_9_method_15_code 176 = .ok (.bipush (-2), 2) := by decide +kernel
theorem dM_instance_178 : decode prog_9_method_15_code 178 = .ok (.ireturn, 1) := by decide +kernel
theorem dM_instance_179 : decode prog_9_method_15_code 179 = .ok (.aload_n 0, 1) := by decide +kernel
theorem dM_instance_180 : decode prog_9_method_15_code 180 = .ok (.getfield 35, 3) := by decide +kernel
theorem dM_instance_183 : decode prog_9_method_15_code 183 = .ok (.iload 9, 2) := by decide +kernel
theorem dM_instance_185 : decode prog_9_method_15_code 185 = .ok (.iconst 1, 1) := by decide +kernel
theorem dM_instance_186 : decode prog_9_method_15_code 186 = .ok (.bastore, 1) := by decide +kernel
theorem dM_instance_187 : decode prog_9_method_15_code 187 = .ok (.aload_n 0, 1) := by decide +kernel
theorem dM_instance_188 : decode prog_9_method_15_code 188 = .ok (.getfield 39, 3) := by decide +kernel
theorem dM_instance_191 : decode prog_9_method_15_code 191 = .ok (.iload 9, 2) := by decide +kernel
theorem dM_instance_193 : decode prog_9_method_15_code 193 = .ok (.iload 6, 2) := by decide +kernel
theorem dM_instance_195 : decode prog_9_method_15_code 195 = .ok (.iastore, 1) := by decide +kernel
theorem dM_instance_196 : decode prog_9_method_15_code 196 = .ok (.aload_n 0, 1) := by decide +kernel
theorem dM_instance_197 : decode prog_9_method_15_code 197 = .ok (.getfield 42, 3) := by decide +kernel
theorem dM_instance_200 : decode prog_9_method_15_code 200 = .ok (.iload 9, 2) := by decide +kernel
theorem dM_instance_202 : decode prog_9_method_15_code 202 = .ok (.iload 7, 2) := by decide +kernel
theorem dM_instance_204 : decode prog_9_method_15_code 204 = .ok (.iastore, 1) := by decide +kernel
theorem dM_instance_205 : decode prog_9_method_15_code 205 = .ok (.aload_n 0, 1) := by decide +kernel
theorem dM_instance_206 : decode prog_9_method_15_code 206 = .ok (.dup, 1) := by decide +kernel
theorem dM_instance_207 : decode prog_9_method_15_code 207 = .ok (.getfield 211, 3) := by decide +kernel
theorem dM_instance_210 : decode prog_9_method_15_code 210 = .ok (.iconst 1, 1) := by decide +kernel
theorem dM_instance_211 : decode prog_9_method_15_code 211 = .ok (.iadd, 1) := by decide +kernel
theorem dM_instance_212 : decode prog_9_method_15_code 212 = .ok (.putfield 211, 3) := by decide +kernel
theorem dM_instance_215 : decode prog_9_method_15_code 215 = .ok (.aload_n 0, 1) := by decide +kernel
theorem dM_instance_216 : decode prog_9_method_15_code 216 = .ok (.getfield 211, 3) := by decide +kernel
theorem dM_instance_219 : decode prog_9_method_15_code 219 = .ok (.iconst 1, 1) := by decide +kernel
theorem dM_instance_220 : decode prog_9_method_15_code 220 = .ok (.isub, 1) := by decide +kernel
theorem dM_instance_221 : decode prog_9_method_15_code 221 = .ok (.ireturn, 1) := by decide +kernel
theorem dM_isExpression_0 : decode prog_9_method_16_code 0 = .ok (.iload_n 1, 1) := by decide +kernel
theorem dM_isExpression_1 : decode prog_9_method_16_code 1 = .ok (.ifCond .lt 15, 3) := by decide +kernel
theorem dM_isExpression_4 : decode prog_9_method_16_code 4 = .ok (.iload_n 1, 1) := by decide +kernel
theorem dM_isExpression_5 : decode prog_9_method_16_code 5 = .ok (.aload_n 0, 1) := by decide +kernel
theorem dM_isExpression_6 : decode prog_9_method_16_code 6 = .ok (.getfield 214, 3) := by decide +kernel
theorem dM_isExpression_9 : decode prog_9_method_16_code 9 = .ok (.if_icmp .ge 7, 3) := by decide +kernel
theorem dM_isExpression_12 : decode prog_9_method_16_code 12 = .ok (.iconst 1, 1) := by decide +kernel
theorem dM_isExpression_13 : decode prog_9_method_16_code 13 = .ok (.goto 4, 3) := by decide +kernel
theorem dM_isExpression_16 : decode prog_9_method_16_code 16 = .ok (.iconst 0, 1) := by decide +kernel
theorem dM_isExpression_17 : decode prog_9_method_16_code 17 = .ok (.ireturn, 1) := by decide +kernel
