theorem dM_markStatic_0 : decode prog_9_method_10_code 0 = .ok (.iconst 0, 1) := by decide +kernel
theorem dM_markStatic_1 : decode prog_9_method_10_code 1 = .ok (.istore_n 2, 1) := by decide +kernel
theorem dM_markStatic_2 : decode prog_9_method_10_code 2 = .ok (.iload_n 2, 1) := by decide +kernel
theorem dM_markStatic_3 : decode prog_9_method_10_code 3 = .ok (.bipush 60, 2) := by decide +kernel
theorem dM_markStatic_5 : decode prog_9_method_10_code 5 = .ok (.if_icmp .ge 25, 3) := by decide +kernel
theorem dM_markStatic_8 : decode prog_9_method_10_code 8 = .ok (.aload_n 0, 1) := by decide +kernel
theorem dM_markStatic_9 : decode prog_9_method_10_code 9 = .ok (.getfield 140, 3) := by decide +kernel
theorem dM_markStatic_12 : decode prog_9_method_10_code 12 = .ok (.iload_n 2, 1) := by decide +kernel
theorem dM_markStatic_13 : decode prog_9_method_10_code 13 = .ok (.iload_n 2, 1) := by decide +kernel
theorem dM_markStatic_14 : decode prog_9_method_10_code 14 = .ok (.iload_n 1, 1) := by decide +kernel
theorem dM_markStatic_15 : decode prog_9_method_10_code 15 = .ok (.if_icmp .ne 7, 3) := by decide +kernel
theorem dM_markStatic_18 : decode prog_9_method_10_code 18 = .ok (.iconst 1, 1) := by decide +kernel
theorem dM_markStatic_19 : decode prog_9_method_10_code 19 = .ok (.goto 4, 3) := by decide +kernel
theorem dM_markStatic_22 : decode prog_9_method_10_code 22 = .ok (.iconst 0, 1) := by decide +kernel
theorem dM_markStatic_23 : decode prog_9_method_10_code 23 = .ok (.bastore, 1) := by decide +kernel
theorem dM_markStatic_24 : decode prog_9_method_10_code 24 = .ok (.iinc 2 1, 3) := by decide +kernel
theorem dM_markStatic_27 : decode prog_9_method_10_code 27 = .ok (.goto (-25), 3) := by decide +kernel
theorem dM_markStatic_30 : decode prog_9_method_10_code 30 = .ok (.iload_n 1, 1) := by decide +kernel
theorem dM_markStatic_31 : decode prog_9_method_10_code 31 = .ok (.istore_n 2, 1) := by decide +kernel
theorem dM_markStatic_32 : decode prog_9_method_10_code 32 = .ok (.iload_n 2, 1) := by decide +kernel
theorem dM_markStatic_33 : decode prog_9_method_10_code 33 = .ok (.ifCond .lt 69, 3) := by decide +kernel
theorem dM_markStatic_36 : decode prog_9_method_10_code 36 = .ok (.aload_n 0, 1) := by decide +kernel
theorem dM_markStatic_37 : decode prog_9_method_10_code 37 = .ok (.getfield 140, 3) := by decide +kernel
theorem dM_markStatic_40 : decode prog_9_method_10_code 40 = .ok (.iload_n 2, 1) := by decide +kernel
theorem dM_markStatic_41 : decode prog_9_method_10_code 41 = .ok (.baload, 1) := by decide +kernel
theorem dM_markStatic_42 : decode prog_9_method_10_code 42 = .ok (.ifCond .eq 24, 3) := by decide +kernel
theorem dM_markStatic_45 : decode prog_9_method_10_code 45 = .ok (.aload_n 0, 1) := by decide +kernel
theorem dM_markStatic_46 : decode prog_9_method_10_code 46 = .ok (.getfield 20, 3) := by decide +kernel
theorem dM_markStatic_49 : decode prog_9_method_10_code 49 = .ok (.iload_n 2, 1) := by decide +kernel
theorem dM_markStatic_50 : decode prog_9_method_10_code 50 = .ok (.iaload, 1) := by decide +kernel
theorem dM_markStatic_51 : decode prog_9_method_10_code 51 = .ok (.ifCond .lt 15, 3) := by decide +kernel
theorem dM_markStatic_54 : decode prog_9_method_10_code 54 = .ok (.aload_n 0, 1) := by decide +kernel
theorem dM_markStatic_55 : decode prog_9_method_10_code 55 = .ok (.getfield 140, 3) := by decide +kernel
theorem dM_markStatic_58 : decode prog_9_method_10_code 58 = .ok (.aload_n 0, 1) := by decide +kernel
theorem dM_markStatic_59 : decode prog_9_method_10_code 59 = .ok (.getfield 20, 3) := by decide +kernel
theorem dM_markStatic_62 : decode prog_9_method_10_code 62 = .ok (.iload_n 2, 1) := by decide +kernel
theorem dM_markStatic_63 : decode prog_9_method_10_code 63 = .ok (.iaload, 1) := by decide +kernel
theorem dM_markStatic_64 : decode prog_9_method_10_code 64 = .ok (.iconst 1, 1) := by decide +kernel
theorem dM_markStatic_65 : decode prog_9_method_10_code 65 = .ok (.bastore, 1) := by decide +kernel
theorem dM_markStatic_66 : decode prog_9_method_10_code 66 = .ok (.aload_n 0, 1) := by decide +kernel
theorem dM_markStatic_67 : decode prog_9_method_10_code 67 = .ok (.getfield 140, 3) := by decide +kernel
theorem dM_markStatic_70 : decode prog_9_method_10_code 70 = .ok (.iload_n 2, 1) := by decide +kernel
theorem dM_markStatic_71 : decode prog_9_method_10_code 71 = .ok (.baload, 1) := by decide +kernel
theorem dM_markStatic_72 : decode prog_9_method_10_code 72 = .ok (.ifCond .eq 24, 3) := by decide +kernel
theorem dM_markStatic_75 : decode prog_9_method_10_code 75 = .ok (.aload_n 0, 1) := by decide +kernel
theorem dM_markStatic_76 : decode prog_9_method_10_code 76 = .ok (.getfield 23, 3) := by decide +kernel
theorem dM_markStatic_79 : decode prog_9_method_10_code 79 = .ok (.iload_n 2, 1) := by decide +kernel
theorem dM_markStatic_80 : decode prog_9_method_10_code 80 = .ok (.iaload, 1) := by decide +kernel
theorem dM_markStatic_81 : decode prog_9_method_10_code 81 = .ok (.ifCond .lt 15, 3) := by decide +kernel
theorem dM_markStatic_84 : decode prog_9_method_10_code 84 = .ok (.aload_n 0, 1) := by decide +kernel
theorem dM_markStatic_85 : decode prog_9_method_10_code 85 = .ok (.getfield 140, 3) := by decide +kernel
theorem dM_markStatic_88 : decode prog_9_method_10_code 88 = .ok (.aload_n 0, 1) := by decide +kernel
theorem dM_markStatic_89 : decode prog_9_method_10_code 89 = .ok (.getfield 23, 3) := by decide +kernel
theorem dM_markStatic_92 : decode prog_9_method_10_code 92 = .ok (.iload_n 2, 1) := by decide +kernel
theorem dM_markStatic_93 : decode prog_9_method_10_code 93 = .ok (.iaload, 1) := by decide +kernel
theorem dM_markStatic_94 : decode prog_9_method_10_code 94 = .ok (.iconst 1, 1) := by decide +kernel
theorem dM_markStatic_95 : decode prog_9_method_10_code 95 = .ok (.bastore, 1) := by decide +kernel
theorem dM_markStatic_96 : decode prog_9_method_10_code 96 = .ok (.iinc 2 (-1), 3) := by decide +kernel
theorem dM_markStatic_99 : decode prog_9_method_10_code 99 = .ok (.goto (-67), 3) := by decide +kernel
theorem dM_markStatic_102 : decode prog_9_method_10_code 102 = .ok (.return_, 1) := by decide +kernel
theorem dM_hasVariable_0 : decode prog_9_method_11_code 0 = .ok (.aload_n 0, 1) := by decide +kernel
theorem dM_hasVariable_1 : decode prog_9_method_11_code 1 = .ok (.iload_n 1, 1) := by decide +kernel
theorem dM_hasVariable_2 : decode prog_9_method_11_code 2 = .ok (.invokevirtual 197, 3) := by decide +kernel
theorem dM_hasVariable_5 : decode prog_9_method_11_code 5 = .ok (.iconst 0, 1) := by decide +kernel
theorem dM_hasVariable_6 : decode prog_9_method_11_code 6 = .ok (.istore_n 3, 1) := by decide +kernel
theorem dM_hasVariable_7 : decode prog_9_method_11_code 7 = .ok (.iconst 0, 1) := by decide +kernel
theorem dM_hasVariable_8 : decode prog_9_method_11_code 8 = .ok (.istore 4, 2) := by decide +kernel
theorem dM_hasVariable_10 : decode prog_9_method_11_code 10 = .ok (.iload 4, 2) := by decide +kernel
theorem dM_hasVariable_12 : decode prog_9_method_11_code 12 = .ok (.iload_n 1, 1) := by decide +kernel
theorem dM_hasVariable_13 : decode prog_9_method_11_code 13 = .ok (.if_icmp .gt 42, 3) := by decide +kernel
theorem dM_hasVariable_16 : decode prog_9_method_11_code 16 = .ok (.iload_n 3, 1) := by decide +kernel
theorem dM_hasVariable_17 : decode prog_9_method_11_code 17 = .ok (.ifCond .ne 26, 3) := by decide +kernel
theorem dM_hasVariable_20 : decode prog_9_method_11_code 20 = .ok (.aload_n 0, 1) := by decide +kernel
theorem dM_hasVariable_21 : decode prog_9_method_11_code 21 = .ok (.getfield 140, 3) := by decide +kernel
theorem dM_hasVariable_24 : decode prog_9_method_11_code 24 = .ok (.iload 4, 2) := by decide +kernel
theorem dM_hasVariable_26 : decode prog_9_method_11_code 26 = .ok (.baload, 1) := by decide +kernel
theorem dM_hasVariable_27 : decode prog_9_method_11_code 27 = .ok (.ifCond .eq 20, 3) := by decide +kernel
theorem dM_hasVariable_30 : decode prog_9_method_11_code 30 = .ok (.aload_n 0, 1) := by decide +kernel
theorem dM_hasVariable_31 : decode prog_9_method_11_code 31 = .ok (.getfield 17, 3) := by decide +kernel
theorem dM_hasVariable_34 : decode prog_9_method_11_code 34 = .ok (.iload 4, 2) := by decide +kernel
theorem dM_hasVariable_36 : decode prog_9_method_11_code 36 = .ok (.iaload, 1) := by decide +kernel
theorem dM_hasVariable_37 : decode prog_9_method_11_code 37 = .ok (.iconst (-1), 1) := by decide +kernel
theorem dM_hasVariable_38 : decode prog_9_method_11_code 38 = .ok (.iload_n 2, 1) := by decide +kernel
theorem dM_hasVariable_39 : decode prog_9_method_11_code 39 = .ok (.isub, 1) := by decide +kernel
theorem dM_hasVariable_40 : decode prog_9_method_11_code 40 = .ok (.if_icmp .ne 7, 3) := by decide +kernel
theorem dM_hasVariable_43 : decode prog_9_method_11_code 43 = .ok (.iconst 1, 1) := by decide +kernel
theorem dM_hasVariable_44 : decode prog_9_method_11_code 44 = .ok (.goto 4, 3) := by decide +kernel
theorem dM_hasVariable_47 : decode prog_9_method_11_code 47 = .ok (.iconst 0, 1) := by decide +kernel
theorem dM_hasVariable_48 : decode prog_9_method_11_code 48 = .ok (.istore_n 3, 1) := by decide +kernel
theorem dM_hasVariable_49 : decode prog_9_method_11_code 49 = .ok (.iinc 4 1, 3) := by decide +kernel
theorem dM_hasVariable_52 : decode prog_9_method_11_code 52 = .ok (.goto (-42), 3) := by decide +kernel
theorem dM_hasVariable_55 : decode prog_9_method_11_code 55 = .ok (.iload_n 3, 1) := by decide +kernel
theorem dM_hasVariable_56 : decode prog_9_method_11_code 56 = .ok (.ireturn, 1) := by decide +kernel
theorem dM_method_0 : decode prog_9_method_12_code 0 = .ok (.aload_n 0, 1) := by decide +kernel
theorem dM_method_1 : decode prog_9_method_12_code 1 = .ok (.iconst 0, 1) := by decide +kernel
theorem dM_method_2 : decode prog_9_method_12_code 2 = .ok (.putfield 176, 3) := by decide +kernel
theorem dM_method_5 : decode prog_9_method_12_code 5 = .ok (.aload_n 0, 1) := by decide +kernel
theorem dM_method_6 : decode prog_9_method_12_code 6 = .ok (.iload_n 1, 1) := by decide +kernel
theorem dM_method_7 : decode prog_9_method_12_code 7 = .ok (.invokevirtual 193, 3) := by decide +kernel
theorem dM_method_10 : decode prog_9_method_12_code 10 = .ok (.ifCond .eq 35, 3) := by decide +kernel
theorem dM_method_13 : decode prog_9_method_12_code 13 = .ok (.iload_n 2, 1) := by decide +kernel
theorem dM_method_14 : decode prog_9_method_12_code 14 = .ok (.iconst 0, 1) := by decide +kernel
theorem dM_method_15 : decode prog_9_method_12_code 15 = .ok (.aload_n 0, 1) := by decide +kernel
theorem dM_method_16 : decode prog_9_method_12_code 16 = .ok (.getfield 183, 3) := by decide +kernel
theorem dM_method_19 : decode prog_9_method_12_code 19 = .ok (.iconst 1, 1) := by decide +kernel
theorem dM_method_20 : decode prog_9_method_12_code 20 = .ok (.isub, 1) := by decide +kernel
theorem dM_method_21 : decode prog_9_method_12_code 21 = .ok (.invokestatic 179, 3) := by decide +kernel
theorem dM_method_24 : decode prog_9_method_12_code 24 = .ok (.ifCond .eq 21, 3) := by decide +kernel
theorem dM_method_27 : decode prog_9_method_12_code 27 = .ok (.aload_n 0, 1) := by decide +kernel
theorem dM_method_28 : decode prog_9_method_12_code 28 = .ok (.getfield 32, 3) := by decide +kernel
theorem dM_method_31 : decode prog_9_method_12_code 31 = .ok (.iload_n 1, 1) := by decide +kernel
theorem dM_method_32 : decode prog_9_method_12_code 32 = .ok (.iaload, 1) := by decide +kernel
theorem dM_method_33 : decode prog_9_method_12_code 33 = .ok (.ifCond .ge 12, 3) := by decide +kernel
theorem dM_method_36 : decode prog_9_method_12_code 36 = .ok (.aload_n 0, 1) := by decide +kernel
theorem dM_method_37 : decode prog_9_method_12_code 37 = .ok (.iload_n 2, 1) := by decide +kernel
theorem dM_method_38 : decode prog_9_method_12_code 38 = .ok (.iconst 0, 1) := by decide +kernel
theorem dM_method_39 : decode prog_9_method_12_code 39 = .ok (.invokevirtual 201, 3) := by decide +kernel
theorem dM_method_42 : decode prog_9_method_12_code 42 = .ok (.ifCond .ne 5, 3) := by decide +kernel
theorem dM_method_45 : decode prog_9_method_12_code 45 = .ok (.iconst (-1), 1) := by decide +kernel
theorem dM_method_46 : decode prog_9_method_12_code 46 = .ok (.ireturn, 1) := by decide +kernel
theorem dM_method_47 : decode prog_9_method_12_code 47 = .ok (.aload_n 0, 1) := by decide +kernel
theorem dM_method_48 : decode prog_9_method_12_code 48 = .ok (.getfield 32, 3) := by decide +kernel
theorem dM_method_51 : decode prog_9_method_12_code 51 = .ok (.iload_n 1, 1) := by decide +kernel
theorem dM_method_52 : decode prog_9_method_12_code 52 = .ok (.iload_n 2, 1) := by decide +kernel
theorem dM_method_53 : decode prog_9_method_12_code 53 = .ok (.iastore, 1) := by decide +kernel
theorem dM_method_54 : decode prog_9_method_12_code 54 = .ok (.iconst 1, 1) := by decide +kernel
theorem dM_method_55 : decode prog_9_method_12_code 55 = .ok (.ireturn, 1) := by decide +kernel
theorem dM_isUnder_0 : decode prog_9_method_13_code 0 = .ok (.iload_n 1, 1) := by decide +kernel
theorem dM_isUnder_1 : decode prog_9_method_13_code 1 = .ok (.istore_n 3, 1) := by decide +kernel
theorem dM_isUnder_2 : decode prog_9_method_13_code 2 = .ok (.iload_n 3, 1) := by decide +kernel
theorem dM_isUnder_3 : decode prog_9_method_13_code 3 = .ok (.ifCond .lt 18, 3) := by decide +kernel
theorem dM_isUnder_6 : decode prog_9_method_13_code 6 = .ok (.iload_n 3, 1) := by decide +kernel
theorem dM_isUnder_7 : decode prog_9_method_13_code 7 = .ok (.iload_n 2, 1) := by decide +kernel
theorem dM_isUnder_8 : decode prog_9_method_13_code 8 = .ok (.if_icmp .eq 13, 3) := by decide +kernel
theorem dM_isUnder_11 : decode prog_9_method_13_code 11 = .ok (.aload_n 0, 1) := by decide +kernel
theorem dM_isUnder_12 : decode prog_9_method_13_code 12 = .ok (.getfield 29, 3) := by decide +kernel
theorem dM_isUnder_15 : decode prog_9_method_13_code 15 = .ok (.iload_n 3, 1) := by decide +kernel
theorem dM_isUnder_16 : decode prog_9_method_13_code 16 = .ok (.iaload, 1) := by decide +kernel
theorem dM_isUnder_17 : decode prog_9_method_13_code 17 = .ok (.istore_n 3, 1) := by decide +kernel
theorem dM_isUnder_18 : decode prog_9_method_13_code 18 = .ok (.goto (-16), 3) := by decide +kernel
theorem dM_isUnder_21 : decode prog_9_method_13_code 21 = .ok (.iload_n 3, 1) := by decide +kernel
theorem dM_isUnder_22 : decode prog_9_method_13_code 22 = .ok (.iload_n 2, 1) := by decide +kernel
theorem dM_isUnder_23 : decode prog_9_method_13_code 23 = .ok (.if_icmp .ne 7, 3) := by decide +kernel
theorem dM_isUnder_26 : decode prog_9_method_13_code 26 = .ok (.iconst 1, 1) := by decide +kernel
theorem dM_isUnder_27 : decode prog_9_method_13_code 27 = .ok (.goto 4, 3) := by decide +kernel
theorem dM_isUnder_30 : decode prog_9_method_13_code 30 = .ok (.iconst 0, 1) := by decide +kernel
theorem dM_isUnder_31 : decode prog_9_method_13_code 31 = .ok (.ireturn, 1) := by decide +kernel
theorem dM_covers_0 : decode prog_9_method_14_code 0 = .ok (.iconst 1, 1) := by decide +kernel
theorem dM_covers_1 : decode prog_9_method_14_code 1 = .ok (.istore_n 3, 1) := by decide +kernel
theorem dM_covers_2 : decode prog_9_method_14_code 2 = .ok (.iconst 0, 1) := by decide +kernel
theorem dM_covers_3 : decode prog_9_method_14_code 3 = .ok (.istore 4, 2) := by decide +kernel
theorem dM_covers_5 : decode prog_9_method_14_code 5 = .ok (.iload 4, 2) := by decide +kernel
theorem dM_covers_7 : decode prog_9_method_14_code 7 = .ok (.aload_n 0, 1) := by decide +kernel
theorem dM_covers_8 : decode prog_9_method_14_code 8 = .ok (.getfield 190, 3) := by decide +kernel
theorem dM_covers_11 : decode prog_9_method_14_code 11 = .ok (.if_icmp .ge 88, 3) := by decide +kernel
theorem dM_covers_14 : decode prog_9_method_14_code 14 = .ok (.iload_n 2, 1) := by decide +kernel
theorem dM_covers_15 : decode prog_9_method_14_code 15 = .ok (.iload 4, 2) := by decide +kernel
theorem dM_covers_17 : decode prog_9_method_14_code 17 = .ok (.ishr, 1) := by decide +kernel
theorem dM_covers_18 : decode prog_9_method_14_code 18 = .ok (.iconst 1, 1) := by decide +kernel
theorem dM_covers_19 : decode prog_9_method_14_code 19 = .ok (.iand, 1) := by decide +kernel
theorem dM_covers_20 : decode prog_9_method_14_code 20 = .ok (.iconst 1, 1) := by decide +kernel
theorem dM_covers_21 : decode prog_9_method_14_code 21 = .ok (.if_icmp .ne 72, 3) := by decide +kernel
theorem dM_covers_24 : decode prog_9_method_14_code 24 = .ok (.iconst 0, 1) := by decide +kernel
theorem dM_covers_25 : decode prog_9_method_14_code 25 = .ok (.istore 5, 2) := by decide +kernel
theorem dM_covers_27 : decode prog_9_method_14_code 27 = .ok (.iconst 0, 1) := by decide +kernel
theorem dM_covers_28 : decode prog_9_method_14_code 28 = .ok (.istore 6, 2) := by decide +kernel
theorem dM_covers_30 : decode prog_9_method_14_code 30 = .ok (.iload 6, 2) := by decide +kernel
theorem dM_covers_32 : decode prog_9_method_14_code 32 = .ok (.aload_n 0, 1) := by decide +kernel
theorem dM_covers_33 : decode prog_9_method_14_code 33 = .ok (.getfield 190, 3) := by decide +kernel
theorem dM_covers_36 : decode prog_9_method_14_code 36 = .ok (.if_icmp .ge 42, 3) := by decide +kernel
theorem dM_covers_39 : decode prog_9_method_14_code 39 = .ok (.iload 5, 2) := by decide +kernel
theorem dM_covers_41 : decode prog_9_method_14_code 41 = .ok (.ifCond .ne 24, 3) := by decide +kernel
theorem dM_covers_44 : decode prog_9_method_14_code 44 = .ok (.iload_n 1, 1) := by decide +kernel
theorem dM_covers_45 : decode prog_9_method_14_code 45 = .ok (.iload 6, 2) := by decide +kernel
theorem dM_covers_47 : decode prog_9_method_14_code 47 = .ok (.ishr, 1) := by decide +kernel
theorem dM_covers_48 : decode prog_9_method_14_code 48 = .ok (.iconst 1, 1) := by decide +kernel
theorem dM_covers_49 : decode prog_9_method_14_code 49 = .ok (.iand, 1) := by decide +kernel
theorem dM_covers_50 : decode prog_9_method_14_code 50 = .ok (.iconst 1, 1) := by decide +kernel
theorem dM_covers_51 : decode prog_9_method_14_code 51 = .ok (.if_icmp .ne 18, 3) := by decide +kernel
theorem dM_covers_54 : decode prog_9_method_14_code 54 = .ok (.aload_n 0, 1) := by decide +kernel
theorem dM_covers_55 : decode prog_9_method_14_code 55 = .ok (.iload 6, 2) := by decide +kernel
theorem dM_covers_57 : decode prog_9_method_14_code 57 = .ok (.iload 4, 2) := by decide +kernel
theorem dM_covers_59 : decode prog_9_method_14_code 59 = .ok (.invokevirtual 205, 3) := by decide +kernel
theorem dM_covers_62 : decode prog_9_method_14_code 62 = .ok (.ifCond .eq 7, 3) := by decide +kernel
theorem dM_covers_65 : decode prog_9_method_14_code 65 = .ok (.iconst 1, 1) := by decide +kernel
theorem dM_covers_66 : decode prog_9_method_14_code 66 = .ok (.goto 4, 3) := by decide +kernel
theorem dM_covers_69 : decode prog_9_method_14_code 69 = .ok (.iconst 0, 1) := by decide +kernel
theorem dM_covers_70 : decode prog_9_method_14_code 70 = .ok (.istore 5, 2) := by decide +kernel
theorem dM_covers_72 : decode prog_9_method_14_code 72 = .ok (.iinc 6 1, 3) := by decide +kernel
theorem dM_covers_75 : decode prog_9_method_14_code 75 = .ok (.goto (-45), 3) := by decide +kernel
theorem dM_covers_78 : decode prog_9_method_14_code 78 = .ok (.iload_n 3, 1) := by decide +kernel
theorem dM_covers_79 : decode prog_9_method_14_code 79 = .ok (.ifCond .eq 12, 3) := by decide +kernel
theorem dM_covers_82 : decode prog_9_method_14_code 82 = .ok (.iload 5, 2) := by decide +kernel
theorem dM_covers_84 : decode prog_9_method_14_code 84 = .ok (.ifCond .eq 7, 3) := by decide +kernel
theorem dM_covers_87 : decode prog_9_method_14_code 87 = .ok (.iconst 1, 1) := by decide +kernel
theorem dM_covers_88 : decode prog_9_method_14_code 88 = .ok (.goto 4, 3) := by decide +kernel
theorem dM_covers_91 : decode prog_9_method_14_code 91 = .ok (.iconst 0, 1) := by decide +kernel
theorem dM_covers_92 : decode prog_9_method_14_code 92 = .ok (.istore_n 3, 1) := by decide +kernel
theorem dM_covers_93 : decode prog_9_method_14_code 93 = .ok (.iinc 4 1, 3) := by decide +kernel
theorem dM_covers_96 : decode prog_9_method_14_code 96 = .ok (.goto (-91), 3) := by decide +kernel
theorem dM_covers_99 : decode prog_9_method_14_code 99 = .ok (.iload_n 3, 1) := by decide +kernel
theorem dM_covers_100 : decode prog_9_method_14_code 100 = .ok (.ireturn, 1) := by decide +kernel
theorem dM_instance_0 : decode prog_9_method_15_code 0 = .ok (.aload_n 0, 1) := by decide +kernel
theorem dM_instance_1 : decode prog_9_method_15_code 1 = .ok (.iconst 0, 1) := by decide +kernel
theorem dM_instance_2 : decode prog_9_method_15_code 2 = .ok (.putfield 176, 3) := by decide +kernel
theorem dM_instance_5 : decode prog_9_method_15_code 5 = .ok (.aload_n 0, 1) := by decide +kernel
theorem dM_instance_6 : decode prog_9_method_15_code 6 = .ok (.iload_n 1, 1) := by decide +kernel
theorem dM_instance_7 : decode prog_9_method_15_code 7 = .ok (.invokevirtual 193, 3) := by decide +kernel
theorem dM_instance_10 : decode prog_9_method_15_code 10 = .ok (.ifCond .eq 17, 3) := by decide +kernel
theorem dM_instance_13 : decode prog_9_method_15_code 13 = .ok (.iload_n 2, 1) := by decide +kernel
theorem dM_instance_14 : decode prog_9_method_15_code 14 = .ok (.iconst 0, 1) := by decide +kernel
theorem dM_instance_15 : decode prog_9_method_15_code 15 = .ok (.aload_n 0, 1) := by decide +kernel
theorem dM_instance_16 : decode prog_9_method_15_code 16 = .ok (.getfield 7, 3) := by decide +kernel
theorem dM_instance_19 : decode prog_9_method_15_code 19 = .ok (.iconst 1, 1) := by decide +kernel
theorem dM_instance_20 : decode prog_9_method_15_code 20 = .ok (.isub, 1) := by decide +kernel
theorem dM_instance_21 : decode prog_9_method_15_code 21 = .ok (.invokestatic 179, 3) := by decide +kernel
theorem dM_instance_24 : decode prog_9_method_15_code 24 = .ok (.ifCond .ne 5, 3) := by decide +kernel
theorem dM_instance_27 : decode prog_9_method_15_code 27 = .ok (.iconst (-1), 1) := by decide +kernel
theorem dM_instance_28 : decode prog_9_method_15_code 28 = .ok (.ireturn, 1) := by decide +kernel
theorem dM_instance_29 : decode prog_9_method_15_code 29 = .ok (.aload_n 0, 1) := by decide +kernel
theorem dM_instance_30 : decode prog_9_method_15_code 30 = .ok (.getfield 13, 3) := by decide +kernel
theorem dM_instance_33 : decode prog_9_method_15_code 33 = .ok (.iload_n 2, 1) := by decide +kernel
theorem dM_instance_34 : decode prog_9_method_15_code 34 = .ok (.iaload, 1) := by decide +kernel
theorem dM_instance_35 : decode prog_9_method_15_code 35 = .ok (.istore 5, 2) := by decide +kernel
theorem dM_instance_37 : decode prog_9_method_15_code 37 = .ok (.iload 5, 2) := by decide +kernel
theorem dM_instance_39 : decode prog_9_method_15_code 39 = .ok (.ifCond .le 7, 3) := by decide +kernel
theorem dM_instance_42 : decode prog_9_method_15_code 42 = .ok (.iload_n 3, 1) := by decide +kernel
theorem dM_instance_43 : decode prog_9_method_15_code 43 = .ok (.goto 4, 3) := by decide +kernel
theorem dM_instance_46 : decode prog_9_method_15_code 46 = .ok (.iconst 0, 1) := by decide +kernel
theorem dM_instance_47 : decode prog_9_method_15_code 47 = .ok (.istore 6, 2) := by decide +kernel
theorem dM_instance_49 : decode prog_9_method_15_code 49 = .ok (.iload 5, 2) := by decide +kernel
theorem dM_instance_51 : decode prog_9_method_15_code 51 = .ok (.iconst 1, 1) := by decide +kernel
theorem dM_instance_52 : decode prog_9_method_15_code 52 = .ok (.if_icmp .le 8, 3) := by decide +kernel
theorem dM_instance_55 : decode prog_9_method_15_code 55 = .ok (.iload 4, 2) := by decide +kernel
theorem dM_instance_57 : decode prog_9_method_15_code 57 = .ok (.goto 4, 3) := by decide +kernel
theorem dM_instance_60 : decode prog_9_method_15_code 60 = .ok (.iconst 0, 1) := by decide +kernel
theorem dM_instance_61 : decode prog_9_method_15_code 61 = .ok (.istore 7, 2) := by decide +kernel
theorem dM_instance_63 : decode prog_9_method_15_code 63 = .ok (.iconst 1, 1) := by decide +kernel
theorem dM_instance_64 : decode prog_9_method_15_code 64 = .ok (.aload_n 0, 1) := by decide +kernel
theorem dM_instance_65 : decode prog_9_method_15_code 65 = .ok (.getfield 190, 3) := by decide +kernel
theorem dM_instance_68 : decode prog_9_method_15_code 68 = .ok (.ishl, 1) := by decide +kernel
theorem dM_instance_69 : decode prog_9_method_15_code 69 = .ok (.iconst 1, 1) := by decide +kernel
theorem dM_instance_70 : decode prog_9_method_15_code 70 = .ok (.isub, 1) := by decide +kernel
theorem dM_instance_71 : decode prog_9_method_15_code 71 = .ok (.istore 8, 2) := by decide +kernel
theorem dM_instance_73 : decode prog_9_method_15_code 73 = .ok (.iload_n 3, 1) := by decide +kernel
theorem dM_instance_74 : decode prog_9_method_15_code 74 = .ok (.iload 8, 2) := by decide +kernel
theorem dM_instance_76 : decode prog_9_method_15_code 76 = .ok (.iconst (-1), 1) := by decide +kernel
theorem dM_instance_77 : decode prog_9_method_15_code 77 = .ok (.ixor, 1) := by decide +kernel
theorem dM_instance_78 : decode prog_9_method_15_code 78 = .ok (.iand, 1) := by decide +kernel
theorem dM_instance_79 : decode prog_9_method_15_code 79 = .ok (.ifCond .ne 13, 3) := by decide +kernel
theorem dM_instance_82 : decode prog_9_method_15_code 82 = .ok (.iload 4, 2) := by decide +kernel
theorem dM_instance_84 : decode prog_9_method_15_code 84 = .ok (.iload 8, 2) := by decide +kernel
theorem dM_instance_86 : decode prog_9_method_15_code 86 = .ok (.iconst (-1), 1) := by decide +kernel
theorem dM_instance_87 : decode prog_9_method_15_code 87 = .ok (.ixor, 1) := by decide +kernel
theorem dM_instance_88 : decode prog_9_method_15_code 88 = .ok (.iand, 1) := by decide +kernel
theorem dM_instance_89 : decode prog_9_method_15_code 89 = .ok (.ifCond .eq 5, 3) := by decide +kernel
theorem dM_instance_92 : decode prog_9_method_15_code 92 = .ok (.iconst (-1), 1) := by decide +kernel
theorem dM_instance_93 : decode prog_9_method_15_code 93 = .ok (.ireturn, 1) := by decide +kernel
theorem dM_instance_94 : decode prog_9_method_15_code 94 = .ok (.bipush 8, 2) := by decide +kernel
theorem dM_instance_96 : decode prog_9_method_15_code 96 = .ok (.iload_n 1, 1) := by decide +kernel
theorem dM_instance_97 : decode prog_9_method_15_code 97 = .ok (.imul, 1) := by decide +kernel
theorem dM_instance_98 : decode prog_9_method_15_code 98 = .ok (.iload_n 2, 1) := by decide +kernel
theorem dM_instance_99 : decode prog_9_method_15_code 99 = .ok (.iadd, 1) := by decide +kernel
theorem dM_instance_100 : decode prog_9_method_15_code 100 = .ok (.istore 9, 2) := by decide +kernel
theorem dM_instance_102 : decode prog_9_method_15_code 102 = .ok (.bipush 8, 2) := by decide +kernel
theorem dM_instance_104 : decode prog_9_method_15_code 104 = .ok (.aload_n 0, 1) := by decide +kernel
theorem dM_instance_105 : decode prog_9_method_15_code 105 = .ok (.getfield 29, 3) := by decide +kernel
theorem dM_instance_108 : decode prog_9_method_15_code 108 = .ok (.iload_n 1, 1) := by decide +kernel
theorem dM_instance_109 : decode prog_9_method_15_code 109 = .ok (.iaload, 1) := by decide +kernel
theorem dM_instance_110 : decode prog_9_method_15_code 110 = .ok (.imul, 1) := by decide +kernel
theorem dM_instance_111 : decode prog_9_method_15_code 111 = .ok (.iload_n 2, 1) := by decide +kernel
theorem dM_instance_112 : decode prog_9_method_15_code 112 = .ok (.iadd, 1) := by decide +kernel
theorem dM_instance_113 : decode prog_9_method_15_code 113 = .ok (.istore 10, 2) := by decide +kernel
theorem dM_instance_115 : decode prog_9_method_15_code 115 = .ok (.aload_n 0, 1) := by decide +kernel
theorem dM_instance_116 : decode prog_9_method_15_code 116 = .ok (.getfield 35, 3) := by decide +kernel
theorem dM_instance_119 : decode prog_9_method_15_code 119 = .ok (.iload 9, 2) := by decide +kernel
theorem dM_instance_121 : decode prog_9_method_15_code 121 = .ok (.baload, 1) := by decide +kernel
theorem dM_instance_122 : decode prog_9_method_15_code 122 = .ok (.ifCond .ne 54, 3) := by decide +kernel
theorem dM_instance_125 : decode prog_9_method_15_code 125 = .ok (.aload_n 0, 1) := by decide +kernel
theorem dM_instance_126 : decode prog_9_method_15_code 126 = .ok (.getfield 29, 3) := by decide +kernel
theorem dM_instance_129 : decode prog_9_method_15_code 129 = .ok (.iload_n 1, 1) := by decide +kernel
theorem dM_instance_130 : decode prog_9_method_15_code 130 = .ok (.iaload, 1) := by decide +kernel
theorem dM_instance_131 : decode prog_9_method_15_code 131 = .ok (.ifCond .lt 48, 3) := by decide +kernel
theorem dM_instance_134 : decode prog_9_method_15_code 134 = .ok (.aload_n 0, 1) := by decide +kernel
theorem dM_instance_135 : decode prog_9_method_15_code 135 = .ok (.getfield 35, 3) := by decide +kernel
theorem dM_instance_138 : decode prog_9_method_15_code 138 = .ok (.iload 10, 2) := by decide +kernel
theorem dM_instance_140 : decode prog_9_method_15_code 140 = .ok (.baload, 1) := by decide +kernel
theorem dM_instance_141 : decode prog_9_method_15_code 141 = .ok (.ifCond .eq 35, 3) := by decide +kernel
theorem dM_instance_144 : decode prog_9_method_15_code 144 = .ok (.aload_n 0, 1) := by decide +kernel
theorem dM_instance_145 : decode prog_9_method_15_code 145 = .ok (.iload 6, 2) := by decide +kernel
theorem dM_instance_147 : decode prog_9_method_15_code 147 = .ok (.aload_n 0, 1) := by decide +kernel
theorem dM_instance_148 : decode prog_9_method_15_code 148 = .ok (.getfield 39, 3) := by decide +kernel
theorem dM_instance_151 : decode prog_9_method_15_code 151 = .ok (.iload 10, 2) := by decide +kernel
theorem dM_instance_153 : decode prog_9_method_15_code 153 = .ok (.iaload, 1) := by decide +kernel
theorem dM_instance_154 : decode prog_9_method_15_code 154 = .ok (.invokevirtual 208, 3) := by decide +kernel
theorem dM_instance_157 : decode prog_9_method_15_code 157 = .ok (.ifCond .eq 19, 3) := by decide +kernel
theorem dM_instance_160 : decode prog_9_method_15_code 160 = .ok (.aload_n 0, 1) := by decide +kernel
theorem dM_instance_161 : decode prog_9_method_15_code 161 = .ok (.iload 7, 2) := by decide +kernel
theorem dM_instance_163 : decode prog_9_method_15_code 163 = .ok (.aload_n 0, 1) := by decide +kernel
theorem dM_instance_164 : decode prog_9_method_15_code 164 = .ok (.getfield 42, 3) := by decide +kernel
theorem dM_instance_167 : decode prog_9_method_15_code 167 = .ok (.iload 10, 2) := by decide +kernel
theorem dM_instance_169 : decode prog_9_method_15_code 169 = .ok (.iaload, 1) := by decide +kernel
theorem dM_instance_170 : decode prog_9_method_15_code 170 = .ok (.invokevirtual 208, 3) := by decide +kernel
theorem dM_instance_173 : decode prog_9_method_15_code 173 = .ok (.ifCond .ne 6, 3) := by decide +kernel
theorem dM_instance_176 : decode prog_9_method_15_code 176 = .ok (.bipush (-2), 2) := by decide +kernel
theorem dM_instance_178 : decode prog_9_method_15_code 178 = .ok (.ireturn, 1) := by decide +kernel
theorem dM_instance_179 : decode prog_9_method_15_code 179 = .ok (.aload_n 0, 1) := by decide +kernel
theorem dM_instance_180 : decode prog_9_method_15_code 180 = .ok (.getfield 35, 3) := by decide +kernel
theorem dM_instance_183 : decode prog_9_method_15_code 183 = .ok (.iload 9, 2) := by decide +kernel
theorem dM_instance_185 : decode prog_9_method_15_code 185 = .ok (.iconst 1, 1) := by decide +kernel
theorem dM_instance_186 : decode prog_9_method_15_code 186 = .ok (.bastore, 1) := by decide +kernel
theorem dM_instance_187 : decode prog_9_method_15_code 187 = .ok (.aload_n 0, 1) := by decide +kernel
theorem dM_instance_188 : decode prog_9_method_15_code 188 = .ok (.getfield 39, 3) := by decide +kernel
theorem dM_instance_191 : decode prog_9_method_15_code 191 = .ok (.iload 9, 2) := by decide +kernel
theorem dM_instance_193 : decode prog_9_method_15_code 193 = .ok (.iload 6, 2) := by decide +kernel
theorem dM_instance_195 : decode prog_9_method_15_code 195 = .ok (.iastore, 1) := by decide +kernel
theorem dM_instance_196 : decode prog_9_method_15_code 196 = .ok (.aload_n 0, 1) := by decide +kernel
theorem dM_instance_197 : decode prog_9_method_15_code 197 = .ok (.getfield 42, 3) := by decide +kernel
theorem dM_instance_200 : decode prog_9_method_15_code 200 = .ok (.iload 9, 2) := by decide +kernel
theorem dM_instance_202 : decode prog_9_method_15_code 202 = .ok (.iload 7, 2) := by decide +kernel
theorem dM_instance_204 : decode prog_9_method_15_code 204 = .ok (.iastore, 1) := by decide +kernel
theorem dM_instance_205 : decode prog_9_method_15_code 205 = .ok (.aload_n 0, 1) := by decide +kernel
theorem dM_instance_206 : decode prog_9_method_15_code 206 = .ok (.dup, 1) := by decide +kernel
theorem dM_instance_207 : decode prog_9_method_15_code 207 = .ok (.getfield 211, 3) := by decide +kernel
theorem dM_instance_210 : decode prog_9_method_15_code 210 = .ok (.iconst 1, 1) := by decide +kernel
theorem dM_instance_211 : decode prog_9_method_15_code 211 = .ok (.iadd, 1) := by decide +kernel
theorem dM_instance_212 : decode prog_9_method_15_code 212 = .ok (.putfield 211, 3) := by decide +kernel
theorem dM_instance_215 : decode prog_9_method_15_code 215 = .ok (.aload_n 0, 1) := by decide +kernel
theorem dM_instance_216 : decode prog_9_method_15_code 216 = .ok (.getfield 211, 3) := by decide +kernel
theorem dM_instance_219 : decode prog_9_method_15_code 219 = .ok (.iconst 1, 1) := by decide +kernel
theorem dM_instance_220 : decode prog_9_method_15_code 220 = .ok (.isub, 1) := by decide +kernel
theorem dM_instance_221 : decode prog_9_method_15_code 221 = .ok (.ireturn, 1) := by decide +kernel
theorem dM_isExpression_0 : decode prog_9_method_16_code 0 = .ok (.iload_n 1, 1) := by decide +kernel
theorem dM_isExpression_1 : decode prog_9_method_16_code 1 = .ok (.ifCond .lt 15, 3) := by decide +kernel
theorem dM_isExpression_4 : decode prog_9_method_16_code 4 = .ok (.iload_n 1, 1) := by decide +kernel
theorem dM_isExpression_5 : decode prog_9_method_16_code 5 = .ok (.aload_n 0, 1) := by decide +kernel
theorem dM_isExpression_6 : decode prog_9_method_16_code 6 = .ok (.getfield 214, 3) := by decide +kernel
theorem dM_isExpression_9 : decode prog_9_method_16_code 9 = .ok (.if_icmp .ge 7, 3) := by decide +kernel
theorem dM_isExpression_12 : decode prog_9_method_16_code 12 = .ok (.iconst 1, 1) := by decide +kernel
theorem dM_isExpression_13 : decode prog_9_method_16_code 13 = .ok (.goto 4, 3) := by decide +kernel
theorem dM_isExpression_16 : decode prog_9_method_16_code 16 = .ok (.iconst 0, 1) := by decide +kernel
theorem dM_isExpression_17 : decode prog_9_method_16_code 17 = .ok (.ireturn, 1) := by decide +kernel
theorem dM_expression_0 : decode prog_9_method_17_code 0 = .ok (.aload_n 0, 1) := by decide +kernel
theorem dM_expression_1 : decode prog_9_method_17_code 1 = .ok (.iconst 0, 1) := by decide +kernel
theorem dM_expression_2 : decode prog_9_method_17_code 2 = .ok (.putfield 176, 3) := by decide +kernel
theorem dM_expression_5 : decode prog_9_method_17_code 5 = .ok (.iload_n 1, 1) := by decide +kernel
theorem dM_expression_6 : decode prog_9_method_17_code 6 = .ok (.ifCond .ne 13, 3) := by decide +kernel
theorem dM_expression_9 : decode prog_9_method_17_code 9 = .ok (.iload_n 2, 1) := by decide +kernel
theorem dM_expression_10 : decode prog_9_method_17_code 10 = .ok (.iconst 0, 1) := by decide +kernel
theorem dM_expression_11 : decode prog_9_method_17_code 11 = .ok (.bipush 15, 2) := by decide +kernel
theorem dM_expression_13 : decode prog_9_method_17_code 13 = .ok (.invokestatic 179, 3) := by decide +kernel
theorem dM_expression_16 : decode prog_9_method_17_code 16 = .ok (.ifCond .ne 120, 3) := by decide +kernel
theorem dM_expression_19 : decode prog_9_method_17_code 19 = .ok (.iload_n 1, 1) := by decide +kernel
theorem dM_expression_20 : decode prog_9_method_17_code 20 = .ok (.iconst 1, 1) := by decide +kernel
theorem dM_expression_21 : decode prog_9_method_17_code 21 = .ok (.if_icmp .ne 21, 3) := by decide +kernel
theorem dM_expression_24 : decode prog_9_method_17_code 24 = .ok (.iload_n 2, 1) := by decide +kernel
theorem dM_expression_25 : decode prog_9_method_17_code 25 = .ok (.iconst 0, 1) := by decide +kernel
theorem dM_expression_26 : decode prog_9_method_17_code 26 = .ok (.bipush 15, 2) := by decide +kernel
theorem dM_expression_28 : decode prog_9_method_17_code 28 = .ok (.invokestatic 179, 3) := by decide +kernel
theorem dM_expression_31 : decode prog_9_method_17_code 31 = .ok (.ifCond .eq 11, 3) := by decide +kernel
theorem dM_expression_34 : decode prog_9_method_17_code 34 = .ok (.aload_n 0, 1) := by decide +kernel
theorem dM_expression_35 : decode prog_9_method_17_code 35 = .ok (.iload_n 3, 1) := by decide +kernel
theorem dM_expression_36 : decode prog_9_method_17_code 36 = .ok (.invokevirtual 217, 3) := by decide +kernel
theorem dM_expression_39 : decode prog_9_method_17_code 39 = .ok (.ifCond .ne 97, 3) := by decide +kernel
theorem dM_expression_42 : decode prog_9_method_17_code 42 = .ok (.iload_n 1, 1) := by decide +kernel
theorem dM_expression_43 : decode prog_9_method_17_code 43 = .ok (.iconst 2, 1) := by decide +kernel
theorem dM_expression_44 : decode prog_9_method_17_code 44 = .ok (.if_icmp .ne 19, 3) := by decide +kernel
theorem dM_expression_47 : decode prog_9_method_17_code 47 = .ok (.aload_n 0, 1) := by decide +kernel
theorem dM_expression_48 : decode prog_9_method_17_code 48 = .ok (.iload_n 2, 1) := by decide +kernel
theorem dM_expression_49 : decode prog_9_method_17_code 49 = .ok (.invokevirtual 217, 3) := by decide +kernel
theorem dM_expression_52 : decode prog_9_method_17_code 52 = .ok (.ifCond .eq 11, 3) := by decide +kernel
theorem dM_expression_55 : decode prog_9_method_17_code 55 = .ok (.aload_n 0, 1) := by decide +kernel
theorem dM_expression_56 : decode prog_9_method_17_code 56 = .ok (.iload_n 3, 1) := by decide +kernel
theorem dM_expression_57 : decode prog_9_method_17_code 57 = .ok (.invokevirtual 217, 3) := by decide +kernel
theorem dM_expression_60 : decode prog_9_method_17_code 60 = .ok (.ifCond .ne 76, 3) := by decide +kernel
theorem dM_expression_63 : decode prog_9_method_17_code 63 = .ok (.iload_n 1, 1) := by decide +kernel
theorem dM_expression_64 : decode prog_9_method_17_code 64 = .ok (.iconst 3, 1) := by decide +kernel
theorem dM_expression_65 : decode prog_9_method_17_code 65 = .ok (.if_icmp .ne 30, 3) := by decide +kernel
theorem dM_expression_68 : decode prog_9_method_17_code 68 = .ok (.iload_n 2, 1) := by decide +kernel
theorem dM_expression_69 : decode prog_9_method_17_code 69 = .ok (.iconst 0, 1) := by decide +kernel
theorem dM_expression_70 : decode prog_9_method_17_code 70 = .ok (.bipush 15, 2) := by decide +kernel
theorem dM_expression_72 : decode prog_9_method_17_code 72 = .ok (.invokestatic 179, 3) := by decide +kernel
theorem dM_expression_75 : decode prog_9_method_17_code 75 = .ok (.ifCond .eq 20, 3) := by decide +kernel
theorem dM_expression_78 : decode prog_9_method_17_code 78 = .ok (.aload_n 0, 1) := by decide +kernel
theorem dM_expression_79 : decode prog_9_method_17_code 79 = .ok (.iload_n 3, 1) := by decide +kernel
theorem dM_expression_80 : decode prog_9_method_17_code 80 = .ok (.invokevirtual 217, 3) := by decide +kernel
theorem dM_expression_83 : decode prog_9_method_17_code 83 = .ok (.ifCond .eq 12, 3) := by decide +kernel
theorem dM_expression_86 : decode prog_9_method_17_code 86 = .ok (.aload_n 0, 1) := by decide +kernel
theorem dM_expression_87 : decode prog_9_method_17_code 87 = .ok (.iload 4, 2) := by decide +kernel
theorem dM_expression_89 : decode prog_9_method_17_code 89 = .ok (.invokevirtual 217, 3) := by decide +kernel
theorem dM_expression_92 : decode prog_9_method_17_code 92 = .ok (.ifCond .ne 44, 3) := by decide +kernel
theorem dM_expression_95 : decode prog_9_method_17_code 95 = .ok (.iload_n 1, 1) := by decide +kernel
theorem dM_expression_96 : decode prog_9_method_17_code 96 = .ok (.iconst 4, 1) := by decide +kernel
theorem dM_expression_97 : decode prog_9_method_17_code 97 = .ok (.if_icmp .ne 20, 3) := by decide +kernel
theorem dM_expression_100 : decode prog_9_method_17_code 100 = .ok (.aload_n 0, 1) := by decide +kernel
theorem dM_expression_101 : decode prog_9_method_17_code 101 = .ok (.iload_n 2, 1) := by decide +kernel
theorem dM_expression_102 : decode prog_9_method_17_code 102 = .ok (.invokevirtual 193, 3) := by decide +kernel
theorem dM_expression_105 : decode prog_9_method_17_code 105 = .ok (.ifCond .eq 12, 3) := by decide +kernel
theorem dM_expression_108 : decode prog_9_method_17_code 108 = .ok (.aload_n 0, 1) := by decide +kernel
theorem dM_expression_109 : decode prog_9_method_17_code 109 = .ok (.getfield 32, 3) := by decide +kernel
theorem dM_expression_112 : decode prog_9_method_17_code 112 = .ok (.iload_n 2, 1) := by decide +kernel
theorem dM_expression_113 : decode prog_9_method_17_code 113 = .ok (.iaload, 1) := by decide +kernel
theorem dM_expression_114 : decode prog_9_method_17_code 114 = .ok (.ifCond .ge 22, 3) := by decide +kernel
theorem dM_expression_117 : decode prog_9_method_17_code 117 = .ok (.iload_n 1, 1) := by decide +kernel
theorem dM_expression_118 : decode prog_9_method_17_code 118 = .ok (.iconst 5, 1) := by decide +kernel
theorem dM_expression_119 : decode prog_9_method_17_code 119 = .ok (.if_icmp .ne 21, 3) := by decide +kernel
theorem dM_expression_122 : decode prog_9_method_17_code 122 = .ok (.iload_n 2, 1) := by decide +kernel
theorem dM_expression_123 : decode prog_9_method_17_code 123 = .ok (.iconst 0, 1) := by decide +kernel
theorem dM_expression_124 : decode prog_9_method_17_code 124 = .ok (.aload_n 0, 1) := by decide +kernel
theorem dM_expression_125 : decode prog_9_method_17_code 125 = .ok (.getfield 183, 3) := by decide +kernel
theorem dM_expression_128 : decode prog_9_method_17_code 128 = .ok (.iconst 1, 1) := by decide +kernel
theorem dM_expression_129 : decode prog_9_method_17_code 129 = .ok (.isub, 1) := by decide +kernel
theorem dM_expression_130 : decode prog_9_method_17_code 130 = .ok (.invokestatic 179, 3) := by decide +kernel
theorem dM_expression_133 : decode prog_9_method_17_code 133 = .ok (.ifCond .eq 7, 3) := by decide +kernel
theorem dM_expression_136 : decode prog_9_method_17_code 136 = .ok (.iconst 1, 1) := by decide +kernel
theorem dM_expression_137 : decode prog_9_method_17_code 137 = .ok (.goto 4, 3) := by decide +kernel
theorem dM_expression_140 : decode prog_9_method_17_code 140 = .ok (.iconst 0, 1) := by decide +kernel
theorem dM_expression_141 : decode prog_9_method_17_code 141 = .ok (.istore 5, 2) := by decide +kernel
theorem dM_expression_143 : decode prog_9_method_17_code 143 = .ok (.iload 5, 2) := by decide +kernel
theorem dM_expression_145 : decode prog_9_method_17_code 145 = .ok (.ifCond .ne 5, 3) := by decide +kernel
theorem dM_expression_148 : decode prog_9_method_17_code 148 = .ok (.iconst (-1), 1) := by decide +kernel
theorem dM_expression_149 : decode prog_9_method_17_code 149 = .ok (.ireturn, 1) := by decide +kernel
theorem dM_expression_150 : decode prog_9_method_17_code 150 = .ok (.aload_n 0, 1) := by decide +kernel
theorem dM_expression_151 : decode prog_9_method_17_code 151 = .ok (.getfield 214, 3) := by decide +kernel
theorem dM_expression_154 : decode prog_9_method_17_code 154 = .ok (.bipush 120, 2) := by decide +kernel
theorem dM_expression_156 : decode prog_9_method_17_code 156 = .ok (.if_icmp .ne 6, 3) := by decide +kernel
theorem dM_expression_159 : decode prog_9_method_17_code 159 = .ok (.bipush (-3), 2) := by decide +kernel
theorem dM_expression_161 : decode prog_9_method_17_code 161 = .ok (.ireturn, 1) := by decide +kernel
theorem dM_expression_162 : decode prog_9_method_17_code 162 = .ok (.aload_n 0, 1) := by decide +kernel
theorem dM_expression_163 : decode prog_9_method_17_code 163 = .ok (.getfield 214, 3) := by decide +kernel
theorem dM_expression_166 : decode prog_9_method_17_code 166 = .ok (.istore 6, 2) := by decide +kernel
theorem dM_expression_168 : decode prog_9_method_17_code 168 = .ok (.aload_n 0, 1) := by decide +kernel
theorem dM_expression_169 : decode prog_9_method_17_code 169 = .ok (.getfield 45, 3) := by decide +kernel
theorem dM_expression_172 : decode prog_9_method_17_code 172 = .ok (.iload 6, 2) := by decide +kernel
theorem dM_expression_174 : decode prog_9_method_17_code 174 = .ok (.iload_n 1, 1) := by decide +kernel
theorem dM_expression_175 : decode prog_9_method_17_code 175 = .ok (.iastore, 1) := by decide +kernel
theorem dM_expression_176 : decode prog_9_method_17_code 176 = .ok (.aload_n 0, 1) := by decide +kernel
theorem dM_expression_177 : decode prog_9_method_17_code 177 = .ok (.getfield 48, 3) := by decide +kernel
theorem dM_expression_180 : decode prog_9_method_17_code 180 = .ok (.iload 6, 2) := by decide +kernel
theorem dM_expression_182 : decode prog_9_method_17_code 182 = .ok (.iload_n 2, 1) := by decide +kernel
theorem dM_expression_183 : decode prog_9_method_17_code 183 = .ok (.iastore, 1) := by decide +kernel
theorem dM_expression_184 : decode prog_9_method_17_code 184 = .ok (.aload_n 0, 1) := by decide +kernel
theorem dM_expression_185 : decode prog_9_method_17_code 185 = .ok (.getfield 51, 3) := by decide +kernel
theorem dM_expression_188 : decode prog_9_method_17_code 188 = .ok (.iload 6, 2) := by decide +kernel
theorem dM_expression_190 : decode prog_9_method_17_code 190 = .ok (.iload_n 3, 1) := by decide +kernel
theorem dM_expression_191 : decode prog_9_method_17_code 191 = .ok (.iastore, 1) := by decide +kernel
theorem dM_expression_192 : decode prog_9_method_17_code 192 = .ok (.aload_n 0, 1) := by decide +kernel
theorem dM_expression_193 : decode prog_9_method_17_code 193 = .ok (.getfield 54, 3) := by decide +kernel
theorem dM_expression_196 : decode prog_9_method_17_code 196 = .ok (.iload 6, 2) := by decide +kernel
theorem dM_expression_198 : decode prog_9_method_17_code 198 = .ok (.iload 4, 2) := by decide +kernel
theorem dM_expression_200 : decode prog_9_method_17_code 200 = .ok (.iastore, 1) := by decide +kernel
theorem dM_expression_201 : decode prog_9_method_17_code 201 = .ok (.iconst 1, 1) := by decide +kernel
theorem dM_expression_202 : decode prog_9_method_17_code 202 = .ok (.istore 7, 2) := by decide +kernel
theorem dM_expression_204 : decode prog_9_method_17_code 204 = .ok (.iload_n 1, 1) := by decide +kernel
theorem dM_expression_205 : decode prog_9_method_17_code 205 = .ok (.iconst 1, 1) := by decide +kernel
theorem dM_expression_206 : decode prog_9_method_17_code 206 = .ok (.if_icmp .ne 16, 3) := by decide +kernel
theorem dM_expression_209 : decode prog_9_method_17_code 209 = .ok (.iconst 1, 1) := by decide +kernel
theorem dM_expression_210 : decode prog_9_method_17_code 210 = .ok (.aload_n 0, 1) := by decide +kernel
theorem dM_expression_211 : decode prog_9_method_17_code 211 = .ok (.getfield 57, 3) := by decide +kernel
theorem dM_expression_214 : decode prog_9_method_17_code 214 = .ok (.iload_n 3, 1) := by decide +kernel
theorem dM_expression_215 : decode prog_9_method_17_code 215 = .ok (.iaload, 1) := by decide +kernel
theorem dM_expression_216 : decode prog_9_method_17_code 216 = .ok (.iadd, 1) := by decide +kernel
theorem dM_expression_217 : decode prog_9_method_17_code 217 = .ok (.istore 7, 2) := by decide +kernel
theorem dM_expression_219 : decode prog_9_method_17_code 219 = .ok (.goto 51, 3) := by decide +kernel
theorem dM_expression_222 : decode prog_9_method_17_code 222 = .ok (.iload_n 1, 1) := by decide +kernel
theorem dM_expression_223 : decode prog_9_method_17_code 223 = .ok (.iconst 2, 1) := by decide +kernel
theorem dM_expression_224 : decode prog_9_method_17_code 224 = .ok (.if_icmp .ne 23, 3) := by decide +kernel
theorem dM_expression_227 : decode prog_9_method_17_code 227 = .ok (.iconst 1, 1) := by decide +kernel
theorem dM_expression_228 : decode prog_9_method_17_code 228 = .ok (.aload_n 0, 1) := by decide +kernel
theorem dM_expression_229 : decode prog_9_method_17_code 229 = .ok (.getfield 57, 3) := by decide +kernel
theorem dM_expression_232 : decode prog_9_method_17_code 232 = .ok (.iload_n 2, 1) := by decide +kernel
theorem dM_expression_233 : decode prog_9_method_17_code 233 = .ok (.iaload, 1) := by decide +kernel
theorem dM_expression_234 : decode prog_9_method_17_code 234 = .ok (.iadd, 1) := by decide +kernel
theorem dM_expression_235 : decode prog_9_method_17_code 235 = .ok (.aload_n 0, 1) := by decide +kernel
theorem dM_expression_236 : decode prog_9_method_17_code 236 = .ok (.getfield 57, 3) := by decide +kernel
theorem dM_expression_239 : decode prog_9_method_17_code 239 = .ok (.iload_n 3, 1) := by decide +kernel
theorem dM_expression_240 : decode prog_9_method_17_code 240 = .ok (.iaload, 1) := by decide +kernel
theorem dM_expression_241 : decode prog_9_method_17_code 241 = .ok (.iadd, 1) := by decide +kernel
theorem dM_expression_242 : decode prog_9_method_17_code 242 = .ok (.istore 7, 2) := by decide +kernel
theorem dM_expression_244 : decode prog_9_method_17_code 244 = .ok (.goto 26, 3) := by decide +kernel
theorem dM_expression_247 : decode prog_9_method_17_code 247 = .ok (.iload_n 1, 1) := by decide +kernel
theorem dM_expression_248 : decode prog_9_method_17_code 248 = .ok (.iconst 3, 1) := by decide +kernel
theorem dM_expression_249 : decode prog_9_method_17_code 249 = .ok (.if_icmp .ne 21, 3) := by decide +kernel
theorem dM_expression_252 : decode prog_9_method_17_code 252 = .ok (.iconst 1, 1) := by decide +kernel
theorem dM_expression_253 : decode prog_9_method_17_code 253 = .ok (.aload_n 0, 1) := by decide +kernel
theorem dM_expression_254 : decode prog_9_method_17_code 254 = .ok (.getfield 57, 3) := by decide +kernel
theorem dM_expression_257 : decode prog_9_method_17_code 257 = .ok (.iload_n 3, 1) := by decide +kernel
theorem dM_expression_258 : decode prog_9_method_17_code 258 = .ok (.iaload, 1) := by decide +kernel
theorem dM_expression_259 : decode prog_9_method_17_code 259 = .ok (.iadd, 1) := by decide +kernel
theorem dM_expression_260 : decode prog_9_method_17_code 260 = .ok (.aload_n 0, 1) := by decide +kernel
theorem dM_expression_261 : decode prog_9_method_17_code 261 = .ok (.getfield 57, 3) := by decide +kernel
theorem dM_expression_264 : decode prog_9_method_17_code 264 = .ok (.iload 4, 2) := by decide +kernel
theorem dM_expression_266 : decode prog_9_method_17_code 266 = .ok (.iaload, 1) := by decide +kernel
theorem dM_expression_267 : decode prog_9_method_17_code 267 = .ok (.iadd, 1) := by decide +kernel
theorem dM_expression_268 : decode prog_9_method_17_code 268 = .ok (.istore 7, 2) := by decide +kernel
theorem dM_expression_270 : decode prog_9_method_17_code 270 = .ok (.aload_n 0, 1) := by decide +kernel
theorem dM_expression_271 : decode prog_9_method_17_code 271 = .ok (.getfield 57, 3) := by decide +kernel
theorem dM_expression_274 : decode prog_9_method_17_code 274 = .ok (.iload 6, 2) := by decide +kernel
theorem dM_expression_276 : decode prog_9_method_17_code 276 = .ok (.iload 7, 2) := by decide +kernel
theorem dM_expression_278 : decode prog_9_method_17_code 278 = .ok (.bipush 25, 2) := by decide +kernel
theorem dM_expression_280 : decode prog_9_method_17_code 280 = .ok (.if_icmp .le 8, 3) := by decide +kernel
theorem dM_expression_283 : decode prog_9_method_17_code 283 = .ok (.bipush 25, 2) := by decide +kernel
theorem dM_expression_285 : decode prog_9_method_17_code 285 = .ok (.goto 5, 3) := by decide +kernel
theorem dM_expression_288 : decode prog_9_method_17_code 288 = .ok (.iload 7, 2) := by decide +kernel
theorem dM_expression_290 : decode prog_9_method_17_code 290 = .ok (.iastore, 1) := by decide +kernel
theorem dM_expression_291 : decode prog_9_method_17_code 291 = .ok (.aload_n 0, 1) := by decide +kernel
theorem dM_expression_292 : decode prog_9_method_17_code 292 = .ok (.dup, 1) := by decide +kernel
theorem dM_expression_293 : decode prog_9_method_17_code 293 = .ok (.getfield 214, 3) := by decide +kernel
theorem dM_expression_296 : decode prog_9_method_17_code 296 = .ok (.iconst 1, 1) := by decide +kernel
theorem dM_expression_297 : decode prog_9_method_17_code 297 = .ok (.iadd, 1) := by decide +kernel
theorem dM_expression_298 : decode prog_9_method_17_code 298 = .ok (.putfield 214, 3) := by decide +kernel
theorem dM_expression_301 : decode prog_9_method_17_code 301 = .ok (.iload 6, 2) := by decide +kernel
theorem dM_expression_303 : decode prog_9_method_17_code 303 = .ok (.ireturn, 1) := by decide +kernel
theorem dM_addNode_0 : decode prog_9_method_18_code 0 = .ok (.aload_n 0, 1) := by decide +kernel
theorem dM_addNode_1 : decode prog_9_method_18_code 1 = .ok (.getfield 60, 3) := by decide +kernel
theorem dM_addNode_4 : decode prog_9_method_18_code 4 = .ok (.aload_n 0, 1) := by decide +kernel
theorem dM_addNode_5 : decode prog_9_method_18_code 5 = .ok (.getfield 220, 3) := by decide +kernel
theorem dM_addNode_8 : decode prog_9_method_18_code 8 = .ok (.iload_n 1, 1) := by decide +kernel
theorem dM_addNode_9 : decode prog_9_method_18_code 9 = .ok (.iastore, 1) := by decide +kernel
theorem dM_addNode_10 : decode prog_9_method_18_code 10 = .ok (.aload_n 0, 1) := by decide +kernel
theorem dM_addNode_11 : decode prog_9_method_18_code 11 = .ok (.getfield 63, 3) := by decide +kernel
theorem dM_addNode_14 : decode prog_9_method_18_code 14 = .ok (.aload_n 0, 1) := by decide +kernel
theorem dM_addNode_15 : decode prog_9_method_18_code 15 = .ok (.getfield 220, 3) := by decide +kernel
theorem dM_addNode_18 : decode prog_9_method_18_code 18 = .ok (.iload_n 2, 1) := by decide +kernel
theorem dM_addNode_19 : decode prog_9_method_18_code 19 = .ok (.iastore, 1) := by decide +kernel
theorem dM_addNode_20 : decode prog_9_method_18_code 20 = .ok (.aload_n 0, 1) := by decide +kernel
theorem dM_addNode_21 : decode prog_9_method_18_code 21 = .ok (.getfield 66, 3) := by decide +kernel
theorem dM_addNode_24 : decode prog_9_method_18_code 24 = .ok (.aload_n 0, 1) := by decide +kernel
theorem dM_addNode_25 : decode prog_9_method_18_code 25 = .ok (.getfield 220, 3) := by decide +kernel
theorem dM_addNode_28 : decode prog_9_method_18_code 28 = .ok (.iload_n 3, 1) := by decide +kernel
theorem dM_addNode_29 : decode prog_9_method_18_code 29 = .ok (.iastore, 1) := by decide +kernel
theorem dM_addNode_30 : decode prog_9_method_18_code 30 = .ok (.aload_n 0, 1) := by decide +kernel
theorem dM_addNode_31 : decode prog_9_method_18_code 31 = .ok (.getfield 69, 3) := by decide +kernel
theorem dM_addNode_34 : decode prog_9_method_18_code 34 = .ok (.aload_n 0, 1) := by decide +kernel
theorem dM_addNode_35 : decode prog_9_method_18_code 35 = .ok (.getfield 220, 3) := by decide +kernel
theorem dM_addNode_38 : decode prog_9_method_18_code 38 = .ok (.iconst (-1), 1) := by decide +kernel
theorem dM_addNode_39 : decode prog_9_method_18_code 39 = .ok (.iastore, 1) := by decide +kernel
theorem dM_addNode_40 : decode prog_9_method_18_code 40 = .ok (.aload_n 0, 1) := by decide +kernel
theorem dM_addNode_41 : decode prog_9_method_18_code 41 = .ok (.getfield 72, 3) := by decide +kernel
theorem dM_addNode_44 : decode prog_9_method_18_code 44 = .ok (.aload_n 0, 1) := by decide +kernel
theorem dM_addNode_45 : decode prog_9_method_18_code 45 = .ok (.getfield 220, 3) := by decide +kernel
theorem dM_addNode_48 : decode prog_9_method_18_code 48 = .ok (.iconst (-1), 1) := by decide +kernel
theorem dM_addNode_49 : decode prog_9_method_18_code 49 = .ok (.iastore, 1) := by decide +kernel
theorem dM_addNode_50 : decode prog_9_method_18_code 50 = .ok (.aload_n 0, 1) := by decide +kernel
theorem dM_addNode_51 : decode prog_9_method_18_code 51 = .ok (.getfield 87, 3) := by decide +kernel
theorem dM_addNode_54 : decode prog_9_method_18_code 54 = .ok (.aload_n 0, 1) := by decide +kernel
theorem dM_addNode_55 : decode prog_9_method_18_code 55 = .ok (.getfield 220, 3) := by decide +kernel
theorem dM_addNode_58 : decode prog_9_method_18_code 58 = .ok (.iconst 0, 1) := by decide +kernel
theorem dM_addNode_59 : decode prog_9_method_18_code 59 = .ok (.iastore, 1) := by decide +kernel
theorem dM_addNode_60 : decode prog_9_method_18_code 60 = .ok (.aload_n 0, 1) := by decide +kernel
theorem dM_addNode_61 : decode prog_9_method_18_code 61 = .ok (.dup, 1) := by decide +kernel
theorem dM_addNode_62 : decode prog_9_method_18_code 62 = .ok (.getfield 220, 3) := by decide +kernel
theorem dM_addNode_65 : decode prog_9_method_18_code 65 = .ok (.iconst 1, 1) := by decide +kernel
theorem dM_addNode_66 : decode prog_9_method_18_code 66 = .ok (.iadd, 1) := by decide +kernel
theorem dM_addNode_67 : decode prog_9_method_18_code 67 = .ok (.putfield 220, 3) := by decide +kernel
theorem dM_addNode_70 : decode prog_9_method_18_code 70 = .ok (.aload_n 0, 1) := by decide +kernel
theorem dM_addNode_71 : decode prog_9_method_18_code 71 = .ok (.getfield 220, 3) := by decide +kernel
theorem dM_addNode_74 : decode prog_9_method_18_code 74 = .ok (.iconst 1, 1) := by decide +kernel
theorem dM_addNode_75 : decode prog_9_method_18_code 75 = .ok (.isub, 1) := by decide +kernel
theorem dM_addNode_76 : decode prog_9_method_18_code 76 = .ok (.ireturn, 1) := by decide +kernel
theorem dM_kindOf_0 : decode prog_9_method_19_code 0 = .ok (.aload_n 0, 1) := by decide +kernel
theorem dM_kindOf_1 : decode prog_9_method_19_code 1 = .ok (.getfield 45, 3) := by decide +kernel
theorem dM_kindOf_4 : decode prog_9_method_19_code 4 = .ok (.aload_n 0, 1) := by decide +kernel
theorem dM_kindOf_5 : decode prog_9_method_19_code 5 = .ok (.getfield 60, 3) := by decide +kernel
theorem dM_kindOf_8 : decode prog_9_method_19_code 8 = .ok (.iload_n 1, 1) := by decide +kernel
theorem dM_kindOf_9 : decode prog_9_method_19_code 9 = .ok (.iaload, 1) := by decide +kernel
theorem dM_kindOf_10 : decode prog_9_method_19_code 10 = .ok (.iaload, 1) := by decide +kernel
theorem dM_kindOf_11 : decode prog_9_method_19_code 11 = .ok (.ireturn, 1) := by decide +kernel
