theorem dG_pushPair_0 : decode prog_4_method_12_code 0 = .ok (.iload_n 1, 1) := by decide +kernel
theorem dG_pushPair_1 : decode prog_4_method_12_code 1 = .ok (.iconst (-1), 1) := by decide +kernel
theorem dG_pushPair_2 : decode prog_4_method_12_code 2 = .ok (.if_icmp .eq 18, 3) := by decide +kernel
theorem dG_pushPair_5 : decode prog_4_method_12_code 5 = .ok (.iload_n 2, 1) := by decide +kernel
theorem dG_pushPair_6 : decode prog_4_method_12_code 6 = .ok (.iconst (-1), 1) := by decide +kernel
theorem dG_pushPair_7 : decode prog_4_method_12_code 7 = .ok (.if_icmp .eq 13, 3) := by decide +kernel
theorem dG_pushPair_10 : decode prog_4_method_12_code 10 = .ok (.aload_n 0, 1) := by decide +kernel
theorem dG_pushPair_11 : decode prog_4_method_12_code 11 = .ok (.iload_n 1, 1) := by decide +kernel
theorem dG_pushPair_12 : decode prog_4_method_12_code 12 = .ok (.invokevirtual 85, 3) := by decide +kernel
theorem dG_pushPair_15 : decode prog_4_method_12_code 15 = .ok (.aload_n 0, 1) := by decide +kernel
theorem dG_pushPair_16 : decode prog_4_method_12_code 16 = .ok (.iload_n 2, 1) := by decide +kernel
theorem dG_pushPair_17 : decode prog_4_method_12_code 17 = .ok (.invokevirtual 85, 3) := by decide +kernel
theorem dG_pushPair_20 : decode prog_4_method_12_code 20 = .ok (.return_, 1) := by decide +kernel
theorem dG_move_0 : decode prog_4_method_11_code 0 = .ok (.aload_n 0, 1) := by decide +kernel
theorem dG_move_1 : decode prog_4_method_11_code 1 = .ok (.getfield 9, 3) := by decide +kernel
theorem dG_move_4 : decode prog_4_method_11_code 4 = .ok (.iload_n 1, 1) := by decide +kernel
theorem dG_move_5 : decode prog_4_method_11_code 5 = .ok (.bipush (-2), 2) := by decide +kernel
theorem dG_move_7 : decode prog_4_method_11_code 7 = .ok (.iastore, 1) := by decide +kernel
theorem dG_move_8 : decode prog_4_method_11_code 8 = .ok (.aload_n 0, 1) := by decide +kernel
theorem dG_move_9 : decode prog_4_method_11_code 9 = .ok (.getfield 15, 3) := by decide +kernel
theorem dG_move_12 : decode prog_4_method_11_code 12 = .ok (.iload_n 1, 1) := by decide +kernel
theorem dG_move_13 : decode prog_4_method_11_code 13 = .ok (.iload_n 2, 1) := by decide +kernel
theorem dG_move_14 : decode prog_4_method_11_code 14 = .ok (.iastore, 1) := by decide +kernel
theorem dG_move_15 : decode prog_4_method_11_code 15 = .ok (.return_, 1) := by decide +kernel
theorem dG_unifyTops_0 : decode prog_4_method_10_code 0 = .ok (.iload_n 1, 1) := by decide +kernel
theorem dG_unifyTops_1 : decode prog_4_method_10_code 1 = .ok (.iload_n 2, 1) := by decide +kernel
theorem dG_unifyTops_2 : decode prog_4_method_10_code 2 = .ok (.if_icmp .ne 4, 3) := by decide +kernel
theorem dG_unifyTops_5 : decode prog_4_method_10_code 5 = .ok (.return_, 1) := by decide +kernel
theorem dG_unifyTops_6 : decode prog_4_method_10_code 6 = .ok (.aload_n 0, 1) := by decide +kernel
theorem dG_unifyTops_7 : decode prog_4_method_10_code 7 = .ok (.iload_n 1, 1) := by decide +kernel
theorem dG_unifyTops_8 : decode prog_4_method_10_code 8 = .ok (.invokevirtual 78, 3) := by decide +kernel
theorem dG_unifyTops_11 : decode prog_4_method_10_code 11 = .ok (.ifCond .eq 12, 3) := by decide +kernel
theorem dG_unifyTops_14 : decode prog_4_method_10_code 14 = .ok (.aload_n 0, 1) := by decide +kernel
theorem dG_unifyTops_15 : decode prog_4_method_10_code 15 = .ok (.iload_n 1, 1) := by decide +kernel
theorem dG_unifyTops_16 : decode prog_4_method_10_code 16 = .ok (.iload_n 2, 1) := by decide +kernel
theorem dG_unifyTops_17 : decode prog_4_method_10_code 17 = .ok (.invokevirtual 82, 3) := by decide +kernel
theorem dG_unifyTops_20 : decode prog_4_method_10_code 20 = .ok (.goto 81, 3) := by decide +kernel
theorem dG_unifyTops_23 : decode prog_4_method_10_code 23 = .ok (.aload_n 0, 1) := by decide +kernel
theorem dG_unifyTops_24 : decode prog_4_method_10_code 24 = .ok (.iload_n 2, 1) := by decide +kernel
theorem dG_unifyTops_25 : decode prog_4_method_10_code 25 = .ok (.invokevirtual 78, 3) := by decide +kernel
theorem dG_unifyTops_28 : decode prog_4_method_10_code 28 = .ok (.ifCond .eq 12, 3) := by decide +kernel
theorem dG_unifyTops_31 : decode prog_4_method_10_code 31 = .ok (.aload_n 0, 1) := by decide +kernel
theorem dG_unifyTops_32 : decode prog_4_method_10_code 32 = .ok (.iload_n 2, 1) := by decide +kernel
theorem dG_unifyTops_33 : decode prog_4_method_10_code 33 = .ok (.iload_n 1, 1) := by decide +kernel
theorem dG_unifyTops_34 : decode prog_4_method_10_code 34 = .ok (.invokevirtual 82, 3) := by decide +kernel
theorem dG_unifyTops_37 : decode prog_4_method_10_code 37 = .ok (.goto 64, 3) := by decide +kernel
theorem dG_unifyTops_40 : decode prog_4_method_10_code 40 = .ok (.aload_n 0, 1) := by decide +kernel
theorem dG_unifyTops_41 : decode prog_4_method_10_code 41 = .ok (.getfield 9, 3) := by decide +kernel
theorem dG_unifyTops_44 : decode prog_4_method_10_code 44 = .ok (.iload_n 1, 1) := by decide +kernel
theorem dG_unifyTops_45 : decode prog_4_method_10_code 45 = .ok (.iaload, 1) := by decide +kernel
theorem dG_unifyTops_46 : decode prog_4_method_10_code 46 = .ok (.aload_n 0, 1) := by decide +kernel
theorem dG_unifyTops_47 : decode prog_4_method_10_code 47 = .ok (.getfield 9, 3) := by decide +kernel
theorem dG_unifyTops_50 : decode prog_4_method_10_code 50 = .ok (.iload_n 2, 1) := by decide +kernel
theorem dG_unifyTops_51 : decode prog_4_method_10_code 51 = .ok (.iaload, 1) := by decide +kernel
theorem dG_unifyTops_52 : decode prog_4_method_10_code 52 = .ok (.if_icmp .eq 11, 3) := by decide +kernel
theorem dG_unifyTops_55 : decode prog_4_method_10_code 55 = .ok (.aload_n 0, 1) := by decide +kernel
theorem dG_unifyTops_56 : decode prog_4_method_10_code 56 = .ok (.iconst 1, 1) := by decide +kernel
theorem dG_unifyTops_57 : decode prog_4_method_10_code 57 = .ok (.putfield 49, 3) := by decide +kernel
theorem dG_unifyTops_60 : decode prog_4_method_10_code 60 = .ok (.goto 41, 3) := by decide +kernel
theorem dG_unifyTops_63 : decode prog_4_method_10_code 63 = .ok (.aload_n 0, 1) := by decide +kernel
theorem dG_unifyTops_64 : decode prog_4_method_10_code 64 = .ok (.aload_n 0, 1) := by decide +kernel
theorem dG_unifyTops_65 : decode prog_4_method_10_code 65 = .ok (.getfield 18, 3) := by decide +kernel
theorem dG_unifyTops_68 : decode prog_4_method_10_code 68 = .ok (.iload_n 1, 1) := by decide +kernel
theorem dG_unifyTops_69 : decode prog_4_method_10_code 69 = .ok (.iaload, 1) := by decide +kernel
theorem dG_unifyTops_70 : decode prog_4_method_10_code 70 = .ok (.aload_n 0, 1) := by decide +kernel
theorem dG_unifyTops_71 : decode prog_4_method_10_code 71 = .ok (.getfield 18, 3) := by decide +kernel
theorem dG_unifyTops_74 : decode prog_4_method_10_code 74 = .ok (.iload_n 2, 1) := by decide +kernel
theorem dG_unifyTops_75 : decode prog_4_method_10_code 75 = .ok (.iaload, 1) := by decide +kernel
theorem dG_unifyTops_76 : decode prog_4_method_10_code 76 = .ok (.invokevirtual 70, 3) := by decide +kernel
theorem dG_unifyTops_79 : decode prog_4_method_10_code 79 = .ok (.aload_n 0, 1) := by decide +kernel
theorem dG_unifyTops_80 : decode prog_4_method_10_code 80 = .ok (.aload_n 0, 1) := by decide +kernel
theorem dG_unifyTops_81 : decode prog_4_method_10_code 81 = .ok (.getfield 15, 3) := by decide +kernel
theorem dG_unifyTops_84 : decode prog_4_method_10_code 84 = .ok (.iload_n 1, 1) := by decide +kernel
theorem dG_unifyTops_85 : decode prog_4_method_10_code 85 = .ok (.iaload, 1) := by decide +kernel
theorem dG_unifyTops_86 : decode prog_4_method_10_code 86 = .ok (.aload_n 0, 1) := by decide +kernel
theorem dG_unifyTops_87 : decode prog_4_method_10_code 87 = .ok (.getfield 15, 3) := by decide +kernel
theorem dG_unifyTops_90 : decode prog_4_method_10_code 90 = .ok (.iload_n 2, 1) := by decide +kernel
theorem dG_unifyTops_91 : decode prog_4_method_10_code 91 = .ok (.iaload, 1) := by decide +kernel
theorem dG_unifyTops_92 : decode prog_4_method_10_code 92 = .ok (.invokevirtual 70, 3) := by decide +kernel
theorem dG_unifyTops_95 : decode prog_4_method_10_code 95 = .ok (.aload_n 0, 1) := by decide +kernel
theorem dG_unifyTops_96 : decode prog_4_method_10_code 96 = .ok (.iload_n 1, 1) := by decide +kernel
theorem dG_unifyTops_97 : decode prog_4_method_10_code 97 = .ok (.iload_n 2, 1) := by decide +kernel
theorem dG_unifyTops_98 : decode prog_4_method_10_code 98 = .ok (.invokevirtual 82, 3) := by decide +kernel
theorem dG_unifyTops_101 : decode prog_4_method_10_code 101 = .ok (.return_, 1) := by decide +kernel
theorem dG_unify_0 : decode prog_4_method_9_code 0 = .ok (.aload_n 0, 1) := by decide +kernel
theorem dG_unify_1 : decode prog_4_method_9_code 1 = .ok (.iconst 0, 1) := by decide +kernel
theorem dG_unify_2 : decode prog_4_method_9_code 2 = .ok (.putfield 67, 3) := by decide +kernel
theorem dG_unify_5 : decode prog_4_method_9_code 5 = .ok (.aload_n 0, 1) := by decide +kernel
theorem dG_unify_6 : decode prog_4_method_9_code 6 = .ok (.iload_n 1, 1) := by decide +kernel
theorem dG_unify_7 : decode prog_4_method_9_code 7 = .ok (.iload_n 2, 1) := by decide +kernel
theorem dG_unify_8 : decode prog_4_method_9_code 8 = .ok (.invokevirtual 70, 3) := by decide +kernel
theorem dG_unify_11 : decode prog_4_method_9_code 11 = .ok (.iconst 0, 1) := by decide +kernel
theorem dG_unify_12 : decode prog_4_method_9_code 12 = .ok (.istore_n 3, 1) := by decide +kernel
theorem dG_unify_13 : decode prog_4_method_9_code 13 = .ok (.aload_n 0, 1) := by decide +kernel
theorem dG_unify_14 : decode prog_4_method_9_code 14 = .ok (.getfield 67, 3) := by decide +kernel
theorem dG_unify_17 : decode prog_4_method_9_code 17 = .ok (.iconst 1, 1) := by decide +kernel
theorem dG_unify_18 : decode prog_4_method_9_code 18 = .ok (.if_icmp .le 57, 3) := by decide +kernel
theorem dG_unify_21 : decode prog_4_method_9_code 21 = .ok (.iload_n 3, 1) := by decide +kernel
theorem dG_unify_22 : decode prog_4_method_9_code 22 = .ok (.ldc 74, 2) := by decide +kernel
theorem dG_unify_24 : decode prog_4_method_9_code 24 = .ok (.if_icmp .ge 51, 3) := by decide +kernel
theorem dG_unify_27 : decode prog_4_method_9_code 27 = .ok (.aload_n 0, 1) := by decide +kernel
theorem dG_unify_28 : decode prog_4_method_9_code 28 = .ok (.dup, 1) := by decide +kernel
theorem dG_unify_29 : decode prog_4_method_9_code 29 = .ok (.getfield 67, 3) := by decide +kernel
theorem dG_unify_32 : decode prog_4_method_9_code 32 = .ok (.iconst 2, 1) := by decide +kernel
theorem dG_unify_33 : decode prog_4_method_9_code 33 = .ok (.isub, 1) := by decide +kernel
theorem dG_unify_34 : decode prog_4_method_9_code 34 = .ok (.putfield 67, 3) := by decide +kernel
theorem dG_unify_37 : decode prog_4_method_9_code 37 = .ok (.aload_n 0, 1) := by decide +kernel
theorem dG_unify_38 : decode prog_4_method_9_code 38 = .ok (.aload_n 0, 1) := by decide +kernel
theorem dG_unify_39 : decode prog_4_method_9_code 39 = .ok (.aload_n 0, 1) := by decide +kernel
theorem dG_unify_40 : decode prog_4_method_9_code 40 = .ok (.getfield 42, 3) := by decide +kernel
theorem dG_unify_43 : decode prog_4_method_9_code 43 = .ok (.aload_n 0, 1) := by decide +kernel
theorem dG_unify_44 : decode prog_4_method_9_code 44 = .ok (.getfield 67, 3) := by decide +kernel
theorem dG_unify_47 : decode prog_4_method_9_code 47 = .ok (.iaload, 1) := by decide +kernel
theorem dG_unify_48 : decode prog_4_method_9_code 48 = .ok (.invokevirtual 63, 3) := by decide +kernel
theorem dG_unify_51 : decode prog_4_method_9_code 51 = .ok (.aload_n 0, 1) := by decide +kernel
theorem dG_unify_52 : decode prog_4_method_9_code 52 = .ok (.aload_n 0, 1) := by decide +kernel
theorem dG_unify_53 : decode prog_4_method_9_code 53 = .ok (.getfield 42, 3) := by decide +kernel
theorem dG_unify_56 : decode prog_4_method_9_code 56 = .ok (.aload_n 0, 1) := by decide +kernel
theorem dG_unify_57 : decode prog_4_method_9_code 57 = .ok (.getfield 67, 3) := by decide +kernel
theorem dG_unify_60 : decode prog_4_method_9_code 60 = .ok (.iconst 1, 1) := by decide +kernel
theorem dG_unify_61 : decode prog_4_method_9_code 61 = .ok (.iadd, 1) := by decide +kernel
theorem dG_unify_62 : decode prog_4_method_9_code 62 = .ok (.iaload, 1) := by decide +kernel
theorem dG_unify_63 : decode prog_4_method_9_code 63 = .ok (.invokevirtual 63, 3) := by decide +kernel
theorem dG_unify_66 : decode prog_4_method_9_code 66 = .ok (.invokevirtual 75, 3) := by decide +kernel
theorem dG_unify_69 : decode prog_4_method_9_code 69 = .ok (.iinc 3 1, 3) := by decide +kernel
theorem dG_unify_72 : decode prog_4_method_9_code 72 = .ok (.goto (-59), 3) := by decide +kernel
theorem dG_unify_75 : decode prog_4_method_9_code 75 = .ok (.return_, 1) := by decide +kernel
theorem dG_valueOf_0 : decode prog_4_method_17_code 0 = .ok (.iload_n 1, 1) := by decide +kernel
theorem dG_valueOf_1 : decode prog_4_method_17_code 1 = .ok (.iconst (-1), 1) := by decide +kernel
theorem dG_valueOf_2 : decode prog_4_method_17_code 2 = .ok (.if_icmp .ne 7, 3) := by decide +kernel
theorem dG_valueOf_5 : decode prog_4_method_17_code 5 = .ok (.iconst (-1), 1) := by decide +kernel
theorem dG_valueOf_6 : decode prog_4_method_17_code 6 = .ok (.goto 13, 3) := by decide +kernel
theorem dG_valueOf_9 : decode prog_4_method_17_code 9 = .ok (.aload_n 0, 1) := by decide +kernel
theorem dG_valueOf_10 : decode prog_4_method_17_code 10 = .ok (.getfield 36, 3) := by decide +kernel
theorem dG_valueOf_13 : decode prog_4_method_17_code 13 = .ok (.aload_n 0, 1) := by decide +kernel
theorem dG_valueOf_14 : decode prog_4_method_17_code 14 = .ok (.iload_n 1, 1) := by decide +kernel
theorem dG_valueOf_15 : decode prog_4_method_17_code 15 = .ok (.invokevirtual 63, 3) := by decide +kernel
theorem dG_valueOf_18 : decode prog_4_method_17_code 18 = .ok (.iaload, 1) := by decide +kernel
theorem dG_valueOf_19 : decode prog_4_method_17_code 19 = .ok (.ireturn, 1) := by decide +kernel
theorem dG_comesLater_0 : decode prog_4_method_19_code 0 = .ok (.iload_n 1, 1) := by decide +kernel
theorem dG_comesLater_1 : decode prog_4_method_19_code 1 = .ok (.iconst (-1), 1) := by decide +kernel
theorem dG_comesLater_2 : decode prog_4_method_19_code 2 = .ok (.if_icmp .eq 17, 3) := by decide +kernel
theorem dG_comesLater_5 : decode prog_4_method_19_code 5 = .ok (.aload_n 0, 1) := by decide +kernel
theorem dG_comesLater_6 : decode prog_4_method_19_code 6 = .ok (.getfield 36, 3) := by decide +kernel
theorem dG_comesLater_9 : decode prog_4_method_19_code 9 = .ok (.iload_n 1, 1) := by decide +kernel
theorem dG_comesLater_10 : decode prog_4_method_19_code 10 = .ok (.iaload, 1) := by decide +kernel
theorem dG_comesLater_11 : decode prog_4_method_19_code 11 = .ok (.iload_n 2, 1) := by decide +kernel
theorem dG_comesLater_12 : decode prog_4_method_19_code 12 = .ok (.if_icmp .lt 7, 3) := by decide +kernel
theorem dG_comesLater_15 : decode prog_4_method_19_code 15 = .ok (.iconst 1, 1) := by decide +kernel
theorem dG_comesLater_16 : decode prog_4_method_19_code 16 = .ok (.goto 4, 3) := by decide +kernel
theorem dG_comesLater_19 : decode prog_4_method_19_code 19 = .ok (.iconst 0, 1) := by decide +kernel
theorem dG_comesLater_20 : decode prog_4_method_19_code 20 = .ok (.ireturn, 1) := by decide +kernel
theorem dG_isCircular_0 : decode prog_4_method_18_code 0 = .ok (.aload_n 0, 1) := by decide +kernel
theorem dG_isCircular_1 : decode prog_4_method_18_code 1 = .ok (.invokevirtual 94, 3) := by decide +kernel
theorem dG_isCircular_4 : decode prog_4_method_18_code 4 = .ok (.iconst 0, 1) := by decide +kernel
theorem dG_isCircular_5 : decode prog_4_method_18_code 5 = .ok (.istore_n 1, 1) := by decide +kernel
theorem dG_isCircular_6 : decode prog_4_method_18_code 6 = .ok (.iload_n 1, 1) := by decide +kernel
theorem dG_isCircular_7 : decode prog_4_method_18_code 7 = .ok (.aload_n 0, 1) := by decide +kernel
theorem dG_isCircular_8 : decode prog_4_method_18_code 8 = .ok (.getfield 45, 3) := by decide +kernel
theorem dG_isCircular_11 : decode prog_4_method_18_code 11 = .ok (.if_icmp .ge 14, 3) := by decide +kernel
theorem dG_isCircular_14 : decode prog_4_method_18_code 14 = .ok (.aload_n 0, 1) := by decide +kernel
theorem dG_isCircular_15 : decode prog_4_method_18_code 15 = .ok (.iload_n 1, 1) := by decide +kernel
theorem dG_isCircular_16 : decode prog_4_method_18_code 16 = .ok (.invokevirtual 97, 3) := by decide +kernel
theorem dG_isCircular_19 : decode prog_4_method_18_code 19 = .ok (.iinc 1 1, 3) := by decide +kernel
theorem dG_isCircular_22 : decode prog_4_method_18_code 22 = .ok (.goto (-16), 3) := by decide +kernel
theorem dG_isCircular_25 : decode prog_4_method_18_code 25 = .ok (.iconst 0, 1) := by decide +kernel
theorem dG_isCircular_26 : decode prog_4_method_18_code 26 = .ok (.istore_n 1, 1) := by decide +kernel
theorem dG_isCircular_27 : decode prog_4_method_18_code 27 = .ok (.iload_n 1, 1) := by decide +kernel
theorem dG_isCircular_28 : decode prog_4_method_18_code 28 = .ok (.aload_n 0, 1) := by decide +kernel
theorem dG_isCircular_29 : decode prog_4_method_18_code 29 = .ok (.getfield 91, 3) := by decide +kernel
theorem dG_isCircular_32 : decode prog_4_method_18_code 32 = .ok (.if_icmp .ge 21, 3) := by decide +kernel
theorem dG_isCircular_35 : decode prog_4_method_18_code 35 = .ok (.aload_n 0, 1) := by decide +kernel
theorem dG_isCircular_36 : decode prog_4_method_18_code 36 = .ok (.getfield 36, 3) := by decide +kernel
theorem dG_isCircular_39 : decode prog_4_method_18_code 39 = .ok (.aload_n 0, 1) := by decide +kernel
theorem dG_isCircular_40 : decode prog_4_method_18_code 40 = .ok (.getfield 39, 3) := by decide +kernel
theorem dG_isCircular_43 : decode prog_4_method_18_code 43 = .ok (.iload_n 1, 1) := by decide +kernel
theorem dG_isCircular_44 : decode prog_4_method_18_code 44 = .ok (.iaload, 1) := by decide +kernel
theorem dG_isCircular_45 : decode prog_4_method_18_code 45 = .ok (.iload_n 1, 1) := by decide +kernel
theorem dG_isCircular_46 : decode prog_4_method_18_code 46 = .ok (.iastore, 1) := by decide +kernel
theorem dG_isCircular_47 : decode prog_4_method_18_code 47 = .ok (.iinc 1 1, 3) := by decide +kernel
theorem dG_isCircular_50 : decode prog_4_method_18_code 50 = .ok (.goto (-23), 3) := by decide +kernel
theorem dG_isCircular_53 : decode prog_4_method_18_code 53 = .ok (.iconst 0, 1) := by decide +kernel
theorem dG_isCircular_54 : decode prog_4_method_18_code 54 = .ok (.istore_n 1, 1) := by decide +kernel
theorem dG_isCircular_55 : decode prog_4_method_18_code 55 = .ok (.iload_n 1, 1) := by decide +kernel
theorem dG_isCircular_56 : decode prog_4_method_18_code 56 = .ok (.aload_n 0, 1) := by decide +kernel
theorem dG_isCircular_57 : decode prog_4_method_18_code 57 = .ok (.getfield 91, 3) := by decide +kernel
theorem dG_isCircular_60 : decode prog_4_method_18_code 60 = .ok (.if_icmp .ge 47, 3) := by decide +kernel
theorem dG_isCircular_63 : decode prog_4_method_18_code 63 = .ok (.aload_n 0, 1) := by decide +kernel
theorem dG_isCircular_64 : decode prog_4_method_18_code 64 = .ok (.aload_n 0, 1) := by decide +kernel
theorem dG_isCircular_65 : decode prog_4_method_18_code 65 = .ok (.aload_n 0, 1) := by decide +kernel
theorem dG_isCircular_66 : decode prog_4_method_18_code 66 = .ok (.getfield 39, 3) := by decide +kernel
theorem dG_isCircular_69 : decode prog_4_method_18_code 69 = .ok (.iload_n 1, 1) := by decide +kernel
theorem dG_isCircular_70 : decode prog_4_method_18_code 70 = .ok (.iaload, 1) := by decide +kernel
theorem dG_isCircular_71 : decode prog_4_method_18_code 71 = .ok (.invokevirtual 107, 3) := by decide +kernel
theorem dG_isCircular_74 : decode prog_4_method_18_code 74 = .ok (.iload_n 1, 1) := by decide +kernel
theorem dG_isCircular_75 : decode prog_4_method_18_code 75 = .ok (.invokevirtual 110, 3) := by decide +kernel
theorem dG_isCircular_78 : decode prog_4_method_18_code 78 = .ok (.ifCond .ne 21, 3) := by decide +kernel
theorem dG_isCircular_81 : decode prog_4_method_18_code 81 = .ok (.aload_n 0, 1) := by decide +kernel
theorem dG_isCircular_82 : decode prog_4_method_18_code 82 = .ok (.aload_n 0, 1) := by decide +kernel
theorem dG_isCircular_83 : decode prog_4_method_18_code 83 = .ok (.aload_n 0, 1) := by decide +kernel
theorem dG_isCircular_84 : decode prog_4_method_18_code 84 = .ok (.getfield 39, 3) := by decide +kernel
theorem dG_isCircular_87 : decode prog_4_method_18_code 87 = .ok (.iload_n 1, 1) := by decide +kernel
theorem dG_isCircular_88 : decode prog_4_method_18_code 88 = .ok (.iaload, 1) := by decide +kernel
theorem dG_isCircular_89 : decode prog_4_method_18_code 89 = .ok (.invokevirtual 114, 3) := by decide +kernel
theorem dG_isCircular_92 : decode prog_4_method_18_code 92 = .ok (.iload_n 1, 1) := by decide +kernel
theorem dG_isCircular_93 : decode prog_4_method_18_code 93 = .ok (.invokevirtual 110, 3) := by decide +kernel
theorem dG_isCircular_96 : decode prog_4_method_18_code 96 = .ok (.ifCond .eq 5, 3) := by decide +kernel
theorem dG_isCircular_99 : decode prog_4_method_18_code 99 = .ok (.iconst 1, 1) := by decide +kernel
theorem dG_isCircular_100 : decode prog_4_method_18_code 100 = .ok (.ireturn, 1) := by decide +kernel
theorem dG_isCircular_101 : decode prog_4_method_18_code 101 = .ok (.iinc 1 1, 3) := by decide +kernel
theorem dG_isCircular_104 : decode prog_4_method_18_code 104 = .ok (.goto (-49), 3) := by decide +kernel
theorem dG_isCircular_107 : decode prog_4_method_18_code 107 = .ok (.iconst 0, 1) := by decide +kernel
theorem dG_isCircular_108 : decode prog_4_method_18_code 108 = .ok (.ireturn, 1) := by decide +kernel
theorem dD_addBuilt_0 : decode prog_5_method_4_code 0 = .ok (.aload_n 0, 1) := by decide +kernel
theorem dD_addBuilt_1 : decode prog_5_method_4_code 1 = .ok (.getfield 28, 3) := by decide +kernel
theorem dD_addBuilt_4 : decode prog_5_method_4_code 4 = .ok (.aload_n 0, 1) := by decide +kernel
theorem dD_addBuilt_5 : decode prog_5_method_4_code 5 = .ok (.getfield 9, 3) := by decide +kernel
theorem dD_addBuilt_8 : decode prog_5_method_4_code 8 = .ok (.arraylength, 1) := by decide +kernel
theorem dD_addBuilt_9 : decode prog_5_method_4_code 9 = .ok (.if_icmp .ge 71, 3) := by decide +kernel
theorem dD_addBuilt_12 : decode prog_5_method_4_code 12 = .ok (.aload_n 0, 1) := by decide +kernel
theorem dD_addBuilt_13 : decode prog_5_method_4_code 13 = .ok (.getfield 9, 3) := by decide +kernel
theorem dD_addBuilt_16 : decode prog_5_method_4_code 16 = .ok (.aload_n 0, 1) := by decide +kernel
theorem dD_addBuilt_17 : decode prog_5_method_4_code 17 = .ok (.getfield 28, 3) := by decide +kernel
theorem dD_addBuilt_20 : decode prog_5_method_4_code 20 = .ok (.iload_n 1, 1) := by decide +kernel
theorem dD_addBuilt_21 : decode prog_5_method_4_code 21 = .ok (.iastore, 1) := by decide +kernel
theorem dD_addBuilt_22 : decode prog_5_method_4_code 22 = .ok (.aload_n 0, 1) := by decide +kernel
theorem dD_addBuilt_23 : decode prog_5_method_4_code 23 = .ok (.getfield 15, 3) := by decide +kernel
theorem dD_addBuilt_26 : decode prog_5_method_4_code 26 = .ok (.aload_n 0, 1) := by decide +kernel
theorem dD_addBuilt_27 : decode prog_5_method_4_code 27 = .ok (.getfield 28, 3) := by decide +kernel
theorem dD_addBuilt_30 : decode prog_5_method_4_code 30 = .ok (.iload_n 2, 1) := by decide +kernel
theorem dD_addBuilt_31 : decode prog_5_method_4_code 31 = .ok (.iastore, 1) := by decide +kernel
theorem dD_addBuilt_32 : decode prog_5_method_4_code 32 = .ok (.aload_n 0, 1) := by decide +kernel
theorem dD_addBuilt_33 : decode prog_5_method_4_code 33 = .ok (.getfield 18, 3) := by decide +kernel
theorem dD_addBuilt_36 : decode prog_5_method_4_code 36 = .ok (.aload_n 0, 1) := by decide +kernel
theorem dD_addBuilt_37 : decode prog_5_method_4_code 37 = .ok (.getfield 28, 3) := by decide +kernel
theorem dD_addBuilt_40 : decode prog_5_method_4_code 40 = .ok (.iload_n 3, 1) := by decide +kernel
theorem dD_addBuilt_41 : decode prog_5_method_4_code 41 = .ok (.iastore, 1) := by decide +kernel
theorem dD_addBuilt_42 : decode prog_5_method_4_code 42 = .ok (.aload_n 0, 1) := by decide +kernel
theorem dD_addBuilt_43 : decode prog_5_method_4_code 43 = .ok (.getfield 21, 3) := by decide +kernel
theorem dD_addBuilt_46 : decode prog_5_method_4_code 46 = .ok (.aload_n 0, 1) := by decide +kernel
theorem dD_addBuilt_47 : decode prog_5_method_4_code 47 = .ok (.getfield 28, 3) := by decide +kernel
theorem dD_addBuilt_50 : decode prog_5_method_4_code 50 = .ok (.lconst 1, 1) := by decide +kernel
theorem dD_addBuilt_51 : decode prog_5_method_4_code 51 = .ok (.aload_n 0, 1) := by decide +kernel
theorem dD_addBuilt_52 : decode prog_5_method_4_code 52 = .ok (.iload_n 2, 1) := by decide +kernel
theorem dD_addBuilt_53 : decode prog_5_method_4_code 53 = .ok (.invokevirtual 51, 3) := by decide +kernel
theorem dD_addBuilt_56 : decode prog_5_method_4_code 56 = .ok (.ladd, 1) := by decide +kernel
theorem dD_addBuilt_57 : decode prog_5_method_4_code 57 = .ok (.aload_n 0, 1) := by decide +kernel
theorem dD_addBuilt_58 : decode prog_5_method_4_code 58 = .ok (.iload_n 3, 1) := by decide +kernel
theorem dD_addBuilt_59 : decode prog_5_method_4_code 59 = .ok (.invokevirtual 51, 3) := by decide +kernel
theorem dD_addBuilt_62 : decode prog_5_method_4_code 62 = .ok (.ladd, 1) := by decide +kernel
theorem dD_addBuilt_63 : decode prog_5_method_4_code 63 = .ok (.ldc2_w 55, 3) := by decide +kernel
theorem dD_addBuilt_66 : decode prog_5_method_4_code 66 = .ok (.invokestatic 57, 3) := by decide +kernel
theorem dD_addBuilt_69 : decode prog_5_method_4_code 69 = .ok (.lastore, 1) := by decide +kernel
theorem dD_addBuilt_70 : decode prog_5_method_4_code 70 = .ok (.aload_n 0, 1) := by decide +kernel
theorem dD_addBuilt_71 : decode prog_5_method_4_code 71 = .ok (.dup, 1) := by decide +kernel
theorem dD_addBuilt_72 : decode prog_5_method_4_code 72 = .ok (.getfield 28, 3) := by decide +kernel
theorem dD_addBuilt_75 : decode prog_5_method_4_code 75 = .ok (.iconst 1, 1) := by decide +kernel
theorem dD_addBuilt_76 : decode prog_5_method_4_code 76 = .ok (.iadd, 1) := by decide +kernel
theorem dD_addBuilt_77 : decode prog_5_method_4_code 77 = .ok (.putfield 28, 3) := by decide +kernel
theorem dD_addBuilt_80 : decode prog_5_method_4_code 80 = .ok (.return_, 1) := by decide +kernel
theorem dD_addVariable_0 : decode prog_5_method_3_code 0 = .ok (.aload_n 0, 1) := by decide +kernel
theorem dD_addVariable_1 : decode prog_5_method_3_code 1 = .ok (.getfield 32, 3) := by decide +kernel
theorem dD_addVariable_4 : decode prog_5_method_3_code 4 = .ok (.aload_n 0, 1) := by decide +kernel
theorem dD_addVariable_5 : decode prog_5_method_3_code 5 = .ok (.getfield 25, 3) := by decide +kernel
theorem dD_addVariable_8 : decode prog_5_method_3_code 8 = .ok (.arraylength, 1) := by decide +kernel
theorem dD_addVariable_9 : decode prog_5_method_3_code 9 = .ok (.if_icmp .ge 47, 3) := by decide +kernel
theorem dD_addVariable_12 : decode prog_5_method_3_code 12 = .ok (.aload_n 0, 1) := by decide +kernel
theorem dD_addVariable_13 : decode prog_5_method_3_code 13 = .ok (.getfield 25, 3) := by decide +kernel
theorem dD_addVariable_16 : decode prog_5_method_3_code 16 = .ok (.aload_n 0, 1) := by decide +kernel
theorem dD_addVariable_17 : decode prog_5_method_3_code 17 = .ok (.getfield 32, 3) := by decide +kernel
theorem dD_addVariable_20 : decode prog_5_method_3_code 20 = .ok (.iload_n 1, 1) := by decide +kernel
theorem dD_addVariable_21 : decode prog_5_method_3_code 21 = .ok (.iastore, 1) := by decide +kernel
theorem dD_addVariable_22 : decode prog_5_method_3_code 22 = .ok (.aload_n 0, 1) := by decide +kernel
theorem dD_addVariable_23 : decode prog_5_method_3_code 23 = .ok (.dup, 1) := by decide +kernel
theorem dD_addVariable_24 : decode prog_5_method_3_code 24 = .ok (.getfield 32, 3) := by decide +kernel
theorem dD_addVariable_27 : decode prog_5_method_3_code 27 = .ok (.iconst 1, 1) := by decide +kernel
theorem dD_addVariable_28 : decode prog_5_method_3_code 28 = .ok (.iadd, 1) := by decide +kernel
theorem dD_addVariable_29 : decode prog_5_method_3_code 29 = .ok (.putfield 32, 3) := by decide +kernel
theorem dD_addVariable_32 : decode prog_5_method_3_code 32 = .ok (.aload_n 0, 1) := by decide +kernel
theorem dD_addVariable_33 : decode prog_5_method_3_code 33 = .ok (.dup, 1) := by decide +kernel
theorem dD_addVariable_34 : decode prog_5_method_3_code 34 = .ok (.getfield 35, 3) := by decide +kernel
theorem dD_addVariable_37 : decode prog_5_method_3_code 37 = .ok (.iload_n 1, 1) := by decide +kernel
theorem dD_addVariable_38 : decode prog_5_method_3_code 38 = .ok (.invokestatic 41, 3) := by decide +kernel
theorem dD_addVariable_41 : decode prog_5_method_3_code 41 = .ok (.iadd, 1) := by decide +kernel
theorem dD_addVariable_42 : decode prog_5_method_3_code 42 = .ok (.putfield 35, 3) := by decide +kernel
theorem dD_addVariable_45 : decode prog_5_method_3_code 45 = .ok (.aload_n 0, 1) := by decide +kernel
theorem dD_addVariable_46 : decode prog_5_method_3_code 46 = .ok (.aload_n 0, 1) := by decide +kernel
theorem dD_addVariable_47 : decode prog_5_method_3_code 47 = .ok (.getfield 32, 3) := by decide +kernel
theorem dD_addVariable_50 : decode prog_5_method_3_code 50 = .ok (.ineg, 1) := by decide +kernel
theorem dD_addVariable_51 : decode prog_5_method_3_code 51 = .ok (.iconst (-1), 1) := by decide +kernel
theorem dD_addVariable_52 : decode prog_5_method_3_code 52 = .ok (.iconst (-1), 1) := by decide +kernel
theorem dD_addVariable_53 : decode prog_5_method_3_code 53 = .ok (.invokevirtual 47, 3) := by decide +kernel
theorem dD_addVariable_56 : decode prog_5_method_3_code 56 = .ok (.return_, 1) := by decide +kernel
theorem dD_nodes_0 : decode prog_5_method_6_code 0 = .ok (.aload_n 0, 1) := by decide +kernel
theorem dD_nodes_1 : decode prog_5_method_6_code 1 = .ok (.getfield 28, 3) := by decide +kernel
theorem dD_nodes_4 : decode prog_5_method_6_code 4 = .ok (.ifCond .ne 7, 3) := by decide +kernel
theorem dD_nodes_7 : decode prog_5_method_6_code 7 = .ok (.iconst 0, 1) := by decide +kernel
theorem dD_nodes_8 : decode prog_5_method_6_code 8 = .ok (.goto 21, 3) := by decide +kernel
theorem dD_nodes_11 : decode prog_5_method_6_code 11 = .ok (.aload_n 0, 1) := by decide +kernel
theorem dD_nodes_12 : decode prog_5_method_6_code 12 = .ok (.getfield 21, 3) := by decide +kernel
theorem dD_nodes_15 : decode prog_5_method_6_code 15 = .ok (.aload_n 0, 1) := by decide +kernel
theorem dD_nodes_16 : decode prog_5_method_6_code 16 = .ok (.getfield 28, 3) := by decide +kernel
theorem dD_nodes_19 : decode prog_5_method_6_code 19 = .ok (.iconst 1, 1) := by decide +kernel
theorem dD_nodes_20 : decode prog_5_method_6_code 20 = .ok (.isub, 1) := by decide +kernel
theorem dD_nodes_21 : decode prog_5_method_6_code 21 = .ok (.laload, 1) := by decide +kernel
theorem dD_nodes_22 : decode prog_5_method_6_code 22 = .ok (.ldc2_w 63, 3) := by decide +kernel
theorem dD_nodes_25 : decode prog_5_method_6_code 25 = .ok (.invokestatic 57, 3) := by decide +kernel
theorem dD_nodes_28 : decode prog_5_method_6_code 28 = .ok (.l2i, 1) := by decide +kernel
theorem dD_nodes_29 : decode prog_5_method_6_code 29 = .ok (.ireturn, 1) := by decide +kernel
theorem dM_in_0 : decode prog_9_method_3_code 0 = .ok (.iload_n 0, 1) := by decide +kernel
theorem dM_in_1 : decode prog_9_method_3_code 1 = .ok (.iload_n 1, 1) := by decide +kernel
theorem dM_in_2 : decode prog_9_method_3_code 2 = .ok (.if_icmp .lt 12, 3) := by decide +kernel
theorem dM_in_5 : decode prog_9_method_3_code 5 = .ok (.iload_n 0, 1) := by decide +kernel
theorem dM_in_6 : decode prog_9_method_3_code 6 = .ok (.iload_n 2, 1) := by decide +kernel
theorem dM_in_7 : decode prog_9_method_3_code 7 = .ok (.if_icmp .gt 7, 3) := by decide +kernel
theorem dM_in_10 : decode prog_9_method_3_code 10 = .ok (.iconst 1, 1) := by decide +kernel
theorem dM_in_11 : decode prog_9_method_3_code 11 = .ok (.goto 4, 3) := by decide +kernel
theorem dM_in_14 : decode prog_9_method_3_code 14 = .ok (.iconst 0, 1) := by decide +kernel
theorem dM_in_15 : decode prog_9_method_3_code 15 = .ok (.ireturn, 1) := by decide +kernel
theorem dM_constructor_0 : decode prog_9_method_4_code 0 = .ok (.aload_n 0, 1) := by decide +kernel
theorem dM_constructor_1 : decode prog_9_method_4_code 1 = .ok (.iconst 0, 1) := by decide +kernel
theorem dM_constructor_2 : decode prog_9_method_4_code 2 = .ok (.putfield 176, 3) := by decide +kernel
theorem dM_constructor_5 : decode prog_9_method_4_code 5 = .ok (.iload_n 1, 1) := by decide +kernel
theorem dM_constructor_6 : decode prog_9_method_4_code 6 = .ok (.iconst 0, 1) := by decide +kernel
theorem dM_constructor_7 : decode prog_9_method_4_code 7 = .ok (.iconst 2, 1) := by decide +kernel
theorem dM_constructor_8 : decode prog_9_method_4_code 8 = .ok (.invokestatic 179, 3) := by decide +kernel
theorem dM_constructor_11 : decode prog_9_method_4_code 11 = .ok (.ifCond .ne 5, 3) := by decide +kernel
theorem dM_constructor_14 : decode prog_9_method_4_code 14 = .ok (.iconst (-1), 1) := by decide +kernel
theorem dM_constructor_15 : decode prog_9_method_4_code 15 = .ok (.ireturn, 1) := by decide +kernel
theorem dM_constructor_16 : decode prog_9_method_4_code 16 = .ok (.aload_n 0, 1) := by decide +kernel
theorem dM_constructor_17 : decode prog_9_method_4_code 17 = .ok (.getfield 7, 3) := by decide +kernel
theorem dM_constructor_20 : decode prog_9_method_4_code 20 = .ok (.bipush 8, 2) := by decide +kernel
theorem dM_constructor_22 : decode prog_9_method_4_code 22 = .ok (.if_icmp .ne 6, 3) := by decide +kernel
theorem dM_constructor_25 : decode prog_9_method_4_code 25 = .ok (.bipush (-3), 2) := by decide +kernel
theorem dM_constructor_27 : decode prog_9_method_4_code 27 = .ok (.ireturn, 1) := by decide +kernel
theorem dM_constructor_28 : decode prog_9_method_4_code 28 = .ok (.aload_n 0, 1) := by decide +kernel
theorem dM_constructor_29 : decode prog_9_method_4_code 29 = .ok (.getfield 13, 3) := by decide +kernel
theorem dM_constructor_32 : decode prog_9_method_4_code 32 = .ok (.aload_n 0, 1) := by decide +kernel
theorem dM_constructor_33 : decode prog_9_method_4_code 33 = .ok (.getfield 7, 3) := by decide +kernel
theorem dM_constructor_36 : decode prog_9_method_4_code 36 = .ok (.iload_n 1, 1) := by decide +kernel
theorem dM_constructor_37 : decode prog_9_method_4_code 37 = .ok (.iastore, 1) := by decide +kernel
theorem dM_constructor_38 : decode prog_9_method_4_code 38 = .ok (.aload_n 0, 1) := by decide +kernel
theorem dM_constructor_39 : decode prog_9_method_4_code 39 = .ok (.dup, 1) := by decide +kernel
theorem dM_constructor_40 : decode prog_9_method_4_code 40 = .ok (.getfield 7, 3) := by decide +kernel
theorem dM_constructor_43 : decode prog_9_method_4_code 43 = .ok (.iconst 1, 1) := by decide +kernel
theorem dM_constructor_44 : decode prog_9_method_4_code 44 = .ok (.iadd, 1) := by decide +kernel
theorem dM_constructor_45 : decode prog_9_method_4_code 45 = .ok (.putfield 7, 3) := by decide +kernel
theorem dM_constructor_48 : decode prog_9_method_4_code 48 = .ok (.aload_n 0, 1) := by decide +kernel
theorem dM_constructor_49 : decode prog_9_method_4_code 49 = .ok (.getfield 7, 3) := by decide +kernel
theorem dM_constructor_52 : decode prog_9_method_4_code 52 = .ok (.iconst 1, 1) := by decide +kernel
theorem dM_constructor_53 : decode prog_9_method_4_code 53 = .ok (.isub, 1) := by decide +kernel
theorem dM_constructor_54 : decode prog_9_method_4_code 54 = .ok (.ireturn, 1) := by decide +kernel
theorem dM_keepType_0 : decode prog_9_method_5_code 0 = .ok (.iconst 0, 1) := by decide +kernel
theorem dM_keepType_1 : decode prog_9_method_5_code 1 = .ok (.istore 5, 2) := by decide +kernel
theorem dM_keepType_3 : decode prog_9_method_5_code 3 = .ok (.iload 5, 2) := by decide +kernel
theorem dM_keepType_5 : decode prog_9_method_5_code 5 = .ok (.aload_n 0, 1) := by decide +kernel
theorem dM_keepType_6 : decode prog_9_method_5_code 6 = .ok (.getfield 183, 3) := by decide +kernel
theorem dM_keepType_9 : decode prog_9_method_5_code 9 = .ok (.if_icmp .ge 45, 3) := by decide +kernel
theorem dM_keepType_12 : decode prog_9_method_5_code 12 = .ok (.aload_n 0, 1) := by decide +kernel
theorem dM_keepType_13 : decode prog_9_method_5_code 13 = .ok (.getfield 17, 3) := by decide +kernel
theorem dM_keepType_16 : decode prog_9_method_5_code 16 = .ok (.iload 5, 2) := by decide +kernel
theorem dM_keepType_18 : decode prog_9_method_5_code 18 = .ok (.iaload, 1) := by decide +kernel
theorem dM_keepType_19 : decode prog_9_method_5_code 19 = .ok (.iload_n 1, 1) := by decide +kernel
theorem dM_keepType_20 : decode prog_9_method_5_code 20 = .ok (.if_icmp .ne 28, 3) := by decide +kernel
theorem dM_keepType_23 : decode prog_9_method_5_code 23 = .ok (.aload_n 0, 1) := by decide +kernel
theorem dM_keepType_24 : decode prog_9_method_5_code 24 = .ok (.getfield 20, 3) := by decide +kernel
theorem dM_keepType_27 : decode prog_9_method_5_code 27 = .ok (.iload 5, 2) := by decide +kernel
theorem dM_keepType_29 : decode prog_9_method_5_code 29 = .ok (.iaload, 1) := by decide +kernel
theorem dM_keepType_30 : decode prog_9_method_5_code 30 = .ok (.iload_n 2, 1) := by decide +kernel
theorem dM_keepType_31 : decode prog_9_method_5_code 31 = .ok (.if_icmp .ne 17, 3) := by decide +kernel
theorem dM_keepType_34 : decode prog_9_method_5_code 34 = .ok (.aload_n 0, 1) := by decide +kernel
theorem dM_keepType_35 : decode prog_9_method_5_code 35 = .ok (.getfield 23, 3) := by decide +kernel
theorem dM_keepType_38 : decode prog_9_method_5_code 38 = .ok (.iload 5, 2) := by decide +kernel
theorem dM_keepType_40 : decode prog_9_method_5_code 40 = .ok (.iaload, 1) := by decide +kernel
theorem dM_keepType_41 : decode prog_9_method_5_code 41 = .ok (.iload_n 3, 1) := by decide +kernel
theorem dM_keepType_42 : decode prog_9_method_5_code 42 = .ok (.if_icmp .ne 6, 3) := by decide +kernel
theorem dM_keepType_45 : decode prog_9_method_5_code 45 = .ok (.iload 5, 2) := by decide +kernel
theorem dM_keepType_47 : decode prog_9_method_5_code 47 = .ok (.ireturn, 1) := by decide +kernel
theorem dM_keepType_48 : decode prog_9_method_5_code 48 = .ok (.iinc 5 1, 3) := by decide +kernel
theorem dM_keepType_51 : decode prog_9_method_5_code 51 = .ok (.goto (-48), 3) := by decide +kernel
theorem dM_keepType_54 : decode prog_9_method_5_code 54 = .ok (.aload_n 0, 1) := by decide +kernel
theorem dM_keepType_55 : decode prog_9_method_5_code 55 = .ok (.getfield 183, 3) := by decide +kernel
theorem dM_keepType_58 : decode prog_9_method_5_code 58 = .ok (.bipush 60, 2) := by decide +kernel
theorem dM_keepType_60 : decode prog_9_method_5_code 60 = .ok (.if_icmp .eq 10, 3) := by decide +kernel
theorem dM_keepType_63 : decode prog_9_method_5_code 63 = .ok (.iload 4, 2) := by decide +kernel
theorem dM_keepType_65 : decode prog_9_method_5_code 65 = .ok (.bipush 16, 2) := by decide +kernel
theorem dM_keepType_67 : decode prog_9_method_5_code 67 = .ok (.if_icmp .le 6, 3) := by decide +kernel
theorem dM_keepType_70 : decode prog_9_method_5_code 70 = .ok (.bipush (-3), 2) := by decide +kernel
theorem dM_keepType_72 : decode prog_9_method_5_code 72 = .ok (.ireturn, 1) := by decide +kernel
theorem dM_keepType_73 : decode prog_9_method_5_code 73 = .ok (.aload_n 0, 1) := by decide +kernel
theorem dM_keepType_74 : decode prog_9_method_5_code 74 = .ok (.getfield 17, 3) := by decide +kernel
theorem dM_keepType_77 : decode prog_9_method_5_code 77 = .ok (.aload_n 0, 1) := by decide +kernel
theorem dM_keepType_78 : decode prog_9_method_5_code 78 = .ok (.getfield 183, 3) := by decide +kernel
theorem dM_keepType_81 : decode prog_9_method_5_code 81 = .ok (.iload_n 1, 1) := by decide +kernel
theorem dM_keepType_82 : decode prog_9_method_5_code 82 = .ok (.iastore, 1) := by decide +kernel
theorem dM_keepType_83 : decode prog_9_method_5_code 83 = .ok (.aload_n 0, 1) := by decide +kernel
theorem dM_keepType_84 : decode prog_9_method_5_code 84 = .ok (.getfield 20, 3) := by decide +kernel
theorem dM_keepType_87 : decode prog_9_method_5_code 87 = .ok (.aload_n 0, 1) := by decide +kernel
theorem dM_keepType_88 : decode prog_9_method_5_code 88 = .ok (.getfield 183, 3) := by decide +kernel
theorem dM_keepType_91 : decode prog_9_method_5_code 91 = .ok (.iload_n 2, 1) := by decide +kernel
theorem dM_keepType_92 : decode prog_9_method_5_code 92 = .ok (.iastore, 1) := by decide +kernel
theorem dM_keepType_93 : decode prog_9_method_5_code 93 = .ok (.aload_n 0, 1) := by decide +kernel
theorem dM_keepType_94 : decode prog_9_method_5_code 94 = .ok (.getfield 23, 3) := by decide +kernel
theorem dM_keepType_97 : decode prog_9_method_5_code 97 = .ok (.aload_n 0, 1) := by decide +kernel
theorem dM_keepType_98 : decode prog_9_method_5_code 98 = .ok (.getfield 183, 3) := by decide +kernel
theorem dM_keepType_101 : decode prog_9_method_5_code 101 = .ok (.iload_n 3, 1) := by decide +kernel
theorem dM_keepType_102 : decode prog_9_method_5_code 102 = .ok (.iastore, 1) := by decide +kernel
theorem dM_keepType_103 : decode prog_9_method_5_code 103 = .ok (.aload_n 0, 1) := by decide +kernel
theorem dM_keepType_104 : decode prog_9_method_5_code 104 = .ok (.getfield 26, 3) := by decide +kernel
theorem dM_keepType_107 : decode prog_9_method_5_code 107 = .ok (.aload_n 0, 1) := by decide +kernel
theorem dM_keepType_108 : decode prog_9_method_5_code 108 = .ok (.getfield 183, 3) := by decide +kernel
theorem dM_keepType_111 : decode prog_9_method_5_code 111 = .ok (.iload 4, 2) := by decide +kernel
theorem dM_keepType_113 : decode prog_9_method_5_code 113 = .ok (.iastore, 1) := by decide +kernel
theorem dM_keepType_114 : decode prog_9_method_5_code 114 = .ok (.aload_n 0, 1) := by decide +kernel
theorem dM_keepType_115 : decode prog_9_method_5_code 115 = .ok (.dup, 1) := by decide +kernel
theorem dM_keepType_116 : decode prog_9_method_5_code 116 = .ok (.getfield 183, 3) := by decide +kernel
theorem dM_keepType_119 : decode prog_9_method_5_code 119 = .ok (.iconst 1, 1) := by decide +kernel
theorem dM_keepType_120 : decode prog_9_method_5_code 120 = .ok (.iadd, 1) := by decide +kernel
theorem dM_keepType_121 : decode prog_9_method_5_code 121 = .ok (.putfield 183, 3) := by decide +kernel
theorem dM_keepType_124 : decode prog_9_method_5_code 124 = .ok (.aload_n 0, 1) := by decide +kernel
theorem dM_keepType_125 : decode prog_9_method_5_code 125 = .ok (.getfield 183, 3) := by decide +kernel
theorem dM_keepType_128 : decode prog_9_method_5_code 128 = .ok (.iconst 1, 1) := by decide +kernel
theorem dM_keepType_129 : decode prog_9_method_5_code 129 = .ok (.isub, 1) := by decide +kernel
theorem dM_keepType_130 : decode prog_9_method_5_code 130 = .ok (.ireturn, 1) := by decide +kernel
theorem dM_variable_0 : decode prog_9_method_6_code 0 = .ok (.aload_n 0, 1) := by decide +kernel
theorem dM_variable_1 : decode prog_9_method_6_code 1 = .ok (.iconst 0, 1) := by decide +kernel
theorem dM_variable_2 : decode prog_9_method_6_code 2 = .ok (.putfield 176, 3) := by decide +kernel
theorem dM_variable_5 : decode prog_9_method_6_code 5 = .ok (.iload_n 1, 1) := by decide +kernel
theorem dM_variable_6 : decode prog_9_method_6_code 6 = .ok (.iconst 0, 1) := by decide +kernel
theorem dM_variable_7 : decode prog_9_method_6_code 7 = .ok (.bipush 7, 2) := by decide +kernel
theorem dM_variable_9 : decode prog_9_method_6_code 9 = .ok (.invokestatic 179, 3) := by decide +kernel
theorem dM_variable_12 : decode prog_9_method_6_code 12 = .ok (.ifCond .eq 16, 3) := by decide +kernel
theorem dM_variable_15 : decode prog_9_method_6_code 15 = .ok (.aload_n 0, 1) := by decide +kernel
theorem dM_variable_16 : decode prog_9_method_6_code 16 = .ok (.iconst (-1), 1) := by decide +kernel
theorem dM_variable_17 : decode prog_9_method_6_code 17 = .ok (.iload_n 1, 1) := by decide +kernel
theorem dM_variable_18 : decode prog_9_method_6_code 18 = .ok (.isub, 1) := by decide +kernel
theorem dM_variable_19 : decode prog_9_method_6_code 19 = .ok (.iconst (-1), 1) := by decide +kernel
theorem dM_variable_20 : decode prog_9_method_6_code 20 = .ok (.iconst (-1), 1) := by decide +kernel
theorem dM_variable_21 : decode prog_9_method_6_code 21 = .ok (.iconst 1, 1) := by decide +kernel
theorem dM_variable_22 : decode prog_9_method_6_code 22 = .ok (.invokevirtual 186, 3) := by decide +kernel
theorem dM_variable_25 : decode prog_9_method_6_code 25 = .ok (.goto 4, 3) := by decide +kernel
theorem dM_variable_28 : decode prog_9_method_6_code 28 = .ok (.iconst (-1), 1) := by decide +kernel
theorem dM_variable_29 : decode prog_9_method_6_code 29 = .ok (.ireturn, 1) := by decide +kernel
theorem dM_type_0 : decode prog_9_method_7_code 0 = .ok (.aload_n 0, 1) := by decide +kernel
theorem dM_type_1 : decode prog_9_method_7_code 1 = .ok (.iconst 0, 1) := by decide +kernel
theorem dM_type_2 : decode prog_9_method_7_code 2 = .ok (.putfield 176, 3) := by decide +kernel
theorem dM_type_5 : decode prog_9_method_7_code 5 = .ok (.iload_n 1, 1) := by decide +kernel
theorem dM_type_6 : decode prog_9_method_7_code 6 = .ok (.iconst 0, 1) := by decide +kernel
theorem dM_type_7 : decode prog_9_method_7_code 7 = .ok (.aload_n 0, 1) := by decide +kernel
theorem dM_type_8 : decode prog_9_method_7_code 8 = .ok (.getfield 7, 3) := by decide +kernel
theorem dM_type_11 : decode prog_9_method_7_code 11 = .ok (.iconst 1, 1) := by decide +kernel
theorem dM_type_12 : decode prog_9_method_7_code 12 = .ok (.isub, 1) := by decide +kernel
theorem dM_type_13 : decode prog_9_method_7_code 13 = .ok (.invokestatic 179, 3) := by decide +kernel
theorem dM_type_16 : decode prog_9_method_7_code 16 = .ok (.ifCond .ne 5, 3) := by decide +kernel
theorem dM_type_19 : decode prog_9_method_7_code 19 = .ok (.iconst (-1), 1) := by decide +kernel
theorem dM_type_20 : decode prog_9_method_7_code 20 = .ok (.ireturn, 1) := by decide +kernel
theorem dM_type_21 : decode prog_9_method_7_code 21 = .ok (.aload_n 0, 1) := by decide +kernel
theorem dM_type_22 : decode prog_9_method_7_code 22 = .ok (.getfield 13, 3) := by decide +kernel
theorem dM_type_25 : decode prog_9_method_7_code 25 = .ok (.iload_n 1, 1) := by decide +kernel
theorem dM_type_26 : decode prog_9_method_7_code 26 = .ok (.iaload, 1) := by decide +kernel
theorem dM_type_27 : decode prog_9_method_7_code 27 = .ok (.istore 4, 2) := by decide +kernel
theorem dM_type_29 : decode prog_9_method_7_code 29 = .ok (.iload 4, 2) := by decide +kernel
theorem dM_type_31 : decode prog_9_method_7_code 31 = .ok (.ifCond .le 17, 3) := by decide +kernel
theorem dM_type_34 : decode prog_9_method_7_code 34 = .ok (.iload_n 2, 1) := by decide +kernel
theorem dM_type_35 : decode prog_9_method_7_code 35 = .ok (.iconst 0, 1) := by decide +kernel
theorem dM_type_36 : decode prog_9_method_7_code 36 = .ok (.aload_n 0, 1) := by decide +kernel
theorem dM_type_37 : decode prog_9_method_7_code 37 = .ok (.getfield 183, 3) := by decide +kernel
theorem dM_type_40 : decode prog_9_method_7_code 40 = .ok (.iconst 1, 1) := by decide +kernel
theorem dM_type_41 : decode prog_9_method_7_code 41 = .ok (.isub, 1) := by decide +kernel
theorem dM_type_42 : decode prog_9_method_7_code 42 = .ok (.invokestatic 179, 3) := by decide +kernel
theorem dM_type_45 : decode prog_9_method_7_code 45 = .ok (.ifCond .eq 23, 3) := by decide +kernel
theorem dM_type_48 : decode prog_9_method_7_code 48 = .ok (.iload 4, 2) := by decide +kernel
theorem dM_type_50 : decode prog_9_method_7_code 50 = .ok (.iconst 1, 1) := by decide +kernel
theorem dM_type_51 : decode prog_9_method_7_code 51 = .ok (.if_icmp .le 19, 3) := by decide +kernel
theorem dM_type_54 : decode prog_9_method_7_code 54 = .ok (.iload_n 3, 1) := by decide +kernel
theorem dM_type_55 : decode prog_9_method_7_code 55 = .ok (.iconst 0, 1) := by decide +kernel
theorem dM_type_56 : decode prog_9_method_7_code 56 = .ok (.aload_n 0, 1) := by decide +kernel
theorem dM_type_57 : decode prog_9_method_7_code 57 = .ok (.getfield 183, 3) := by decide +kernel
theorem dM_type_60 : decode prog_9_method_7_code 60 = .ok (.iconst 1, 1) := by decide +kernel
theorem dM_type_61 : decode prog_9_method_7_code 61 = .ok (.isub, 1) := by decide +kernel
theorem dM_type_62 : decode prog_9_method_7_code 62 = .ok (.invokestatic 179, 3) := by decide +kernel
theorem dM_type_65 : decode prog_9_method_7_code 65 = .ok (.ifCond .ne 5, 3) := by decide +kernel
theorem dM_type_68 : decode prog_9_method_7_code 68 = .ok (.iconst (-1), 1) := by decide +kernel
theorem dM_type_69 : decode prog_9_method_7_code 69 = .ok (.ireturn, 1) := by decide +kernel
theorem dM_type_70 : decode prog_9_method_7_code 70 = .ok (.iconst 1, 1) := by decide +kernel
theorem dM_type_71 : decode prog_9_method_7_code 71 = .ok (.iload 4, 2) := by decide +kernel
theorem dM_type_73 : decode prog_9_method_7_code 73 = .ok (.ifCond .le 12, 3) := by decide +kernel
theorem dM_type_76 : decode prog_9_method_7_code 76 = .ok (.aload_n 0, 1) := by decide +kernel
theorem dM_type_77 : decode prog_9_method_7_code 77 = .ok (.getfield 26, 3) := by decide +kernel
theorem dM_type_80 : decode prog_9_method_7_code 80 = .ok (.iload_n 2, 1) := by decide +kernel
theorem dM_type_81 : decode prog_9_method_7_code 81 = .ok (.iaload, 1) := by decide +kernel
theorem dM_type_82 : decode prog_9_method_7_code 82 = .ok (.goto 4, 3) := by decide +kernel
theorem dM_type_85 : decode prog_9_method_7_code 85 = .ok (.iconst 0, 1) := by decide +kernel
theorem dM_type_86 : decode prog_9_method_7_code 86 = .ok (.iadd, 1) := by decide +kernel
theorem dM_type_87 : decode prog_9_method_7_code 87 = .ok (.iload 4, 2) := by decide +kernel
theorem dM_type_89 : decode prog_9_method_7_code 89 = .ok (.iconst 1, 1) := by decide +kernel
theorem dM_type_90 : decode prog_9_method_7_code 90 = .ok (.if_icmp .le 12, 3) := by decide +kernel
theorem dM_type_93 : decode prog_9_method_7_code 93 = .ok (.aload_n 0, 1) := by decide +kernel
theorem dM_type_94 : decode prog_9_method_7_code 94 = .ok (.getfield 26, 3) := by decide +kernel
theorem dM_type_97 : decode prog_9_method_7_code 97 = .ok (.iload_n 3, 1) := by decide +kernel
theorem dM_type_98 : decode prog_9_method_7_code 98 = .ok (.iaload, 1) := by decide +kernel
theorem dM_type_99 : decode prog_9_method_7_code 99 = .ok (.goto 4, 3) := by decide +kernel
theorem dM_type_102 : decode prog_9_method_7_code 102 = .ok (.iconst 0, 1) := by decide +kernel
theorem dM_type_103 : decode prog_9_method_7_code 103 = .ok (.iadd, 1) := by decide +kernel
theorem dM_type_104 : decode prog_9_method_7_code 104 = .ok (.istore 5, 2) := by decide +kernel
theorem dM_type_106 : decode prog_9_method_7_code 106 = .ok (.aload_n 0, 1) := by decide +kernel
theorem dM_type_107 : decode prog_9_method_7_code 107 = .ok (.iload_n 1, 1) := by decide +kernel
theorem dM_type_108 : decode prog_9_method_7_code 108 = .ok (.iload 4, 2) := by decide +kernel
theorem dM_type_110 : decode prog_9_method_7_code 110 = .ok (.ifCond .le 7, 3) := by decide +kernel
theorem dM_type_113 : decode prog_9_method_7_code 113 = .ok (.iload_n 2, 1) := by decide +kernel
theorem dM_type_114 : decode prog_9_method_7_code 114 = .ok (.goto 4, 3) := by decide +kernel
theorem dM_type_117 : decode prog_9_method_7_code 117 = .ok (.iconst (-1), 1) := by decide +kernel
theorem dM_type_118 : decode prog_9_method_7_code 118 = .ok (.iload 4, 2) := by decide +kernel
theorem dM_type_120 : decode prog_9_method_7_code 120 = .ok (.iconst 1, 1) := by decide +kernel
theorem dM_type_121 : decode prog_9_method_7_code 121 = .ok (.if_icmp .le 7, 3) := by decide +kernel
theorem dM_type_124 : decode prog_9_method_7_code 124 = .ok (.iload_n 3, 1) := by decide +kernel
theorem dM_type_125 : decode prog_9_method_7_code 125 = .ok (.goto 4, 3) := by decide +kernel
theorem dM_type_128 : decode prog_9_method_7_code 128 = .ok (.iconst (-1), 1) := by decide +kernel
theorem dM_type_129 : decode prog_9_method_7_code 129 = .ok (.iload 5, 2) := by decide +kernel
theorem dM_type_131 : decode prog_9_method_7_code 131 = .ok (.invokevirtual 186, 3) := by decide +kernel
theorem dM_type_134 : decode prog_9_method_7_code 134 = .ok (.ireturn, 1) := by decide +kernel
theorem dM_isClass_0 : decode prog_9_method_8_code 0 = .ok (.iload_n 1, 1) := by decide +kernel
theorem dM_isClass_1 : decode prog_9_method_8_code 1 = .ok (.ifCond .lt 15, 3) := by decide +kernel
theorem dM_isClass_4 : decode prog_9_method_8_code 4 = .ok (.iload_n 1, 1) := by decide +kernel
theorem dM_isClass_5 : decode prog_9_method_8_code 5 = .ok (.aload_n 0, 1) := by decide +kernel
theorem dM_isClass_6 : decode prog_9_method_8_code 6 = .ok (.getfield 190, 3) := by decide +kernel
theorem dM_isClass_9 : decode prog_9_method_8_code 9 = .ok (.if_icmp .ge 7, 3) := by decide +kernel
theorem dM_isClass_12 : decode prog_9_method_8_code 12 = .ok (.iconst 1, 1) := by decide +kernel
theorem dM_isClass_13 : decode prog_9_method_8_code 13 = .ok (.goto 4, 3) := by decide +kernel
theorem dM_isClass_16 : decode prog_9_method_8_code 16 = .ok (.iconst 0, 1) := by decide +kernel
theorem dM_isClass_17 : decode prog_9_method_8_code 17 = .ok (.ireturn, 1) := by decide +kernel
theorem dM_class0_0 : decode prog_9_method_9_code 0 = .ok (.aload_n 0, 1) := by decide +kernel
theorem dM_class0_1 : decode prog_9_method_9_code 1 = .ok (.iconst 0, 1) := by decide +kernel
theorem dM_class0_2 : decode prog_9_method_9_code 2 = .ok (.putfield 176, 3) := by decide +kernel
theorem dM_class0_5 : decode prog_9_method_9_code 5 = .ok (.iload_n 1, 1) := by decide +kernel
theorem dM_class0_6 : decode prog_9_method_9_code 6 = .ok (.iconst (-1), 1) := by decide +kernel
theorem dM_class0_7 : decode prog_9_method_9_code 7 = .ok (.if_icmp .eq 13, 3) := by decide +kernel
theorem dM_class0_10 : decode prog_9_method_9_code 10 = .ok (.aload_n 0, 1) := by decide +kernel
theorem dM_class0_11 : decode prog_9_method_9_code 11 = .ok (.iload_n 1, 1) := by decide +kernel
theorem dM_class0_12 : decode prog_9_method_9_code 12 = .ok (.invokevirtual 193, 3) := by decide +kernel
theorem dM_class0_15 : decode prog_9_method_9_code 15 = .ok (.ifCond .ne 5, 3) := by decide +kernel
theorem dM_class0_18 : decode prog_9_method_9_code 18 = .ok (.iconst (-1), 1) := by decide +kernel
theorem dM_class0_19 : decode prog_9_method_9_code 19 = .ok (.ireturn, 1) := by decide +kernel
theorem dM_class0_20 : decode prog_9_method_9_code 20 = .ok (.aload_n 0, 1) := by decide +kernel
theorem dM_class0_21 : decode prog_9_method_9_code 21 = .ok (.getfield 190, 3) := by decide +kernel
theorem dM_class0_24 : decode prog_9_method_9_code 24 = .ok (.bipush 8, 2) := by decide +kernel
theorem dM_class0_26 : decode prog_9_method_9_code 26 = .ok (.if_icmp .ne 6, 3) := by decide +kernel
theorem dM_class0_29 : decode prog_9_method_9_code 29 = .ok (.bipush (-3), 2) := by decide +kernel
theorem dM_class0_31 : decode prog_9_method_9_code 31 = .ok (.ireturn, 1) := by decide +kernel
theorem dM_class0_32 : decode prog_9_method_9_code 32 = .ok (.aload_n 0, 1) := by decide +kernel
theorem dM_class0_33 : decode prog_9_method_9_code 33 = .ok (.getfield 29, 3) := by decide +kernel
theorem dM_class0_36 : decode prog_9_method_9_code 36 = .ok (.aload_n 0, 1) := by decide +kernel
theorem dM_class0_37 : decode prog_9_method_9_code 37 = .ok (.getfield 190, 3) := by decide +kernel
theorem dM_class0_40 : decode prog_9_method_9_code 40 = .ok (.iload_n 1, 1) := by decide +kernel
theorem dM_class0_41 : decode prog_9_method_9_code 41 = .ok (.iastore, 1) := by decide +kernel
theorem dM_class0_42 : decode prog_9_method_9_code 42 = .ok (.aload_n 0, 1) := by decide +kernel
theorem dM_class0_43 : decode prog_9_method_9_code 43 = .ok (.dup, 1) := by decide +kernel
theorem dM_class0_44 : decode prog_9_method_9_code 44 = .ok (.getfield 190, 3) := by decide +kernel
theorem dM_class0_47 : decode prog_9_method_9_code 47 = .ok (.iconst 1, 1) := by decide +kernel
theorem dM_class0_48 : decode prog_9_method_9_code 48 = .ok (.iadd, 1) := by decide +kernel
theorem dM_class0_49 : decode prog_9_method_9_code 49 = .ok (.putfield 190, 3) := by decide +kernel
theorem dM_class0_52 : decode prog_9_method_9_code 52 = .ok (.aload_n 0, 1) := by decide +kernel
theorem dM_class0_53 : decode prog_9_method_9_code 53 = .ok (.getfield 190, 3) := by decide +kernel
theorem dM_class0_56 : decode prog_9_method_9_code 56 = .ok (.iconst 1, 1) := by decide +kernel
theorem dM_class0_57 : decode prog_9_method_9_code 57 = .ok (.isub, 1) := by decide +kernel
theorem dM_class0_58 : decode prog_9_method_9_code 58 = .ok (.ireturn, 1) := by decide +kernel
