theorem dG_isVariable_0 : decode prog_4_method_5_code 0 = .ok (.aload_n 0, 1) := by decide +kernel
theorem dG_isVariable_1 : decode prog_4_method_5_code 1 = .ok (.getfield 9, 3) := by decide +kernel
theorem dG_isVariable_4 : decode prog_4_method_5_code 4 = .ok (.iload_n 1, 1) := by decide +kernel
theorem dG_isVariable_5 : decode prog_4_method_5_code 5 = .ok (.iaload, 1) := by decide +kernel
theorem dG_isVariable_6 : decode prog_4_method_5_code 6 = .ok (.iconst (-1), 1) := by decide +kernel
theorem dG_isVariable_7 : decode prog_4_method_5_code 7 = .ok (.if_icmp .ne 7, 3) := by decide +kernel
theorem dG_isVariable_10 : decode prog_4_method_5_code 10 = .ok (.iconst 1, 1) := by decide +kernel
theorem dG_isVariable_11 : decode prog_4_method_5_code 11 = .ok (.goto 4, 3) := by decide +kernel
theorem dG_isVariable_14 : decode prog_4_method_5_code 14 = .ok (.iconst 0, 1) := by decide +kernel
theorem dG_isVariable_15 : decode prog_4_method_5_code 15 = .ok (.ireturn, 1) := by decide +kernel
theorem dG_settled_0 : decode prog_4_method_6_code 0 = .ok (.iload_n 1, 1) := by decide +kernel
theorem dG_settled_1 : decode prog_4_method_6_code 1 = .ok (.istore_n 2, 1) := by decide +kernel
theorem dG_settled_2 : decode prog_4_method_6_code 2 = .ok (.iconst 0, 1) := by decide +kernel
theorem dG_settled_3 : decode prog_4_method_6_code 3 = .ok (.istore_n 3, 1) := by decide +kernel
theorem dG_settled_4 : decode prog_4_method_6_code 4 = .ok (.aload_n 0, 1) := by decide +kernel
theorem dG_settled_5 : decode prog_4_method_6_code 5 = .ok (.getfield 9, 3) := by decide +kernel
theorem dG_settled_8 : decode prog_4_method_6_code 8 = .ok (.iload_n 2, 1) := by decide +kernel
theorem dG_settled_9 : decode prog_4_method_6_code 9 = .ok (.iaload, 1) := by decide +kernel
theorem dG_settled_10 : decode prog_4_method_6_code 10 = .ok (.bipush (-2), 2) := by decide +kernel
theorem dG_settled_12 : decode prog_4_method_6_code 12 = .ok (.if_icmp .ne 24, 3) := by decide +kernel
theorem dG_settled_15 : decode prog_4_method_6_code 15 = .ok (.iload_n 3, 1) := by decide +kernel
theorem dG_settled_16 : decode prog_4_method_6_code 16 = .ok (.aload_n 0, 1) := by decide +kernel
theorem dG_settled_17 : decode prog_4_method_6_code 17 = .ok (.getfield 45, 3) := by decide +kernel
theorem dG_settled_20 : decode prog_4_method_6_code 20 = .ok (.if_icmp .ge 16, 3) := by decide +kernel
theorem dG_settled_23 : decode prog_4_method_6_code 23 = .ok (.aload_n 0, 1) := by decide +kernel
theorem dG_settled_24 : decode prog_4_method_6_code 24 = .ok (.getfield 15, 3) := by decide +kernel
theorem dG_settled_27 : decode prog_4_method_6_code 27 = .ok (.iload_n 2, 1) := by decide +kernel
theorem dG_settled_28 : decode prog_4_method_6_code 28 = .ok (.iaload, 1) := by decide +kernel
theorem dG_settled_29 : decode prog_4_method_6_code 29 = .ok (.istore_n 2, 1) := by decide +kernel
theorem dG_settled_30 : decode prog_4_method_6_code 30 = .ok (.iinc 3 1, 3) := by decide +kernel
theorem dG_settled_33 : decode prog_4_method_6_code 33 = .ok (.goto (-29), 3) := by decide +kernel
theorem dG_settled_36 : decode prog_4_method_6_code 36 = .ok (.iload_n 2, 1) := by decide +kernel
theorem dG_settled_37 : decode prog_4_method_6_code 37 = .ok (.iload_n 1, 1) := by decide +kernel
theorem dG_settled_38 : decode prog_4_method_6_code 38 = .ok (.if_icmp .eq 10, 3) := by decide +kernel
theorem dG_settled_41 : decode prog_4_method_6_code 41 = .ok (.aload_n 0, 1) := by decide +kernel
theorem dG_settled_42 : decode prog_4_method_6_code 42 = .ok (.getfield 15, 3) := by decide +kernel
theorem dG_settled_45 : decode prog_4_method_6_code 45 = .ok (.iload_n 1, 1) := by decide +kernel
theorem dG_settled_46 : decode prog_4_method_6_code 46 = .ok (.iload_n 2, 1) := by decide +kernel
theorem dG_settled_47 : decode prog_4_method_6_code 47 = .ok (.iastore, 1) := by decide +kernel
theorem dG_settled_48 : decode prog_4_method_6_code 48 = .ok (.iload_n 2, 1) := by decide +kernel
theorem dG_settled_49 : decode prog_4_method_6_code 49 = .ok (.ireturn, 1) := by decide +kernel
theorem dG_firstOf_0 : decode prog_4_method_7_code 0 = .ok (.aload_n 0, 1) := by decide +kernel
theorem dG_firstOf_1 : decode prog_4_method_7_code 1 = .ok (.getfield 15, 3) := by decide +kernel
theorem dG_firstOf_4 : decode prog_4_method_7_code 4 = .ok (.iload_n 1, 1) := by decide +kernel
theorem dG_firstOf_5 : decode prog_4_method_7_code 5 = .ok (.iaload, 1) := by decide +kernel
theorem dG_firstOf_6 : decode prog_4_method_7_code 6 = .ok (.iconst (-1), 1) := by decide +kernel
theorem dG_firstOf_7 : decode prog_4_method_7_code 7 = .ok (.if_icmp .ne 7, 3) := by decide +kernel
theorem dG_firstOf_10 : decode prog_4_method_7_code 10 = .ok (.iconst (-1), 1) := by decide +kernel
theorem dG_firstOf_11 : decode prog_4_method_7_code 11 = .ok (.goto 13, 3) := by decide +kernel
theorem dG_firstOf_14 : decode prog_4_method_7_code 14 = .ok (.aload_n 0, 1) := by decide +kernel
theorem dG_firstOf_15 : decode prog_4_method_7_code 15 = .ok (.aload_n 0, 1) := by decide +kernel
theorem dG_firstOf_16 : decode prog_4_method_7_code 16 = .ok (.getfield 15, 3) := by decide +kernel
theorem dG_firstOf_19 : decode prog_4_method_7_code 19 = .ok (.iload_n 1, 1) := by decide +kernel
theorem dG_firstOf_20 : decode prog_4_method_7_code 20 = .ok (.iaload, 1) := by decide +kernel
theorem dG_firstOf_21 : decode prog_4_method_7_code 21 = .ok (.invokevirtual 63, 3) := by decide +kernel
theorem dG_firstOf_24 : decode prog_4_method_7_code 24 = .ok (.ireturn, 1) := by decide +kernel
theorem dG_secondOf_0 : decode prog_4_method_8_code 0 = .ok (.aload_n 0, 1) := by decide +kernel
theorem dG_secondOf_1 : decode prog_4_method_8_code 1 = .ok (.getfield 18, 3) := by decide +kernel
theorem dG_secondOf_4 : decode prog_4_method_8_code 4 = .ok (.iload_n 1, 1) := by decide +kernel
theorem dG_secondOf_5 : decode prog_4_method_8_code 5 = .ok (.iaload, 1) := by decide +kernel
theorem dG_secondOf_6 : decode prog_4_method_8_code 6 = .ok (.iconst (-1), 1) := by decide +kernel
theorem dG_secondOf_7 : decode prog_4_method_8_code 7 = .ok (.if_icmp .ne 7, 3) := by decide +kernel
theorem dG_secondOf_10 : decode prog_4_method_8_code 10 = .ok (.iconst (-1), 1) := by decide +kernel
theorem dG_secondOf_11 : decode prog_4_method_8_code 11 = .ok (.goto 13, 3) := by decide +kernel
theorem dG_secondOf_14 : decode prog_4_method_8_code 14 = .ok (.aload_n 0, 1) := by decide +kernel
theorem dG_secondOf_15 : decode prog_4_method_8_code 15 = .ok (.aload_n 0, 1) := by decide +kernel
theorem dG_secondOf_16 : decode prog_4_method_8_code 16 = .ok (.getfield 18, 3) := by decide +kernel
theorem dG_secondOf_19 : decode prog_4_method_8_code 19 = .ok (.iload_n 1, 1) := by decide +kernel
theorem dG_secondOf_20 : decode prog_4_method_8_code 20 = .ok (.iaload, 1) := by decide +kernel
theorem dG_secondOf_21 : decode prog_4_method_8_code 21 = .ok (.invokevirtual 63, 3) := by decide +kernel
theorem dG_secondOf_24 : decode prog_4_method_8_code 24 = .ok (.ireturn, 1) := by decide +kernel
theorem dG_unify_0 : decode prog_4_method_9_code 0 = .ok (.aload_n 0, 1) := by decide +kernel
theorem dG_unify_1 : decode prog_4_method_9_code 1 = .ok (.iconst 0, 1) := by decide +kernel
theorem dG_unify_2 : decode prog_4_method_9_code 2 = .ok (.putfield 67, 3) := by decide +kernel
theorem dG_unify_5 : decode prog_4_method_9_code 5 = .ok (.aload_n 0, 1) := by decide +kernel
theorem dG_unify_6 : decode prog_4_method_9_code 6 = .ok (.iload_n 1, 1) := by decide +kernel
theorem dG_unify_7 : decode prog_4_method_9_code 7 = .ok (.iload_n 2, 1) := by decide +kernel
theorem dG_unify_8 : decode prog_4_method_9_code 8 = .ok (.invokevirtual 70, 3) := by decide +kernel
theorem dG_unify_11 : decode prog_4_method_9_code 11 = .ok (.iconst 0, 1) := by decide +kernel
theorem dG_unify_12 : decode prog_4_method_9_code 12 = .ok (.istore_n 3, 1) := by decide +kernel
theorem dG_unify_13 : decode prog_4_method_9_code 13 = .ok (.aload_n 0, 1) := by decide +kernel
theorem dG_unify_14 : decode prog_4_method_9_code 14 = .ok (.getfield 67, 3) := by decide +kernel
theorem dG_unify_17 : decode prog_4_method_9_code 17 = .ok (.iconst 1, 1) := by decide +kernel
theorem dG_unify_18 : decode prog_4_method_9_code 18 = .ok (.if_icmp .le 57, 3) := by decide +kernel
theorem dG_unify_21 : decode prog_4_method_9_code 21 = .ok (.iload_n 3, 1) := by decide +kernel
theorem dG_unify_22 : decode prog_4_method_9_code 22 = .ok (.ldc 74, 2) := by decide +kernel
theorem dG_unify_24 : decode prog_4_method_9_code 24 = .ok (.if_icmp .ge 51, 3) := by decide +kernel
theorem dG_unify_27 : decode prog_4_method_9_code 27 = .ok (.aload_n 0, 1) := by decide +kernel
theorem dG_unify_28 : decode prog_4_method_9_code 28 = .ok (.dup, 1) := by decide +kernel
theorem dG_unify_29 : decode prog_4_method_9_code 29 = .ok (.getfield 67, 3) := by decide +kernel
theorem dG_unify_32 : decode prog_4_method_9_code 32 = .ok (.iconst 2, 1) := by decide +kernel
theorem dG_unify_33 : decode prog_4_method_9_code 33 = .ok (.isub, 1) := by decide +kernel
theorem dG_unify_34 : decode prog_4_method_9_code 34 = .ok (.putfield 67, 3) := by decide +kernel
theorem dG_unify_37 : decode prog_4_method_9_code 37 = .ok (.aload_n 0, 1) := by decide +kernel
theorem dG_unify_38 : decode prog_4_method_9_code 38 = .ok (.aload_n 0, 1) := by decide +kernel
theorem dG_unify_39 : decode prog_4_method_9_code 39 = .ok (.aload_n 0, 1) := by decide +kernel
theorem dG_unify_40 : decode prog_4_method_9_code 40 = .ok (.getfield 42, 3) := by decide +kernel
theorem dG_unify_43 : decode prog_4_method_9_code 43 = .ok (.aload_n 0, 1) := by decide +kernel
theorem dG_unify_44 : decode prog_4_method_9_code 44 = .ok (.getfield 67, 3) := by decide +kernel
theorem dG_unify_47 : decode prog_4_method_9_code 47 = .ok (.iaload, 1) := by decide +kernel
theorem dG_unify_48 : decode prog_4_method_9_code 48 = .ok (.invokevirtual 63, 3) := by decide +kernel
theorem dG_unify_51 : decode prog_4_method_9_code 51 = .ok (.aload_n 0, 1) := by decide +kernel
theorem dG_unify_52 : decode prog_4_method_9_code 52 = .ok (.aload_n 0, 1) := by decide +kernel
theorem dG_unify_53 : decode prog_4_method_9_code 53 = .ok (.getfield 42, 3) := by decide +kernel
theorem dG_unify_56 : decode prog_4_method_9_code 56 = .ok (.aload_n 0, 1) := by decide +kernel
theorem dG_unify_57 : decode prog_4_method_9_code 57 = .ok (.getfield 67, 3) := by decide +kernel
theorem dG_unify_60 : decode prog_4_method_9_code 60 = .ok (.iconst 1, 1) := by decide +kernel
theorem dG_unify_61 : decode prog_4_method_9_code 61 = .ok (.iadd, 1) := by decide +kernel
theorem dG_unify_62 : decode prog_4_method_9_code 62 = .ok (.iaload, 1) := by decide +kernel
theorem dG_unify_63 : decode prog_4_method_9_code 63 = .ok (.invokevirtual 63, 3) := by decide +kernel
theorem dG_unify_66 : decode prog_4_method_9_code 66 = .ok (.invokevirtual 75, 3) := by decide +kernel
theorem dG_unify_69 : decode prog_4_method_9_code 69 = .ok (.iinc 3 1, 3) := by decide +kernel
theorem dG_unify_72 : decode prog_4_method_9_code 72 = .ok (.goto (-59), 3) := by decide +kernel
theorem dG_unify_75 : decode prog_4_method_9_code 75 = .ok (.return_, 1) := by decide +kernel
theorem dG_unifyTops_0 : decode prog_4_method_10_code 0 = .ok (.iload_n 1, 1) := by decide +kernel
theorem dG_unifyTops_1 : decode prog_4_method_10_code 1 = .ok (.iload_n 2, 1) := by decide +kernel
theorem dG_unifyTops_2 : decode prog_4_method_10_code 2 = .ok (.if_icmp .ne 4, 3) := by decide +kernel
theorem dG_unifyTops_5 : decode prog_4_method_10_code 5 = .ok (.return_, 1) := by decide +kernel
theorem dG_unifyTops_6 : decode prog_4_method_10_code 6 = .ok (.aload_n 0, 1) := by decide +kernel
theorem dG_unifyTops_7 : decode prog_4_method_10_code 7 = .ok (.iload_n 1, 1) := by decide +kernel
theorem dG_unifyTops_8 : decode prog_4_method_10_code 8 = .ok (.invokevirtual 78, 3) := by decide +kernel
theorem dG_unifyTops_11 : decode prog_4_method_10_code 11 = .ok (.ifCond .eq 12, 3) := by decide +kernel
theorem dG_unifyTops_14 : decode prog_4_method_10_code 14 = .ok (.aload_n 0, 1) := by decide +kernel
theorem dG_unifyTops_15 : decode prog_4_method_10_code 15 = .ok (.iload_n 1, 1) := by decide +kernel
theorem dG_unifyTops_16 : decode prog_4_method_10_code 16 = .ok (.iload_n 2, 1) := by decide +kernel
theorem dG_unifyTops_17 : decode prog_4_method_10_code 17 = .ok (.invokevirtual 82, 3) := by decide +kernel
theorem dG_unifyTops_20 : decode prog_4_method_10_code 20 = .ok (.goto 81, 3) := by decide +kernel
theorem dG_unifyTops_23 : decode prog_4_method_10_code 23 = .ok (.aload_n 0, 1) := by decide +kernel
theorem dG_unifyTops_24 : decode prog_4_method_10_code 24 = .ok (.iload_n 2, 1) := by decide +kernel
theorem dG_unifyTops_25 : decode prog_4_method_10_code 25 = .ok (.invokevirtual 78, 3) := by decide +kernel
theorem dG_unifyTops_28 : decode prog_4_method_10_code 28 = .ok (.ifCond .eq 12, 3) := by decide +kernel
theorem dG_unifyTops_31 : decode prog_4_method_10_code 31 = .ok (.aload_n 0, 1) := by decide +kernel
theorem dG_unifyTops_32 : decode prog_4_method_10_code 32 = .ok (.iload_n 2, 1) := by decide +kernel
theorem dG_unifyTops_33 : decode prog_4_method_10_code 33 = .ok (.iload_n 1, 1) := by decide +kernel
theorem dG_unifyTops_34 : decode prog_4_method_10_code 34 = .ok (.invokevirtual 82, 3) := by decide +kernel
theorem dG_unifyTops_37 : decode prog_4_method_10_code 37 = .ok (.goto 64, 3) := by decide +kernel
theorem dG_unifyTops_40 : decode prog_4_method_10_code 40 = .ok (.aload_n 0, 1) := by decide +kernel
theorem dG_unifyTops_41 : decode prog_4_method_10_code 41 = .ok (.getfield 9, 3) := by decide +kernel
theorem dG_unifyTops_44 : decode prog_4_method_10_code 44 = .ok (.iload_n 1, 1) := by decide +kernel
theorem dG_unifyTops_45 : decode prog_4_method_10_code 45 = .ok (.iaload, 1) := by decide +kernel
theorem dG_unifyTops_46 : decode prog_4_method_10_code 46 = .ok (.aload_n 0, 1) := by decide +kernel
theorem dG_unifyTops_47 : decode prog_4_method_10_code 47 = .ok (.getfield 9, 3) := by decide +kernel
theorem dG_unifyTops_50 : decode prog_4_method_10_code 50 = .ok (.iload_n 2, 1) := by decide +kernel
theorem dG_unifyTops_51 : decode prog_4_method_10_code 51 = .ok (.iaload, 1) := by decide +kernel
theorem dG_unifyTops_52 : decode prog_4_method_10_code 52 = .ok (.if_icmp .eq 11, 3) := by decide +kernel
theorem dG_unifyTops_55 : decode prog_4_method_10_code 55 = .ok (.aload_n 0, 1) := by decide +kernel
theorem dG_unifyTops_56 : decode prog_4_method_10_code 56 = .ok (.iconst 1, 1) := by decide +kernel
theorem dG_unifyTops_57 : decode prog_4_method_10_code 57 = .ok (.putfield 49, 3) := by decide +kernel
theorem dG_unifyTops_60 : decode prog_4_method_10_code 60 = .ok (.goto 41, 3) := by decide +kernel
theorem dG_unifyTops_63 : decode prog_4_method_10_code 63 = .ok (.aload_n 0, 1) := by decide +kernel
theorem dG_unifyTops_64 : decode prog_4_method_10_code 64 = .ok (.aload_n 0, 1) := by decide +kernel
theorem dG_unifyTops_65 : decode prog_4_method_10_code 65 = .ok (.getfield 18, 3) := by decide +kernel
theorem dG_unifyTops_68 : decode prog_4_method_10_code 68 = .ok (.iload_n 1, 1) := by decide +kernel
theorem dG_unifyTops_69 : decode prog_4_method_10_code 69 = .ok (.iaload, 1) := by decide +kernel
theorem dG_unifyTops_70 : decode prog_4_method_10_code 70 = .ok (.aload_n 0, 1) := by decide +kernel
theorem dG_unifyTops_71 : decode prog_4_method_10_code 71 = .ok (.getfield 18, 3) := by decide +kernel
theorem dG_unifyTops_74 : decode prog_4_method_10_code 74 = .ok (.iload_n 2, 1) := by decide +kernel
theorem dG_unifyTops_75 : decode prog_4_method_10_code 75 = .ok (.iaload, 1) := by decide +kernel
theorem dG_unifyTops_76 : decode prog_4_method_10_code 76 = .ok (.invokevirtual 70, 3) := by decide +kernel
theorem dG_unifyTops_79 : decode prog_4_method_10_code 79 = .ok (.aload_n 0, 1) := by decide +kernel
theorem dG_unifyTops_80 : decode prog_4_method_10_code 80 = .ok (.aload_n 0, 1) := by decide +kernel
theorem dG_unifyTops_81 : decode prog_4_method_10_code 81 = .ok (.getfield 15, 3) := by decide +kernel
theorem dG_unifyTops_84 : decode prog_4_method_10_code 84 = .ok (.iload_n 1, 1) := by decide +kernel
theorem dG_unifyTops_85 : decode prog_4_method_10_code 85 = .ok (.iaload, 1) := by decide +kernel
theorem dG_unifyTops_86 : decode prog_4_method_10_code 86 = .ok (.aload_n 0, 1) := by decide +kernel
theorem dG_unifyTops_87 : decode prog_4_method_10_code 87 = .ok (.getfield 15, 3) := by decide +kernel
theorem dG_unifyTops_90 : decode prog_4_method_10_code 90 = .ok (.iload_n 2, 1) := by decide +kernel
theorem dG_unifyTops_91 : decode prog_4_method_10_code 91 = .ok (.iaload, 1) := by decide +kernel
theorem dG_unifyTops_92 : decode prog_4_method_10_code 92 = .ok (.invokevirtual 70, 3) := by decide +kernel
theorem dG_unifyTops_95 : decode prog_4_method_10_code 95 = .ok (.aload_n 0, 1) := by decide +kernel
theorem dG_unifyTops_96 : decode prog_4_method_10_code 96 = .ok (.iload_n 1, 1) := by decide +kernel
theorem dG_unifyTops_97 : decode prog_4_method_10_code 97 = .ok (.iload_n 2, 1) := by decide +kernel
theorem dG_unifyTops_98 : decode prog_4_method_10_code 98 = .ok (.invokevirtual 82, 3) := by decide +kernel
theorem dG_unifyTops_101 : decode prog_4_method_10_code 101 = .ok (.return_, 1) := by decide +kernel
theorem dG_move_0 : decode prog_4_method_11_code 0 = .ok (.aload_n 0, 1) := by decide +kernel
theorem dG_move_1 : decode prog_4_method_11_code 1 = .ok (.getfield 9, 3) := by decide +kernel
theorem dG_move_4 : decode prog_4_method_11_code 4 = .ok (.iload_n 1, 1) := by decide +kernel
theorem dG_move_5 : decode prog_4_method_11_code 5 = .ok (.bipush (-2), 2) := by decide +kernel
theorem dG_move_7 : decode prog_4_method_11_code 7 = .ok (.iastore, 1) := by decide +kernel
theorem dG_move_8 : decode prog_4_method_11_code 8 = .ok (.aload_n 0, 1) := by decide +kernel
theorem dG_move_9 : decode prog_4_method_11_code 9 = .ok (.getfield 15, 3) := by decide +kernel
theorem dG_move_12 : decode prog_4_method_11_code 12 = .ok (.iload_n 1, 1) := by decide +kernel
theorem dG_move_13 : decode prog_4_method_11_code 13 = .ok (.iload_n 2, 1) := by decide +kernel
theorem dG_move_14 : decode prog_4_method_11_code 14 = .ok (.iastore, 1) := by decide +kernel
theorem dG_move_15 : decode prog_4_method_11_code 15 = .ok (.return_, 1) := by decide +kernel
theorem dG_pushPair_0 : decode prog_4_method_12_code 0 = .ok (.iload_n 1, 1) := by decide +kernel
theorem dG_pushPair_1 : decode prog_4_method_12_code 1 = .ok (.iconst (-1), 1) := by decide +kernel
theorem dG_pushPair_2 : decode prog_4_method_12_code 2 = .ok (.if_icmp .eq 18, 3) := by decide +kernel
theorem dG_pushPair_5 : decode prog_4_method_12_code 5 = .ok (.iload_n 2, 1) := by decide +kernel
theorem dG_pushPair_6 : decode prog_4_method_12_code 6 = .ok (.iconst (-1), 1) := by decide +kernel
theorem dG_pushPair_7 : decode prog_4_method_12_code 7 = .ok (.if_icmp .eq 13, 3) := by decide +kernel
theorem dG_pushPair_10 : decode prog_4_method_12_code 10 = .ok (.aload_n 0, 1) := by decide +kernel
theorem dG_pushPair_11 : decode prog_4_method_12_code 11 = .ok (.iload_n 1, 1) := by decide +kernel
theorem dG_pushPair_12 : decode prog_4_method_12_code 12 = .ok (.invokevirtual 85, 3) := by decide +kernel
theorem dG_pushPair_15 : decode prog_4_method_12_code 15 = .ok (.aload_n 0, 1) := by decide +kernel
theorem dG_pushPair_16 : decode prog_4_method_12_code 16 = .ok (.iload_n 2, 1) := by decide +kernel
theorem dG_pushPair_17 : decode prog_4_method_12_code 17 = .ok (.invokevirtual 85, 3) := by decide +kernel
theorem dG_pushPair_20 : decode prog_4_method_12_code 20 = .ok (.return_, 1) := by decide +kernel
theorem dG_push_0 : decode prog_4_method_13_code 0 = .ok (.aload_n 0, 1) := by decide +kernel
theorem dG_push_1 : decode prog_4_method_13_code 1 = .ok (.getfield 67, 3) := by decide +kernel
theorem dG_push_4 : decode prog_4_method_13_code 4 = .ok (.aload_n 0, 1) := by decide +kernel
theorem dG_push_5 : decode prog_4_method_13_code 5 = .ok (.getfield 42, 3) := by decide +kernel
theorem dG_push_8 : decode prog_4_method_13_code 8 = .ok (.arraylength, 1) := by decide +kernel
theorem dG_push_9 : decode prog_4_method_13_code 9 = .ok (.if_icmp .ge 23, 3) := by decide +kernel
theorem dG_push_12 : decode prog_4_method_13_code 12 = .ok (.aload_n 0, 1) := by decide +kernel
theorem dG_push_13 : decode prog_4_method_13_code 13 = .ok (.getfield 42, 3) := by decide +kernel
theorem dG_push_16 : decode prog_4_method_13_code 16 = .ok (.aload_n 0, 1) := by decide +kernel
theorem dG_push_17 : decode prog_4_method_13_code 17 = .ok (.getfield 67, 3) := by decide +kernel
theorem dG_push_20 : decode prog_4_method_13_code 20 = .ok (.iload_n 1, 1) := by decide +kernel
theorem dG_push_21 : decode prog_4_method_13_code 21 = .ok (.iastore, 1) := by decide +kernel
theorem dG_push_22 : decode prog_4_method_13_code 22 = .ok (.aload_n 0, 1) := by decide +kernel
theorem dG_push_23 : decode prog_4_method_13_code 23 = .ok (.dup, 1) := by decide +kernel
theorem dG_push_24 : decode prog_4_method_13_code 24 = .ok (.getfield 67, 3) := by decide +kernel
theorem dG_push_27 : decode prog_4_method_13_code 27 = .ok (.iconst 1, 1) := by decide +kernel
theorem dG_push_28 : decode prog_4_method_13_code 28 = .ok (.iadd, 1) := by decide +kernel
theorem dG_push_29 : decode prog_4_method_13_code 29 = .ok (.putfield 67, 3) := by decide +kernel
theorem dG_push_32 : decode prog_4_method_13_code 32 = .ok (.return_, 1) := by decide +kernel
theorem dG_startWalk_0 : decode prog_4_method_14_code 0 = .ok (.aload_n 0, 1) := by decide +kernel
theorem dG_startWalk_1 : decode prog_4_method_14_code 1 = .ok (.dup, 1) := by decide +kernel
theorem dG_startWalk_2 : decode prog_4_method_14_code 2 = .ok (.getfield 88, 3) := by decide +kernel
theorem dG_startWalk_5 : decode prog_4_method_14_code 5 = .ok (.iconst 1, 1) := by decide +kernel
theorem dG_startWalk_6 : decode prog_4_method_14_code 6 = .ok (.iadd, 1) := by decide +kernel
theorem dG_startWalk_7 : decode prog_4_method_14_code 7 = .ok (.putfield 88, 3) := by decide +kernel
theorem dG_startWalk_10 : decode prog_4_method_14_code 10 = .ok (.aload_n 0, 1) := by decide +kernel
theorem dG_startWalk_11 : decode prog_4_method_14_code 11 = .ok (.iconst 0, 1) := by decide +kernel
theorem dG_startWalk_12 : decode prog_4_method_14_code 12 = .ok (.putfield 91, 3) := by decide +kernel
theorem dG_startWalk_15 : decode prog_4_method_14_code 15 = .ok (.return_, 1) := by decide +kernel
theorem dG_walk_0 : decode prog_4_method_15_code 0 = .ok (.aload_n 0, 1) := by decide +kernel
theorem dG_walk_1 : decode prog_4_method_15_code 1 = .ok (.iconst 0, 1) := by decide +kernel
theorem dG_walk_2 : decode prog_4_method_15_code 2 = .ok (.putfield 67, 3) := by decide +kernel
theorem dG_walk_5 : decode prog_4_method_15_code 5 = .ok (.aload_n 0, 1) := by decide +kernel
theorem dG_walk_6 : decode prog_4_method_15_code 6 = .ok (.aload_n 0, 1) := by decide +kernel
theorem dG_walk_7 : decode prog_4_method_15_code 7 = .ok (.iload_n 1, 1) := by decide +kernel
theorem dG_walk_8 : decode prog_4_method_15_code 8 = .ok (.invokevirtual 63, 3) := by decide +kernel
theorem dG_walk_11 : decode prog_4_method_15_code 11 = .ok (.invokevirtual 85, 3) := by decide +kernel
theorem dG_walk_14 : decode prog_4_method_15_code 14 = .ok (.iconst 0, 1) := by decide +kernel
theorem dG_walk_15 : decode prog_4_method_15_code 15 = .ok (.istore_n 2, 1) := by decide +kernel
theorem dG_walk_16 : decode prog_4_method_15_code 16 = .ok (.aload_n 0, 1) := by decide +kernel
theorem dG_walk_17 : decode prog_4_method_15_code 17 = .ok (.getfield 67, 3) := by decide +kernel
theorem dG_walk_20 : decode prog_4_method_15_code 20 = .ok (.ifCond .le 152, 3) := by decide +kernel
theorem dG_walk_23 : decode prog_4_method_15_code 23 = .ok (.iload_n 2, 1) := by decide +kernel
theorem dG_walk_24 : decode prog_4_method_15_code 24 = .ok (.ldc 74, 2) := by decide +kernel
theorem dG_walk_26 : decode prog_4_method_15_code 26 = .ok (.if_icmp .ge 146, 3) := by decide +kernel
theorem dG_walk_29 : decode prog_4_method_15_code 29 = .ok (.aload_n 0, 1) := by decide +kernel
theorem dG_walk_30 : decode prog_4_method_15_code 30 = .ok (.dup, 1) := by decide +kernel
theorem dG_walk_31 : decode prog_4_method_15_code 31 = .ok (.getfield 67, 3) := by decide +kernel
theorem dG_walk_34 : decode prog_4_method_15_code 34 = .ok (.iconst 1, 1) := by decide +kernel
theorem dG_walk_35 : decode prog_4_method_15_code 35 = .ok (.isub, 1) := by decide +kernel
theorem dG_walk_36 : decode prog_4_method_15_code 36 = .ok (.putfield 67, 3) := by decide +kernel
theorem dG_walk_39 : decode prog_4_method_15_code 39 = .ok (.aload_n 0, 1) := by decide +kernel
theorem dG_walk_40 : decode prog_4_method_15_code 40 = .ok (.getfield 42, 3) := by decide +kernel
theorem dG_walk_43 : decode prog_4_method_15_code 43 = .ok (.aload_n 0, 1) := by decide +kernel
theorem dG_walk_44 : decode prog_4_method_15_code 44 = .ok (.getfield 67, 3) := by decide +kernel
theorem dG_walk_47 : decode prog_4_method_15_code 47 = .ok (.iaload, 1) := by decide +kernel
theorem dG_walk_48 : decode prog_4_method_15_code 48 = .ok (.istore_n 3, 1) := by decide +kernel
theorem dG_walk_49 : decode prog_4_method_15_code 49 = .ok (.iload_n 3, 1) := by decide +kernel
theorem dG_walk_50 : decode prog_4_method_15_code 50 = .ok (.ifCond .ge 28, 3) := by decide +kernel
theorem dG_walk_53 : decode prog_4_method_15_code 53 = .ok (.aload_n 0, 1) := by decide +kernel
theorem dG_walk_54 : decode prog_4_method_15_code 54 = .ok (.getfield 39, 3) := by decide +kernel
theorem dG_walk_57 : decode prog_4_method_15_code 57 = .ok (.aload_n 0, 1) := by decide +kernel
theorem dG_walk_58 : decode prog_4_method_15_code 58 = .ok (.getfield 91, 3) := by decide +kernel
theorem dG_walk_61 : decode prog_4_method_15_code 61 = .ok (.iconst (-1), 1) := by decide +kernel
theorem dG_walk_62 : decode prog_4_method_15_code 62 = .ok (.iload_n 3, 1) := by decide +kernel
theorem dG_walk_63 : decode prog_4_method_15_code 63 = .ok (.isub, 1) := by decide +kernel
theorem dG_walk_64 : decode prog_4_method_15_code 64 = .ok (.iastore, 1) := by decide +kernel
theorem dG_walk_65 : decode prog_4_method_15_code 65 = .ok (.aload_n 0, 1) := by decide +kernel
theorem dG_walk_66 : decode prog_4_method_15_code 66 = .ok (.dup, 1) := by decide +kernel
theorem dG_walk_67 : decode prog_4_method_15_code 67 = .ok (.getfield 91, 3) := by decide +kernel
theorem dG_walk_70 : decode prog_4_method_15_code 70 = .ok (.iconst 1, 1) := by decide +kernel
theorem dG_walk_71 : decode prog_4_method_15_code 71 = .ok (.iadd, 1) := by decide +kernel
theorem dG_walk_72 : decode prog_4_method_15_code 72 = .ok (.putfield 91, 3) := by decide +kernel
theorem dG_walk_75 : decode prog_4_method_15_code 75 = .ok (.goto 91, 3) := by decide +kernel
theorem dG_walk_78 : decode prog_4_method_15_code 78 = .ok (.aload_n 0, 1) := by decide +kernel
theorem dG_walk_79 : decode prog_4_method_15_code 79 = .ok (.getfield 33, 3) := by decide +kernel
theorem dG_walk_82 : decode prog_4_method_15_code 82 = .ok (.iload_n 3, 1) := by decide +kernel
theorem dG_walk_83 : decode prog_4_method_15_code 83 = .ok (.iaload, 1) := by decide +kernel
theorem dG_walk_84 : decode prog_4_method_15_code 84 = .ok (.aload_n 0, 1) := by decide +kernel
theorem dG_walk_85 : decode prog_4_method_15_code 85 = .ok (.getfield 88, 3) := by decide +kernel
theorem dG_walk_88 : decode prog_4_method_15_code 88 = .ok (.if_icmp .ne 6, 3) := by decide +kernel
theorem dG_walk_91 : decode prog_4_method_15_code 91 = .ok (.goto 75, 3) := by decide +kernel
theorem dG_walk_94 : decode prog_4_method_15_code 94 = .ok (.aload_n 0, 1) := by decide +kernel
theorem dG_walk_95 : decode prog_4_method_15_code 95 = .ok (.getfield 33, 3) := by decide +kernel
theorem dG_walk_98 : decode prog_4_method_15_code 98 = .ok (.iload_n 3, 1) := by decide +kernel
theorem dG_walk_99 : decode prog_4_method_15_code 99 = .ok (.aload_n 0, 1) := by decide +kernel
theorem dG_walk_100 : decode prog_4_method_15_code 100 = .ok (.getfield 88, 3) := by decide +kernel
theorem dG_walk_103 : decode prog_4_method_15_code 103 = .ok (.iastore, 1) := by decide +kernel
theorem dG_walk_104 : decode prog_4_method_15_code 104 = .ok (.aload_n 0, 1) := by decide +kernel
theorem dG_walk_105 : decode prog_4_method_15_code 105 = .ok (.getfield 36, 3) := by decide +kernel
theorem dG_walk_108 : decode prog_4_method_15_code 108 = .ok (.iload_n 3, 1) := by decide +kernel
theorem dG_walk_109 : decode prog_4_method_15_code 109 = .ok (.iload_n 3, 1) := by decide +kernel
theorem dG_walk_110 : decode prog_4_method_15_code 110 = .ok (.iastore, 1) := by decide +kernel
theorem dG_walk_111 : decode prog_4_method_15_code 111 = .ok (.aload_n 0, 1) := by decide +kernel
theorem dG_walk_112 : decode prog_4_method_15_code 112 = .ok (.iconst (-1), 1) := by decide +kernel
theorem dG_walk_113 : decode prog_4_method_15_code 113 = .ok (.iload_n 3, 1) := by decide +kernel
theorem dG_walk_114 : decode prog_4_method_15_code 114 = .ok (.isub, 1) := by decide +kernel
theorem dG_walk_115 : decode prog_4_method_15_code 115 = .ok (.invokevirtual 85, 3) := by decide +kernel
theorem dG_walk_118 : decode prog_4_method_15_code 118 = .ok (.aload_n 0, 1) := by decide +kernel
theorem dG_walk_119 : decode prog_4_method_15_code 119 = .ok (.getfield 18, 3) := by decide +kernel
theorem dG_walk_122 : decode prog_4_method_15_code 122 = .ok (.iload_n 3, 1) := by decide +kernel
theorem dG_walk_123 : decode prog_4_method_15_code 123 = .ok (.iaload, 1) := by decide +kernel
theorem dG_walk_124 : decode prog_4_method_15_code 124 = .ok (.iconst (-1), 1) := by decide +kernel
theorem dG_walk_125 : decode prog_4_method_15_code 125 = .ok (.if_icmp .eq 17, 3) := by decide +kernel
theorem dG_walk_128 : decode prog_4_method_15_code 128 = .ok (.aload_n 0, 1) := by decide +kernel
theorem dG_walk_129 : decode prog_4_method_15_code 129 = .ok (.aload_n 0, 1) := by decide +kernel
theorem dG_walk_130 : decode prog_4_method_15_code 130 = .ok (.aload_n 0, 1) := by decide +kernel
theorem dG_walk_131 : decode prog_4_method_15_code 131 = .ok (.getfield 18, 3) := by decide +kernel
theorem dG_walk_134 : decode prog_4_method_15_code 134 = .ok (.iload_n 3, 1) := by decide +kernel
theorem dG_walk_135 : decode prog_4_method_15_code 135 = .ok (.iaload, 1) := by decide +kernel
theorem dG_walk_136 : decode prog_4_method_15_code 136 = .ok (.invokevirtual 63, 3) := by decide +kernel
theorem dG_walk_139 : decode prog_4_method_15_code 139 = .ok (.invokevirtual 85, 3) := by decide +kernel
theorem dG_walk_142 : decode prog_4_method_15_code 142 = .ok (.aload_n 0, 1) := by decide +kernel
theorem dG_walk_143 : decode prog_4_method_15_code 143 = .ok (.getfield 15, 3) := by decide +kernel
theorem dG_walk_146 : decode prog_4_method_15_code 146 = .ok (.iload_n 3, 1) := by decide +kernel
theorem dG_walk_147 : decode prog_4_method_15_code 147 = .ok (.iaload, 1) := by decide +kernel
theorem dG_walk_148 : decode prog_4_method_15_code 148 = .ok (.iconst (-1), 1) := by decide +kernel
theorem dG_walk_149 : decode prog_4_method_15_code 149 = .ok (.if_icmp .eq 17, 3) := by decide +kernel
theorem dG_walk_152 : decode prog_4_method_15_code 152 = .ok (.aload_n 0, 1) := by decide +kernel
theorem dG_walk_153 : decode prog_4_method_15_code 153 = .ok (.aload_n 0, 1) := by decide +kernel
theorem dG_walk_154 : decode prog_4_method_15_code 154 = .ok (.aload_n 0, 1) := by decide +kernel
theorem dG_walk_155 : decode prog_4_method_15_code 155 = .ok (.getfield 15, 3) := by decide +kernel
theorem dG_walk_158 : decode prog_4_method_15_code 158 = .ok (.iload_n 3, 1) := by decide +kernel
theorem dG_walk_159 : decode prog_4_method_15_code 159 = .ok (.iaload, 1) := by decide +kernel
theorem dG_walk_160 : decode prog_4_method_15_code 160 = .ok (.invokevirtual 63, 3) := by decide +kernel
theorem dG_walk_163 : decode prog_4_method_15_code 163 = .ok (.invokevirtual 85, 3) := by decide +kernel
theorem dG_walk_166 : decode prog_4_method_15_code 166 = .ok (.iinc 2 1, 3) := by decide +kernel
theorem dG_walk_169 : decode prog_4_method_15_code 169 = .ok (.goto (-153), 3) := by decide +kernel
theorem dG_walk_172 : decode prog_4_method_15_code 172 = .ok (.return_, 1) := by decide +kernel
theorem dG_copyOf_0 : decode prog_4_method_16_code 0 = .ok (.aload_n 0, 1) := by decide +kernel
theorem dG_copyOf_1 : decode prog_4_method_16_code 1 = .ok (.invokevirtual 94, 3) := by decide +kernel
theorem dG_copyOf_4 : decode prog_4_method_16_code 4 = .ok (.aload_n 0, 1) := by decide +kernel
theorem dG_copyOf_5 : decode prog_4_method_16_code 5 = .ok (.iload_n 1, 1) := by decide +kernel
theorem dG_copyOf_6 : decode prog_4_method_16_code 6 = .ok (.invokevirtual 97, 3) := by decide +kernel
theorem dG_copyOf_9 : decode prog_4_method_16_code 9 = .ok (.iconst 0, 1) := by decide +kernel
theorem dG_copyOf_10 : decode prog_4_method_16_code 10 = .ok (.istore_n 2, 1) := by decide +kernel
theorem dG_copyOf_11 : decode prog_4_method_16_code 11 = .ok (.iload_n 2, 1) := by decide +kernel
theorem dG_copyOf_12 : decode prog_4_method_16_code 12 = .ok (.aload_n 0, 1) := by decide +kernel
theorem dG_copyOf_13 : decode prog_4_method_16_code 13 = .ok (.getfield 91, 3) := by decide +kernel
theorem dG_copyOf_16 : decode prog_4_method_16_code 16 = .ok (.if_icmp .ge 82, 3) := by decide +kernel
theorem dG_copyOf_19 : decode prog_4_method_16_code 19 = .ok (.aload_n 0, 1) := by decide +kernel
theorem dG_copyOf_20 : decode prog_4_method_16_code 20 = .ok (.getfield 39, 3) := by decide +kernel
theorem dG_copyOf_23 : decode prog_4_method_16_code 23 = .ok (.iload_n 2, 1) := by decide +kernel
theorem dG_copyOf_24 : decode prog_4_method_16_code 24 = .ok (.iaload, 1) := by decide +kernel
theorem dG_copyOf_25 : decode prog_4_method_16_code 25 = .ok (.istore_n 3, 1) := by decide +kernel
theorem dG_copyOf_26 : decode prog_4_method_16_code 26 = .ok (.aload_n 0, 1) := by decide +kernel
theorem dG_copyOf_27 : decode prog_4_method_16_code 27 = .ok (.getfield 27, 3) := by decide +kernel
theorem dG_copyOf_30 : decode prog_4_method_16_code 30 = .ok (.iload_n 3, 1) := by decide +kernel
theorem dG_copyOf_31 : decode prog_4_method_16_code 31 = .ok (.iaload, 1) := by decide +kernel
theorem dG_copyOf_32 : decode prog_4_method_16_code 32 = .ok (.iconst 1, 1) := by decide +kernel
theorem dG_copyOf_33 : decode prog_4_method_16_code 33 = .ok (.if_icmp .ne 59, 3) := by decide +kernel
theorem dG_copyOf_36 : decode prog_4_method_16_code 36 = .ok (.aload_n 0, 1) := by decide +kernel
theorem dG_copyOf_37 : decode prog_4_method_16_code 37 = .ok (.aload_n 0, 1) := by decide +kernel
theorem dG_copyOf_38 : decode prog_4_method_16_code 38 = .ok (.getfield 9, 3) := by decide +kernel
theorem dG_copyOf_41 : decode prog_4_method_16_code 41 = .ok (.iload_n 3, 1) := by decide +kernel
theorem dG_copyOf_42 : decode prog_4_method_16_code 42 = .ok (.iaload, 1) := by decide +kernel
theorem dG_copyOf_43 : decode prog_4_method_16_code 43 = .ok (.aload_n 0, 1) := by decide +kernel
theorem dG_copyOf_44 : decode prog_4_method_16_code 44 = .ok (.aload_n 0, 1) := by decide +kernel
theorem dG_copyOf_45 : decode prog_4_method_16_code 45 = .ok (.getfield 15, 3) := by decide +kernel
theorem dG_copyOf_48 : decode prog_4_method_16_code 48 = .ok (.iload_n 3, 1) := by decide +kernel
theorem dG_copyOf_49 : decode prog_4_method_16_code 49 = .ok (.iaload, 1) := by decide +kernel
theorem dG_copyOf_50 : decode prog_4_method_16_code 50 = .ok (.invokevirtual 100, 3) := by decide +kernel
theorem dG_copyOf_53 : decode prog_4_method_16_code 53 = .ok (.aload_n 0, 1) := by decide +kernel
theorem dG_copyOf_54 : decode prog_4_method_16_code 54 = .ok (.aload_n 0, 1) := by decide +kernel
theorem dG_copyOf_55 : decode prog_4_method_16_code 55 = .ok (.getfield 18, 3) := by decide +kernel
theorem dG_copyOf_58 : decode prog_4_method_16_code 58 = .ok (.iload_n 3, 1) := by decide +kernel
theorem dG_copyOf_59 : decode prog_4_method_16_code 59 = .ok (.iaload, 1) := by decide +kernel
theorem dG_copyOf_60 : decode prog_4_method_16_code 60 = .ok (.invokevirtual 100, 3) := by decide +kernel
theorem dG_copyOf_63 : decode prog_4_method_16_code 63 = .ok (.invokevirtual 103, 3) := by decide +kernel
theorem dG_copyOf_66 : decode prog_4_method_16_code 66 = .ok (.istore 4, 2) := by decide +kernel
theorem dG_copyOf_68 : decode prog_4_method_16_code 68 = .ok (.aload_n 0, 1) := by decide +kernel
theorem dG_copyOf_69 : decode prog_4_method_16_code 69 = .ok (.getfield 36, 3) := by decide +kernel
theorem dG_copyOf_72 : decode prog_4_method_16_code 72 = .ok (.iload_n 3, 1) := by decide +kernel
theorem dG_copyOf_73 : decode prog_4_method_16_code 73 = .ok (.iload 4, 2) := by decide +kernel
theorem dG_copyOf_75 : decode prog_4_method_16_code 75 = .ok (.iastore, 1) := by decide +kernel
theorem dG_copyOf_76 : decode prog_4_method_16_code 76 = .ok (.aload_n 0, 1) := by decide +kernel
theorem dG_copyOf_77 : decode prog_4_method_16_code 77 = .ok (.getfield 21, 3) := by decide +kernel
theorem dG_copyOf_80 : decode prog_4_method_16_code 80 = .ok (.iload 4, 2) := by decide +kernel
theorem dG_copyOf_82 : decode prog_4_method_16_code 82 = .ok (.dup2, 1) := by decide +kernel
theorem dG_copyOf_83 : decode prog_4_method_16_code 83 = .ok (.iaload, 1) := by decide +kernel
theorem dG_copyOf_84 : decode prog_4_method_16_code 84 = .ok (.aload_n 0, 1) := by decide +kernel
theorem dG_copyOf_85 : decode prog_4_method_16_code 85 = .ok (.getfield 24, 3) := by decide +kernel
theorem dG_copyOf_88 : decode prog_4_method_16_code 88 = .ok (.iload_n 3, 1) := by decide +kernel
theorem dG_copyOf_89 : decode prog_4_method_16_code 89 = .ok (.iaload, 1) := by decide +kernel
theorem dG_copyOf_90 : decode prog_4_method_16_code 90 = .ok (.ior, 1) := by decide +kernel
theorem dG_copyOf_91 : decode prog_4_method_16_code 91 = .ok (.iastore, 1) := by decide +kernel
theorem dG_copyOf_92 : decode prog_4_method_16_code 92 = .ok (.iinc 2 1, 3) := by decide +kernel
theorem dG_copyOf_95 : decode prog_4_method_16_code 95 = .ok (.goto (-84), 3) := by decide +kernel
theorem dG_copyOf_98 : decode prog_4_method_16_code 98 = .ok (.aload_n 0, 1) := by decide +kernel
theorem dG_copyOf_99 : decode prog_4_method_16_code 99 = .ok (.iload_n 1, 1) := by decide +kernel
theorem dG_copyOf_100 : decode prog_4_method_16_code 100 = .ok (.invokevirtual 100, 3) := by decide +kernel
theorem dG_copyOf_103 : decode prog_4_method_16_code 103 = .ok (.ireturn, 1) := by decide +kernel
theorem dG_valueOf_0 : decode prog_4_method_17_code 0 = .ok (.iload_n 1, 1) := by decide +kernel
theorem dG_valueOf_1 : decode prog_4_method_17_code 1 = .ok (.iconst (-1), 1) := by decide +kernel
theorem dG_valueOf_2 : decode prog_4_method_17_code 2 = .ok (.if_icmp .ne 7, 3) := by decide +kernel
theorem dG_valueOf_5 : decode prog_4_method_17_code 5 = .ok (.iconst (-1), 1) := by decide +kernel
theorem dG_valueOf_6 : decode prog_4_method_17_code 6 = .ok (.goto 13, 3) := by decide +kernel
theorem dG_valueOf_9 : decode prog_4_method_17_code 9 = .ok (.aload_n 0, 1) := by decide +kernel
theorem dG_valueOf_10 : decode prog_4_method_17_code 10 = .ok (.getfield 36, 3) := by decide +kernel
theorem dG_valueOf_13 : decode prog_4_method_17_code 13 = .ok (.aload_n 0, 1) := by decide +kernel
theorem dG_valueOf_14 : decode prog_4_method_17_code 14 = .ok (.iload_n 1, 1) := by decide +kernel
theorem dG_valueOf_15 : decode prog_4_method_17_code 15 = .ok (.invokevirtual 63, 3) := by decide +kernel
theorem dG_valueOf_18 : decode prog_4_method_17_code 18 = .ok (.iaload, 1) := by decide +kernel
theorem dG_valueOf_19 : decode prog_4_method_17_code 19 = .ok (.ireturn, 1) := by decide +kernel
theorem dG_isCircular_0 : decode prog_4_method_18_code 0 = .ok (.aload_n 0, 1) := by decide +kernel
theorem dG_isCircular_1 : decode prog_4_method_18_code 1 = .ok (.invokevirtual 94, 3) := by decide +kernel
theorem dG_isCircular_4 : decode prog_4_method_18_code 4 = .ok (.iconst 0, 1) := by decide +kernel
theorem dG_isCircular_5 : decode prog_4_method_18_code 5 = .ok (.istore_n 1, 1) := by decide +kernel
theorem dG_isCircular_6 : decode prog_4_method_18_code 6 = .ok (.iload_n 1, 1) := by decide +kernel
theorem dG_isCircular_7 : decode prog_4_method_18_code 7 = .ok (.aload_n 0, 1) := by decide +kernel
theorem dG_isCircular_8 : decode prog_4_method_18_code 8 = .ok (.getfield 45, 3) := by decide +kernel
theorem dG_isCircular_11 : decode prog_4_method_18_code 11 = .ok (.if_icmp .ge 14, 3) := by decide +kernel
theorem dG_isCircular_14 : decode prog_4_method_18_code 14 = .ok (.aload_n 0, 1) := by decide +kernel
theorem dG_isCircular_15 : decode prog_4_method_18_code 15 = .ok (.iload_n 1, 1) := by decide +kernel
theorem dG_isCircular_16 : decode prog_4_method_18_code 16 = .ok (.invokevirtual 97, 3) := by decide +kernel
theorem dG_isCircular_19 : decode prog_4_method_18_code 19 = .ok (.iinc 1 1, 3) := by decide +kernel
theorem dG_isCircular_22 : decode prog_4_method_18_code 22 = .ok (.goto (-16), 3) := by decide +kernel
theorem dG_isCircular_25 : decode prog_4_method_18_code 25 = .ok (.iconst 0, 1) := by decide +kernel
theorem dG_isCircular_26 : decode prog_4_method_18_code 26 = .ok (.istore_n 1, 1) := by decide +kernel
theorem dG_isCircular_27 : decode prog_4_method_18_code 27 = .ok (.iload_n 1, 1) := by decide +kernel
theorem dG_isCircular_28 : decode prog_4_method_18_code 28 = .ok (.aload_n 0, 1) := by decide +kernel
theorem dG_isCircular_29 : decode prog_4_method_18_code 29 = .ok (.getfield 91, 3) := by decide +kernel
theorem dG_isCircular_32 : decode prog_4_method_18_code 32 = .ok (.if_icmp .ge 21, 3) := by decide +kernel
theorem dG_isCircular_35 : decode prog_4_method_18_code 35 = .ok (.aload_n 0, 1) := by decide +kernel
theorem dG_isCircular_36 : decode prog_4_method_18_code 36 = .ok (.getfield 36, 3) := by decide +kernel
theorem dG_isCircular_39 : decode prog_4_method_18_code 39 = .ok (.aload_n 0, 1) := by decide +kernel
theorem dG_isCircular_40 : decode prog_4_method_18_code 40 = .ok (.getfield 39, 3) := by decide +kernel
theorem dG_isCircular_43 : decode prog_4_method_18_code 43 = .ok (.iload_n 1, 1) := by decide +kernel
theorem dG_isCircular_44 : decode prog_4_method_18_code 44 = .ok (.iaload, 1) := by decide +kernel
theorem dG_isCircular_45 : decode prog_4_method_18_code 45 = .ok (.iload_n 1, 1) := by decide +kernel
theorem dG_isCircular_46 : decode prog_4_method_18_code 46 = .ok (.iastore, 1) := by decide +kernel
theorem dG_isCircular_47 : decode prog_4_method_18_code 47 = .ok (.iinc 1 1, 3) := by decide +kernel
theorem dG_isCircular_50 : decode prog_4_method_18_code 50 = .ok (.goto (-23), 3) := by decide +kernel
theorem dG_isCircular_53 : decode prog_4_method_18_code 53 = .ok (.iconst 0, 1) := by decide +kernel
theorem dG_isCircular_54 : decode prog_4_method_18_code 54 = .ok (.istore_n 1, 1) := by decide +kernel
theorem dG_isCircular_55 : decode prog_4_method_18_code 55 = .ok (.iload_n 1, 1) := by decide +kernel
theorem dG_isCircular_56 : decode prog_4_method_18_code 56 = .ok (.aload_n 0, 1) := by decide +kernel
theorem dG_isCircular_57 : decode prog_4_method_18_code 57 = .ok (.getfield 91, 3) := by decide +kernel
theorem dG_isCircular_60 : decode prog_4_method_18_code 60 = .ok (.if_icmp .ge 47, 3) := by decide +kernel
theorem dG_isCircular_63 : decode prog_4_method_18_code 63 = .ok (.aload_n 0, 1) := by decide +kernel
theorem dG_isCircular_64 : decode prog_4_method_18_code 64 = .ok (.aload_n 0, 1) := by decide +kernel
theorem dG_isCircular_65 : decode prog_4_method_18_code 65 = .ok (.aload_n 0, 1) := by decide +kernel
theorem dG_isCircular_66 : decode prog_4_method_18_code 66 = .ok (.getfield 39, 3) := by decide +kernel
theorem dG_isCircular_69 : decode prog_4_method_18_code 69 = .ok (.iload_n 1, 1) := by decide +kernel
theorem dG_isCircular_70 : decode prog_4_method_18_code 70 = .ok (.iaload, 1) := by decide +kernel
theorem dG_isCircular_71 : decode prog_4_method_18_code 71 = .ok (.invokevirtual 107, 3) := by decide +kernel
theorem dG_isCircular_74 : decode prog_4_method_18_code 74 = .ok (.iload_n 1, 1) := by decide +kernel
theorem dG_isCircular_75 : decode prog_4_method_18_code 75 = .ok (.invokevirtual 110, 3) := by decide +kernel
theorem dG_isCircular_78 : decode prog_4_method_18_code 78 = .ok (.ifCond .ne 21, 3) := by decide +kernel
theorem dG_isCircular_81 : decode prog_4_method_18_code 81 = .ok (.aload_n 0, 1) := by decide +kernel
theorem dG_isCircular_82 : decode prog_4_method_18_code 82 = .ok (.aload_n 0, 1) := by decide +kernel
theorem dG_isCircular_83 : decode prog_4_method_18_code 83 = .ok (.aload_n 0, 1) := by decide +kernel
theorem dG_isCircular_84 : decode prog_4_method_18_code 84 = .ok (.getfield 39, 3) := by decide +kernel
theorem dG_isCircular_87 : decode prog_4_method_18_code 87 = .ok (.iload_n 1, 1) := by decide +kernel
theorem dG_isCircular_88 : decode prog_4_method_18_code 88 = .ok (.iaload, 1) := by decide +kernel
theorem dG_isCircular_89 : decode prog_4_method_18_code 89 = .ok (.invokevirtual 114, 3) := by decide +kernel
theorem dG_isCircular_92 : decode prog_4_method_18_code 92 = .ok (.iload_n 1, 1) := by decide +kernel
theorem dG_isCircular_93 : decode prog_4_method_18_code 93 = .ok (.invokevirtual 110, 3) := by decide +kernel
theorem dG_isCircular_96 : decode prog_4_method_18_code 96 = .ok (.ifCond .eq 5, 3) := by decide +kernel
theorem dG_isCircular_99 : decode prog_4_method_18_code 99 = .ok (.iconst 1, 1) := by decide +kernel
theorem dG_isCircular_100 : decode prog_4_method_18_code 100 = .ok (.ireturn, 1) := by decide +kernel
theorem dG_isCircular_101 : decode prog_4_method_18_code 101 = .ok (.iinc 1 1, 3) := by decide +kernel
theorem dG_isCircular_104 : decode prog_4_method_18_code 104 = .ok (.goto (-49), 3) := by decide +kernel
theorem dG_isCircular_107 : decode prog_4_method_18_code 107 = .ok (.iconst 0, 1) := by decide +kernel
theorem dG_isCircular_108 : decode prog_4_method_18_code 108 = .ok (.ireturn, 1) := by decide +kernel
theorem dG_comesLater_0 : decode prog_4_method_19_code 0 = .ok (.iload_n 1, 1) := by decide +kernel
theorem dG_comesLater_1 : decode prog_4_method_19_code 1 = .ok (.iconst (-1), 1) := by decide +kernel
theorem dG_comesLater_2 : decode prog_4_method_19_code 2 = .ok (.if_icmp .eq 17, 3) := by decide +kernel
theorem dG_comesLater_5 : decode prog_4_method_19_code 5 = .ok (.aload_n 0, 1) := by decide +kernel
theorem dG_comesLater_6 : decode prog_4_method_19_code 6 = .ok (.getfield 36, 3) := by decide +kernel
theorem dG_comesLater_9 : decode prog_4_method_19_code 9 = .ok (.iload_n 1, 1) := by decide +kernel
theorem dG_comesLater_10 : decode prog_4_method_19_code 10 = .ok (.iaload, 1) := by decide +kernel
theorem dG_comesLater_11 : decode prog_4_method_19_code 11 = .ok (.iload_n 2, 1) := by decide +kernel
theorem dG_comesLater_12 : decode prog_4_method_19_code 12 = .ok (.if_icmp .lt 7, 3) := by decide +kernel
theorem dG_comesLater_15 : decode prog_4_method_19_code 15 = .ok (.iconst 1, 1) := by decide +kernel
theorem dG_comesLater_16 : decode prog_4_method_19_code 16 = .ok (.goto 4, 3) := by decide +kernel
theorem dG_comesLater_19 : decode prog_4_method_19_code 19 = .ok (.iconst 0, 1) := by decide +kernel
theorem dG_comesLater_20 : decode prog_4_method_19_code 20 = .ok (.ireturn, 1) := by decide +kernel
theorem dD_init_0 : decode prog_5_method_1_code 0 = .ok (.aload_n 0, 1) := by decide +kernel
theorem dD_init_1 : decode prog_5_method_1_code 1 = .ok (.invokespecial 3, 3) := by decide +kernel
theorem dD_init_4 : decode prog_5_method_1_code 4 = .ok (.aload_n 0, 1) := by decide +kernel
theorem dD_init_5 : decode prog_5_method_1_code 5 = .ok (.iconst 0, 1) := by decide +kernel
theorem dD_init_6 : decode prog_5_method_1_code 6 = .ok (.newarray .int, 2) := by decide +kernel
theorem dD_init_8 : decode prog_5_method_1_code 8 = .ok (.putfield 9, 3) := by decide +kernel
theorem dD_init_11 : decode prog_5_method_1_code 11 = .ok (.aload_n 0, 1) := by decide +kernel
theorem dD_init_12 : decode prog_5_method_1_code 12 = .ok (.iconst 0, 1) := by decide +kernel
theorem dD_init_13 : decode prog_5_method_1_code 13 = .ok (.newarray .int, 2) := by decide +kernel
theorem dD_init_15 : decode prog_5_method_1_code 15 = .ok (.putfield 15, 3) := by decide +kernel
theorem dD_init_18 : decode prog_5_method_1_code 18 = .ok (.aload_n 0, 1) := by decide +kernel
theorem dD_init_19 : decode prog_5_method_1_code 19 = .ok (.iconst 0, 1) := by decide +kernel
theorem dD_init_20 : decode prog_5_method_1_code 20 = .ok (.newarray .int, 2) := by decide +kernel
theorem dD_init_22 : decode prog_5_method_1_code 22 = .ok (.putfield 18, 3) := by decide +kernel
theorem dD_init_25 : decode prog_5_method_1_code 25 = .ok (.aload_n 0, 1) := by decide +kernel
theorem dD_init_26 : decode prog_5_method_1_code 26 = .ok (.iconst 0, 1) := by decide +kernel
theorem dD_init_27 : decode prog_5_method_1_code 27 = .ok (.newarray .long, 2) := by decide +kernel
theorem dD_init_29 : decode prog_5_method_1_code 29 = .ok (.putfield 21, 3) := by decide +kernel
theorem dD_init_32 : decode prog_5_method_1_code 32 = .ok (.aload_n 0, 1) := by decide +kernel
theorem dD_init_33 : decode prog_5_method_1_code 33 = .ok (.iconst 0, 1) := by decide +kernel
theorem dD_init_34 : decode prog_5_method_1_code 34 = .ok (.newarray .int, 2) := by decide +kernel
theorem dD_init_36 : decode prog_5_method_1_code 36 = .ok (.putfield 25, 3) := by decide +kernel
theorem dD_init_39 : decode prog_5_method_1_code 39 = .ok (.return_, 1) := by decide +kernel
theorem dD_restart_0 : decode prog_5_method_2_code 0 = .ok (.aload_n 0, 1) := by decide +kernel
theorem dD_restart_1 : decode prog_5_method_2_code 1 = .ok (.getfield 9, 3) := by decide +kernel
theorem dD_restart_4 : decode prog_5_method_2_code 4 = .ok (.arraylength, 1) := by decide +kernel
theorem dD_restart_5 : decode prog_5_method_2_code 5 = .ok (.iload_n 1, 1) := by decide +kernel
theorem dD_restart_6 : decode prog_5_method_2_code 6 = .ok (.if_icmp .ge 48, 3) := by decide +kernel
theorem dD_restart_9 : decode prog_5_method_2_code 9 = .ok (.aload_n 0, 1) := by decide +kernel
theorem dD_restart_10 : decode prog_5_method_2_code 10 = .ok (.iconst 2, 1) := by decide +kernel
theorem dD_restart_11 : decode prog_5_method_2_code 11 = .ok (.iload_n 1, 1) := by decide +kernel
theorem dD_restart_12 : decode prog_5_method_2_code 12 = .ok (.imul, 1) := by decide +kernel
theorem dD_restart_13 : decode prog_5_method_2_code 13 = .ok (.newarray .int, 2) := by decide +kernel
theorem dD_restart_15 : decode prog_5_method_2_code 15 = .ok (.putfield 9, 3) := by decide +kernel
theorem dD_restart_18 : decode prog_5_method_2_code 18 = .ok (.aload_n 0, 1) := by decide +kernel
theorem dD_restart_19 : decode prog_5_method_2_code 19 = .ok (.iconst 2, 1) := by decide +kernel
theorem dD_restart_20 : decode prog_5_method_2_code 20 = .ok (.iload_n 1, 1) := by decide +kernel
theorem dD_restart_21 : decode prog_5_method_2_code 21 = .ok (.imul, 1) := by decide +kernel
theorem dD_restart_22 : decode prog_5_method_2_code 22 = .ok (.newarray .int, 2) := by decide +kernel
theorem dD_restart_24 : decode prog_5_method_2_code 24 = .ok (.putfield 15, 3) := by decide +kernel
theorem dD_restart_27 : decode prog_5_method_2_code 27 = .ok (.aload_n 0, 1) := by decide +kernel
theorem dD_restart_28 : decode prog_5_method_2_code 28 = .ok (.iconst 2, 1) := by decide +kernel
theorem dD_restart_29 : decode prog_5_method_2_code 29 = .ok (.iload_n 1, 1) := by decide +kernel
theorem dD_restart_30 : decode prog_5_method_2_code 30 = .ok (.imul, 1) := by decide +kernel
theorem dD_restart_31 : decode prog_5_method_2_code 31 = .ok (.newarray .int, 2) := by decide +kernel
theorem dD_restart_33 : decode prog_5_method_2_code 33 = .ok (.putfield 18, 3) := by decide +kernel
theorem dD_restart_36 : decode prog_5_method_2_code 36 = .ok (.aload_n 0, 1) := by decide +kernel
theorem dD_restart_37 : decode prog_5_method_2_code 37 = .ok (.iconst 2, 1) := by decide +kernel
theorem dD_restart_38 : decode prog_5_method_2_code 38 = .ok (.iload_n 1, 1) := by decide +kernel
theorem dD_restart_39 : decode prog_5_method_2_code 39 = .ok (.imul, 1) := by decide +kernel
theorem dD_restart_40 : decode prog_5_method_2_code 40 = .ok (.newarray .long, 2) := by decide +kernel
theorem dD_restart_42 : decode prog_5_method_2_code 42 = .ok (.putfield 21, 3) := by decide +kernel
theorem dD_restart_45 : decode prog_5_method_2_code 45 = .ok (.aload_n 0, 1) := by decide +kernel
theorem dD_restart_46 : decode prog_5_method_2_code 46 = .ok (.iconst 2, 1) := by decide +kernel
theorem dD_restart_47 : decode prog_5_method_2_code 47 = .ok (.iload_n 1, 1) := by decide +kernel
theorem dD_restart_48 : decode prog_5_method_2_code 48 = .ok (.imul, 1) := by decide +kernel
theorem dD_restart_49 : decode prog_5_method_2_code 49 = .ok (.newarray .int, 2) := by decide +kernel
theorem dD_restart_51 : decode prog_5_method_2_code 51 = .ok (.putfield 25, 3) := by decide +kernel
theorem dD_restart_54 : decode prog_5_method_2_code 54 = .ok (.aload_n 0, 1) := by decide +kernel
theorem dD_restart_55 : decode prog_5_method_2_code 55 = .ok (.iconst 0, 1) := by decide +kernel
theorem dD_restart_56 : decode prog_5_method_2_code 56 = .ok (.putfield 28, 3) := by decide +kernel
theorem dD_restart_59 : decode prog_5_method_2_code 59 = .ok (.aload_n 0, 1) := by decide +kernel
theorem dD_restart_60 : decode prog_5_method_2_code 60 = .ok (.iconst 0, 1) := by decide +kernel
theorem dD_restart_61 : decode prog_5_method_2_code 61 = .ok (.putfield 32, 3) := by decide +kernel
theorem dD_restart_64 : decode prog_5_method_2_code 64 = .ok (.aload_n 0, 1) := by decide +kernel
theorem dD_restart_65 : decode prog_5_method_2_code 65 = .ok (.iconst 0, 1) := by decide +kernel
theorem dD_restart_66 : decode prog_5_method_2_code 66 = .ok (.putfield 35, 3) := by decide +kernel
theorem dD_restart_69 : decode prog_5_method_2_code 69 = .ok (.aload_n 0, 1) := by decide +kernel
theorem dD_restart_70 : decode prog_5_method_2_code 70 = .ok (.iload_n 2, 1) := by decide +kernel
theorem dD_restart_71 : decode prog_5_method_2_code 71 = .ok (.putfield 38, 3) := by decide +kernel
theorem dD_restart_74 : decode prog_5_method_2_code 74 = .ok (.return_, 1) := by decide +kernel
theorem dD_addVariable_0 : decode prog_5_method_3_code 0 = .ok (.aload_n 0, 1) := by decide +kernel
theorem dD_addVariable_1 : decode prog_5_method_3_code 1 = .ok (.getfield 32, 3) := by decide +kernel
theorem dD_addVariable_4 : decode prog_5_method_3_code 4 = .ok (.aload_n 0, 1) := by decide +kernel
theorem dD_addVariable_5 : decode prog_5_method_3_code 5 = .ok (.getfield 25, 3) := by decide +kernel
theorem dD_addVariable_8 : decode prog_5_method_3_code 8 = .ok (.arraylength, 1) := by decide +kernel
theorem dD_addVariable_9 : decode prog_5_method_3_code 9 = .ok (.if_icmp .ge 47, 3) := by decide +kernel
theorem dD_addVariable_12 : decode prog_5_method_3_code 12 = .ok (.aload_n 0, 1) := by decide +kernel
theorem dD_addVariable_13 : decode prog_5_method_3_code 13 = .ok (.getfield 25, 3) := by decide +kernel
theorem dD_addVariable_16 : decode prog_5_method_3_code 16 = .ok (.aload_n 0, 1) := by decide +kernel
theorem dD_addVariable_17 : decode prog_5_method_3_code 17 = .ok (.getfield 32, 3) := by decide +kernel
theorem dD_addVariable_20 : decode prog_5_method_3_code 20 = .ok (.iload_n 1, 1) := by decide +kernel
theorem dD_addVariable_21 : decode prog_5_method_3_code 21 = .ok (.iastore, 1) := by decide +kernel
theorem dD_addVariable_22 : decode prog_5_method_3_code 22 = .ok (.aload_n 0, 1) := by decide +kernel
theorem dD_addVariable_23 : decode prog_5_method_3_code 23 = .ok (.dup, 1) := by decide +kernel
theorem dD_addVariable_24 : decode prog_5_method_3_code 24 = .ok (.getfield 32, 3) := by decide +kernel
theorem dD_addVariable_27 : decode prog_5_method_3_code 27 = .ok (.iconst 1, 1) := by decide +kernel
theorem dD_addVariable_28 : decode prog_5_method_3_code 28 = .ok (.iadd, 1) := by decide +kernel
theorem dD_addVariable_29 : decode prog_5_method_3_code 29 = .ok (.putfield 32, 3) := by decide +kernel
theorem dD_addVariable_32 : decode prog_5_method_3_code 32 = .ok (.aload_n 0, 1) := by decide +kernel
theorem dD_addVariable_33 : decode prog_5_method_3_code 33 = .ok (.dup, 1) := by decide +kernel
theorem dD_addVariable_34 : decode prog_5_method_3_code 34 = .ok (.getfield 35, 3) := by decide +kernel
theorem dD_addVariable_37 : decode prog_5_method_3_code 37 = .ok (.iload_n 1, 1) := by decide +kernel
theorem dD_addVariable_38 : decode prog_5_method_3_code 38 = .ok (.invokestatic 41, 3) := by decide +kernel
theorem dD_addVariable_41 : decode prog_5_method_3_code 41 = .ok (.iadd, 1) := by decide +kernel
theorem dD_addVariable_42 : decode prog_5_method_3_code 42 = .ok (.putfield 35, 3) := by decide +kernel
theorem dD_addVariable_45 : decode prog_5_method_3_code 45 = .ok (.aload_n 0, 1) := by decide +kernel
theorem dD_addVariable_46 : decode prog_5_method_3_code 46 = .ok (.aload_n 0, 1) := by decide +kernel
theorem dD_addVariable_47 : decode prog_5_method_3_code 47 = .ok (.getfield 32, 3) := by decide +kernel
theorem dD_addVariable_50 : decode prog_5_method_3_code 50 = .ok (.ineg, 1) := by decide +kernel
theorem dD_addVariable_51 : decode prog_5_method_3_code 51 = .ok (.iconst (-1), 1) := by decide +kernel
theorem dD_addVariable_52 : decode prog_5_method_3_code 52 = .ok (.iconst (-1), 1) := by decide +kernel
theorem dD_addVariable_53 : decode prog_5_method_3_code 53 = .ok (.invokevirtual 47, 3) := by decide +kernel
theorem dD_addVariable_56 : decode prog_5_method_3_code 56 = .ok (.return_, 1) := by decide +kernel
