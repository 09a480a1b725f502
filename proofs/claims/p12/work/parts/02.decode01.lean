theorem dT_addBuilt_0 : decode prog_6_method_9_code 0 = .ok (.aload_n 0, 1) := by decide +kernel
theorem dT_addBuilt_1 : decode prog_6_method_9_code 1 = .ok (.iload_n 1, 1) := by decide +kernel
theorem dT_addBuilt_2 : decode prog_6_method_9_code 2 = .ok (.iload_n 2, 1) := by decide +kernel
theorem dT_addBuilt_3 : decode prog_6_method_9_code 3 = .ok (.iload_n 3, 1) := by decide +kernel
theorem dT_addBuilt_4 : decode prog_6_method_9_code 4 = .ok (.invokevirtual 37, 3) := by decide +kernel
theorem dT_addBuilt_7 : decode prog_6_method_9_code 7 = .ok (.istore 4, 2) := by decide +kernel
theorem dT_addBuilt_9 : decode prog_6_method_9_code 9 = .ok (.iload 4, 2) := by decide +kernel
theorem dT_addBuilt_11 : decode prog_6_method_9_code 11 = .ok (.iconst (-1), 1) := by decide +kernel
theorem dT_addBuilt_12 : decode prog_6_method_9_code 12 = .ok (.if_icmp .eq 6, 3) := by decide +kernel
theorem dT_addBuilt_15 : decode prog_6_method_9_code 15 = .ok (.iload 4, 2) := by decide +kernel
theorem dT_addBuilt_17 : decode prog_6_method_9_code 17 = .ok (.ireturn, 1) := by decide +kernel
theorem dT_addBuilt_18 : decode prog_6_method_9_code 18 = .ok (.iconst 1, 1) := by decide +kernel
theorem dT_addBuilt_19 : decode prog_6_method_9_code 19 = .ok (.iload_n 2, 1) := by decide +kernel
theorem dT_addBuilt_20 : decode prog_6_method_9_code 20 = .ok (.iconst (-1), 1) := by decide +kernel
theorem dT_addBuilt_21 : decode prog_6_method_9_code 21 = .ok (.if_icmp .ne 7, 3) := by decide +kernel
theorem dT_addBuilt_24 : decode prog_6_method_9_code 24 = .ok (.iconst 0, 1) := by decide +kernel
theorem dT_addBuilt_25 : decode prog_6_method_9_code 25 = .ok (.goto 9, 3) := by decide +kernel
theorem dT_addBuilt_28 : decode prog_6_method_9_code 28 = .ok (.aload_n 0, 1) := by decide +kernel
theorem dT_addBuilt_29 : decode prog_6_method_9_code 29 = .ok (.getfield 24, 3) := by decide +kernel
theorem dT_addBuilt_32 : decode prog_6_method_9_code 32 = .ok (.iload_n 2, 1) := by decide +kernel
theorem dT_addBuilt_33 : decode prog_6_method_9_code 33 = .ok (.iaload, 1) := by decide +kernel
theorem dT_addBuilt_34 : decode prog_6_method_9_code 34 = .ok (.iadd, 1) := by decide +kernel
theorem dT_addBuilt_35 : decode prog_6_method_9_code 35 = .ok (.iload_n 3, 1) := by decide +kernel
theorem dT_addBuilt_36 : decode prog_6_method_9_code 36 = .ok (.iconst (-1), 1) := by decide +kernel
theorem dT_addBuilt_37 : decode prog_6_method_9_code 37 = .ok (.if_icmp .ne 7, 3) := by decide +kernel
theorem dT_addBuilt_40 : decode prog_6_method_9_code 40 = .ok (.iconst 0, 1) := by decide +kernel
theorem dT_addBuilt_41 : decode prog_6_method_9_code 41 = .ok (.goto 9, 3) := by decide +kernel
theorem dT_addBuilt_44 : decode prog_6_method_9_code 44 = .ok (.aload_n 0, 1) := by decide +kernel
theorem dT_addBuilt_45 : decode prog_6_method_9_code 45 = .ok (.getfield 24, 3) := by decide +kernel
theorem dT_addBuilt_48 : decode prog_6_method_9_code 48 = .ok (.iload_n 3, 1) := by decide +kernel
theorem dT_addBuilt_49 : decode prog_6_method_9_code 49 = .ok (.iaload, 1) := by decide +kernel
theorem dT_addBuilt_50 : decode prog_6_method_9_code 50 = .ok (.iadd, 1) := by decide +kernel
theorem dT_addBuilt_51 : decode prog_6_method_9_code 51 = .ok (.istore 5, 2) := by decide +kernel
theorem dT_addBuilt_53 : decode prog_6_method_9_code 53 = .ok (.iload_n 2, 1) := by decide +kernel
theorem dT_addBuilt_54 : decode prog_6_method_9_code 54 = .ok (.iconst (-1), 1) := by decide +kernel
theorem dT_addBuilt_55 : decode prog_6_method_9_code 55 = .ok (.if_icmp .ne 7, 3) := by decide +kernel
theorem dT_addBuilt_58 : decode prog_6_method_9_code 58 = .ok (.iconst 0, 1) := by decide +kernel
theorem dT_addBuilt_59 : decode prog_6_method_9_code 59 = .ok (.goto 9, 3) := by decide +kernel
theorem dT_addBuilt_62 : decode prog_6_method_9_code 62 = .ok (.aload_n 0, 1) := by decide +kernel
theorem dT_addBuilt_63 : decode prog_6_method_9_code 63 = .ok (.getfield 27, 3) := by decide +kernel
theorem dT_addBuilt_66 : decode prog_6_method_9_code 66 = .ok (.iload_n 2, 1) := by decide +kernel
theorem dT_addBuilt_67 : decode prog_6_method_9_code 67 = .ok (.iaload, 1) := by decide +kernel
theorem dT_addBuilt_68 : decode prog_6_method_9_code 68 = .ok (.iload_n 3, 1) := by decide +kernel
theorem dT_addBuilt_69 : decode prog_6_method_9_code 69 = .ok (.iconst (-1), 1) := by decide +kernel
theorem dT_addBuilt_70 : decode prog_6_method_9_code 70 = .ok (.if_icmp .ne 7, 3) := by decide +kernel
theorem dT_addBuilt_73 : decode prog_6_method_9_code 73 = .ok (.iconst 0, 1) := by decide +kernel
theorem dT_addBuilt_74 : decode prog_6_method_9_code 74 = .ok (.goto 9, 3) := by decide +kernel
theorem dT_addBuilt_77 : decode prog_6_method_9_code 77 = .ok (.aload_n 0, 1) := by decide +kernel
theorem dT_addBuilt_78 : decode prog_6_method_9_code 78 = .ok (.getfield 27, 3) := by decide +kernel
theorem dT_addBuilt_81 : decode prog_6_method_9_code 81 = .ok (.iload_n 3, 1) := by decide +kernel
theorem dT_addBuilt_82 : decode prog_6_method_9_code 82 = .ok (.iaload, 1) := by decide +kernel
theorem dT_addBuilt_83 : decode prog_6_method_9_code 83 = .ok (.ior, 1) := by decide +kernel
theorem dT_addBuilt_84 : decode prog_6_method_9_code 84 = .ok (.istore 6, 2) := by decide +kernel
theorem dT_addBuilt_86 : decode prog_6_method_9_code 86 = .ok (.iload 5, 2) := by decide +kernel
theorem dT_addBuilt_88 : decode prog_6_method_9_code 88 = .ok (.bipush 16, 2) := by decide +kernel
theorem dT_addBuilt_90 : decode prog_6_method_9_code 90 = .ok (.if_icmp .le 6, 3) := by decide +kernel
theorem dT_addBuilt_93 : decode prog_6_method_9_code 93 = .ok (.bipush (-3), 2) := by decide +kernel
theorem dT_addBuilt_95 : decode prog_6_method_9_code 95 = .ok (.ireturn, 1) := by decide +kernel
theorem dT_addBuilt_96 : decode prog_6_method_9_code 96 = .ok (.aload_n 0, 1) := by decide +kernel
theorem dT_addBuilt_97 : decode prog_6_method_9_code 97 = .ok (.iload_n 1, 1) := by decide +kernel
theorem dT_addBuilt_98 : decode prog_6_method_9_code 98 = .ok (.iload_n 2, 1) := by decide +kernel
theorem dT_addBuilt_99 : decode prog_6_method_9_code 99 = .ok (.iload_n 3, 1) := by decide +kernel
theorem dT_addBuilt_100 : decode prog_6_method_9_code 100 = .ok (.iload 5, 2) := by decide +kernel
theorem dT_addBuilt_102 : decode prog_6_method_9_code 102 = .ok (.iload 6, 2) := by decide +kernel
theorem dT_addBuilt_104 : decode prog_6_method_9_code 104 = .ok (.invokevirtual 41, 3) := by decide +kernel
theorem dT_addBuilt_107 : decode prog_6_method_9_code 107 = .ok (.ireturn, 1) := by decide +kernel
theorem dT_search_0 : decode prog_6_method_10_code 0 = .ok (.iconst 0, 1) := by decide +kernel
theorem dT_search_1 : decode prog_6_method_10_code 1 = .ok (.istore 4, 2) := by decide +kernel
theorem dT_search_3 : decode prog_6_method_10_code 3 = .ok (.iload 4, 2) := by decide +kernel
theorem dT_search_5 : decode prog_6_method_10_code 5 = .ok (.aload_n 0, 1) := by decide +kernel
theorem dT_search_6 : decode prog_6_method_10_code 6 = .ok (.getfield 34, 3) := by decide +kernel
theorem dT_search_9 : decode prog_6_method_10_code 9 = .ok (.if_icmp .ge 45, 3) := by decide +kernel
theorem dT_search_12 : decode prog_6_method_10_code 12 = .ok (.aload_n 0, 1) := by decide +kernel
theorem dT_search_13 : decode prog_6_method_10_code 13 = .ok (.getfield 15, 3) := by decide +kernel
theorem dT_search_16 : decode prog_6_method_10_code 16 = .ok (.iload 4, 2) := by decide +kernel
theorem dT_search_18 : decode prog_6_method_10_code 18 = .ok (.iaload, 1) := by decide +kernel
theorem dT_search_19 : decode prog_6_method_10_code 19 = .ok (.iload_n 1, 1) := by decide +kernel
theorem dT_search_20 : decode prog_6_method_10_code 20 = .ok (.if_icmp .ne 28, 3) := by decide +kernel
theorem dT_search_23 : decode prog_6_method_10_code 23 = .ok (.aload_n 0, 1) := by decide +kernel
theorem dT_search_24 : decode prog_6_method_10_code 24 = .ok (.getfield 18, 3) := by decide +kernel
theorem dT_search_27 : decode prog_6_method_10_code 27 = .ok (.iload 4, 2) := by decide +kernel
theorem dT_search_29 : decode prog_6_method_10_code 29 = .ok (.iaload, 1) := by decide +kernel
theorem dT_search_30 : decode prog_6_method_10_code 30 = .ok (.iload_n 2, 1) := by decide +kernel
theorem dT_search_31 : decode prog_6_method_10_code 31 = .ok (.if_icmp .ne 17, 3) := by decide +kernel
theorem dT_search_34 : decode prog_6_method_10_code 34 = .ok (.aload_n 0, 1) := by decide +kernel
theorem dT_search_35 : decode prog_6_method_10_code 35 = .ok (.getfield 21, 3) := by decide +kernel
theorem dT_search_38 : decode prog_6_method_10_code 38 = .ok (.iload 4, 2) := by decide +kernel
theorem dT_search_40 : decode prog_6_method_10_code 40 = .ok (.iaload, 1) := by decide +kernel
theorem dT_search_41 : decode prog_6_method_10_code 41 = .ok (.iload_n 3, 1) := by decide +kernel
theorem dT_search_42 : decode prog_6_method_10_code 42 = .ok (.if_icmp .ne 6, 3) := by decide +kernel
theorem dT_search_45 : decode prog_6_method_10_code 45 = .ok (.iload 4, 2) := by decide +kernel
theorem dT_search_47 : decode prog_6_method_10_code 47 = .ok (.ireturn, 1) := by decide +kernel
theorem dT_search_48 : decode prog_6_method_10_code 48 = .ok (.iinc 4 1, 3) := by decide +kernel
theorem dT_search_51 : decode prog_6_method_10_code 51 = .ok (.goto (-48), 3) := by decide +kernel
theorem dT_search_54 : decode prog_6_method_10_code 54 = .ok (.iconst (-1), 1) := by decide +kernel
theorem dT_search_55 : decode prog_6_method_10_code 55 = .ok (.ireturn, 1) := by decide +kernel
theorem dT_keep_0 : decode prog_6_method_11_code 0 = .ok (.aload_n 0, 1) := by decide +kernel
theorem dT_keep_1 : decode prog_6_method_11_code 1 = .ok (.getfield 34, 3) := by decide +kernel
theorem dT_keep_4 : decode prog_6_method_11_code 4 = .ok (.bipush 60, 2) := by decide +kernel
theorem dT_keep_6 : decode prog_6_method_11_code 6 = .ok (.if_icmp .lt 6, 3) := by decide +kernel
theorem dT_keep_9 : decode prog_6_method_11_code 9 = .ok (.bipush (-3), 2) := by decide +kernel
theorem dT_keep_11 : decode prog_6_method_11_code 11 = .ok (.ireturn, 1) := by decide +kernel
theorem dT_keep_12 : decode prog_6_method_11_code 12 = .ok (.aload_n 0, 1) := by decide +kernel
theorem dT_keep_13 : decode prog_6_method_11_code 13 = .ok (.getfield 15, 3) := by decide +kernel
theorem dT_keep_16 : decode prog_6_method_11_code 16 = .ok (.aload_n 0, 1) := by decide +kernel
theorem dT_keep_17 : decode prog_6_method_11_code 17 = .ok (.getfield 34, 3) := by decide +kernel
theorem dT_keep_20 : decode prog_6_method_11_code 20 = .ok (.iload_n 1, 1) := by decide +kernel
theorem dT_keep_21 : decode prog_6_method_11_code 21 = .ok (.iastore, 1) := by decide +kernel
theorem dT_keep_22 : decode prog_6_method_11_code 22 = .ok (.aload_n 0, 1) := by decide +kernel
theorem dT_keep_23 : decode prog_6_method_11_code 23 = .ok (.getfield 18, 3) := by decide +kernel
theorem dT_keep_26 : decode prog_6_method_11_code 26 = .ok (.aload_n 0, 1) := by decide +kernel
theorem dT_keep_27 : decode prog_6_method_11_code 27 = .ok (.getfield 34, 3) := by decide +kernel
theorem dT_keep_30 : decode prog_6_method_11_code 30 = .ok (.iload_n 2, 1) := by decide +kernel
theorem dT_keep_31 : decode prog_6_method_11_code 31 = .ok (.iastore, 1) := by decide +kernel
theorem dT_keep_32 : decode prog_6_method_11_code 32 = .ok (.aload_n 0, 1) := by decide +kernel
theorem dT_keep_33 : decode prog_6_method_11_code 33 = .ok (.getfield 21, 3) := by decide +kernel
theorem dT_keep_36 : decode prog_6_method_11_code 36 = .ok (.aload_n 0, 1) := by decide +kernel
theorem dT_keep_37 : decode prog_6_method_11_code 37 = .ok (.getfield 34, 3) := by decide +kernel
theorem dT_keep_40 : decode prog_6_method_11_code 40 = .ok (.iload_n 3, 1) := by decide +kernel
theorem dT_keep_41 : decode prog_6_method_11_code 41 = .ok (.iastore, 1) := by decide +kernel
theorem dT_keep_42 : decode prog_6_method_11_code 42 = .ok (.aload_n 0, 1) := by decide +kernel
theorem dT_keep_43 : decode prog_6_method_11_code 43 = .ok (.getfield 24, 3) := by decide +kernel
theorem dT_keep_46 : decode prog_6_method_11_code 46 = .ok (.aload_n 0, 1) := by decide +kernel
theorem dT_keep_47 : decode prog_6_method_11_code 47 = .ok (.getfield 34, 3) := by decide +kernel
theorem dT_keep_50 : decode prog_6_method_11_code 50 = .ok (.iload 4, 2) := by decide +kernel
theorem dT_keep_52 : decode prog_6_method_11_code 52 = .ok (.iastore, 1) := by decide +kernel
theorem dT_keep_53 : decode prog_6_method_11_code 53 = .ok (.aload_n 0, 1) := by decide +kernel
theorem dT_keep_54 : decode prog_6_method_11_code 54 = .ok (.getfield 27, 3) := by decide +kernel
theorem dT_keep_57 : decode prog_6_method_11_code 57 = .ok (.aload_n 0, 1) := by decide +kernel
theorem dT_keep_58 : decode prog_6_method_11_code 58 = .ok (.getfield 34, 3) := by decide +kernel
theorem dT_keep_61 : decode prog_6_method_11_code 61 = .ok (.iload 5, 2) := by decide +kernel
theorem dT_keep_63 : decode prog_6_method_11_code 63 = .ok (.iastore, 1) := by decide +kernel
theorem dT_keep_64 : decode prog_6_method_11_code 64 = .ok (.aload_n 0, 1) := by decide +kernel
theorem dT_keep_65 : decode prog_6_method_11_code 65 = .ok (.dup, 1) := by decide +kernel
theorem dT_keep_66 : decode prog_6_method_11_code 66 = .ok (.getfield 34, 3) := by decide +kernel
theorem dT_keep_69 : decode prog_6_method_11_code 69 = .ok (.iconst 1, 1) := by decide +kernel
theorem dT_keep_70 : decode prog_6_method_11_code 70 = .ok (.iadd, 1) := by decide +kernel
theorem dT_keep_71 : decode prog_6_method_11_code 71 = .ok (.putfield 34, 3) := by decide +kernel
theorem dT_keep_74 : decode prog_6_method_11_code 74 = .ok (.aload_n 0, 1) := by decide +kernel
theorem dT_keep_75 : decode prog_6_method_11_code 75 = .ok (.getfield 34, 3) := by decide +kernel
theorem dT_keep_78 : decode prog_6_method_11_code 78 = .ok (.iconst 1, 1) := by decide +kernel
theorem dT_keep_79 : decode prog_6_method_11_code 79 = .ok (.isub, 1) := by decide +kernel
theorem dT_keep_80 : decode prog_6_method_11_code 80 = .ok (.ireturn, 1) := by decide +kernel
theorem dK_init_0 : decode prog_2_method_1_code 0 = .ok (.aload_n 0, 1) := by decide +kernel
theorem dK_init_1 : decode prog_2_method_1_code 1 = .ok (.invokespecial 3, 3) := by decide +kernel
theorem dK_init_4 : decode prog_2_method_1_code 4 = .ok (.aload_n 0, 1) := by decide +kernel
theorem dK_init_5 : decode prog_2_method_1_code 5 = .ok (.bipush 8, 2) := by decide +kernel
theorem dK_init_7 : decode prog_2_method_1_code 7 = .ok (.newarray .int, 2) := by decide +kernel
theorem dK_init_9 : decode prog_2_method_1_code 9 = .ok (.putfield 9, 3) := by decide +kernel
theorem dK_init_12 : decode prog_2_method_1_code 12 = .ok (.aload_n 0, 1) := by decide +kernel
theorem dK_init_13 : decode prog_2_method_1_code 13 = .ok (.bipush 8, 2) := by decide +kernel
theorem dK_init_15 : decode prog_2_method_1_code 15 = .ok (.newarray .int, 2) := by decide +kernel
theorem dK_init_17 : decode prog_2_method_1_code 17 = .ok (.putfield 15, 3) := by decide +kernel
theorem dK_init_20 : decode prog_2_method_1_code 20 = .ok (.aload_n 0, 1) := by decide +kernel
theorem dK_init_21 : decode prog_2_method_1_code 21 = .ok (.bipush 8, 2) := by decide +kernel
theorem dK_init_23 : decode prog_2_method_1_code 23 = .ok (.newarray .int, 2) := by decide +kernel
theorem dK_init_25 : decode prog_2_method_1_code 25 = .ok (.putfield 18, 3) := by decide +kernel
theorem dK_init_28 : decode prog_2_method_1_code 28 = .ok (.aload_n 0, 1) := by decide +kernel
theorem dK_init_29 : decode prog_2_method_1_code 29 = .ok (.bipush 64, 2) := by decide +kernel
theorem dK_init_31 : decode prog_2_method_1_code 31 = .ok (.newarray .int, 2) := by decide +kernel
theorem dK_init_33 : decode prog_2_method_1_code 33 = .ok (.putfield 21, 3) := by decide +kernel
theorem dK_init_36 : decode prog_2_method_1_code 36 = .ok (.aload_n 0, 1) := by decide +kernel
theorem dK_init_37 : decode prog_2_method_1_code 37 = .ok (.bipush 64, 2) := by decide +kernel
theorem dK_init_39 : decode prog_2_method_1_code 39 = .ok (.newarray .int, 2) := by decide +kernel
theorem dK_init_41 : decode prog_2_method_1_code 41 = .ok (.putfield 24, 3) := by decide +kernel
theorem dK_init_44 : decode prog_2_method_1_code 44 = .ok (.aload_n 0, 1) := by decide +kernel
theorem dK_init_45 : decode prog_2_method_1_code 45 = .ok (.bipush 64, 2) := by decide +kernel
theorem dK_init_47 : decode prog_2_method_1_code 47 = .ok (.newarray .int, 2) := by decide +kernel
theorem dK_init_49 : decode prog_2_method_1_code 49 = .ok (.putfield 27, 3) := by decide +kernel
theorem dK_init_52 : decode prog_2_method_1_code 52 = .ok (.aload_n 0, 1) := by decide +kernel
theorem dK_init_53 : decode prog_2_method_1_code 53 = .ok (.getfield 21, 3) := by decide +kernel
theorem dK_init_56 : decode prog_2_method_1_code 56 = .ok (.iconst (-1), 1) := by decide +kernel
theorem dK_init_57 : decode prog_2_method_1_code 57 = .ok (.invokestatic 30, 3) := by decide +kernel
theorem dK_init_60 : decode prog_2_method_1_code 60 = .ok (.return_, 1) := by decide +kernel
theorem dK_hasClass_0 : decode prog_2_method_2_code 0 = .ok (.iload_n 1, 1) := by decide +kernel
theorem dK_hasClass_1 : decode prog_2_method_2_code 1 = .ok (.ifCond .lt 15, 3) := by decide +kernel
theorem dK_hasClass_4 : decode prog_2_method_2_code 4 = .ok (.iload_n 1, 1) := by decide +kernel
theorem dK_hasClass_5 : decode prog_2_method_2_code 5 = .ok (.aload_n 0, 1) := by decide +kernel
theorem dK_hasClass_6 : decode prog_2_method_2_code 6 = .ok (.getfield 36, 3) := by decide +kernel
theorem dK_hasClass_9 : decode prog_2_method_2_code 9 = .ok (.if_icmp .ge 7, 3) := by decide +kernel
theorem dK_hasClass_12 : decode prog_2_method_2_code 12 = .ok (.iconst 1, 1) := by decide +kernel
theorem dK_hasClass_13 : decode prog_2_method_2_code 13 = .ok (.goto 4, 3) := by decide +kernel
theorem dK_hasClass_16 : decode prog_2_method_2_code 16 = .ok (.iconst 0, 1) := by decide +kernel
theorem dK_hasClass_17 : decode prog_2_method_2_code 17 = .ok (.ireturn, 1) := by decide +kernel
theorem dK_areClasses_0 : decode prog_2_method_3_code 0 = .ok (.iload_n 1, 1) := by decide +kernel
theorem dK_areClasses_1 : decode prog_2_method_3_code 1 = .ok (.aload_n 0, 1) := by decide +kernel
theorem dK_areClasses_2 : decode prog_2_method_3_code 2 = .ok (.getfield 36, 3) := by decide +kernel
theorem dK_areClasses_5 : decode prog_2_method_3_code 5 = .ok (.iushr, 1) := by decide +kernel
theorem dK_areClasses_6 : decode prog_2_method_3_code 6 = .ok (.ifCond .ne 7, 3) := by decide +kernel
theorem dK_areClasses_9 : decode prog_2_method_3_code 9 = .ok (.iconst 1, 1) := by decide +kernel
theorem dK_areClasses_10 : decode prog_2_method_3_code 10 = .ok (.goto 4, 3) := by decide +kernel
theorem dK_areClasses_13 : decode prog_2_method_3_code 13 = .ok (.iconst 0, 1) := by decide +kernel
theorem dK_areClasses_14 : decode prog_2_method_3_code 14 = .ok (.ireturn, 1) := by decide +kernel
theorem dK_methodOf_0 : decode prog_2_method_4_code 0 = .ok (.aload_n 0, 1) := by decide +kernel
theorem dK_methodOf_1 : decode prog_2_method_4_code 1 = .ok (.getfield 18, 3) := by decide +kernel
theorem dK_methodOf_4 : decode prog_2_method_4_code 4 = .ok (.iload_n 1, 1) := by decide +kernel
theorem dK_methodOf_5 : decode prog_2_method_4_code 5 = .ok (.iaload, 1) := by decide +kernel
theorem dK_methodOf_6 : decode prog_2_method_4_code 6 = .ok (.ireturn, 1) := by decide +kernel
theorem dK_setMethod_0 : decode prog_2_method_5_code 0 = .ok (.aload_n 0, 1) := by decide +kernel
theorem dK_setMethod_1 : decode prog_2_method_5_code 1 = .ok (.getfield 18, 3) := by decide +kernel
theorem dK_setMethod_4 : decode prog_2_method_5_code 4 = .ok (.iload_n 1, 1) := by decide +kernel
theorem dK_setMethod_5 : decode prog_2_method_5_code 5 = .ok (.iload_n 2, 1) := by decide +kernel
theorem dK_setMethod_6 : decode prog_2_method_5_code 6 = .ok (.iastore, 1) := by decide +kernel
theorem dK_setMethod_7 : decode prog_2_method_5_code 7 = .ok (.return_, 1) := by decide +kernel
theorem dK_addClass_0 : decode prog_2_method_6_code 0 = .ok (.aload_n 0, 1) := by decide +kernel
theorem dK_addClass_1 : decode prog_2_method_6_code 1 = .ok (.getfield 36, 3) := by decide +kernel
theorem dK_addClass_4 : decode prog_2_method_6_code 4 = .ok (.bipush 8, 2) := by decide +kernel
theorem dK_addClass_6 : decode prog_2_method_6_code 6 = .ok (.if_icmp .lt 6, 3) := by decide +kernel
theorem dK_addClass_9 : decode prog_2_method_6_code 9 = .ok (.bipush (-3), 2) := by decide +kernel
theorem dK_addClass_11 : decode prog_2_method_6_code 11 = .ok (.ireturn, 1) := by decide +kernel
theorem dK_addClass_12 : decode prog_2_method_6_code 12 = .ok (.aload_n 0, 1) := by decide +kernel
theorem dK_addClass_13 : decode prog_2_method_6_code 13 = .ok (.getfield 9, 3) := by decide +kernel
theorem dK_addClass_16 : decode prog_2_method_6_code 16 = .ok (.aload_n 0, 1) := by decide +kernel
theorem dK_addClass_17 : decode prog_2_method_6_code 17 = .ok (.getfield 36, 3) := by decide +kernel
theorem dK_addClass_20 : decode prog_2_method_6_code 20 = .ok (.iload_n 1, 1) := by decide +kernel
theorem dK_addClass_21 : decode prog_2_method_6_code 21 = .ok (.iastore, 1) := by decide +kernel
theorem dK_addClass_22 : decode prog_2_method_6_code 22 = .ok (.aload_n 0, 1) := by decide +kernel
theorem dK_addClass_23 : decode prog_2_method_6_code 23 = .ok (.getfield 15, 3) := by decide +kernel
theorem dK_addClass_26 : decode prog_2_method_6_code 26 = .ok (.aload_n 0, 1) := by decide +kernel
theorem dK_addClass_27 : decode prog_2_method_6_code 27 = .ok (.getfield 36, 3) := by decide +kernel
theorem dK_addClass_30 : decode prog_2_method_6_code 30 = .ok (.iconst 1, 1) := by decide +kernel
theorem dK_addClass_31 : decode prog_2_method_6_code 31 = .ok (.aload_n 0, 1) := by decide +kernel
theorem dK_addClass_32 : decode prog_2_method_6_code 32 = .ok (.getfield 36, 3) := by decide +kernel
theorem dK_addClass_35 : decode prog_2_method_6_code 35 = .ok (.ishl, 1) := by decide +kernel
theorem dK_addClass_36 : decode prog_2_method_6_code 36 = .ok (.iload_n 1, 1) := by decide +kernel
theorem dK_addClass_37 : decode prog_2_method_6_code 37 = .ok (.iconst (-1), 1) := by decide +kernel
theorem dK_addClass_38 : decode prog_2_method_6_code 38 = .ok (.if_icmp .ne 7, 3) := by decide +kernel
theorem dK_addClass_41 : decode prog_2_method_6_code 41 = .ok (.iconst 0, 1) := by decide +kernel
theorem dK_addClass_42 : decode prog_2_method_6_code 42 = .ok (.goto 9, 3) := by decide +kernel
theorem dK_addClass_45 : decode prog_2_method_6_code 45 = .ok (.aload_n 0, 1) := by decide +kernel
theorem dK_addClass_46 : decode prog_2_method_6_code 46 = .ok (.getfield 15, 3) := by decide +kernel
theorem dK_addClass_49 : decode prog_2_method_6_code 49 = .ok (.iload_n 1, 1) := by decide +kernel
theorem dK_addClass_50 : decode prog_2_method_6_code 50 = .ok (.iaload, 1) := by decide +kernel
theorem dK_addClass_51 : decode prog_2_method_6_code 51 = .ok (.ior, 1) := by decide +kernel
theorem dK_addClass_52 : decode prog_2_method_6_code 52 = .ok (.iastore, 1) := by decide +kernel
theorem dK_addClass_53 : decode prog_2_method_6_code 53 = .ok (.aload_n 0, 1) := by decide +kernel
theorem dK_addClass_54 : decode prog_2_method_6_code 54 = .ok (.getfield 18, 3) := by decide +kernel
theorem dK_addClass_57 : decode prog_2_method_6_code 57 = .ok (.aload_n 0, 1) := by decide +kernel
theorem dK_addClass_58 : decode prog_2_method_6_code 58 = .ok (.getfield 36, 3) := by decide +kernel
theorem dK_addClass_61 : decode prog_2_method_6_code 61 = .ok (.iconst (-1), 1) := by decide +kernel
theorem dK_addClass_62 : decode prog_2_method_6_code 62 = .ok (.iastore, 1) := by decide +kernel
theorem dK_addClass_63 : decode prog_2_method_6_code 63 = .ok (.aload_n 0, 1) := by decide +kernel
theorem dK_addClass_64 : decode prog_2_method_6_code 64 = .ok (.dup, 1) := by decide +kernel
theorem dK_addClass_65 : decode prog_2_method_6_code 65 = .ok (.getfield 36, 3) := by decide +kernel
theorem dK_addClass_68 : decode prog_2_method_6_code 68 = .ok (.iconst 1, 1) := by decide +kernel
theorem dK_addClass_69 : decode prog_2_method_6_code 69 = .ok (.iadd, 1) := by decide +kernel
theorem dK_addClass_70 : decode prog_2_method_6_code 70 = .ok (.putfield 36, 3) := by decide +kernel
theorem dK_addClass_73 : decode prog_2_method_6_code 73 = .ok (.aload_n 0, 1) := by decide +kernel
theorem dK_addClass_74 : decode prog_2_method_6_code 74 = .ok (.getfield 36, 3) := by decide +kernel
theorem dK_addClass_77 : decode prog_2_method_6_code 77 = .ok (.iconst 1, 1) := by decide +kernel
theorem dK_addClass_78 : decode prog_2_method_6_code 78 = .ok (.isub, 1) := by decide +kernel
theorem dK_addClass_79 : decode prog_2_method_6_code 79 = .ok (.ireturn, 1) := by decide +kernel
theorem dK_addInstance_0 : decode prog_2_method_7_code 0 = .ok (.aload_n 0, 1) := by decide +kernel
theorem dK_addInstance_1 : decode prog_2_method_7_code 1 = .ok (.iload_n 1, 1) := by decide +kernel
theorem dK_addInstance_2 : decode prog_2_method_7_code 2 = .ok (.iload_n 2, 1) := by decide +kernel
theorem dK_addInstance_3 : decode prog_2_method_7_code 3 = .ok (.iload_n 3, 1) := by decide +kernel
theorem dK_addInstance_4 : decode prog_2_method_7_code 4 = .ok (.iload 4, 2) := by decide +kernel
theorem dK_addInstance_6 : decode prog_2_method_7_code 6 = .ok (.invokevirtual 40, 3) := by decide +kernel
theorem dK_addInstance_9 : decode prog_2_method_7_code 9 = .ok (.ifCond .ne 6, 3) := by decide +kernel
theorem dK_addInstance_12 : decode prog_2_method_7_code 12 = .ok (.bipush (-2), 2) := by decide +kernel
theorem dK_addInstance_14 : decode prog_2_method_7_code 14 = .ok (.ireturn, 1) := by decide +kernel
theorem dK_addInstance_15 : decode prog_2_method_7_code 15 = .ok (.iload_n 1, 1) := by decide +kernel
theorem dK_addInstance_16 : decode prog_2_method_7_code 16 = .ok (.iload_n 2, 1) := by decide +kernel
theorem dK_addInstance_17 : decode prog_2_method_7_code 17 = .ok (.invokestatic 44, 3) := by decide +kernel
theorem dK_addInstance_20 : decode prog_2_method_7_code 20 = .ok (.istore 5, 2) := by decide +kernel
theorem dK_addInstance_22 : decode prog_2_method_7_code 22 = .ok (.aload_n 0, 1) := by decide +kernel
theorem dK_addInstance_23 : decode prog_2_method_7_code 23 = .ok (.getfield 21, 3) := by decide +kernel
theorem dK_addInstance_26 : decode prog_2_method_7_code 26 = .ok (.iload 5, 2) := by decide +kernel
theorem dK_addInstance_28 : decode prog_2_method_7_code 28 = .ok (.aload_n 0, 1) := by decide +kernel
theorem dK_addInstance_29 : decode prog_2_method_7_code 29 = .ok (.getfield 48, 3) := by decide +kernel
theorem dK_addInstance_32 : decode prog_2_method_7_code 32 = .ok (.iastore, 1) := by decide +kernel
theorem dK_addInstance_33 : decode prog_2_method_7_code 33 = .ok (.aload_n 0, 1) := by decide +kernel
theorem dK_addInstance_34 : decode prog_2_method_7_code 34 = .ok (.getfield 24, 3) := by decide +kernel
theorem dK_addInstance_37 : decode prog_2_method_7_code 37 = .ok (.iload 5, 2) := by decide +kernel
theorem dK_addInstance_39 : decode prog_2_method_7_code 39 = .ok (.iload_n 3, 1) := by decide +kernel
theorem dK_addInstance_40 : decode prog_2_method_7_code 40 = .ok (.iastore, 1) := by decide +kernel
theorem dK_addInstance_41 : decode prog_2_method_7_code 41 = .ok (.aload_n 0, 1) := by decide +kernel
theorem dK_addInstance_42 : decode prog_2_method_7_code 42 = .ok (.getfield 27, 3) := by decide +kernel
theorem dK_addInstance_45 : decode prog_2_method_7_code 45 = .ok (.iload 5, 2) := by decide +kernel
theorem dK_addInstance_47 : decode prog_2_method_7_code 47 = .ok (.iload 4, 2) := by decide +kernel
theorem dK_addInstance_49 : decode prog_2_method_7_code 49 = .ok (.iastore, 1) := by decide +kernel
theorem dK_addInstance_50 : decode prog_2_method_7_code 50 = .ok (.aload_n 0, 1) := by decide +kernel
theorem dK_addInstance_51 : decode prog_2_method_7_code 51 = .ok (.dup, 1) := by decide +kernel
theorem dK_addInstance_52 : decode prog_2_method_7_code 52 = .ok (.getfield 48, 3) := by decide +kernel
theorem dK_addInstance_55 : decode prog_2_method_7_code 55 = .ok (.iconst 1, 1) := by decide +kernel
theorem dK_addInstance_56 : decode prog_2_method_7_code 56 = .ok (.iadd, 1) := by decide +kernel
theorem dK_addInstance_57 : decode prog_2_method_7_code 57 = .ok (.putfield 48, 3) := by decide +kernel
theorem dK_addInstance_60 : decode prog_2_method_7_code 60 = .ok (.aload_n 0, 1) := by decide +kernel
theorem dK_addInstance_61 : decode prog_2_method_7_code 61 = .ok (.getfield 48, 3) := by decide +kernel
theorem dK_addInstance_64 : decode prog_2_method_7_code 64 = .ok (.iconst 1, 1) := by decide +kernel
theorem dK_addInstance_65 : decode prog_2_method_7_code 65 = .ok (.isub, 1) := by decide +kernel
theorem dK_addInstance_66 : decode prog_2_method_7_code 66 = .ok (.ireturn, 1) := by decide +kernel
theorem dK_fits_0 : decode prog_2_method_8_code 0 = .ok (.aload_n 0, 1) := by decide +kernel
theorem dK_fits_1 : decode prog_2_method_8_code 1 = .ok (.getfield 21, 3) := by decide +kernel
theorem dK_fits_4 : decode prog_2_method_8_code 4 = .ok (.iload_n 1, 1) := by decide +kernel
theorem dK_fits_5 : decode prog_2_method_8_code 5 = .ok (.iload_n 2, 1) := by decide +kernel
theorem dK_fits_6 : decode prog_2_method_8_code 6 = .ok (.invokestatic 44, 3) := by decide +kernel
theorem dK_fits_9 : decode prog_2_method_8_code 9 = .ok (.iaload, 1) := by decide +kernel
theorem dK_fits_10 : decode prog_2_method_8_code 10 = .ok (.iconst (-1), 1) := by decide +kernel
theorem dK_fits_11 : decode prog_2_method_8_code 11 = .ok (.if_icmp .eq 5, 3) := by decide +kernel
theorem dK_fits_14 : decode prog_2_method_8_code 14 = .ok (.iconst 0, 1) := by decide +kernel
theorem dK_fits_15 : decode prog_2_method_8_code 15 = .ok (.ireturn, 1) := by decide +kernel
theorem dK_fits_16 : decode prog_2_method_8_code 16 = .ok (.aload_n 0, 1) := by decide +kernel
theorem dK_fits_17 : decode prog_2_method_8_code 17 = .ok (.getfield 9, 3) := by decide +kernel
theorem dK_fits_20 : decode prog_2_method_8_code 20 = .ok (.iload_n 1, 1) := by decide +kernel
theorem dK_fits_21 : decode prog_2_method_8_code 21 = .ok (.iaload, 1) := by decide +kernel
theorem dK_fits_22 : decode prog_2_method_8_code 22 = .ok (.iconst (-1), 1) := by decide +kernel
theorem dK_fits_23 : decode prog_2_method_8_code 23 = .ok (.if_icmp .ne 5, 3) := by decide +kernel
theorem dK_fits_26 : decode prog_2_method_8_code 26 = .ok (.iconst 1, 1) := by decide +kernel
theorem dK_fits_27 : decode prog_2_method_8_code 27 = .ok (.ireturn, 1) := by decide +kernel
theorem dK_fits_28 : decode prog_2_method_8_code 28 = .ok (.aload_n 0, 1) := by decide +kernel
theorem dK_fits_29 : decode prog_2_method_8_code 29 = .ok (.getfield 9, 3) := by decide +kernel
theorem dK_fits_32 : decode prog_2_method_8_code 32 = .ok (.iload_n 1, 1) := by decide +kernel
theorem dK_fits_33 : decode prog_2_method_8_code 33 = .ok (.iaload, 1) := by decide +kernel
theorem dK_fits_34 : decode prog_2_method_8_code 34 = .ok (.iload_n 2, 1) := by decide +kernel
theorem dK_fits_35 : decode prog_2_method_8_code 35 = .ok (.invokestatic 44, 3) := by decide +kernel
theorem dK_fits_38 : decode prog_2_method_8_code 38 = .ok (.istore 5, 2) := by decide +kernel
theorem dK_fits_40 : decode prog_2_method_8_code 40 = .ok (.aload_n 0, 1) := by decide +kernel
theorem dK_fits_41 : decode prog_2_method_8_code 41 = .ok (.getfield 21, 3) := by decide +kernel
theorem dK_fits_44 : decode prog_2_method_8_code 44 = .ok (.iload 5, 2) := by decide +kernel
theorem dK_fits_46 : decode prog_2_method_8_code 46 = .ok (.iaload, 1) := by decide +kernel
theorem dK_fits_47 : decode prog_2_method_8_code 47 = .ok (.iconst (-1), 1) := by decide +kernel
theorem dK_fits_48 : decode prog_2_method_8_code 48 = .ok (.if_icmp .eq 38, 3) := by decide +kernel
theorem dK_fits_51 : decode prog_2_method_8_code 51 = .ok (.aload_n 0, 1) := by decide +kernel
theorem dK_fits_52 : decode prog_2_method_8_code 52 = .ok (.iload_n 3, 1) := by decide +kernel
theorem dK_fits_53 : decode prog_2_method_8_code 53 = .ok (.aload_n 0, 1) := by decide +kernel
theorem dK_fits_54 : decode prog_2_method_8_code 54 = .ok (.getfield 24, 3) := by decide +kernel
theorem dK_fits_57 : decode prog_2_method_8_code 57 = .ok (.iload 5, 2) := by decide +kernel
theorem dK_fits_59 : decode prog_2_method_8_code 59 = .ok (.iaload, 1) := by decide +kernel
theorem dK_fits_60 : decode prog_2_method_8_code 60 = .ok (.invokevirtual 51, 3) := by decide +kernel
theorem dK_fits_63 : decode prog_2_method_8_code 63 = .ok (.ifCond .eq 23, 3) := by decide +kernel
theorem dK_fits_66 : decode prog_2_method_8_code 66 = .ok (.aload_n 0, 1) := by decide +kernel
theorem dK_fits_67 : decode prog_2_method_8_code 67 = .ok (.iload 4, 2) := by decide +kernel
theorem dK_fits_69 : decode prog_2_method_8_code 69 = .ok (.aload_n 0, 1) := by decide +kernel
theorem dK_fits_70 : decode prog_2_method_8_code 70 = .ok (.getfield 27, 3) := by decide +kernel
theorem dK_fits_73 : decode prog_2_method_8_code 73 = .ok (.iload 5, 2) := by decide +kernel
theorem dK_fits_75 : decode prog_2_method_8_code 75 = .ok (.iaload, 1) := by decide +kernel
theorem dK_fits_76 : decode prog_2_method_8_code 76 = .ok (.invokevirtual 51, 3) := by decide +kernel
theorem dK_fits_79 : decode prog_2_method_8_code 79 = .ok (.ifCond .eq 7, 3) := by decide +kernel
theorem dK_fits_82 : decode prog_2_method_8_code 82 = .ok (.iconst 1, 1) := by decide +kernel
theorem dK_fits_83 : decode prog_2_method_8_code 83 = .ok (.goto 4, 3) := by decide +kernel
theorem dK_fits_86 : decode prog_2_method_8_code 86 = .ok (.iconst 0, 1) := by decide +kernel
theorem dK_fits_87 : decode prog_2_method_8_code 87 = .ok (.ireturn, 1) := by decide +kernel
theorem dK_slot_0 : decode prog_2_method_9_code 0 = .ok (.iload_n 0, 1) := by decide +kernel
theorem dK_slot_1 : decode prog_2_method_9_code 1 = .ok (.bipush 8, 2) := by decide +kernel
theorem dK_slot_3 : decode prog_2_method_9_code 3 = .ok (.imul, 1) := by decide +kernel
theorem dK_slot_4 : decode prog_2_method_9_code 4 = .ok (.iload_n 1, 1) := by decide +kernel
theorem dK_slot_5 : decode prog_2_method_9_code 5 = .ok (.iadd, 1) := by decide +kernel
theorem dK_slot_6 : decode prog_2_method_9_code 6 = .ok (.ireturn, 1) := by decide +kernel
theorem dK_reaches_0 : decode prog_2_method_10_code 0 = .ok (.iconst 0, 1) := by decide +kernel
theorem dK_reaches_1 : decode prog_2_method_10_code 1 = .ok (.istore_n 3, 1) := by decide +kernel
theorem dK_reaches_2 : decode prog_2_method_10_code 2 = .ok (.iconst 0, 1) := by decide +kernel
theorem dK_reaches_3 : decode prog_2_method_10_code 3 = .ok (.istore 4, 2) := by decide +kernel
theorem dK_reaches_5 : decode prog_2_method_10_code 5 = .ok (.iload 4, 2) := by decide +kernel
theorem dK_reaches_7 : decode prog_2_method_10_code 7 = .ok (.aload_n 0, 1) := by decide +kernel
theorem dK_reaches_8 : decode prog_2_method_10_code 8 = .ok (.getfield 36, 3) := by decide +kernel
theorem dK_reaches_11 : decode prog_2_method_10_code 11 = .ok (.if_icmp .ge 28, 3) := by decide +kernel
theorem dK_reaches_14 : decode prog_2_method_10_code 14 = .ok (.iload_n 1, 1) := by decide +kernel
theorem dK_reaches_15 : decode prog_2_method_10_code 15 = .ok (.iconst 1, 1) := by decide +kernel
theorem dK_reaches_16 : decode prog_2_method_10_code 16 = .ok (.iload 4, 2) := by decide +kernel
theorem dK_reaches_18 : decode prog_2_method_10_code 18 = .ok (.ishl, 1) := by decide +kernel
theorem dK_reaches_19 : decode prog_2_method_10_code 19 = .ok (.iand, 1) := by decide +kernel
theorem dK_reaches_20 : decode prog_2_method_10_code 20 = .ok (.ifCond .eq 13, 3) := by decide +kernel
theorem dK_reaches_23 : decode prog_2_method_10_code 23 = .ok (.iload_n 3, 1) := by decide +kernel
theorem dK_reaches_24 : decode prog_2_method_10_code 24 = .ok (.aload_n 0, 1) := by decide +kernel
theorem dK_reaches_25 : decode prog_2_method_10_code 25 = .ok (.getfield 15, 3) := by decide +kernel
theorem dK_reaches_28 : decode prog_2_method_10_code 28 = .ok (.iload 4, 2) := by decide +kernel
theorem dK_reaches_30 : decode prog_2_method_10_code 30 = .ok (.iaload, 1) := by decide +kernel
theorem dK_reaches_31 : decode prog_2_method_10_code 31 = .ok (.ior, 1) := by decide +kernel
theorem dK_reaches_32 : decode prog_2_method_10_code 32 = .ok (.istore_n 3, 1) := by decide +kernel
theorem dK_reaches_33 : decode prog_2_method_10_code 33 = .ok (.iinc 4 1, 3) := by decide +kernel
theorem dK_reaches_36 : decode prog_2_method_10_code 36 = .ok (.goto (-31), 3) := by decide +kernel
theorem dK_reaches_39 : decode prog_2_method_10_code 39 = .ok (.iload_n 2, 1) := by decide +kernel
theorem dK_reaches_40 : decode prog_2_method_10_code 40 = .ok (.iload_n 3, 1) := by decide +kernel
theorem dK_reaches_41 : decode prog_2_method_10_code 41 = .ok (.iconst (-1), 1) := by decide +kernel
theorem dK_reaches_42 : decode prog_2_method_10_code 42 = .ok (.ixor, 1) := by decide +kernel
theorem dK_reaches_43 : decode prog_2_method_10_code 43 = .ok (.iand, 1) := by decide +kernel
theorem dK_reaches_44 : decode prog_2_method_10_code 44 = .ok (.ifCond .ne 7, 3) := by decide +kernel
theorem dK_reaches_47 : decode prog_2_method_10_code 47 = .ok (.iconst 1, 1) := by decide +kernel
theorem dK_reaches_48 : decode prog_2_method_10_code 48 = .ok (.goto 4, 3) := by decide +kernel
theorem dK_reaches_51 : decode prog_2_method_10_code 51 = .ok (.iconst 0, 1) := by decide +kernel
theorem dK_reaches_52 : decode prog_2_method_10_code 52 = .ok (.ireturn, 1) := by decide +kernel
theorem dK_lowest_0 : decode prog_2_method_11_code 0 = .ok (.iconst 0, 1) := by decide +kernel
theorem dK_lowest_1 : decode prog_2_method_11_code 1 = .ok (.istore_n 2, 1) := by decide +kernel
theorem dK_lowest_2 : decode prog_2_method_11_code 2 = .ok (.iconst 0, 1) := by decide +kernel
theorem dK_lowest_3 : decode prog_2_method_11_code 3 = .ok (.istore_n 3, 1) := by decide +kernel
theorem dK_lowest_4 : decode prog_2_method_11_code 4 = .ok (.iload_n 3, 1) := by decide +kernel
theorem dK_lowest_5 : decode prog_2_method_11_code 5 = .ok (.aload_n 0, 1) := by decide +kernel
theorem dK_lowest_6 : decode prog_2_method_11_code 6 = .ok (.getfield 36, 3) := by decide +kernel
theorem dK_lowest_9 : decode prog_2_method_11_code 9 = .ok (.if_icmp .ge 32, 3) := by decide +kernel
theorem dK_lowest_12 : decode prog_2_method_11_code 12 = .ok (.iload_n 1, 1) := by decide +kernel
theorem dK_lowest_13 : decode prog_2_method_11_code 13 = .ok (.iconst 1, 1) := by decide +kernel
theorem dK_lowest_14 : decode prog_2_method_11_code 14 = .ok (.iload_n 3, 1) := by decide +kernel
theorem dK_lowest_15 : decode prog_2_method_11_code 15 = .ok (.ishl, 1) := by decide +kernel
theorem dK_lowest_16 : decode prog_2_method_11_code 16 = .ok (.iand, 1) := by decide +kernel
theorem dK_lowest_17 : decode prog_2_method_11_code 17 = .ok (.ifCond .eq 18, 3) := by decide +kernel
theorem dK_lowest_20 : decode prog_2_method_11_code 20 = .ok (.iload_n 2, 1) := by decide +kernel
theorem dK_lowest_21 : decode prog_2_method_11_code 21 = .ok (.aload_n 0, 1) := by decide +kernel
theorem dK_lowest_22 : decode prog_2_method_11_code 22 = .ok (.getfield 15, 3) := by decide +kernel
theorem dK_lowest_25 : decode prog_2_method_11_code 25 = .ok (.iload_n 3, 1) := by decide +kernel
theorem dK_lowest_26 : decode prog_2_method_11_code 26 = .ok (.iaload, 1) := by decide +kernel
theorem dK_lowest_27 : decode prog_2_method_11_code 27 = .ok (.iconst 1, 1) := by decide +kernel
theorem dK_lowest_28 : decode prog_2_method_11_code 28 = .ok (.iload_n 3, 1) := by decide +kernel
theorem dK_lowest_29 : decode prog_2_method_11_code 29 = .ok (.ishl, 1) := by decide +kernel
theorem dK_lowest_30 : decode prog_2_method_11_code 30 = .ok (.iconst (-1), 1) := by decide +kernel
theorem dK_lowest_31 : decode prog_2_method_11_code 31 = .ok (.ixor, 1) := by decide +kernel
theorem dK_lowest_32 : decode prog_2_method_11_code 32 = .ok (.iand, 1) := by decide +kernel
theorem dK_lowest_33 : decode prog_2_method_11_code 33 = .ok (.ior, 1) := by decide +kernel
theorem dK_lowest_34 : decode prog_2_method_11_code 34 = .ok (.istore_n 2, 1) := by decide +kernel
theorem dK_lowest_35 : decode prog_2_method_11_code 35 = .ok (.iinc 3 1, 3) := by decide +kernel
theorem dK_lowest_38 : decode prog_2_method_11_code 38 = .ok (.goto (-34), 3) := by decide +kernel
theorem dK_lowest_41 : decode prog_2_method_11_code 41 = .ok (.iload_n 1, 1) := by decide +kernel
theorem dK_lowest_42 : decode prog_2_method_11_code 42 = .ok (.iload_n 2, 1) := by decide +kernel
theorem dK_lowest_43 : decode prog_2_method_11_code 43 = .ok (.iconst (-1), 1) := by decide +kernel
theorem dK_lowest_44 : decode prog_2_method_11_code 44 = .ok (.ixor, 1) := by decide +kernel
theorem dK_lowest_45 : decode prog_2_method_11_code 45 = .ok (.iand, 1) := by decide +kernel
theorem dK_lowest_46 : decode prog_2_method_11_code 46 = .ok (.ireturn, 1) := by decide +kernel
theorem dK_haveInstances_0 : decode prog_2_method_12_code 0 = .ok (.iconst 0, 1) := by decide +kernel
theorem dK_haveInstances_1 : decode prog_2_method_12_code 1 = .ok (.istore_n 3, 1) := by decide +kernel
theorem dK_haveInstances_2 : decode prog_2_method_12_code 2 = .ok (.iload_n 3, 1) := by decide +kernel
theorem dK_haveInstances_3 : decode prog_2_method_12_code 3 = .ok (.aload_n 0, 1) := by decide +kernel
theorem dK_haveInstances_4 : decode prog_2_method_12_code 4 = .ok (.getfield 36, 3) := by decide +kernel
theorem dK_haveInstances_7 : decode prog_2_method_12_code 7 = .ok (.if_icmp .ge 33, 3) := by decide +kernel
theorem dK_haveInstances_10 : decode prog_2_method_12_code 10 = .ok (.iload_n 1, 1) := by decide +kernel
theorem dK_haveInstances_11 : decode prog_2_method_12_code 11 = .ok (.iconst 1, 1) := by decide +kernel
theorem dK_haveInstances_12 : decode prog_2_method_12_code 12 = .ok (.iload_n 3, 1) := by decide +kernel
theorem dK_haveInstances_13 : decode prog_2_method_12_code 13 = .ok (.ishl, 1) := by decide +kernel
theorem dK_haveInstances_14 : decode prog_2_method_12_code 14 = .ok (.iand, 1) := by decide +kernel
theorem dK_haveInstances_15 : decode prog_2_method_12_code 15 = .ok (.ifCond .eq 19, 3) := by decide +kernel
theorem dK_haveInstances_18 : decode prog_2_method_12_code 18 = .ok (.aload_n 0, 1) := by decide +kernel
theorem dK_haveInstances_19 : decode prog_2_method_12_code 19 = .ok (.getfield 21, 3) := by decide +kernel
theorem dK_haveInstances_22 : decode prog_2_method_12_code 22 = .ok (.iload_n 3, 1) := by decide +kernel
theorem dK_haveInstances_23 : decode prog_2_method_12_code 23 = .ok (.iload_n 2, 1) := by decide +kernel
theorem dK_haveInstances_24 : decode prog_2_method_12_code 24 = .ok (.invokestatic 44, 3) := by decide +kernel
theorem dK_haveInstances_27 : decode prog_2_method_12_code 27 = .ok (.iaload, 1) := by decide +kernel
theorem dK_haveInstances_28 : decode prog_2_method_12_code 28 = .ok (.iconst (-1), 1) := by decide +kernel
theorem dK_haveInstances_29 : decode prog_2_method_12_code 29 = .ok (.if_icmp .ne 5, 3) := by decide +kernel
theorem dK_haveInstances_32 : decode prog_2_method_12_code 32 = .ok (.iconst 0, 1) := by decide +kernel
theorem dK_haveInstances_33 : decode prog_2_method_12_code 33 = .ok (.ireturn, 1) := by decide +kernel
theorem dK_haveInstances_34 : decode prog_2_method_12_code 34 = .ok (.iinc 3 1, 3) := by decide +kernel
theorem dK_haveInstances_37 : decode prog_2_method_12_code 37 = .ok (.goto (-35), 3) := by decide +kernel
theorem dK_haveInstances_40 : decode prog_2_method_12_code 40 = .ok (.iconst 1, 1) := by decide +kernel
theorem dK_haveInstances_41 : decode prog_2_method_12_code 41 = .ok (.ireturn, 1) := by decide +kernel
theorem dK_joined_0 : decode prog_2_method_13_code 0 = .ok (.iconst 0, 1) := by decide +kernel
theorem dK_joined_1 : decode prog_2_method_13_code 1 = .ok (.istore 4, 2) := by decide +kernel
theorem dK_joined_3 : decode prog_2_method_13_code 3 = .ok (.iconst 0, 1) := by decide +kernel
theorem dK_joined_4 : decode prog_2_method_13_code 4 = .ok (.istore 5, 2) := by decide +kernel
theorem dK_joined_6 : decode prog_2_method_13_code 6 = .ok (.iload 5, 2) := by decide +kernel
theorem dK_joined_8 : decode prog_2_method_13_code 8 = .ok (.aload_n 0, 1) := by decide +kernel
theorem dK_joined_9 : decode prog_2_method_13_code 9 = .ok (.getfield 36, 3) := by decide +kernel
theorem dK_joined_12 : decode prog_2_method_13_code 12 = .ok (.if_icmp .ge 31, 3) := by decide +kernel
theorem dK_joined_15 : decode prog_2_method_13_code 15 = .ok (.iload_n 2, 1) := by decide +kernel
theorem dK_joined_16 : decode prog_2_method_13_code 16 = .ok (.iconst 1, 1) := by decide +kernel
theorem dK_joined_17 : decode prog_2_method_13_code 17 = .ok (.iload 5, 2) := by decide +kernel
theorem dK_joined_19 : decode prog_2_method_13_code 19 = .ok (.ishl, 1) := by decide +kernel
theorem dK_joined_20 : decode prog_2_method_13_code 20 = .ok (.iand, 1) := by decide +kernel
theorem dK_joined_21 : decode prog_2_method_13_code 21 = .ok (.ifCond .eq 16, 3) := by decide +kernel
theorem dK_joined_24 : decode prog_2_method_13_code 24 = .ok (.iload 4, 2) := by decide +kernel
theorem dK_joined_26 : decode prog_2_method_13_code 26 = .ok (.aload_n 1, 1) := by decide +kernel
theorem dK_joined_27 : decode prog_2_method_13_code 27 = .ok (.iload 5, 2) := by decide +kernel
theorem dK_joined_29 : decode prog_2_method_13_code 29 = .ok (.iload_n 3, 1) := by decide +kernel
theorem dK_joined_30 : decode prog_2_method_13_code 30 = .ok (.invokestatic 44, 3) := by decide +kernel
theorem dK_joined_33 : decode prog_2_method_13_code 33 = .ok (.iaload, 1) := by decide +kernel
theorem dK_joined_34 : decode prog_2_method_13_code 34 = .ok (.ior, 1) := by decide +kernel
theorem dK_joined_35 : decode prog_2_method_13_code 35 = .ok (.istore 4, 2) := by decide +kernel
theorem dK_joined_37 : decode prog_2_method_13_code 37 = .ok (.iinc 5 1, 3) := by decide +kernel
theorem dK_joined_40 : decode prog_2_method_13_code 40 = .ok (.goto (-34), 3) := by decide +kernel
theorem dK_joined_43 : decode prog_2_method_13_code 43 = .ok (.iload 4, 2) := by decide +kernel
theorem dK_joined_45 : decode prog_2_method_13_code 45 = .ok (.ireturn, 1) := by decide +kernel
theorem dK_holdsAll_0 : decode prog_2_method_14_code 0 = .ok (.aload_n 0, 1) := by decide +kernel
theorem dK_holdsAll_1 : decode prog_2_method_14_code 1 = .ok (.iload_n 1, 1) := by decide +kernel
theorem dK_holdsAll_2 : decode prog_2_method_14_code 2 = .ok (.iload_n 2, 1) := by decide +kernel
theorem dK_holdsAll_3 : decode prog_2_method_14_code 3 = .ok (.aload_n 3, 1) := by decide +kernel
theorem dK_holdsAll_4 : decode prog_2_method_14_code 4 = .ok (.iconst 0, 1) := by decide +kernel
theorem dK_holdsAll_5 : decode prog_2_method_14_code 5 = .ok (.invokevirtual 55, 3) := by decide +kernel
theorem dK_holdsAll_8 : decode prog_2_method_14_code 8 = .ok (.ireturn, 1) := by decide +kernel
theorem dK_holdsAllDown_0 : decode prog_2_method_15_code 0 = .ok (.aload_n 3, 1) := by decide +kernel
theorem dK_holdsAllDown_1 : decode prog_2_method_15_code 1 = .ok (.getfield 59, 3) := by decide +kernel
theorem dK_holdsAllDown_4 : decode prog_2_method_15_code 4 = .ok (.iload_n 2, 1) := by decide +kernel
theorem dK_holdsAllDown_5 : decode prog_2_method_15_code 5 = .ok (.iaload, 1) := by decide +kernel
theorem dK_holdsAllDown_6 : decode prog_2_method_15_code 6 = .ok (.istore 5, 2) := by decide +kernel
theorem dK_holdsAllDown_8 : decode prog_2_method_15_code 8 = .ok (.iload 4, 2) := by decide +kernel
theorem dK_holdsAllDown_10 : decode prog_2_method_15_code 10 = .ok (.bipush 16, 2) := by decide +kernel
theorem dK_holdsAllDown_12 : decode prog_2_method_15_code 12 = .ok (.if_icmp .gt 18, 3) := by decide +kernel
theorem dK_holdsAllDown_15 : decode prog_2_method_15_code 15 = .ok (.iload 5, 2) := by decide +kernel
theorem dK_holdsAllDown_17 : decode prog_2_method_15_code 17 = .ok (.ifCond .lt 13, 3) := by decide +kernel
theorem dK_holdsAllDown_20 : decode prog_2_method_15_code 20 = .ok (.aload_n 0, 1) := by decide +kernel
theorem dK_holdsAllDown_21 : decode prog_2_method_15_code 21 = .ok (.iload_n 1, 1) := by decide +kernel
theorem dK_holdsAllDown_22 : decode prog_2_method_15_code 22 = .ok (.iload 5, 2) := by decide +kernel
theorem dK_holdsAllDown_24 : decode prog_2_method_15_code 24 = .ok (.invokevirtual 64, 3) := by decide +kernel
theorem dK_holdsAllDown_27 : decode prog_2_method_15_code 27 = .ok (.ifCond .ne 5, 3) := by decide +kernel
theorem dK_holdsAllDown_30 : decode prog_2_method_15_code 30 = .ok (.iconst 0, 1) := by decide +kernel
theorem dK_holdsAllDown_31 : decode prog_2_method_15_code 31 = .ok (.ireturn, 1) := by decide +kernel
theorem dK_holdsAllDown_32 : decode prog_2_method_15_code 32 = .ok (.aload_n 0, 1) := by decide +kernel
theorem dK_holdsAllDown_33 : decode prog_2_method_15_code 33 = .ok (.aload_n 0, 1) := by decide +kernel
theorem dK_holdsAllDown_34 : decode prog_2_method_15_code 34 = .ok (.getfield 24, 3) := by decide +kernel
theorem dK_holdsAllDown_37 : decode prog_2_method_15_code 37 = .ok (.iload_n 1, 1) := by decide +kernel
theorem dK_holdsAllDown_38 : decode prog_2_method_15_code 38 = .ok (.iload 5, 2) := by decide +kernel
theorem dK_holdsAllDown_40 : decode prog_2_method_15_code 40 = .ok (.invokevirtual 67, 3) := by decide +kernel
theorem dK_holdsAllDown_43 : decode prog_2_method_15_code 43 = .ok (.istore 6, 2) := by decide +kernel
theorem dK_holdsAllDown_45 : decode prog_2_method_15_code 45 = .ok (.aload_n 0, 1) := by decide +kernel
theorem dK_holdsAllDown_46 : decode prog_2_method_15_code 46 = .ok (.aload_n 0, 1) := by decide +kernel
theorem dK_holdsAllDown_47 : decode prog_2_method_15_code 47 = .ok (.getfield 27, 3) := by decide +kernel
theorem dK_holdsAllDown_50 : decode prog_2_method_15_code 50 = .ok (.iload_n 1, 1) := by decide +kernel
theorem dK_holdsAllDown_51 : decode prog_2_method_15_code 51 = .ok (.iload 5, 2) := by decide +kernel
theorem dK_holdsAllDown_53 : decode prog_2_method_15_code 53 = .ok (.invokevirtual 67, 3) := by decide +kernel
theorem dK_holdsAllDown_56 : decode prog_2_method_15_code 56 = .ok (.istore 7, 2) := by decide +kernel
theorem dK_holdsAllDown_58 : decode prog_2_method_15_code 58 = .ok (.aload_n 3, 1) := by decide +kernel
theorem dK_holdsAllDown_59 : decode prog_2_method_15_code 59 = .ok (.getfield 71, 3) := by decide +kernel
theorem dK_holdsAllDown_62 : decode prog_2_method_15_code 62 = .ok (.iload_n 2, 1) := by decide +kernel
theorem dK_holdsAllDown_63 : decode prog_2_method_15_code 63 = .ok (.iaload, 1) := by decide +kernel
theorem dK_holdsAllDown_64 : decode prog_2_method_15_code 64 = .ok (.istore 8, 2) := by decide +kernel
theorem dK_holdsAllDown_66 : decode prog_2_method_15_code 66 = .ok (.aload_n 3, 1) := by decide +kernel
theorem dK_holdsAllDown_67 : decode prog_2_method_15_code 67 = .ok (.getfield 74, 3) := by decide +kernel
theorem dK_holdsAllDown_70 : decode prog_2_method_15_code 70 = .ok (.iload_n 2, 1) := by decide +kernel
theorem dK_holdsAllDown_71 : decode prog_2_method_15_code 71 = .ok (.iaload, 1) := by decide +kernel
theorem dK_holdsAllDown_72 : decode prog_2_method_15_code 72 = .ok (.istore 9, 2) := by decide +kernel
theorem dK_holdsAllDown_74 : decode prog_2_method_15_code 74 = .ok (.iload 8, 2) := by decide +kernel
theorem dK_holdsAllDown_76 : decode prog_2_method_15_code 76 = .ok (.iconst (-1), 1) := by decide +kernel
theorem dK_holdsAllDown_77 : decode prog_2_method_15_code 77 = .ok (.if_icmp .eq 19, 3) := by decide +kernel
theorem dK_holdsAllDown_80 : decode prog_2_method_15_code 80 = .ok (.aload_n 0, 1) := by decide +kernel
theorem dK_holdsAllDown_81 : decode prog_2_method_15_code 81 = .ok (.iload 6, 2) := by decide +kernel
theorem dK_holdsAllDown_83 : decode prog_2_method_15_code 83 = .ok (.iload 8, 2) := by decide +kernel
theorem dK_holdsAllDown_85 : decode prog_2_method_15_code 85 = .ok (.aload_n 3, 1) := by decide +kernel
theorem dK_holdsAllDown_86 : decode prog_2_method_15_code 86 = .ok (.iload 4, 2) := by decide +kernel
theorem dK_holdsAllDown_88 : decode prog_2_method_15_code 88 = .ok (.iconst 1, 1) := by decide +kernel
theorem dK_holdsAllDown_89 : decode prog_2_method_15_code 89 = .ok (.iadd, 1) := by decide +kernel
theorem dK_holdsAllDown_90 : decode prog_2_method_15_code 90 = .ok (.invokevirtual 55, 3) := by decide +kernel
theorem dK_holdsAllDown_93 : decode prog_2_method_15_code 93 = .ok (.ifCond .eq 29, 3) := by decide +kernel
theorem dK_holdsAllDown_96 : decode prog_2_method_15_code 96 = .ok (.iload 9, 2) := by decide +kernel
theorem dK_holdsAllDown_98 : decode prog_2_method_15_code 98 = .ok (.iconst (-1), 1) := by decide +kernel
theorem dK_holdsAllDown_99 : decode prog_2_method_15_code 99 = .ok (.if_icmp .eq 19, 3) := by decide +kernel
theorem dK_holdsAllDown_102 : decode prog_2_method_15_code 102 = .ok (.aload_n 0, 1) := by decide +kernel
theorem dK_holdsAllDown_103 : decode prog_2_method_15_code 103 = .ok (.iload 7, 2) := by decide +kernel
theorem dK_holdsAllDown_105 : decode prog_2_method_15_code 105 = .ok (.iload 9, 2) := by decide +kernel
theorem dK_holdsAllDown_107 : decode prog_2_method_15_code 107 = .ok (.aload_n 3, 1) := by decide +kernel
theorem dK_holdsAllDown_108 : decode prog_2_method_15_code 108 = .ok (.iload 4, 2) := by decide +kernel
theorem dK_holdsAllDown_110 : decode prog_2_method_15_code 110 = .ok (.iconst 1, 1) := by decide +kernel
theorem dK_holdsAllDown_111 : decode prog_2_method_15_code 111 = .ok (.iadd, 1) := by decide +kernel
theorem dK_holdsAllDown_112 : decode prog_2_method_15_code 112 = .ok (.invokevirtual 55, 3) := by decide +kernel
theorem dK_holdsAllDown_115 : decode prog_2_method_15_code 115 = .ok (.ifCond .eq 7, 3) := by decide +kernel
theorem dK_holdsAllDown_118 : decode prog_2_method_15_code 118 = .ok (.iconst 1, 1) := by decide +kernel
theorem dK_holdsAllDown_119 : decode prog_2_method_15_code 119 = .ok (.goto 4, 3) := by decide +kernel
theorem dK_holdsAllDown_122 : decode prog_2_method_15_code 122 = .ok (.iconst 0, 1) := by decide +kernel
theorem dK_holdsAllDown_123 : decode prog_2_method_15_code 123 = .ok (.ireturn, 1) := by decide +kernel
theorem dE_init_0 : decode prog_3_method_1_code 0 = .ok (.aload_n 0, 1) := by decide +kernel
theorem dE_init_1 : decode prog_3_method_1_code 1 = .ok (.invokespecial 3, 3) := by decide +kernel
theorem dE_init_4 : decode prog_3_method_1_code 4 = .ok (.aload_n 0, 1) := by decide +kernel
theorem dE_init_5 : decode prog_3_method_1_code 5 = .ok (.bipush 120, 2) := by decide +kernel
theorem dE_init_7 : decode prog_3_method_1_code 7 = .ok (.newarray .int, 2) := by decide +kernel
theorem dE_init_9 : decode prog_3_method_1_code 9 = .ok (.putfield 9, 3) := by decide +kernel
theorem dE_init_12 : decode prog_3_method_1_code 12 = .ok (.aload_n 0, 1) := by decide +kernel
theorem dE_init_13 : decode prog_3_method_1_code 13 = .ok (.bipush 120, 2) := by decide +kernel
theorem dE_init_15 : decode prog_3_method_1_code 15 = .ok (.newarray .int, 2) := by decide +kernel
theorem dE_init_17 : decode prog_3_method_1_code 17 = .ok (.putfield 15, 3) := by decide +kernel
theorem dE_init_20 : decode prog_3_method_1_code 20 = .ok (.aload_n 0, 1) := by decide +kernel
theorem dE_init_21 : decode prog_3_method_1_code 21 = .ok (.bipush 120, 2) := by decide +kernel
theorem dE_init_23 : decode prog_3_method_1_code 23 = .ok (.newarray .int, 2) := by decide +kernel
theorem dE_init_25 : decode prog_3_method_1_code 25 = .ok (.putfield 18, 3) := by decide +kernel
theorem dE_init_28 : decode prog_3_method_1_code 28 = .ok (.aload_n 0, 1) := by decide +kernel
theorem dE_init_29 : decode prog_3_method_1_code 29 = .ok (.bipush 120, 2) := by decide +kernel
theorem dE_init_31 : decode prog_3_method_1_code 31 = .ok (.newarray .int, 2) := by decide +kernel
theorem dE_init_33 : decode prog_3_method_1_code 33 = .ok (.putfield 21, 3) := by decide +kernel
theorem dE_init_36 : decode prog_3_method_1_code 36 = .ok (.aload_n 0, 1) := by decide +kernel
theorem dE_init_37 : decode prog_3_method_1_code 37 = .ok (.bipush 120, 2) := by decide +kernel
theorem dE_init_39 : decode prog_3_method_1_code 39 = .ok (.newarray .int, 2) := by decide +kernel
theorem dE_init_41 : decode prog_3_method_1_code 41 = .ok (.putfield 24, 3) := by decide +kernel
theorem dE_init_44 : decode prog_3_method_1_code 44 = .ok (.return_, 1) := by decide +kernel
theorem dE_has_0 : decode prog_3_method_2_code 0 = .ok (.iload_n 1, 1) := by decide +kernel
theorem dE_has_1 : decode prog_3_method_2_code 1 = .ok (.ifCond .lt 15, 3) := by decide +kernel
theorem dE_has_4 : decode prog_3_method_2_code 4 = .ok (.iload_n 1, 1) := by decide +kernel
theorem dE_has_5 : decode prog_3_method_2_code 5 = .ok (.aload_n 0, 1) := by decide +kernel
theorem dE_has_6 : decode prog_3_method_2_code 6 = .ok (.getfield 27, 3) := by decide +kernel
theorem dE_has_9 : decode prog_3_method_2_code 9 = .ok (.if_icmp .ge 7, 3) := by decide +kernel
theorem dE_has_12 : decode prog_3_method_2_code 12 = .ok (.iconst 1, 1) := by decide +kernel
theorem dE_has_13 : decode prog_3_method_2_code 13 = .ok (.goto 4, 3) := by decide +kernel
theorem dE_has_16 : decode prog_3_method_2_code 16 = .ok (.iconst 0, 1) := by decide +kernel
theorem dE_has_17 : decode prog_3_method_2_code 17 = .ok (.ireturn, 1) := by decide +kernel
theorem dE_nodesOf_0 : decode prog_3_method_3_code 0 = .ok (.aload_n 0, 1) := by decide +kernel
theorem dE_nodesOf_1 : decode prog_3_method_3_code 1 = .ok (.getfield 24, 3) := by decide +kernel
theorem dE_nodesOf_4 : decode prog_3_method_3_code 4 = .ok (.iload_n 1, 1) := by decide +kernel
theorem dE_nodesOf_5 : decode prog_3_method_3_code 5 = .ok (.iaload, 1) := by decide +kernel
theorem dE_nodesOf_6 : decode prog_3_method_3_code 6 = .ok (.ireturn, 1) := by decide +kernel
