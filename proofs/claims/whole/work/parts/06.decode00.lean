theorem dT_addConstructor_0 : decode prog_6_method_7_code 0 = .ok (.aload_n 0, 1) := by decide +kernel
theorem dT_addConstructor_1 : decode prog_6_method_7_code 1 = .ok (.getfield 30, 3) := by decide +kernel
theorem dT_addConstructor_4 : decode prog_6_method_7_code 4 = .ok (.bipush 8, 2) := by decide +kernel
theorem dT_addConstructor_6 : decode prog_6_method_7_code 6 = .ok (.if_icmp .lt 6, 3) := by decide +kernel
theorem dT_addConstructor_9 : decode prog_6_method_7_code 9 = .ok (.bipush (-3), 2) := by decide +kernel
theorem dT_addConstructor_11 : decode prog_6_method_7_code 11 = .ok (.ireturn, 1) := by decide +kernel
theorem dT_addConstructor_12 : decode prog_6_method_7_code 12 = .ok (.aload_n 0, 1) := by decide +kernel
theorem dT_addConstructor_13 : decode prog_6_method_7_code 13 = .ok (.getfield 9, 3) := by decide +kernel
theorem dT_addConstructor_16 : decode prog_6_method_7_code 16 = .ok (.aload_n 0, 1) := by decide +kernel
theorem dT_addConstructor_17 : decode prog_6_method_7_code 17 = .ok (.getfield 30, 3) := by decide +kernel
theorem dT_addConstructor_20 : decode prog_6_method_7_code 20 = .ok (.iload_n 1, 1) := by decide +kernel
theorem dT_addConstructor_21 : decode prog_6_method_7_code 21 = .ok (.iastore, 1) := by decide +kernel
theorem dT_addConstructor_22 : decode prog_6_method_7_code 22 = .ok (.aload_n 0, 1) := by decide +kernel
theorem dT_addConstructor_23 : decode prog_6_method_7_code 23 = .ok (.dup, 1) := by decide +kernel
theorem dT_addConstructor_24 : decode prog_6_method_7_code 24 = .ok (.getfield 30, 3) := by decide +kernel
theorem dT_addConstructor_27 : decode prog_6_method_7_code 27 = .ok (.iconst 1, 1) := by decide +kernel
theorem dT_addConstructor_28 : decode prog_6_method_7_code 28 = .ok (.iadd, 1) := by decide +kernel
theorem dT_addConstructor_29 : decode prog_6_method_7_code 29 = .ok (.putfield 30, 3) := by decide +kernel
theorem dT_addConstructor_32 : decode prog_6_method_7_code 32 = .ok (.aload_n 0, 1) := by decide +kernel
theorem dT_addConstructor_33 : decode prog_6_method_7_code 33 = .ok (.getfield 30, 3) := by decide +kernel
theorem dT_addConstructor_36 : decode prog_6_method_7_code 36 = .ok (.iconst 1, 1) := by decide +kernel
theorem dT_addConstructor_37 : decode prog_6_method_7_code 37 = .ok (.isub, 1) := by decide +kernel
theorem dT_addConstructor_38 : decode prog_6_method_7_code 38 = .ok (.ireturn, 1) := by decide +kernel
theorem dI_constructor_0 : decode prog_1_method_2_code 0 = .ok (.iload_n 1, 1) := by decide +kernel
theorem dI_constructor_1 : decode prog_1_method_2_code 1 = .ok (.ifCond .lt 8, 3) := by decide +kernel
theorem dI_constructor_4 : decode prog_1_method_2_code 4 = .ok (.iload_n 1, 1) := by decide +kernel
theorem dI_constructor_5 : decode prog_1_method_2_code 5 = .ok (.iconst 2, 1) := by decide +kernel
theorem dI_constructor_6 : decode prog_1_method_2_code 6 = .ok (.if_icmp .le 5, 3) := by decide +kernel
theorem dI_constructor_9 : decode prog_1_method_2_code 9 = .ok (.iconst (-1), 1) := by decide +kernel
theorem dI_constructor_10 : decode prog_1_method_2_code 10 = .ok (.ireturn, 1) := by decide +kernel
theorem dI_constructor_11 : decode prog_1_method_2_code 11 = .ok (.aload_n 0, 1) := by decide +kernel
theorem dI_constructor_12 : decode prog_1_method_2_code 12 = .ok (.getfield 10, 3) := by decide +kernel
theorem dI_constructor_15 : decode prog_1_method_2_code 15 = .ok (.iload_n 1, 1) := by decide +kernel
theorem dI_constructor_16 : decode prog_1_method_2_code 16 = .ok (.invokevirtual 46, 3) := by decide +kernel
theorem dI_constructor_19 : decode prog_1_method_2_code 19 = .ok (.ireturn, 1) := by decide +kernel
theorem dT_search_0 : decode prog_6_method_10_code 0 = .ok (.iconst 0, 1) := by decide +kernel
theorem dT_search_1 : decode prog_6_method_10_code 1 = .ok (.istore 4, 2) := by decide +kernel
theorem dT_search_3 : decode prog_6_method_10_code 3 = .ok (.iload 4, 2) := by decide +kernel
theorem dT_search_5 : decode prog_6_method_10_code 5 = .ok (.aload_n 0, 1) := by decide +kernel
theorem dT_search_6 : decode prog_6_method_10_code 6 = .ok (.getfield 34, 3) := by decide +kernel
theorem dT_search_9 : decode prog_6_method_10_code 9 = .ok (.if_icmp .ge 45, 3) := by decide +kernel
theorem dT_search_12 : decode prog_6_method_10_code 12 = .ok (.aload_n 0, 1) := by decide +kernel
theorem dT_search_13 : decode prog_6_method_10_code 13 = .ok (.getfield 15, 3) := by decide +kernel
theorem dT_search_16 : decode prog_6_method_10_code 16 = .ok (.iload 4, 2) := by decide +kernel
theorem dT_search_18 : decode prog_6_method_10_code 18 = .ok (.iaload, 1) := by decide +kernel
theorem dT_search_19 : decode prog_6_method_10_code 19 = .ok (.iload_n 1, 1) := by decide +kernel
theorem dT_search_20 : decode prog_6_method_10_code 20 = .ok (.if_icmp .ne 28, 3) := by decide +kernel
theorem dT_search_23 : decode prog_6_method_10_code 23 = .ok (.aload_n 0, 1) := by decide +kernel
theorem dT_search_24 : decode prog_6_method_10_code 24 = .ok (.getfield 18, 3) := by decide +kernel
theorem dT_search_27 : decode prog_6_method_10_code 27 = .ok (.iload 4, 2) := by decide +kernel
theorem dT_search_29 : decode prog_6_method_10_code 29 = .ok (.iaload, 1) := by decide +kernel
theorem dT_search_30 : decode prog_6_method_10_code 30 = .ok (.iload_n 2, 1) := by decide +kernel
theorem dT_search_31 : decode prog_6_method_10_code 31 = .ok (.if_icmp .ne 17, 3) := by decide +kernel
theorem dT_search_34 : decode prog_6_method_10_code 34 = .ok (.aload_n 0, 1) := by decide +kernel
theorem dT_search_35 : decode prog_6_method_10_code 35 = .ok (.getfield 21, 3) := by decide +kernel
theorem dT_search_38 : decode prog_6_method_10_code 38 = .ok (.iload 4, 2) := by decide +kernel
theorem dT_search_40 : decode prog_6_method_10_code 40 = .ok (.iaload, 1) := by decide +kernel
theorem dT_search_41 : decode prog_6_method_10_code 41 = .ok (.iload_n 3, 1) := by decide +kernel
theorem dT_search_42 : decode prog_6_method_10_code 42 = .ok (.if_icmp .ne 6, 3) := by decide +kernel
theorem dT_search_45 : decode prog_6_method_10_code 45 = .ok (.iload 4, 2) := by decide +kernel
theorem dT_search_47 : decode prog_6_method_10_code 47 = .ok (.ireturn, 1) := by decide +kernel
theorem dT_search_48 : decode prog_6_method_10_code 48 = .ok (.iinc 4 1, 3) := by decide +kernel
theorem dT_search_51 : decode prog_6_method_10_code 51 = .ok (.goto (-48), 3) := by decide +kernel
theorem dT_search_54 : decode prog_6_method_10_code 54 = .ok (.iconst (-1), 1) := by decide +kernel
theorem dT_search_55 : decode prog_6_method_10_code 55 = .ok (.ireturn, 1) := by decide +kernel
theorem dT_keep_0 : decode prog_6_method_11_code 0 = .ok (.aload_n 0, 1) := by decide +kernel
theorem dT_keep_1 : decode prog_6_method_11_code 1 = .ok (.getfield 34, 3) := by decide +kernel
theorem dT_keep_4 : decode prog_6_method_11_code 4 = .ok (.bipush 60, 2) := by decide +kernel
theorem dT_keep_6 : decode prog_6_method_11_code 6 = .ok (.if_icmp .lt 6, 3) := by decide +kernel
theorem dT_keep_9 : decode prog_6_method_11_code 9 = .ok (.bipush (-3), 2) := by decide +kernel
theorem dT_keep_11 : decode prog_6_method_11_code 11 = .ok (.ireturn, 1) := by decide +kernel
theorem dT_keep_12 : decode prog_6_method_11_code 12 = .ok (.aload_n 0, 1) := by decide +kernel
theorem dT_keep_13 : decode prog_6_method_11_code 13 = .ok (.getfield 15, 3) := by decide +kernel
theorem dT_keep_16 : decode prog_6_method_11_code 16 = .ok (.aload_n 0, 1) := by decide +kernel
theorem dT_keep_17 : decode prog_6_method_11_code 17 = .ok (.getfield 34, 3) := by decide +kernel
theorem dT_keep_20 : decode prog_6_method_11_code 20 = .ok (.iload_n 1, 1) := by decide +kernel
theorem dT_keep_21 : decode prog_6_method_11_code 21 = .ok (.iastore, 1) := by decide +kernel
theorem dT_keep_22 : decode prog_6_method_11_code 22 = .ok (.aload_n 0, 1) := by decide +kernel
theorem dT_keep_23 : decode prog_6_method_11_code 23 = .ok (.getfield 18, 3) := by decide +kernel
theorem dT_keep_26 : decode prog_6_method_11_code 26 = .ok (.aload_n 0, 1) := by decide +kernel
theorem dT_keep_27 : decode prog_6_method_11_code 27 = .ok (.getfield 34, 3) := by decide +kernel
theorem dT_keep_30 : decode prog_6_method_11_code 30 = .ok (.iload_n 2, 1) := by decide +kernel
theorem dT_keep_31 : decode prog_6_method_11_code 31 = .ok (.iastore, 1) := by decide +kernel
theorem dT_keep_32 : decode prog_6_method_11_code 32 = .ok (.aload_n 0, 1) := by decide +kernel
theorem dT_keep_33 : decode prog_6_method_11_code 33 = .ok (.getfield 21, 3) := by decide +kernel
theorem dT_keep_36 : decode prog_6_method_11_code 36 = .ok (.aload_n 0, 1) := by decide +kernel
theorem dT_keep_37 : decode prog_6_method_11_code 37 = .ok (.getfield 34, 3) := by decide +kernel
theorem dT_keep_40 : decode prog_6_method_11_code 40 = .ok (.iload_n 3, 1) := by decide +kernel
theorem dT_keep_41 : decode prog_6_method_11_code 41 = .ok (.iastore, 1) := by decide +kernel
theorem dT_keep_42 : decode prog_6_method_11_code 42 = .ok (.aload_n 0, 1) := by decide +kernel
theorem dT_keep_43 : decode prog_6_method_11_code 43 = .ok (.getfield 24, 3) := by decide +kernel
theorem dT_keep_46 : decode prog_6_method_11_code 46 = .ok (.aload_n 0, 1) := by decide +kernel
theorem dT_keep_47 : decode prog_6_method_11_code 47 = .ok (.getfield 34, 3) := by decide +kernel
theorem dT_keep_50 : decode prog_6_method_11_code 50 = .ok (.iload 4, 2) := by decide +kernel
theorem dT_keep_52 : decode prog_6_method_11_code 52 = .ok (.iastore, 1) := by decide +kernel
theorem dT_keep_53 : decode prog_6_method_11_code 53 = .ok (.aload_n 0, 1) := by decide +kernel
theorem dT_keep_54 : decode prog_6_method_11_code 54 = .ok (.getfield 27, 3) := by decide +kernel
theorem dT_keep_57 : decode prog_6_method_11_code 57 = .ok (.aload_n 0, 1) := by decide +kernel
theorem dT_keep_58 : decode prog_6_method_11_code 58 = .ok (.getfield 34, 3) := by decide +kernel
theorem dT_keep_61 : decode prog_6_method_11_code 61 = .ok (.iload 5, 2) := by decide +kernel
theorem dT_keep_63 : decode prog_6_method_11_code 63 = .ok (.iastore, 1) := by decide +kernel
theorem dT_keep_64 : decode prog_6_method_11_code 64 = .ok (.aload_n 0, 1) := by decide +kernel
theorem dT_keep_65 : decode prog_6_method_11_code 65 = .ok (.dup, 1) := by decide +kernel
theorem dT_keep_66 : decode prog_6_method_11_code 66 = .ok (.getfield 34, 3) := by decide +kernel
theorem dT_keep_69 : decode prog_6_method_11_code 69 = .ok (.iconst 1, 1) := by decide +kernel
theorem dT_keep_70 : decode prog_6_method_11_code 70 = .ok (.iadd, 1) := by decide +kernel
theorem dT_keep_71 : decode prog_6_method_11_code 71 = .ok (.putfield 34, 3) := by decide +kernel
theorem dT_keep_74 : decode prog_6_method_11_code 74 = .ok (.aload_n 0, 1) := by decide +kernel
theorem dT_keep_75 : decode prog_6_method_11_code 75 = .ok (.getfield 34, 3) := by decide +kernel
theorem dT_keep_78 : decode prog_6_method_11_code 78 = .ok (.iconst 1, 1) := by decide +kernel
theorem dT_keep_79 : decode prog_6_method_11_code 79 = .ok (.isub, 1) := by decide +kernel
theorem dT_keep_80 : decode prog_6_method_11_code 80 = .ok (.ireturn, 1) := by decide +kernel
theorem dT_addVariable_0 : decode prog_6_method_8_code 0 = .ok (.aload_n 0, 1) := by decide +kernel
theorem dT_addVariable_1 : decode prog_6_method_8_code 1 = .ok (.iconst (-1), 1) := by decide +kernel
theorem dT_addVariable_2 : decode prog_6_method_8_code 2 = .ok (.iload_n 1, 1) := by decide +kernel
theorem dT_addVariable_3 : decode prog_6_method_8_code 3 = .ok (.isub, 1) := by decide +kernel
theorem dT_addVariable_4 : decode prog_6_method_8_code 4 = .ok (.iconst (-1), 1) := by decide +kernel
theorem dT_addVariable_5 : decode prog_6_method_8_code 5 = .ok (.iconst (-1), 1) := by decide +kernel
theorem dT_addVariable_6 : decode prog_6_method_8_code 6 = .ok (.invokevirtual 37, 3) := by decide +kernel
theorem dT_addVariable_9 : decode prog_6_method_8_code 9 = .ok (.istore_n 2, 1) := by decide +kernel
theorem dT_addVariable_10 : decode prog_6_method_8_code 10 = .ok (.iload_n 2, 1) := by decide +kernel
theorem dT_addVariable_11 : decode prog_6_method_8_code 11 = .ok (.iconst (-1), 1) := by decide +kernel
theorem dT_addVariable_12 : decode prog_6_method_8_code 12 = .ok (.if_icmp .eq 5, 3) := by decide +kernel
theorem dT_addVariable_15 : decode prog_6_method_8_code 15 = .ok (.iload_n 2, 1) := by decide +kernel
theorem dT_addVariable_16 : decode prog_6_method_8_code 16 = .ok (.ireturn, 1) := by decide +kernel
theorem dT_addVariable_17 : decode prog_6_method_8_code 17 = .ok (.aload_n 0, 1) := by decide +kernel
theorem dT_addVariable_18 : decode prog_6_method_8_code 18 = .ok (.iconst (-1), 1) := by decide +kernel
theorem dT_addVariable_19 : decode prog_6_method_8_code 19 = .ok (.iload_n 1, 1) := by decide +kernel
theorem dT_addVariable_20 : decode prog_6_method_8_code 20 = .ok (.isub, 1) := by decide +kernel
theorem dT_addVariable_21 : decode prog_6_method_8_code 21 = .ok (.iconst (-1), 1) := by decide +kernel
theorem dT_addVariable_22 : decode prog_6_method_8_code 22 = .ok (.iconst (-1), 1) := by decide +kernel
theorem dT_addVariable_23 : decode prog_6_method_8_code 23 = .ok (.iconst 1, 1) := by decide +kernel
theorem dT_addVariable_24 : decode prog_6_method_8_code 24 = .ok (.iconst 1, 1) := by decide +kernel
theorem dT_addVariable_25 : decode prog_6_method_8_code 25 = .ok (.iload_n 1, 1) := by decide +kernel
theorem dT_addVariable_26 : decode prog_6_method_8_code 26 = .ok (.ishl, 1) := by decide +kernel
theorem dT_addVariable_27 : decode prog_6_method_8_code 27 = .ok (.invokevirtual 41, 3) := by decide +kernel
theorem dT_addVariable_30 : decode prog_6_method_8_code 30 = .ok (.ireturn, 1) := by decide +kernel
theorem dI_variable_0 : decode prog_1_method_3_code 0 = .ok (.iload_n 1, 1) := by decide +kernel
theorem dI_variable_1 : decode prog_1_method_3_code 1 = .ok (.ifCond .lt 9, 3) := by decide +kernel
theorem dI_variable_4 : decode prog_1_method_3_code 4 = .ok (.iload_n 1, 1) := by decide +kernel
theorem dI_variable_5 : decode prog_1_method_3_code 5 = .ok (.bipush 8, 2) := by decide +kernel
theorem dI_variable_7 : decode prog_1_method_3_code 7 = .ok (.if_icmp .lt 5, 3) := by decide +kernel
theorem dI_variable_10 : decode prog_1_method_3_code 10 = .ok (.iconst (-1), 1) := by decide +kernel
theorem dI_variable_11 : decode prog_1_method_3_code 11 = .ok (.ireturn, 1) := by decide +kernel
theorem dI_variable_12 : decode prog_1_method_3_code 12 = .ok (.aload_n 0, 1) := by decide +kernel
theorem dI_variable_13 : decode prog_1_method_3_code 13 = .ok (.getfield 10, 3) := by decide +kernel
theorem dI_variable_16 : decode prog_1_method_3_code 16 = .ok (.iload_n 1, 1) := by decide +kernel
theorem dI_variable_17 : decode prog_1_method_3_code 17 = .ok (.invokevirtual 50, 3) := by decide +kernel
theorem dI_variable_20 : decode prog_1_method_3_code 20 = .ok (.ireturn, 1) := by decide +kernel
theorem dT_hasConstructor_0 : decode prog_6_method_2_code 0 = .ok (.iload_n 1, 1) := by decide +kernel
theorem dT_hasConstructor_1 : decode prog_6_method_2_code 1 = .ok (.ifCond .lt 15, 3) := by decide +kernel
theorem dT_hasConstructor_4 : decode prog_6_method_2_code 4 = .ok (.iload_n 1, 1) := by decide +kernel
theorem dT_hasConstructor_5 : decode prog_6_method_2_code 5 = .ok (.aload_n 0, 1) := by decide +kernel
theorem dT_hasConstructor_6 : decode prog_6_method_2_code 6 = .ok (.getfield 30, 3) := by decide +kernel
theorem dT_hasConstructor_9 : decode prog_6_method_2_code 9 = .ok (.if_icmp .ge 7, 3) := by decide +kernel
theorem dT_hasConstructor_12 : decode prog_6_method_2_code 12 = .ok (.iconst 1, 1) := by decide +kernel
theorem dT_hasConstructor_13 : decode prog_6_method_2_code 13 = .ok (.goto 4, 3) := by decide +kernel
theorem dT_hasConstructor_16 : decode prog_6_method_2_code 16 = .ok (.iconst 0, 1) := by decide +kernel
theorem dT_hasConstructor_17 : decode prog_6_method_2_code 17 = .ok (.ireturn, 1) := by decide +kernel
theorem dT_partsOf_0 : decode prog_6_method_3_code 0 = .ok (.aload_n 0, 1) := by decide +kernel
theorem dT_partsOf_1 : decode prog_6_method_3_code 1 = .ok (.getfield 9, 3) := by decide +kernel
theorem dT_partsOf_4 : decode prog_6_method_3_code 4 = .ok (.iload_n 1, 1) := by decide +kernel
theorem dT_partsOf_5 : decode prog_6_method_3_code 5 = .ok (.iaload, 1) := by decide +kernel
theorem dT_partsOf_6 : decode prog_6_method_3_code 6 = .ok (.ireturn, 1) := by decide +kernel
theorem dT_hasType_0 : decode prog_6_method_4_code 0 = .ok (.iload_n 1, 1) := by decide +kernel
theorem dT_hasType_1 : decode prog_6_method_4_code 1 = .ok (.ifCond .lt 15, 3) := by decide +kernel
theorem dT_hasType_4 : decode prog_6_method_4_code 4 = .ok (.iload_n 1, 1) := by decide +kernel
theorem dT_hasType_5 : decode prog_6_method_4_code 5 = .ok (.aload_n 0, 1) := by decide +kernel
theorem dT_hasType_6 : decode prog_6_method_4_code 6 = .ok (.getfield 34, 3) := by decide +kernel
theorem dT_hasType_9 : decode prog_6_method_4_code 9 = .ok (.if_icmp .ge 7, 3) := by decide +kernel
theorem dT_hasType_12 : decode prog_6_method_4_code 12 = .ok (.iconst 1, 1) := by decide +kernel
theorem dT_hasType_13 : decode prog_6_method_4_code 13 = .ok (.goto 4, 3) := by decide +kernel
theorem dT_hasType_16 : decode prog_6_method_4_code 16 = .ok (.iconst 0, 1) := by decide +kernel
theorem dT_hasType_17 : decode prog_6_method_4_code 17 = .ok (.ireturn, 1) := by decide +kernel
theorem dT_addBuilt_0 : decode prog_6_method_9_code 0 = .ok (.aload_n 0, 1) := by decide +kernel
theorem dT_addBuilt_1 : decode prog_6_method_9_code 1 = .ok (.iload_n 1, 1) := by decide +kernel
theorem dT_addBuilt_2 : decode prog_6_method_9_code 2 = .ok (.iload_n 2, 1) := by decide +kernel
theorem dT_addBuilt_3 : decode prog_6_method_9_code 3 = .ok (.iload_n 3, 1) := by decide +kernel
theorem dT_addBuilt_4 : decode prog_6_method_9_code 4 = .ok (.invokevirtual 37, 3) := by decide +kernel
theorem dT_addBuilt_7 : decode prog_6_method_9_code 7 = .ok (.istore 4, 2) := by decide +kernel
theorem dT_addBuilt_9 : decode prog_6_method_9_code 9 = .ok (.iload 4, 2) := by decide +kernel
theorem dT_addBuilt_11 : decode prog_6_method_9_code 11 = .ok (.iconst (-1), 1) := by decide +kernel
theorem dT_addBuilt_12 : decode prog_6_method_9_code 12 = .ok (.if_icmp .eq 6, 3) := by decide +kernel
theorem dT_addBuilt_15 : decode prog_6_method_9_code 15 = .ok (.iload 4, 2) := by decide +kernel
theorem dT_addBuilt_17 : decode prog_6_method_9_code 17 = .ok (.ireturn, 1) := by decide +kernel
theorem dT_addBuilt_18 : decode prog_6_method_9_code 18 = .ok (.iconst 1, 1) := by decide +kernel
theorem dT_addBuilt_19 : decode prog_6_method_9_code 19 = .ok (.iload_n 2, 1) := by decide +kernel
theorem dT_addBuilt_20 : decode prog_6_method_9_code 20 = .ok (.iconst (-1), 1) := by decide +kernel
theorem dT_addBuilt_21 : decode prog_6_method_9_code 21 = .ok (.if_icmp .ne 7, 3) := by decide +kernel
theorem dT_addBuilt_24 : decode prog_6_method_9_code 24 = .ok (.iconst 0, 1) := by decide +kernel
theorem dT_addBuilt_25 : decode prog_6_method_9_code 25 = .ok (.goto 9, 3) := by decide +kernel
theorem dT_addBuilt_28 : decode prog_6_method_9_code 28 = .ok (.aload_n 0, 1) := by decide +kernel
theorem dT_addBuilt_29 : decode prog_6_method_9_code 29 = .ok (.getfield 24, 3) := by decide +kernel
theorem dT_addBuilt_32 : decode prog_6_method_9_code 32 = .ok (.iload_n 2, 1) := by decide +kernel
theorem dT_addBuilt_33 : decode prog_6_method_9_code 33 = .ok (.iaload, 1) := by decide +kernel
theorem dT_addBuilt_34 : decode prog_6_method_9_code 34 = .ok (.iadd, 1) := by decide +kernel
theorem dT_addBuilt_35 : decode prog_6_method_9_code 35 = .ok (.iload_n 3, 1) := by decide +kernel
theorem dT_addBuilt_36 : decode prog_6_method_9_code 36 = .ok (.iconst (-1), 1) := by decide +kernel
theorem dT_addBuilt_37 : decode prog_6_method_9_code 37 = .ok (.if_icmp .ne 7, 3) := by decide +kernel
theorem dT_addBuilt_40 : decode prog_6_method_9_code 40 = .ok (.iconst 0, 1) := by decide +kernel
theorem dT_addBuilt_41 : decode prog_6_method_9_code 41 = .ok (.goto 9, 3) := by decide +kernel
theorem dT_addBuilt_44 : decode prog_6_method_9_code 44 = .ok (.aload_n 0, 1) := by decide +kernel
theorem dT_addBuilt_45 : decode prog_6_method_9_code 45 = .ok (.getfield 24, 3) := by decide +kernel
theorem dT_addBuilt_48 : decode prog_6_method_9_code 48 = .ok (.iload_n 3, 1) := by decide +kernel
theorem dT_addBuilt_49 : decode prog_6_method_9_code 49 = .ok (.iaload, 1) := by decide +kernel
theorem dT_addBuilt_50 : decode prog_6_method_9_code 50 = .ok (.iadd, 1) := by decide +kernel
theorem dT_addBuilt_51 : decode prog_6_method_9_code 51 = .ok (.istore 5, 2) := by decide +kernel
theorem dT_addBuilt_53 : decode prog_6_method_9_code 53 = .ok (.iload_n 2, 1) := by decide +kernel
theorem dT_addBuilt_54 : decode prog_6_method_9_code 54 = .ok (.iconst (-1), 1) := by decide +kernel
theorem dT_addBuilt_55 : decode prog_6_method_9_code 55 = .ok (.if_icmp .ne 7, 3) := by decide +kernel
theorem dT_addBuilt_58 : decode prog_6_method_9_code 58 = .ok (.iconst 0, 1) := by decide +kernel
theorem dT_addBuilt_59 : decode prog_6_method_9_code 59 = .ok (.goto 9, 3) := by decide +kernel
theorem dT_addBuilt_62 : decode prog_6_method_9_code 62 = .ok (.aload_n 0, 1) := by decide +kernel
theorem dT_addBuilt_63 : decode prog_6_method_9_code 63 = .ok (.getfield 27, 3) := by decide +kernel
theorem dT_addBuilt_66 : decode prog_6_method_9_code 66 = .ok (.iload_n 2, 1) := by decide +kernel
theorem dT_addBuilt_67 : decode prog_6_method_9_code 67 = .ok (.iaload, 1) := by decide +kernel
theorem dT_addBuilt_68 : decode prog_6_method_9_code 68 = .ok (.iload_n 3, 1) := by decide +kernel
theorem dT_addBuilt_69 : decode prog_6_method_9_code 69 = .ok (.iconst (-1), 1) := by decide +kernel
theorem dT_addBuilt_70 : decode prog_6_method_9_code 70 = .ok (.if_icmp .ne 7, 3) := by decide +kernel
theorem dT_addBuilt_73 : decode prog_6_method_9_code 73 = .ok (.iconst 0, 1) := by decide +kernel
theorem dT_addBuilt_74 : decode prog_6_method_9_code 74 = .ok (.goto 9, 3) := by decide +kernel
theorem dT_addBuilt_77 : decode prog_6_method_9_code 77 = .ok (.aload_n 0, 1) := by decide +kernel
theorem dT_addBuilt_78 : decode prog_6_method_9_code 78 = .ok (.getfield 27, 3) := by decide +kernel
theorem dT_addBuilt_81 : decode prog_6_method_9_code 81 = .ok (.iload_n 3, 1) := by decide +kernel
theorem dT_addBuilt_82 : decode prog_6_method_9_code 82 = .ok (.iaload, 1) := by decide +kernel
theorem dT_addBuilt_83 : decode prog_6_method_9_code 83 = .ok (.ior, 1) := by decide +kernel
theorem dT_addBuilt_84 : decode prog_6_method_9_code 84 = .ok (.istore 6, 2) := by decide +kernel
theorem dT_addBuilt_86 : decode prog_6_method_9_code 86 = .ok (.iload 5, 2) := by decide +kernel
theorem dT_addBuilt_88 : decode prog_6_method_9_code 88 = .ok (.bipush 16, 2) := by decide +kernel
theorem dT_addBuilt_90 : decode prog_6_method_9_code 90 = .ok (.if_icmp .le 6, 3) := by decide +kernel
theorem dT_addBuilt_93 : decode prog_6_method_9_code 93 = .ok (.bipush (-3), 2) := by decide +kernel
theorem dT_addBuilt_95 : decode prog_6_method_9_code 95 = .ok (.ireturn, 1) := by decide +kernel
theorem dT_addBuilt_96 : decode prog_6_method_9_code 96 = .ok (.aload_n 0, 1) := by decide +kernel
theorem dT_addBuilt_97 : decode prog_6_method_9_code 97 = .ok (.iload_n 1, 1) := by decide +kernel
theorem dT_addBuilt_98 : decode prog_6_method_9_code 98 = .ok (.iload_n 2, 1) := by decide +kernel
theorem dT_addBuilt_99 : decode prog_6_method_9_code 99 = .ok (.iload_n 3, 1) := by decide +kernel
theorem dT_addBuilt_100 : decode prog_6_method_9_code 100 = .ok (.iload 5, 2) := by decide +kernel
theorem dT_addBuilt_102 : decode prog_6_method_9_code 102 = .ok (.iload 6, 2) := by decide +kernel
theorem dT_addBuilt_104 : decode prog_6_method_9_code 104 = .ok (.invokevirtual 41, 3) := by decide +kernel
theorem dT_addBuilt_107 : decode prog_6_method_9_code 107 = .ok (.ireturn, 1) := by decide +kernel
theorem dI_type_0 : decode prog_1_method_4_code 0 = .ok (.aload_n 0, 1) := by decide +kernel
theorem dI_type_1 : decode prog_1_method_4_code 1 = .ok (.getfield 10, 3) := by decide +kernel
theorem dI_type_4 : decode prog_1_method_4_code 4 = .ok (.iload_n 1, 1) := by decide +kernel
theorem dI_type_5 : decode prog_1_method_4_code 5 = .ok (.invokevirtual 53, 3) := by decide +kernel
theorem dI_type_8 : decode prog_1_method_4_code 8 = .ok (.ifCond .ne 5, 3) := by decide +kernel
theorem dI_type_11 : decode prog_1_method_4_code 11 = .ok (.iconst (-1), 1) := by decide +kernel
theorem dI_type_12 : decode prog_1_method_4_code 12 = .ok (.ireturn, 1) := by decide +kernel
theorem dI_type_13 : decode prog_1_method_4_code 13 = .ok (.aload_n 0, 1) := by decide +kernel
theorem dI_type_14 : decode prog_1_method_4_code 14 = .ok (.getfield 10, 3) := by decide +kernel
theorem dI_type_17 : decode prog_1_method_4_code 17 = .ok (.iload_n 1, 1) := by decide +kernel
theorem dI_type_18 : decode prog_1_method_4_code 18 = .ok (.invokevirtual 57, 3) := by decide +kernel
theorem dI_type_21 : decode prog_1_method_4_code 21 = .ok (.istore 4, 2) := by decide +kernel
theorem dI_type_23 : decode prog_1_method_4_code 23 = .ok (.iload 4, 2) := by decide +kernel
theorem dI_type_25 : decode prog_1_method_4_code 25 = .ok (.ifCond .le 14, 3) := by decide +kernel
theorem dI_type_28 : decode prog_1_method_4_code 28 = .ok (.aload_n 0, 1) := by decide +kernel
theorem dI_type_29 : decode prog_1_method_4_code 29 = .ok (.getfield 10, 3) := by decide +kernel
theorem dI_type_32 : decode prog_1_method_4_code 32 = .ok (.iload_n 2, 1) := by decide +kernel
theorem dI_type_33 : decode prog_1_method_4_code 33 = .ok (.invokevirtual 60, 3) := by decide +kernel
theorem dI_type_36 : decode prog_1_method_4_code 36 = .ok (.ifCond .eq 20, 3) := by decide +kernel
theorem dI_type_39 : decode prog_1_method_4_code 39 = .ok (.iload 4, 2) := by decide +kernel
theorem dI_type_41 : decode prog_1_method_4_code 41 = .ok (.iconst 1, 1) := by decide +kernel
theorem dI_type_42 : decode prog_1_method_4_code 42 = .ok (.if_icmp .le 16, 3) := by decide +kernel
theorem dI_type_45 : decode prog_1_method_4_code 45 = .ok (.aload_n 0, 1) := by decide +kernel
theorem dI_type_46 : decode prog_1_method_4_code 46 = .ok (.getfield 10, 3) := by decide +kernel
theorem dI_type_49 : decode prog_1_method_4_code 49 = .ok (.iload_n 3, 1) := by decide +kernel
theorem dI_type_50 : decode prog_1_method_4_code 50 = .ok (.invokevirtual 60, 3) := by decide +kernel
theorem dI_type_53 : decode prog_1_method_4_code 53 = .ok (.ifCond .ne 5, 3) := by decide +kernel
theorem dI_type_56 : decode prog_1_method_4_code 56 = .ok (.iconst (-1), 1) := by decide +kernel
theorem dI_type_57 : decode prog_1_method_4_code 57 = .ok (.ireturn, 1) := by decide +kernel
theorem dI_type_58 : decode prog_1_method_4_code 58 = .ok (.aload_n 0, 1) := by decide +kernel
theorem dI_type_59 : decode prog_1_method_4_code 59 = .ok (.getfield 10, 3) := by decide +kernel
theorem dI_type_62 : decode prog_1_method_4_code 62 = .ok (.iload_n 1, 1) := by decide +kernel
theorem dI_type_63 : decode prog_1_method_4_code 63 = .ok (.iload 4, 2) := by decide +kernel
theorem dI_type_65 : decode prog_1_method_4_code 65 = .ok (.ifCond .le 7, 3) := by decide +kernel
theorem dI_type_68 : decode prog_1_method_4_code 68 = .ok (.iload_n 2, 1) := by decide +kernel
theorem dI_type_69 : decode prog_1_method_4_code 69 = .ok (.goto 4, 3) := by decide +kernel
theorem dI_type_72 : decode prog_1_method_4_code 72 = .ok (.iconst (-1), 1) := by decide +kernel
theorem dI_type_73 : decode prog_1_method_4_code 73 = .ok (.iload 4, 2) := by decide +kernel
theorem dI_type_75 : decode prog_1_method_4_code 75 = .ok (.iconst 1, 1) := by decide +kernel
theorem dI_type_76 : decode prog_1_method_4_code 76 = .ok (.if_icmp .le 7, 3) := by decide +kernel
theorem dI_type_79 : decode prog_1_method_4_code 79 = .ok (.iload_n 3, 1) := by decide +kernel
theorem dI_type_80 : decode prog_1_method_4_code 80 = .ok (.goto 4, 3) := by decide +kernel
theorem dI_type_83 : decode prog_1_method_4_code 83 = .ok (.iconst (-1), 1) := by decide +kernel
theorem dI_type_84 : decode prog_1_method_4_code 84 = .ok (.invokevirtual 63, 3) := by decide +kernel
theorem dI_type_87 : decode prog_1_method_4_code 87 = .ok (.ireturn, 1) := by decide +kernel
theorem dK_hasClass_0 : decode prog_2_method_2_code 0 = .ok (.iload_n 1, 1) := by decide +kernel
theorem dK_hasClass_1 : decode prog_2_method_2_code 1 = .ok (.ifCond .lt 15, 3) := by decide +kernel
theorem dK_hasClass_4 : decode prog_2_method_2_code 4 = .ok (.iload_n 1, 1) := by decide +kernel
theorem dK_hasClass_5 : decode prog_2_method_2_code 5 = .ok (.aload_n 0, 1) := by decide +kernel
theorem dK_hasClass_6 : decode prog_2_method_2_code 6 = .ok (.getfield 36, 3) := by decide +kernel
theorem dK_hasClass_9 : decode prog_2_method_2_code 9 = .ok (.if_icmp .ge 7, 3) := by decide +kernel
theorem dK_hasClass_12 : decode prog_2_method_2_code 12 = .ok (.iconst 1, 1) := by decide +kernel
theorem dK_hasClass_13 : decode prog_2_method_2_code 13 = .ok (.goto 4, 3) := by decide +kernel
theorem dK_hasClass_16 : decode prog_2_method_2_code 16 = .ok (.iconst 0, 1) := by decide +kernel
theorem dK_hasClass_17 : decode prog_2_method_2_code 17 = .ok (.ireturn, 1) := by decide +kernel
theorem dK_addClass_0 : decode prog_2_method_6_code 0 = .ok (.aload_n 0, 1) := by decide +kernel
theorem dK_addClass_1 : decode prog_2_method_6_code 1 = .ok (.getfield 36, 3) := by decide +kernel
theorem dK_addClass_4 : decode prog_2_method_6_code 4 = .ok (.bipush 8, 2) := by decide +kernel
theorem dK_addClass_6 : decode prog_2_method_6_code 6 = .ok (.if_icmp .lt 6, 3) := by decide +kernel
theorem dK_addClass_9 : decode prog_2_method_6_code 9 = .ok (.bipush (-3), 2) := by decide +kernel
theorem dK_addClass_11 : decode prog_2_method_6_code 11 = .ok (.ireturn, 1) := by decide +kernel
theorem dK_addClass_12 : decode prog_2_method_6_code 12 = .ok (.aload_n 0, 1) := by decide +kernel
theorem dK_addClass_13 : decode prog_2_method_6_code 13 = .ok (.getfield 9, 3) := by decide +kernel
theorem dK_addClass_16 : decode prog_2_method_6_code 16 = .ok (.aload_n 0, 1) := by decide +kernel
theorem dK_addClass_17 : decode prog_2_method_6_code 17 = .ok (.getfield 36, 3) := by decide +kernel
theorem dK_addClass_20 : decode prog_2_method_6_code 20 = .ok (.iload_n 1, 1) := by decide +kernel
theorem dK_addClass_21 : decode prog_2_method_6_code 21 = .ok (.iastore, 1) := by decide +kernel
theorem dK_addClass_22 : decode prog_2_method_6_code 22 = .ok (.aload_n 0, 1) := by decide +kernel
theorem dK_addClass_23 : decode prog_2_method_6_code 23 = .ok (.getfield 15, 3) := by decide +kernel
theorem dK_addClass_26 : decode prog_2_method_6_code 26 = .ok (.aload_n 0, 1) := by decide +kernel
theorem dK_addClass_27 : decode prog_2_method_6_code 27 = .ok (.getfield 36, 3) := by decide +kernel
theorem dK_addClass_30 : decode prog_2_method_6_code 30 = .ok (.iconst 1, 1) := by decide +kernel
theorem dK_addClass_31 : decode prog_2_method_6_code 31 = .ok (.aload_n 0, 1) := by decide +kernel
theorem dK_addClass_32 : decode prog_2_method_6_code 32 = .ok (.getfield 36, 3) := by decide +kernel
theorem dK_addClass_35 : decode prog_2_method_6_code 35 = .ok (.ishl, 1) := by decide +kernel
theorem dK_addClass_36 : decode prog_2_method_6_code 36 = .ok (.iload_n 1, 1) := by decide +kernel
theorem dK_addClass_37 : decode prog_2_method_6_code 37 = .ok (.iconst (-1), 1) := by decide +kernel
theorem dK_addClass_38 : decode prog_2_method_6_code 38 = .ok (.if_icmp .ne 7, 3) := by decide +kernel
theorem dK_addClass_41 : decode prog_2_method_6_code 41 = .ok (.iconst 0, 1) := by decide +kernel
theorem dK_addClass_42 : decode prog_2_method_6_code 42 = .ok (.goto 9, 3) := by decide +kernel
theorem dK_addClass_45 : decode prog_2_method_6_code 45 = .ok (.aload_n 0, 1) := by decide +kernel
theorem dK_addClass_46 : decode prog_2_method_6_code 46 = .ok (.getfield 15, 3) := by decide +kernel
theorem dK_addClass_49 : decode prog_2_method_6_code 49 = .ok (.iload_n 1, 1) := by decide +kernel
theorem dK_addClass_50 : decode prog_2_method_6_code 50 = .ok (.iaload, 1) := by decide +kernel
theorem dK_addClass_51 : decode prog_2_method_6_code 51 = .ok (.ior, 1) := by decide +kernel
theorem dK_addClass_52 : decode prog_2_method_6_code 52 = .ok (.iastore, 1) := by decide +kernel
theorem dK_addClass_53 : decode prog_2_method_6_code 53 = .ok (.aload_n 0, 1) := by decide +kernel
theorem dK_addClass_54 : decode prog_2_method_6_code 54 = .ok (.getfield 18, 3) := by decide +kernel
theorem dK_addClass_57 : decode prog_2_method_6_code 57 = .ok (.aload_n 0, 1) := by decide +kernel
theorem dK_addClass_58 : decode prog_2_method_6_code 58 = .ok (.getfield 36, 3) := by decide +kernel
theorem dK_addClass_61 : decode prog_2_method_6_code 61 = .ok (.iconst (-1), 1) := by decide +kernel
theorem dK_addClass_62 : decode prog_2_method_6_code 62 = .ok (.iastore, 1) := by decide +kernel
theorem dK_addClass_63 : decode prog_2_method_6_code 63 = .ok (.aload_n 0, 1) := by decide +kernel
theorem dK_addClass_64 : decode prog_2_method_6_code 64 = .ok (.dup, 1) := by decide +kernel
theorem dK_addClass_65 : decode prog_2_method_6_code 65 = .ok (.getfield 36, 3) := by decide +kernel
theorem dK_addClass_68 : decode prog_2_method_6_code 68 = .ok (.iconst 1, 1) := by decide +kernel
theorem dK_addClass_69 : decode prog_2_method_6_code 69 = .ok (.iadd, 1) := by decide +kernel
theorem dK_addClass_70 : decode prog_2_method_6_code 70 = .ok (.putfield 36, 3) := by decide +kernel
theorem dK_addClass_73 : decode prog_2_method_6_code 73 = .ok (.aload_n 0, 1) := by decide +kernel
theorem dK_addClass_74 : decode prog_2_method_6_code 74 = .ok (.getfield 36, 3) := by decide +kernel
theorem dK_addClass_77 : decode prog_2_method_6_code 77 = .ok (.iconst 1, 1) := by decide +kernel
theorem dK_addClass_78 : decode prog_2_method_6_code 78 = .ok (.isub, 1) := by decide +kernel
theorem dK_addClass_79 : decode prog_2_method_6_code 79 = .ok (.ireturn, 1) := by decide +kernel
theorem dI_class0_0 : decode prog_1_method_5_code 0 = .ok (.iload_n 1, 1) := by decide +kernel
theorem dI_class0_1 : decode prog_1_method_5_code 1 = .ok (.iconst (-1), 1) := by decide +kernel
theorem dI_class0_2 : decode prog_1_method_5_code 2 = .ok (.if_icmp .eq 16, 3) := by decide +kernel
theorem dI_class0_5 : decode prog_1_method_5_code 5 = .ok (.aload_n 0, 1) := by decide +kernel
theorem dI_class0_6 : decode prog_1_method_5_code 6 = .ok (.getfield 19, 3) := by decide +kernel
theorem dI_class0_9 : decode prog_1_method_5_code 9 = .ok (.iload_n 1, 1) := by decide +kernel
theorem dI_class0_10 : decode prog_1_method_5_code 10 = .ok (.invokevirtual 67, 3) := by decide +kernel
theorem dI_class0_13 : decode prog_1_method_5_code 13 = .ok (.ifCond .ne 5, 3) := by decide +kernel
theorem dI_class0_16 : decode prog_1_method_5_code 16 = .ok (.iconst (-1), 1) := by decide +kernel
theorem dI_class0_17 : decode prog_1_method_5_code 17 = .ok (.ireturn, 1) := by decide +kernel
theorem dI_class0_18 : decode prog_1_method_5_code 18 = .ok (.aload_n 0, 1) := by decide +kernel
theorem dI_class0_19 : decode prog_1_method_5_code 19 = .ok (.getfield 19, 3) := by decide +kernel
theorem dI_class0_22 : decode prog_1_method_5_code 22 = .ok (.iload_n 1, 1) := by decide +kernel
theorem dI_class0_23 : decode prog_1_method_5_code 23 = .ok (.invokevirtual 70, 3) := by decide +kernel
theorem dI_class0_26 : decode prog_1_method_5_code 26 = .ok (.ireturn, 1) := by decide +kernel
theorem dK_methodOf_0 : decode prog_2_method_4_code 0 = .ok (.aload_n 0, 1) := by decide +kernel
theorem dK_methodOf_1 : decode prog_2_method_4_code 1 = .ok (.getfield 18, 3) := by decide +kernel
theorem dK_methodOf_4 : decode prog_2_method_4_code 4 = .ok (.iload_n 1, 1) := by decide +kernel
theorem dK_methodOf_5 : decode prog_2_method_4_code 5 = .ok (.iaload, 1) := by decide +kernel
theorem dK_methodOf_6 : decode prog_2_method_4_code 6 = .ok (.ireturn, 1) := by decide +kernel
theorem dT_holdsVariable_0 : decode prog_6_method_6_code 0 = .ok (.aload_n 0, 1) := by decide +kernel
theorem dT_holdsVariable_1 : decode prog_6_method_6_code 1 = .ok (.getfield 27, 3) := by decide +kernel
theorem dT_holdsVariable_4 : decode prog_6_method_6_code 4 = .ok (.iload_n 1, 1) := by decide +kernel
theorem dT_holdsVariable_5 : decode prog_6_method_6_code 5 = .ok (.iaload, 1) := by decide +kernel
theorem dT_holdsVariable_6 : decode prog_6_method_6_code 6 = .ok (.iconst 1, 1) := by decide +kernel
theorem dT_holdsVariable_7 : decode prog_6_method_6_code 7 = .ok (.iload_n 2, 1) := by decide +kernel
theorem dT_holdsVariable_8 : decode prog_6_method_6_code 8 = .ok (.ishl, 1) := by decide +kernel
theorem dT_holdsVariable_9 : decode prog_6_method_6_code 9 = .ok (.iand, 1) := by decide +kernel
theorem dT_holdsVariable_10 : decode prog_6_method_6_code 10 = .ok (.ifCond .eq 7, 3) := by decide +kernel
theorem dT_holdsVariable_13 : decode prog_6_method_6_code 13 = .ok (.iconst 1, 1) := by decide +kernel
theorem dT_holdsVariable_14 : decode prog_6_method_6_code 14 = .ok (.goto 4, 3) := by decide +kernel
theorem dT_holdsVariable_17 : decode prog_6_method_6_code 17 = .ok (.iconst 0, 1) := by decide +kernel
theorem dT_holdsVariable_18 : decode prog_6_method_6_code 18 = .ok (.ireturn, 1) := by decide +kernel
theorem dK_setMethod_0 : decode prog_2_method_5_code 0 = .ok (.aload_n 0, 1) := by decide +kernel
theorem dK_setMethod_1 : decode prog_2_method_5_code 1 = .ok (.getfield 18, 3) := by decide +kernel
theorem dK_setMethod_4 : decode prog_2_method_5_code 4 = .ok (.iload_n 1, 1) := by decide +kernel
theorem dK_setMethod_5 : decode prog_2_method_5_code 5 = .ok (.iload_n 2, 1) := by decide +kernel
theorem dK_setMethod_6 : decode prog_2_method_5_code 6 = .ok (.iastore, 1) := by decide +kernel
theorem dK_setMethod_7 : decode prog_2_method_5_code 7 = .ok (.return_, 1) := by decide +kernel
theorem dI_method_0 : decode prog_1_method_6_code 0 = .ok (.aload_n 0, 1) := by decide +kernel
theorem dI_method_1 : decode prog_1_method_6_code 1 = .ok (.getfield 19, 3) := by decide +kernel
theorem dI_method_4 : decode prog_1_method_6_code 4 = .ok (.iload_n 1, 1) := by decide +kernel
theorem dI_method_5 : decode prog_1_method_6_code 5 = .ok (.invokevirtual 67, 3) := by decide +kernel
theorem dI_method_8 : decode prog_1_method_6_code 8 = .ok (.ifCond .eq 14, 3) := by decide +kernel
theorem dI_method_11 : decode prog_1_method_6_code 11 = .ok (.aload_n 0, 1) := by decide +kernel
theorem dI_method_12 : decode prog_1_method_6_code 12 = .ok (.getfield 10, 3) := by decide +kernel
theorem dI_method_15 : decode prog_1_method_6_code 15 = .ok (.iload_n 2, 1) := by decide +kernel
theorem dI_method_16 : decode prog_1_method_6_code 16 = .ok (.invokevirtual 60, 3) := by decide +kernel
theorem dI_method_19 : decode prog_1_method_6_code 19 = .ok (.ifCond .ne 5, 3) := by decide +kernel
theorem dI_method_22 : decode prog_1_method_6_code 22 = .ok (.iconst (-1), 1) := by decide +kernel
theorem dI_method_23 : decode prog_1_method_6_code 23 = .ok (.ireturn, 1) := by decide +kernel
theorem dI_method_24 : decode prog_1_method_6_code 24 = .ok (.aload_n 0, 1) := by decide +kernel
theorem dI_method_25 : decode prog_1_method_6_code 25 = .ok (.getfield 19, 3) := by decide +kernel
theorem dI_method_28 : decode prog_1_method_6_code 28 = .ok (.iload_n 1, 1) := by decide +kernel
theorem dI_method_29 : decode prog_1_method_6_code 29 = .ok (.invokevirtual 73, 3) := by decide +kernel
theorem dI_method_32 : decode prog_1_method_6_code 32 = .ok (.iconst (-1), 1) := by decide +kernel
theorem dI_method_33 : decode prog_1_method_6_code 33 = .ok (.if_icmp .ne 15, 3) := by decide +kernel
theorem dI_method_36 : decode prog_1_method_6_code 36 = .ok (.aload_n 0, 1) := by decide +kernel
theorem dI_method_37 : decode prog_1_method_6_code 37 = .ok (.getfield 10, 3) := by decide +kernel
theorem dI_method_40 : decode prog_1_method_6_code 40 = .ok (.iload_n 2, 1) := by decide +kernel
theorem dI_method_41 : decode prog_1_method_6_code 41 = .ok (.iconst 0, 1) := by decide +kernel
theorem dI_method_42 : decode prog_1_method_6_code 42 = .ok (.invokevirtual 76, 3) := by decide +kernel
theorem dI_method_45 : decode prog_1_method_6_code 45 = .ok (.ifCond .ne 5, 3) := by decide +kernel
theorem dI_method_48 : decode prog_1_method_6_code 48 = .ok (.iconst (-1), 1) := by decide +kernel
theorem dI_method_49 : decode prog_1_method_6_code 49 = .ok (.ireturn, 1) := by decide +kernel
theorem dI_method_50 : decode prog_1_method_6_code 50 = .ok (.aload_n 0, 1) := by decide +kernel
theorem dI_method_51 : decode prog_1_method_6_code 51 = .ok (.getfield 19, 3) := by decide +kernel
theorem dI_method_54 : decode prog_1_method_6_code 54 = .ok (.iload_n 1, 1) := by decide +kernel
theorem dI_method_55 : decode prog_1_method_6_code 55 = .ok (.iload_n 2, 1) := by decide +kernel
theorem dI_method_56 : decode prog_1_method_6_code 56 = .ok (.invokevirtual 80, 3) := by decide +kernel
theorem dI_method_59 : decode prog_1_method_6_code 59 = .ok (.iconst 1, 1) := by decide +kernel
theorem dI_method_60 : decode prog_1_method_6_code 60 = .ok (.ireturn, 1) := by decide +kernel
theorem dK_areClasses_0 : decode prog_2_method_3_code 0 = .ok (.iload_n 1, 1) := by decide +kernel
theorem dK_areClasses_1 : decode prog_2_method_3_code 1 = .ok (.aload_n 0, 1) := by decide +kernel
theorem dK_areClasses_2 : decode prog_2_method_3_code 2 = .ok (.getfield 36, 3) := by decide +kernel
theorem dK_areClasses_5 : decode prog_2_method_3_code 5 = .ok (.iushr, 1) := by decide +kernel
theorem dK_areClasses_6 : decode prog_2_method_3_code 6 = .ok (.ifCond .ne 7, 3) := by decide +kernel
theorem dK_areClasses_9 : decode prog_2_method_3_code 9 = .ok (.iconst 1, 1) := by decide +kernel
theorem dK_areClasses_10 : decode prog_2_method_3_code 10 = .ok (.goto 4, 3) := by decide +kernel
theorem dK_areClasses_13 : decode prog_2_method_3_code 13 = .ok (.iconst 0, 1) := by decide +kernel
theorem dK_areClasses_14 : decode prog_2_method_3_code 14 = .ok (.ireturn, 1) := by decide +kernel
theorem dK_slot_0 : decode prog_2_method_9_code 0 = .ok (.iload_n 0, 1) := by decide +kernel
theorem dK_slot_1 : decode prog_2_method_9_code 1 = .ok (.bipush 8, 2) := by decide +kernel
theorem dK_slot_3 : decode prog_2_method_9_code 3 = .ok (.imul, 1) := by decide +kernel
theorem dK_slot_4 : decode prog_2_method_9_code 4 = .ok (.iload_n 1, 1) := by decide +kernel
theorem dK_slot_5 : decode prog_2_method_9_code 5 = .ok (.iadd, 1) := by decide +kernel
theorem dK_slot_6 : decode prog_2_method_9_code 6 = .ok (.ireturn, 1) := by decide +kernel
theorem dK_reaches_0 : decode prog_2_method_10_code 0 = .ok (.iconst 0, 1) := by decide +kernel
theorem dK_reaches_1 : decode prog_2_method_10_code 1 = .ok (.istore_n 3, 1) := by decide +kernel
theorem dK_reaches_2 : decode prog_2_method_10_code 2 = .ok (.iconst 0, 1) := by decide +kernel
theorem dK_reaches_3 : decode prog_2_method_10_code 3 = .ok (.istore 4, 2) := by decide +kernel
theorem dK_reaches_5 : decode prog_2_method_10_code 5 = .ok (.iload 4, 2) := by decide +kernel
theorem dK_reaches_7 : decode prog_2_method_10_code 7 = .ok (.aload_n 0, 1) := by decide +kernel
theorem dK_reaches_8 : decode prog_2_method_10_code 8 = .ok (.getfield 36, 3) := by decide +kernel
theorem dK_reaches_11 : decode prog_2_method_10_code 11 = .ok (.if_icmp .ge 28, 3) := by decide +kernel
theorem dK_reaches_14 : decode prog_2_method_10_code 14 = .ok (.iload_n 1, 1) := by decide +kernel
theorem dK_reaches_15 : decode prog_2_method_10_code 15 = .ok (.iconst 1, 1) := by decide +kernel
theorem dK_reaches_16 : decode prog_2_method_10_code 16 = .ok (.iload 4, 2) := by decide +kernel
theorem dK_reaches_18 : decode prog_2_method_10_code 18 = .ok (.ishl, 1) := by decide +kernel
theorem dK_reaches_19 : decode prog_2_method_10_code 19 = .ok (.iand, 1) := by decide +kernel
theorem dK_reaches_20 : decode prog_2_method_10_code 20 = .ok (.ifCond .eq 13, 3) := by decide +kernel
theorem dK_reaches_23 : decode prog_2_method_10_code 23 = .ok (.iload_n 3, 1) := by decide +kernel
theorem dK_reaches_24 : decode prog_2_method_10_code 24 = .ok (.aload_n 0, 1) := by decide +kernel
theorem dK_reaches_25 : decode prog_2_method_10_code 25 = .ok (.getfield 15, 3) := by decide +kernel
theorem dK_reaches_28 : decode prog_2_method_10_code 28 = .ok (.iload 4, 2) := by decide +kernel
theorem dK_reaches_30 : decode prog_2_method_10_code 30 = .ok (.iaload, 1) := by decide +kernel
theorem dK_reaches_31 : decode prog_2_method_10_code 31 = .ok (.ior, 1) := by decide +kernel
theorem dK_reaches_32 : decode prog_2_method_10_code 32 = .ok (.istore_n 3, 1) := by decide +kernel
theorem dK_reaches_33 : decode prog_2_method_10_code 33 = .ok (.iinc 4 1, 3) := by decide +kernel
theorem dK_reaches_36 : decode prog_2_method_10_code 36 = .ok (.goto (-31), 3) := by decide +kernel
theorem dK_reaches_39 : decode prog_2_method_10_code 39 = .ok (.iload_n 2, 1) := by decide +kernel
theorem dK_reaches_40 : decode prog_2_method_10_code 40 = .ok (.iload_n 3, 1) := by decide +kernel
theorem dK_reaches_41 : decode prog_2_method_10_code 41 = .ok (.iconst (-1), 1) := by decide +kernel
theorem dK_reaches_42 : decode prog_2_method_10_code 42 = .ok (.ixor, 1) := by decide +kernel
theorem dK_reaches_43 : decode prog_2_method_10_code 43 = .ok (.iand, 1) := by decide +kernel
theorem dK_reaches_44 : decode prog_2_method_10_code 44 = .ok (.ifCond .ne 7, 3) := by decide +kernel
theorem dK_reaches_47 : decode prog_2_method_10_code 47 = .ok (.iconst 1, 1) := by decide +kernel
theorem dK_reaches_48 : decode prog_2_method_10_code 48 = .ok (.goto 4, 3) := by decide +kernel
theorem dK_reaches_51 : decode prog_2_method_10_code 51 = .ok (.iconst 0, 1) := by decide +kernel
theorem dK_reaches_52 : decode prog_2_method_10_code 52 = .ok (.ireturn, 1) := by decide +kernel
theorem dK_fits_0 : decode prog_2_method_8_code 0 = .ok (.aload_n 0, 1) := by decide +kernel
theorem dK_fits_1 : decode prog_2_method_8_code 1 = .ok (.getfield 21, 3) := by decide +kernel
theorem dK_fits_4 : decode prog_2_method_8_code 4 = .ok (.iload_n 1, 1) := by decide +kernel
theorem dK_fits_5 : decode prog_2_method_8_code 5 = .ok (.iload_n 2, 1) := by decide +kernel
theorem dK_fits_6 : decode prog_2_method_8_code 6 = .ok (.invokestatic 44, 3) := by decide +kernel
theorem dK_fits_9 : decode prog_2_method_8_code 9 = .ok (.iaload, 1) := by decide +kernel
theorem dK_fits_10 : decode prog_2_method_8_code 10 = .ok (.iconst (-1), 1) := by decide +kernel
theorem dK_fits_11 : decode prog_2_method_8_code 11 = .ok (.if_icmp .eq 5, 3) := by decide +kernel
theorem dK_fits_14 : decode prog_2_method_8_code 14 = .ok (.iconst 0, 1) := by decide +kernel
theorem dK_fits_15 : decode prog_2_method_8_code 15 = .ok (.ireturn, 1) := by decide +kernel
theorem dK_fits_16 : decode prog_2_method_8_code 16 = .ok (.aload_n 0, 1) := by decide +kernel
theorem dK_fits_17 : decode prog_2_method_8_code 17 = .ok (.getfield 9, 3) := by decide +kernel
theorem dK_fits_20 : decode prog_2_method_8_code 20 = .ok (.iload_n 1, 1) := by decide +kernel
theorem dK_fits_21 : decode prog_2_method_8_code 21 = .ok (.iaload, 1) := by decide +kernel
theorem dK_fits_22 : decode prog_2_method_8_code 22 = .ok (.iconst (-1), 1) := by decide +kernel
theorem dK_fits_23 : decode prog_2_method_8_code 23 = .ok (.if_icmp .ne 5, 3) := by decide +kernel
theorem dK_fits_26 : decode prog_2_method_8_code 26 = .ok (.iconst 1, 1) := by decide +kernel
theorem dK_fits_27 : decode prog_2_method_8_code 27 = .ok (.ireturn, 1) := by decide +kernel
theorem dK_fits_28 : decode prog_2_method_8_code 28 = .ok (.aload_n 0, 1) := by decide +kernel
theorem dK_fits_29 : decode prog_2_method_8_code 29 = .ok (.getfield 9, 3) := by decide +kernel
theorem dK_fits_32 : decode prog_2_method_8_code 32 = .ok (.iload_n 1, 1) := by decide +kernel
theorem dK_fits_33 : decode prog_2_method_8_code 33 = .ok (.iaload, 1) := by decide +kernel
theorem dK_fits_34 : decode prog_2_method_8_code 34 = .ok (.iload_n 2, 1) := by decide +kernel
theorem dK_fits_35 : decode prog_2_method_8_code 35 = .ok (.invokestatic 44, 3) := by decide +kernel
theorem dK_fits_38 : decode prog_2_method_8_code 38 = .ok (.istore 5, 2) := by decide +kernel
theorem dK_fits_40 : decode prog_2_method_8_code 40 = .ok (.aload_n 0, 1) := by decide +kernel
theorem dK_fits_41 : decode prog_2_method_8_code 41 = .ok (.getfield 21, 3) := by decide +kernel
theorem dK_fits_44 : decode prog_2_method_8_code 44 = .ok (.iload 5, 2) := by decide +kernel
theorem dK_fits_46 : decode prog_2_method_8_code 46 = .ok (.iaload, 1) := by decide +kernel
theorem dK_fits_47 : decode prog_2_method_8_code 47 = .ok (.iconst (-1), 1) := by decide +kernel
theorem dK_fits_48 : decode prog_2_method_8_code 48 = .ok (.if_icmp .eq 38, 3) := by decide +kernel
theorem dK_fits_51 : decode prog_2_method_8_code 51 = .ok (.aload_n 0, 1) := by decide +kernel
theorem dK_fits_52 : decode prog_2_method_8_code 52 = .ok (.iload_n 3, 1) := by decide +kernel
theorem dK_fits_53 : decode prog_2_method_8_code 53 = .ok (.aload_n 0, 1) := by decide +kernel
theorem dK_fits_54 : decode prog_2_method_8_code 54 = .ok (.getfield 24, 3) := by decide +kernel
theorem dK_fits_57 : decode prog_2_method_8_code 57 = .ok (.iload 5, 2) := by decide +kernel
theorem dK_fits_59 : decode prog_2_method_8_code 59 = .ok (.iaload, 1) := by decide +kernel
theorem dK_fits_60 : decode prog_2_method_8_code 60 = .ok (.invokevirtual 51, 3) := by decide +kernel
theorem dK_fits_63 : decode prog_2_method_8_code 63 = .ok (.ifCond .eq 23, 3) := by decide +kernel
theorem dK_fits_66 : decode prog_2_method_8_code 66 = .ok (.aload_n 0, 1) := by decide +kernel
theorem dK_fits_67 : decode prog_2_method_8_code 67 = .ok (.iload 4, 2) := by decide +kernel
theorem dK_fits_69 : decode prog_2_method_8_code 69 = .ok (.aload_n 0, 1) := by decide +kernel
theorem dK_fits_70 : decode prog_2_method_8_code 70 = .ok (.getfield 27, 3) := by decide +kernel
theorem dK_fits_73 : decode prog_2_method_8_code 73 = .ok (.iload 5, 2) := by decide +kernel
theorem dK_fits_75 : decode prog_2_method_8_code 75 = .ok (.iaload, 1) := by decide +kernel
theorem dK_fits_76 : decode prog_2_method_8_code 76 = .ok (.invokevirtual 51, 3) := by decide +kernel
theorem dK_fits_79 : decode prog_2_method_8_code 79 = .ok (.ifCond .eq 7, 3) := by decide +kernel
theorem dK_fits_82 : decode prog_2_method_8_code 82 = .ok (.iconst 1, 1) := by decide +kernel
theorem dK_fits_83 : decode prog_2_method_8_code 83 = .ok (.goto 4, 3) := by decide +kernel
theorem dK_fits_86 : decode prog_2_method_8_code 86 = .ok (.iconst 0, 1) := by decide +kernel
theorem dK_fits_87 : decode prog_2_method_8_code 87 = .ok (.ireturn, 1) := by decide +kernel
theorem dK_addInstance_0 : decode prog_2_method_7_code 0 = .ok (.aload_n 0, 1) := by decide +kernel
theorem dK_addInstance_1 : decode prog_2_method_7_code 1 = .ok (.iload_n 1, 1) := by decide +kernel
theorem dK_addInstance_2 : decode prog_2_method_7_code 2 = .ok (.iload_n 2, 1) := by decide +kernel
theorem dK_addInstance_3 : decode prog_2_method_7_code 3 = .ok (.iload_n 3, 1) := by decide +kernel
theorem dK_addInstance_4 : decode prog_2_method_7_code 4 = .ok (.iload 4, 2) := by decide +kernel
theorem dK_addInstance_6 : decode prog_2_method_7_code 6 = .ok (.invokevirtual 40, 3) := by decide +kernel
theorem dK_addInstance_9 : decode prog_2_method_7_code 9 = .ok (.ifCond .ne 6, 3) := by decide +kernel
theorem dK_addInstance_12 : decode prog_2_method_7_code 12 = .ok (.bipush (-2), 2) := by decide +kernel
theorem dK_addInstance_14 : decode prog_2_method_7_code 14 = .ok (.ireturn, 1) := by decide +kernel
theorem dK_addInstance_15 : decode prog_2_method_7_code 15 = .ok (.iload_n 1, 1) := by decide +kernel
theorem dK_addInstance_16 : decode prog_2_method_7_code 16 = .ok (.iload_n 2, 1) := by decide +kernel
theorem dK_addInstance_17 : decode prog_2_method_7_code 17 = .ok (.invokestatic 44, 3) := by decide +kernel
theorem dK_addInstance_20 : decode prog_2_method_7_code 20 = .ok (.istore 5, 2) := by decide +kernel
theorem dK_addInstance_22 : decode prog_2_method_7_code 22 = .ok (.aload_n 0, 1) := by decide +kernel
theorem dK_addInstance_23 : decode prog_2_method_7_code 23 = .ok (.getfield 21, 3) := by decide +kernel
theorem dK_addInstance_26 : decode prog_2_method_7_code 26 = .ok (.iload 5, 2) := by decide +kernel
theorem dK_addInstance_28 : decode prog_2_method_7_code 28 = .ok (.aload_n 0, 1) := by decide +kernel
theorem dK_addInstance_29 : decode prog_2_method_7_code 29 = .ok (.getfield 48, 3) := by decide +kernel
theorem dK_addInstance_32 : decode prog_2_method_7_code 32 = .ok (.iastore, 1) := by decide +kernel
theorem dK_addInstance_33 : decode prog_2_method_7_code 33 = .ok (.aload_n 0, 1) := by decide +kernel
theorem dK_addInstance_34 : decode prog_2_method_7_code 34 = .ok (.getfield 24, 3) := by decide +kernel
theorem dK_addInstance_37 : decode prog_2_method_7_code 37 = .ok (.iload 5, 2) := by decide +kernel
theorem dK_addInstance_39 : decode prog_2_method_7_code 39 = .ok (.iload_n 3, 1) := by decide +kernel
theorem dK_addInstance_40 : decode prog_2_method_7_code 40 = .ok (.iastore, 1) := by decide +kernel
theorem dK_addInstance_41 : decode prog_2_method_7_code 41 = .ok (.aload_n 0, 1) := by decide +kernel
theorem dK_addInstance_42 : decode prog_2_method_7_code 42 = .ok (.getfield 27, 3) := by decide +kernel
theorem dK_addInstance_45 : decode prog_2_method_7_code 45 = .ok (.iload 5, 2) := by decide +kernel
theorem dK_addInstance_47 : decode prog_2_method_7_code 47 = .ok (.iload 4, 2) := by decide +kernel
theorem dK_addInstance_49 : decode prog_2_method_7_code 49 = .ok (.iastore, 1) := by decide +kernel
theorem dK_addInstance_50 : decode prog_2_method_7_code 50 = .ok (.aload_n 0, 1) := by decide +kernel
theorem dK_addInstance_51 : decode prog_2_method_7_code 51 = .ok (.dup, 1) := by decide +kernel
theorem dK_addInstance_52 : decode prog_2_method_7_code 52 = .ok (.getfield 48, 3) := by decide +kernel
theorem dK_addInstance_55 : decode prog_2_method_7_code 55 = .ok (.iconst 1, 1) := by decide +kernel
theorem dK_addInstance_56 : decode prog_2_method_7_code 56 = .ok (.iadd, 1) := by decide +kernel
theorem dK_addInstance_57 : decode prog_2_method_7_code 57 = .ok (.putfield 48, 3) := by decide +kernel
theorem dK_addInstance_60 : decode prog_2_method_7_code 60 = .ok (.aload_n 0, 1) := by decide +kernel
theorem dK_addInstance_61 : decode prog_2_method_7_code 61 = .ok (.getfield 48, 3) := by decide +kernel
theorem dK_addInstance_64 : decode prog_2_method_7_code 64 = .ok (.iconst 1, 1) := by decide +kernel
theorem dK_addInstance_65 : decode prog_2_method_7_code 65 = .ok (.isub, 1) := by decide +kernel
theorem dK_addInstance_66 : decode prog_2_method_7_code 66 = .ok (.ireturn, 1) := by decide +kernel
theorem dI_instance_0 : decode prog_1_method_7_code 0 = .ok (.aload_n 0, 1) := by decide +kernel
theorem dI_instance_1 : decode prog_1_method_7_code 1 = .ok (.getfield 19, 3) := by decide +kernel
theorem dI_instance_4 : decode prog_1_method_7_code 4 = .ok (.iload_n 1, 1) := by decide +kernel
theorem dI_instance_5 : decode prog_1_method_7_code 5 = .ok (.invokevirtual 67, 3) := by decide +kernel
theorem dI_instance_8 : decode prog_1_method_7_code 8 = .ok (.ifCond .eq 14, 3) := by decide +kernel
theorem dI_instance_11 : decode prog_1_method_7_code 11 = .ok (.aload_n 0, 1) := by decide +kernel
theorem dI_instance_12 : decode prog_1_method_7_code 12 = .ok (.getfield 10, 3) := by decide +kernel
theorem dI_instance_15 : decode prog_1_method_7_code 15 = .ok (.iload_n 2, 1) := by decide +kernel
theorem dI_instance_16 : decode prog_1_method_7_code 16 = .ok (.invokevirtual 53, 3) := by decide +kernel
theorem dI_instance_19 : decode prog_1_method_7_code 19 = .ok (.ifCond .ne 5, 3) := by decide +kernel
theorem dI_instance_22 : decode prog_1_method_7_code 22 = .ok (.iconst (-1), 1) := by decide +kernel
theorem dI_instance_23 : decode prog_1_method_7_code 23 = .ok (.ireturn, 1) := by decide +kernel
theorem dI_instance_24 : decode prog_1_method_7_code 24 = .ok (.aload_n 0, 1) := by decide +kernel
theorem dI_instance_25 : decode prog_1_method_7_code 25 = .ok (.getfield 19, 3) := by decide +kernel
theorem dI_instance_28 : decode prog_1_method_7_code 28 = .ok (.iload_n 3, 1) := by decide +kernel
theorem dI_instance_29 : decode prog_1_method_7_code 29 = .ok (.invokevirtual 84, 3) := by decide +kernel
theorem dI_instance_32 : decode prog_1_method_7_code 32 = .ok (.ifCond .eq 15, 3) := by decide +kernel
theorem dI_instance_35 : decode prog_1_method_7_code 35 = .ok (.aload_n 0, 1) := by decide +kernel
theorem dI_instance_36 : decode prog_1_method_7_code 36 = .ok (.getfield 19, 3) := by decide +kernel
theorem dI_instance_39 : decode prog_1_method_7_code 39 = .ok (.iload 4, 2) := by decide +kernel
theorem dI_instance_41 : decode prog_1_method_7_code 41 = .ok (.invokevirtual 84, 3) := by decide +kernel
theorem dI_instance_44 : decode prog_1_method_7_code 44 = .ok (.ifCond .ne 5, 3) := by decide +kernel
theorem dI_instance_47 : decode prog_1_method_7_code 47 = .ok (.iconst (-1), 1) := by decide +kernel
theorem dI_instance_48 : decode prog_1_method_7_code 48 = .ok (.ireturn, 1) := by decide +kernel
theorem dI_instance_49 : decode prog_1_method_7_code 49 = .ok (.aload_n 0, 1) := by decide +kernel
theorem dI_instance_50 : decode prog_1_method_7_code 50 = .ok (.getfield 10, 3) := by decide +kernel
theorem dI_instance_53 : decode prog_1_method_7_code 53 = .ok (.iload_n 2, 1) := by decide +kernel
theorem dI_instance_54 : decode prog_1_method_7_code 54 = .ok (.invokevirtual 57, 3) := by decide +kernel
theorem dI_instance_57 : decode prog_1_method_7_code 57 = .ok (.istore 5, 2) := by decide +kernel
theorem dI_instance_59 : decode prog_1_method_7_code 59 = .ok (.aload_n 0, 1) := by decide +kernel
theorem dI_instance_60 : decode prog_1_method_7_code 60 = .ok (.getfield 19, 3) := by decide +kernel
theorem dI_instance_63 : decode prog_1_method_7_code 63 = .ok (.iload_n 1, 1) := by decide +kernel
theorem dI_instance_64 : decode prog_1_method_7_code 64 = .ok (.iload_n 2, 1) := by decide +kernel
theorem dI_instance_65 : decode prog_1_method_7_code 65 = .ok (.iload 5, 2) := by decide +kernel
theorem dI_instance_67 : decode prog_1_method_7_code 67 = .ok (.ifCond .le 7, 3) := by decide +kernel
theorem dI_instance_70 : decode prog_1_method_7_code 70 = .ok (.iload_n 3, 1) := by decide +kernel
theorem dI_instance_71 : decode prog_1_method_7_code 71 = .ok (.goto 4, 3) := by decide +kernel
theorem dI_instance_74 : decode prog_1_method_7_code 74 = .ok (.iconst 0, 1) := by decide +kernel
theorem dI_instance_75 : decode prog_1_method_7_code 75 = .ok (.iload 5, 2) := by decide +kernel
theorem dI_instance_77 : decode prog_1_method_7_code 77 = .ok (.iconst 1, 1) := by decide +kernel
theorem dI_instance_78 : decode prog_1_method_7_code 78 = .ok (.if_icmp .le 8, 3) := by decide +kernel
theorem dI_instance_81 : decode prog_1_method_7_code 81 = .ok (.iload 4, 2) := by decide +kernel
theorem dI_instance_83 : decode prog_1_method_7_code 83 = .ok (.goto 4, 3) := by decide +kernel
theorem dI_instance_86 : decode prog_1_method_7_code 86 = .ok (.iconst 0, 1) := by decide +kernel
theorem dI_instance_87 : decode prog_1_method_7_code 87 = .ok (.invokevirtual 87, 3) := by decide +kernel
theorem dI_instance_90 : decode prog_1_method_7_code 90 = .ok (.ireturn, 1) := by decide +kernel
