theorem dT_addConstructor_0 : decode prog_6_method_7_code 0 = .ok (.aload_n 0, 1) := by decide +kernel
theorem dT_addConstructor_1 : decode prog_6_method_7_code 1 = .ok (.getfield 30, 3) := by decide +kernel
theorem dT_addConstructor_4 : decode prog_6_method_7_code 4 = .ok (.bipush 8, 2) := by decide +kernel
theorem dT_addConstructor_6 : decode prog_6_method_7_code 6 = .ok (.if_icmp .lt 6, 3) := by decide +kernel
theorem dT_addConstructor_9 : decode prog_6_method_7_code 9 = .ok (.bipush (-3), 2) := by decide +kernel
theorem dT_addConstructor_11 : decode prog_6_method_7_code 11 = .ok (.ireturn, 1) := by decide +kernel
theorem dT_addConstructor_12 : decode prog_6_method_7_code 12 = .ok (.aload_n 0, 1) := by decide +kernel
theorem dT_addConstructor_13 : decode prog_6_method_7_code 13 = .ok (.getfield 9, 3) := by decide +kernel
theorem dT_addConstructor_16 : decode prog_6_method_7_code 16 = .ok (.aload_n 0, 1) := by decide +kernel
theorem dT_addConstructor_17 : decode prog_6_method_7_code 17 = .ok (.getfield 30, 3) := by decide +kernel
theorem dT_addConstructor_20 : decode prog_6_method_7_code 20 = .ok (.iload_n 1, 1) := by decide +kernel
theorem dT_addConstructor_21 : decode prog_6_method_7_code 21 = .ok (.iastore, 1) := by decide +kernel
theorem dT_addConstructor_22 : decode prog_6_method_7_code 22 = .ok (.aload_n 0, 1) := by decide +kernel
theorem dT_addConstructor_23 : decode prog_6_method_7_code 23 = .ok (.dup, 1) := by decide +kernel
theorem dT_addConstructor_24 : decode prog_6_method_7_code 24 = .ok (.getfield 30, 3) := by decide +kernel
theorem dT_addConstructor_27 : decode prog_6_method_7_code 27 = .ok (.iconst 1, 1) := by decide +kernel
theorem dT_addConstructor_28 : decode prog_6_method_7_code 28 = .ok (.iadd, 1) := by decide +kernel
theorem dT_addConstructor_29 : decode prog_6_method_7_code 29 = .ok (.putfield 30, 3) := by decide +kernel
theorem dT_addConstructor_32 : decode prog_6_method_7_code 32 = .ok (.aload_n 0, 1) := by decide +kernel
theorem dT_addConstructor_33 : decode prog_6_method_7_code 33 = .ok (.getfield 30, 3) := by decide +kernel
theorem dT_addConstructor_36 : decode prog_6_method_7_code 36 = .ok (.iconst 1, 1) := by decide +kernel
theorem dT_addConstructor_37 : decode prog_6_method_7_code 37 = .ok (.isub, 1) := by decide +kernel
theorem dT_addConstructor_38 : decode prog_6_method_7_code 38 = .ok (.ireturn, 1) := by decide +kernel
theorem dI_constructor_0 : decode prog_1_method_2_code 0 = .ok (.iload_n 1, 1) := by decide +kernel
theorem dI_constructor_1 : decode prog_1_method_2_code 1 = .ok (.ifCond .lt 8, 3) := by decide +kernel
theorem dI_constructor_4 : decode prog_1_method_2_code 4 = .ok (.iload_n 1, 1) := by decide +kernel
theorem dI_constructor_5 : decode prog_1_method_2_code 5 = .ok (.iconst 2, 1) := by decide +kernel
theorem dI_constructor_6 : decode prog_1_method_2_code 6 = .ok (.if_icmp .le 5, 3) := by decide +kernel
theorem dI_constructor_9 : decode prog_1_method_2_code 9 = .ok (.iconst (-1), 1) := by decide +kernel
theorem dI_constructor_10 : decode prog_1_method_2_code 10 = .ok (.ireturn, 1) := by decide +kernel
theorem dI_constructor_11 : decode prog_1_method_2_code 11 = .ok (.aload_n 0, 1) := by decide +kernel
theorem dI_constructor_12 : decode prog_1_method_2_code 12 = .ok (.getfield 10, 3) := by decide +kernel
theorem dI_constructor_15 : decode prog_1_method_2_code 15 = .ok (.iload_n 1, 1) := by decide +kernel
theorem dI_constructor_16 : decode prog_1_method_2_code 16 = .ok (.invokevirtual 46, 3) := by decide +kernel
theorem dI_constructor_19 : decode prog_1_method_2_code 19 = .ok (.ireturn, 1) := by decide +kernel
theorem dT_search_0 : decode prog_6_method_10_code 0 = .ok (.iconst 0, 1) := by decide +kernel
theorem dT_search_1 : decode prog_6_method_10_code 1 = .ok (.istore 4, 2) := by decide +kernel
theorem dT_search_3 : decode prog_6_method_10_code 3 = .ok (.iload 4, 2) := by decide +kernel
theorem dT_search_5 : decode prog_6_method_10_code 5 = .ok (.aload_n 0, 1) := by decide +kernel
theorem dT_search_6 : decode prog_6_method_10_code 6 = .ok (.getfield 34, 3) := by decide +kernel
theorem dT_search_9 : decode prog_6_method_10_code 9 = .ok (.if_icmp .ge 45, 3) := by decide +kernel
theorem dT_search_12 : decode prog_6_method_10_code 12 = .ok (.aload_n 0, 1) := by decide +kernel
theorem dT_search_13 : decode prog_6_method_10_code 13 = .ok (.getfield 15, 3) := by decide +kernel
theorem dT_search_16 : decode prog_6_method_10_code 16 = .ok (.iload 4, 2) := by decide +kernel
theorem dT_search_18 : decode prog_6_method_10_code 18 = .ok (.iaload, 1) := by decide +kernel
theorem dT_search_19 : decode prog_6_method_10_code 19 = .ok (.iload_n 1, 1) := by decide +kernel
theorem dT_search_20 : decode prog_6_method_10_code 20 = .ok (.if_icmp .ne 28, 3) := by decide +kernel
theorem dT_search_23 : decode prog_6_method_10_code 23 = .ok (.aload_n 0, 1) := by decide +kernel
theorem dT_search_24 : decode prog_6_method_10_code 24 = .ok (.getfield 18, 3) := by decide +kernel
theorem dT_search_27 : decode prog_6_method_10_code 27 = .ok (.iload 4, 2) := by decide +kernel
theorem dT_search_29 : decode prog_6_method_10_code 29 = .ok (.iaload, 1) := by decide +kernel
theorem dT_search_30 : decode prog_6_method_10_code 30 = .ok (.iload_n 2, 1) := by decide +kernel
theorem dT_search_31 : decode prog_6_method_10_code 31 = .ok (.if_icmp .ne 17, 3) := by decide +kernel
theorem dT_search_34 : decode prog_6_method_10_code 34 = .ok (.aload_n 0, 1) := by decide +kernel
theorem dT_search_35 : decode prog_6_method_10_code 35 = .ok (.getfield 21, 3) := by decide +kernel
theorem dT_search_38 : decode prog_6_method_10_code 38 = .ok (.iload 4, 2) := by decide +kernel
theorem dT_search_40 : decode prog_6_method_10_code 40 = .ok (.iaload, 1) := by decide +kernel
theorem dT_search_41 : decode prog_6_method_10_code 41 = .ok (.iload_n 3, 1) := by decide +kernel
theorem dT_search_42 : decode prog_6_method_10_code 42 = .ok (.if_icmp .ne 6, 3) := by decide +kernel
theorem dT_search_45 : decode prog_6_method_10_code 45 = .ok (.iload 4, 2) := by decide +kernel
theorem dT_search_47 : decode prog_6_method_10_code 47 = .ok (.ireturn, 1) := by decide +kernel
theorem dT_search_48 : decode prog_6_method_10_code 48 = .ok (.iinc 4 1, 3) := by decide +kernel
theorem dT_search_51 : decode prog_6_method_10_code 51 = .ok (.goto (-48), 3) := by decide +kernel
theorem dT_search_54 : decode prog_6_method_10_code 54 = .ok (.iconst (-1), 1) := by decide +kernel
theorem dT_search_55 : decode prog_6_method_10_code 55 = .ok (.ireturn, 1) := by decide +kernel
