theorem dI_init_0 : decode prog_1_method_1_code 0 = .ok (.aload_n 0, 1) := by decide +kernel
theorem dI_init_1 : decode prog_1_method_1_code 1 = .ok (.invokespecial 1, 3) := by decide +kernel
theorem dI_init_4 : decode prog_1_method_1_code 4 = .ok (.aload_n 0, 1) := by decide +kernel
theorem dI_init_5 : decode prog_1_method_1_code 5 = .ok (.new 7, 3) := by decide +kernel
theorem dI_init_8 : decode prog_1_method_1_code 8 = .ok (.dup, 1) := by decide +kernel
theorem dI_init_9 : decode prog_1_method_1_code 9 = .ok (.invokespecial 9, 3) := by decide +kernel
theorem dI_init_12 : decode prog_1_method_1_code 12 = .ok (.putfield 10, 3) := by decide +kernel
theorem dI_init_15 : decode prog_1_method_1_code 15 = .ok (.aload_n 0, 1) := by decide +kernel
theorem dI_init_16 : decode prog_1_method_1_code 16 = .ok (.new 16, 3) := by decide +kernel
theorem dI_init_19 : decode prog_1_method_1_code 19 = .ok (.dup, 1) := by decide +kernel
theorem dI_init_20 : decode prog_1_method_1_code 20 = .ok (.invokespecial 18, 3) := by decide +kernel
theorem dI_init_23 : decode prog_1_method_1_code 23 = .ok (.putfield 19, 3) := by decide +kernel
theorem dI_init_26 : decode prog_1_method_1_code 26 = .ok (.aload_n 0, 1) := by decide +kernel
theorem dI_init_27 : decode prog_1_method_1_code 27 = .ok (.new 23, 3) := by decide +kernel
theorem dI_init_30 : decode prog_1_method_1_code 30 = .ok (.dup, 1) := by decide +kernel
theorem dI_init_31 : decode prog_1_method_1_code 31 = .ok (.invokespecial 25, 3) := by decide +kernel
theorem dI_init_34 : decode prog_1_method_1_code 34 = .ok (.putfield 26, 3) := by decide +kernel
theorem dI_init_37 : decode prog_1_method_1_code 37 = .ok (.aload_n 0, 1) := by decide +kernel
theorem dI_init_38 : decode prog_1_method_1_code 38 = .ok (.new 30, 3) := by decide +kernel
theorem dI_init_41 : decode prog_1_method_1_code 41 = .ok (.dup, 1) := by decide +kernel
theorem dI_init_42 : decode prog_1_method_1_code 42 = .ok (.aload_n 0, 1) := by decide +kernel
theorem dI_init_43 : decode prog_1_method_1_code 43 = .ok (.getfield 10, 3) := by decide +kernel
theorem dI_init_46 : decode prog_1_method_1_code 46 = .ok (.aload_n 0, 1) := by decide +kernel
theorem dI_init_47 : decode prog_1_method_1_code 47 = .ok (.getfield 19, 3) := by decide +kernel
theorem dI_init_50 : decode prog_1_method_1_code 50 = .ok (.aload_n 0, 1) := by decide +kernel
theorem dI_init_51 : decode prog_1_method_1_code 51 = .ok (.getfield 26, 3) := by decide +kernel
theorem dI_init_54 : decode prog_1_method_1_code 54 = .ok (.invokespecial 32, 3) := by decide +kernel
theorem dI_init_57 : decode prog_1_method_1_code 57 = .ok (.putfield 35, 3) := by decide +kernel
theorem dI_init_60 : decode prog_1_method_1_code 60 = .ok (.aload_n 0, 1) := by decide +kernel
theorem dI_init_61 : decode prog_1_method_1_code 61 = .ok (.new 39, 3) := by decide +kernel
theorem dI_init_64 : decode prog_1_method_1_code 64 = .ok (.dup, 1) := by decide +kernel
theorem dI_init_65 : decode prog_1_method_1_code 65 = .ok (.invokespecial 41, 3) := by decide +kernel
theorem dI_init_68 : decode prog_1_method_1_code 68 = .ok (.putfield 42, 3) := by decide +kernel
theorem dI_init_71 : decode prog_1_method_1_code 71 = .ok (.return_, 1) := by decide +kernel
theorem dI_constructor_0 : decode prog_1_method_2_code 0 = .ok (.iload_n 1, 1) := by decide +kernel
theorem dI_constructor_1 : decode prog_1_method_2_code 1 = .ok (.ifCond .lt 8, 3) := by decide +kernel
theorem dI_constructor_4 : decode prog_1_method_2_code 4 = .ok (.iload_n 1, 1) := by decide +kernel
theorem dI_constructor_5 : decode prog_1_method_2_code 5 = .ok (.iconst 2, 1) := by decide +kernel
theorem dI_constructor_6 : decode prog_1_method_2_code 6 = .ok (.if_icmp .le 5, 3) := by decide +kernel
theorem dI_constructor_9 : decode prog_1_method_2_code 9 = .ok (.iconst (-1), 1) := by decide +kernel
theorem dI_constructor_10 : decode prog_1_method_2_code 10 = .ok (.ireturn, 1) := by decide +kernel
theorem dI_constructor_11 : decode prog_1_method_2_code 11 = .ok (.aload_n 0, 1) := by decide +kernel
theorem dI_constructor_12 : decode prog_1_method_2_code 12 = .ok (.getfield 10, 3) := by decide +kernel
theorem dI_constructor_15 : decode prog_1_method_2_code 15 = .ok (.iload_n 1, 1) := by decide +kernel
theorem dI_constructor_16 : decode prog_1_method_2_code 16 = .ok (.invokevirtual 46, 3) := by decide +kernel
theorem dI_constructor_19 : decode prog_1_method_2_code 19 = .ok (.ireturn, 1) := by decide +kernel
theorem dI_variable_0 : decode prog_1_method_3_code 0 = .ok (.iload_n 1, 1) := by decide +kernel
theorem dI_variable_1 : decode prog_1_method_3_code 1 = .ok (.ifCond .lt 9, 3) := by decide +kernel
theorem dI_variable_4 : decode prog_1_method_3_code 4 = .ok (.iload_n 1, 1) := by decide +kernel
theorem dI_variable_5 : decode prog_1_method_3_code 5 = .ok (.bipush 8, 2) := by decide +kernel
theorem dI_variable_7 : decode prog_1_method_3_code 7 = .ok (.if_icmp .lt 5, 3) := by decide +kernel
theorem dI_variable_10 : decode prog_1_method_3_code 10 = .ok (.iconst (-1), 1) := by decide +kernel
theorem dI_variable_11 : decode prog_1_method_3_code 11 = .ok (.ireturn, 1) := by decide +kernel
theorem dI_variable_12 : decode prog_1_method_3_code 12 = .ok (.aload_n 0, 1) := by decide +kernel
theorem dI_variable_13 : decode prog_1_method_3_code 13 = .ok (.getfield 10, 3) := by decide +kernel
theorem dI_variable_16 : decode prog_1_method_3_code 16 = .ok (.iload_n 1, 1) := by decide +kernel
theorem dI_variable_17 : decode prog_1_method_3_code 17 = .ok (.invokevirtual 50, 3) := by decide +kernel
theorem dI_variable_20 : decode prog_1_method_3_code 20 = .ok (.ireturn, 1) := by decide +kernel
theorem dI_type_0 : decode prog_1_method_4_code 0 = .ok (.aload_n 0, 1) := by decide +kernel
theorem dI_type_1 : decode prog_1_method_4_code 1 = .ok (.getfield 10, 3) := by decide +kernel
theorem dI_type_4 : decode prog_1_method_4_code 4 = .ok (.iload_n 1, 1) := by decide +kernel
theorem dI_type_5 : decode prog_1_method_4_code 5 = .ok (.invokevirtual 53, 3) := by decide +kernel
theorem dI_type_8 : decode prog_1_method_4_code 8 = .ok (.ifCond .ne 5, 3) := by decide +kernel
theorem dI_type_11 : decode prog_1_method_4_code 11 = .ok (.iconst (-1), 1) := by decide +kernel
theorem dI_type_12 : decode prog_1_method_4_code 12 = .ok (.ireturn, 1) := by decide +kernel
theorem dI_type_13 : decode prog_1_method_4_code 13 = .ok (.aload_n 0, 1) := by decide +kernel
theorem dI_type_14 : decode prog_1_method_4_code 14 = .ok (.getfield 10, 3) := by decide +kernel
theorem dI_type_17 : decode prog_1_method_4_code 17 = .ok (.iload_n 1, 1) := by decide +kernel
theorem dI_type_18 : decode prog_1_method_4_code 18 = .ok (.invokevirtual 57, 3) := by decide +kernel
theorem dI_type_21 : decode prog_1_method_4_code 21 = .ok (.istore 4, 2) := by decide +kernel
theorem dI_type_23 : decode prog_1_method_4_code 23 = .ok (.iload 4, 2) := by decide +kernel
theorem dI_type_25 : decode prog_1_method_4_code 25 = .ok (.ifCond .le 14, 3) := by decide +kernel
theorem dI_type_28 : decode prog_1_method_4_code 28 = .ok (.aload_n 0, 1) := by decide +kernel
theorem dI_type_29 : decode prog_1_method_4_code 29 = .ok (.getfield 10, 3) := by decide +kernel
theorem dI_type_32 : decode prog_1_method_4_code 32 = .ok (.iload_n 2, 1) := by decide +kernel
theorem dI_type_33 : decode prog_1_method_4_code 33 = .ok (.invokevirtual 60, 3) := by decide +kernel
theorem dI_type_36 : decode prog_1_method_4_code 36 = .ok (.ifCond .eq 20, 3) := by decide +kernel
theorem dI_type_39 : decode prog_1_method_4_code 39 = .ok (.iload 4, 2) := by decide +kernel
theorem dI_type_41 : decode prog_1_method_4_code 41 = .ok (.iconst 1, 1) := by decide +kernel
theorem dI_type_42 : decode prog_1_method_4_code 42 = .ok (.if_icmp .le 16, 3) := by decide +kernel
theorem dI_type_45 : decode prog_1_method_4_code 45 = .ok (.aload_n 0, 1) := by decide +kernel
theorem dI_type_46 : decode prog_1_method_4_code 46 = .ok (.getfield 10, 3) := by decide +kernel
theorem dI_type_49 : decode prog_1_method_4_code 49 = .ok (.iload_n 3, 1) := by decide +kernel
theorem dI_type_50 : decode prog_1_method_4_code 50 = .ok (.invokevirtual 60, 3) := by decide +kernel
theorem dI_type_53 : decode prog_1_method_4_code 53 = .ok (.ifCond .ne 5, 3) := by decide +kernel
theorem dI_type_56 : decode prog_1_method_4_code 56 = .ok (.iconst (-1), 1) := by decide +kernel
theorem dI_type_57 : decode prog_1_method_4_code 57 = .ok (.ireturn, 1) := by decide +kernel
theorem dI_type_58 : decode prog_1_method_4_code 58 = .ok (.aload_n 0, 1) := by decide +kernel
theorem dI_type_59 : decode prog_1_method_4_code 59 = .ok (.getfield 10, 3) := by decide +kernel
theorem dI_type_62 : decode prog_1_method_4_code 62 = .ok (.iload_n 1, 1) := by decide +kernel
theorem dI_type_63 : decode prog_1_method_4_code 63 = .ok (.iload 4, 2) := by decide +kernel
theorem dI_type_65 : decode prog_1_method_4_code 65 = .ok (.ifCond .le 7, 3) := by decide +kernel
theorem dI_type_68 : decode prog_1_method_4_code 68 = .ok (.iload_n 2, 1) := by decide +kernel
theorem dI_type_69 : decode prog_1_method_4_code 69 = .ok (.goto 4, 3) := by decide +kernel
theorem dI_type_72 : decode prog_1_method_4_code 72 = .ok (.iconst (-1), 1) := by decide +kernel
theorem dI_type_73 : decode prog_1_method_4_code 73 = .ok (.iload 4, 2) := by decide +kernel
theorem dI_type_75 : decode prog_1_method_4_code 75 = .ok (.iconst 1, 1) := by decide +kernel
theorem dI_type_76 : decode prog_1_method_4_code 76 = .ok (.if_icmp .le 7, 3) := by decide +kernel
theorem dI_type_79 : decode prog_1_method_4_code 79 = .ok (.iload_n 3, 1) := by decide +kernel
theorem dI_type_80 : decode prog_1_method_4_code 80 = .ok (.goto 4, 3) := by decide +kernel
theorem dI_type_83 : decode prog_1_method_4_code 83 = .ok (.iconst (-1), 1) := by decide +kernel
theorem dI_type_84 : decode prog_1_method_4_code 84 = .ok (.invokevirtual 63, 3) := by decide +kernel
theorem dI_type_87 : decode prog_1_method_4_code 87 = .ok (.ireturn, 1) := by decide +kernel
theorem dI_class0_0 : decode prog_1_method_5_code 0 = .ok (.iload_n 1, 1) := by decide +kernel
theorem dI_class0_1 : decode prog_1_method_5_code 1 = .ok (.iconst (-1), 1) := by decide +kernel
theorem dI_class0_2 : decode prog_1_method_5_code 2 = .ok (.if_icmp .eq 16, 3) := by decide +kernel
theorem dI_class0_5 : decode prog_1_method_5_code 5 = .ok (.aload_n 0, 1) := by decide +kernel
theorem dI_class0_6 : decode prog_1_method_5_code 6 = .ok (.getfield 19, 3) := by decide +kernel
theorem dI_class0_9 : decode prog_1_method_5_code 9 = .ok (.iload_n 1, 1) := by decide +kernel
theorem dI_class0_10 : decode prog_1_method_5_code 10 = .ok (.invokevirtual 67, 3) := by decide +kernel
theorem dI_class0_13 : decode prog_1_method_5_code 13 = .ok (.ifCond .ne 5, 3) := by decide +kernel
theorem dI_class0_16 : decode prog_1_method_5_code 16 = .ok (.iconst (-1), 1) := by decide +kernel
theorem dI_class0_17 : decode prog_1_method_5_code 17 = .ok (.ireturn, 1) := by decide +kernel
theorem dI_class0_18 : decode prog_1_method_5_code 18 = .ok (.aload_n 0, 1) := by decide +kernel
theorem dI_class0_19 : decode prog_1_method_5_code 19 = .ok (.getfield 19, 3) := by decide +kernel
theorem dI_class0_22 : decode prog_1_method_5_code 22 = .ok (.iload_n 1, 1) := by decide +kernel
theorem dI_class0_23 : decode prog_1_method_5_code 23 = .ok (.invokevirtual 70, 3) := by decide +kernel
theorem dI_class0_26 : decode prog_1_method_5_code 26 = .ok (.ireturn, 1) := by decide +kernel
theorem dI_method_0 : decode prog_1_method_6_code 0 = .ok (.aload_n 0, 1) := by decide +kernel
theorem dI_method_1 : decode prog_1_method_6_code 1 = .ok (.getfield 19, 3) := by decide +kernel
theorem dI_method_4 : decode prog_1_method_6_code 4 = .ok (.iload_n 1, 1) := by decide +kernel
theorem dI_method_5 : decode prog_1_method_6_code 5 = .ok (.invokevirtual 67, 3) := by decide +kernel
theorem dI_method_8 : decode prog_1_method_6_code 8 = .ok (.ifCond .eq 14, 3) := by decide +kernel
theorem dI_method_11 : decode prog_1_method_6_code 11 = .ok (.aload_n 0, 1) := by decide +kernel
theorem dI_method_12 : decode prog_1_method_6_code 12 = .ok (.getfield 10, 3) := by decide +kernel
theorem dI_method_15 : decode prog_1_method_6_code 15 = .ok (.iload_n 2, 1) := by decide +kernel
theorem dI_method_16 : decode prog_1_method_6_code 16 = .ok (.invokevirtual 60, 3) := by decide +kernel
theorem dI_method_19 : decode prog_1_method_6_code 19 = .ok (.ifCond .ne 5, 3) := by decide +kernel
theorem dI_method_22 : decode prog_1_method_6_code 22 = .ok (.iconst (-1), 1) := by decide +kernel
theorem dI_method_23 : decode prog_1_method_6_code 23 = .ok (.ireturn, 1) := by decide +kernel
theorem dI_method_24 : decode prog_1_method_6_code 24 = .ok (.aload_n 0, 1) := by decide +kernel
theorem dI_method_25 : decode prog_1_method_6_code 25 = .ok (.getfield 19, 3) := by decide +kernel
theorem dI_method_28 : decode prog_1_method_6_code 28 = .ok (.iload_n 1, 1) := by decide +kernel
theorem dI_method_29 : decode prog_1_method_6_code 29 = .ok (.invokevirtual 73, 3) := by decide +kernel
theorem dI_method_32 : decode prog_1_method_6_code 32 = .ok (.iconst (-1), 1) := by decide +kernel
theorem dI_method_33 : decode prog_1_method_6_code 33 = .ok (.if_icmp .ne 15, 3) := by decide +kernel
theorem dI_method_36 : decode prog_1_method_6_code 36 = .ok (.aload_n 0, 1) := by decide +kernel
theorem dI_method_37 : decode prog_1_method_6_code 37 = .ok (.getfield 10, 3) := by decide +kernel
theorem dI_method_40 : decode prog_1_method_6_code 40 = .ok (.iload_n 2, 1) := by decide +kernel
theorem dI_method_41 : decode prog_1_method_6_code 41 = .ok (.iconst 0, 1) := by decide +kernel
theorem dI_method_42 : decode prog_1_method_6_code 42 = .ok (.invokevirtual 76, 3) := by decide +kernel
theorem dI_method_45 : decode prog_1_method_6_code 45 = .ok (.ifCond .ne 5, 3) := by decide +kernel
theorem dI_method_48 : decode prog_1_method_6_code 48 = .ok (.iconst (-1), 1) := by decide +kernel
theorem dI_method_49 : decode prog_1_method_6_code 49 = .ok (.ireturn, 1) := by decide +kernel
theorem dI_method_50 : decode prog_1_method_6_code 50 = .ok (.aload_n 0, 1) := by decide +kernel
theorem dI_method_51 : decode prog_1_method_6_code 51 = .ok (.getfield 19, 3) := by decide +kernel
theorem dI_method_54 : decode prog_1_method_6_code 54 = .ok (.iload_n 1, 1) := by decide +kernel
theorem dI_method_55 : decode prog_1_method_6_code 55 = .ok (.iload_n 2, 1) := by decide +kernel
theorem dI_method_56 : decode prog_1_method_6_code 56 = .ok (.invokevirtual 80, 3) := by decide +kernel
theorem dI_method_59 : decode prog_1_method_6_code 59 = .ok (.iconst 1, 1) := by decide +kernel
theorem dI_method_60 : decode prog_1_method_6_code 60 = .ok (.ireturn, 1) := by decide +kernel
theorem dI_instance_0 : decode prog_1_method_7_code 0 = .ok (.aload_n 0, 1) := by decide +kernel
theorem dI_instance_1 : decode prog_1_method_7_code 1 = .ok (.getfield 19, 3) := by decide +kernel
theorem dI_instance_4 : decode prog_1_method_7_code 4 = .ok (.iload_n 1, 1) := by decide +kernel
theorem dI_instance_5 : decode prog_1_method_7_code 5 = .ok (.invokevirtual 67, 3) := by decide +kernel
theorem dI_instance_8 : decode prog_1_method_7_code 8 = .ok (.ifCond .eq 14, 3) := by decide +kernel
theorem dI_instance_11 : decode prog_1_method_7_code 11 = .ok (.aload_n 0, 1) := by decide +kernel
theorem dI_instance_12 : decode prog_1_method_7_code 12 = .ok (.getfield 10, 3) := by decide +kernel
theorem dI_instance_15 : decode prog_1_method_7_code 15 = .ok (.iload_n 2, 1) := by decide +kernel
theorem dI_instance_16 : decode prog_1_method_7_code 16 = .ok (.invokevirtual 53, 3) := by decide +kernel
theorem dI_instance_19 : decode prog_1_method_7_code 19 = .ok (.ifCond .ne 5, 3) := by decide +kernel
theorem dI_instance_22 : decode prog_1_method_7_code 22 = .ok (.iconst (-1), 1) := by decide +kernel
theorem dI_instance_23 : decode prog_1_method_7_code 23 = .ok (.ireturn, 1) := by decide +kernel
theorem dI_instance_24 : decode prog_1_method_7_code 24 = .ok (.aload_n 0, 1) := by decide +kernel
theorem dI_instance_25 : decode prog_1_method_7_code 25 = .ok (.getfield 19, 3) := by decide +kernel
theorem dI_instance_28 : decode prog_1_method_7_code 28 = .ok (.iload_n 3, 1) := by decide +kernel
theorem dI_instance_29 : decode prog_1_method_7_code 29 = .ok (.invokevirtual 84, 3) := by decide +kernel
theorem dI_instance_32 : decode prog_1_method_7_code 32 = .ok (.ifCond .eq 15, 3) := by decide +kernel
theorem dI_instance_35 : decode prog_1_method_7_code 35 = .ok (.aload_n 0, 1) := by decide +kernel
theorem dI_instance_36 : decode prog_1_method_7_code 36 = .ok (.getfield 19, 3) := by decide +kernel
theorem dI_instance_39 : decode prog_1_method_7_code 39 = .ok (.iload 4, 2) := by decide +kernel
theorem dI_instance_41 : decode prog_1_method_7_code 41 = .ok (.invokevirtual 84, 3) := by decide +kernel
theorem dI_instance_44 : decode prog_1_method_7_code 44 = .ok (.ifCond .ne 5, 3) := by decide +kernel
theorem dI_instance_47 : decode prog_1_method_7_code 47 = .ok (.iconst (-1), 1) := by decide +kernel
theorem dI_instance_48 : decode prog_1_method_7_code 48 = .ok (.ireturn, 1) := by decide +kernel
theorem dI_instance_49 : decode prog_1_method_7_code 49 = .ok (.aload_n 0, 1) := by decide +kernel
theorem dI_instance_50 : decode prog_1_method_7_code 50 = .ok (.getfield 10, 3) := by decide +kernel
theorem dI_instance_53 : decode prog_1_method_7_code 53 = .ok (.iload_n 2, 1) := by decide +kernel
theorem dI_instance_54 : decode prog_1_method_7_code 54 = .ok (.invokevirtual 57, 3) := by decide +kernel
theorem dI_instance_57 : decode prog_1_method_7_code 57 = .ok (.istore 5, 2) := by decide +kernel
theorem dI_instance_59 : decode prog_1_method_7_code 59 = .ok (.aload_n 0, 1) := by decide +kernel
theorem dI_instance_60 : decode prog_1_method_7_code 60 = .ok (.getfield 19, 3) := by decide +kernel
theorem dI_instance_63 : decode prog_1_method_7_code 63 = .ok (.iload_n 1, 1) := by decide +kernel
theorem dI_instance_64 : decode prog_1_method_7_code 64 = .ok (.iload_n 2, 1) := by decide +kernel
theorem dI_instance_65 : decode prog_1_method_7_code 65 = .ok (.iload 5, 2) := by decide +kernel
theorem dI_instance_67 : decode prog_1_method_7_code 67 = .ok (.ifCond .le 7, 3) := by decide +kernel
theorem dI_instance_70 : decode prog_1_method_7_code 70 = .ok (.iload_n 3, 1) := by decide +kernel
theorem dI_instance_71 : decode prog_1_method_7_code 71 = .ok (.goto 4, 3) := by decide +kernel
theorem dI_instance_74 : decode prog_1_method_7_code 74 = .ok (.iconst 0, 1) := by decide +kernel
theorem dI_instance_75 : decode prog_1_method_7_code 75 = .ok (.iload 5, 2) := by decide +kernel
theorem dI_instance_77 : decode prog_1_method_7_code 77 = .ok (.iconst 1, 1) := by decide +kernel
theorem dI_instance_78 : decode prog_1_method_7_code 78 = .ok (.if_icmp .le 8, 3) := by decide +kernel
theorem dI_instance_81 : decode prog_1_method_7_code 81 = .ok (.iload 4, 2) := by decide +kernel
theorem dI_instance_83 : decode prog_1_method_7_code 83 = .ok (.goto 4, 3) := by decide +kernel
theorem dI_instance_86 : decode prog_1_method_7_code 86 = .ok (.iconst 0, 1) := by decide +kernel
theorem dI_instance_87 : decode prog_1_method_7_code 87 = .ok (.invokevirtual 87, 3) := by decide +kernel
theorem dI_instance_90 : decode prog_1_method_7_code 90 = .ok (.ireturn, 1) := by decide +kernel
theorem dI_expression_0 : decode prog_1_method_8_code 0 = .ok (.aload_n 0, 1) := by decide +kernel
theorem dI_expression_1 : decode prog_1_method_8_code 1 = .ok (.iload_n 1, 1) := by decide +kernel
theorem dI_expression_2 : decode prog_1_method_8_code 2 = .ok (.iload_n 2, 1) := by decide +kernel
theorem dI_expression_3 : decode prog_1_method_8_code 3 = .ok (.iload_n 3, 1) := by decide +kernel
theorem dI_expression_4 : decode prog_1_method_8_code 4 = .ok (.iload 4, 2) := by decide +kernel
theorem dI_expression_6 : decode prog_1_method_8_code 6 = .ok (.invokevirtual 91, 3) := by decide +kernel
theorem dI_expression_9 : decode prog_1_method_8_code 9 = .ok (.ifCond .ne 5, 3) := by decide +kernel
theorem dI_expression_12 : decode prog_1_method_8_code 12 = .ok (.iconst (-1), 1) := by decide +kernel
theorem dI_expression_13 : decode prog_1_method_8_code 13 = .ok (.ireturn, 1) := by decide +kernel
theorem dI_expression_14 : decode prog_1_method_8_code 14 = .ok (.aload_n 0, 1) := by decide +kernel
theorem dI_expression_15 : decode prog_1_method_8_code 15 = .ok (.getfield 26, 3) := by decide +kernel
theorem dI_expression_18 : decode prog_1_method_8_code 18 = .ok (.iload_n 1, 1) := by decide +kernel
theorem dI_expression_19 : decode prog_1_method_8_code 19 = .ok (.iload_n 2, 1) := by decide +kernel
theorem dI_expression_20 : decode prog_1_method_8_code 20 = .ok (.iload_n 3, 1) := by decide +kernel
theorem dI_expression_21 : decode prog_1_method_8_code 21 = .ok (.iload 4, 2) := by decide +kernel
theorem dI_expression_23 : decode prog_1_method_8_code 23 = .ok (.invokevirtual 95, 3) := by decide +kernel
theorem dI_expression_26 : decode prog_1_method_8_code 26 = .ok (.ireturn, 1) := by decide +kernel
theorem dI_mayStand_0 : decode prog_1_method_9_code 0 = .ok (.iload_n 1, 1) := by decide +kernel
theorem dI_mayStand_1 : decode prog_1_method_9_code 1 = .ok (.tableswitch 170 0 5 #[39, 44, 68, 96, 132, 161], 39) := by decide +kernel
theorem dI_mayStand_40 : decode prog_1_method_9_code 40 = .ok (.iload_n 2, 1) := by decide +kernel
theorem dI_mayStand_41 : decode prog_1_method_9_code 41 = .ok (.invokestatic 98, 3) := by decide +kernel
theorem dI_mayStand_44 : decode prog_1_method_9_code 44 = .ok (.ireturn, 1) := by decide +kernel
theorem dI_mayStand_45 : decode prog_1_method_9_code 45 = .ok (.iload_n 2, 1) := by decide +kernel
theorem dI_mayStand_46 : decode prog_1_method_9_code 46 = .ok (.invokestatic 98, 3) := by decide +kernel
theorem dI_mayStand_49 : decode prog_1_method_9_code 49 = .ok (.ifCond .eq 18, 3) := by decide +kernel
theorem dI_mayStand_52 : decode prog_1_method_9_code 52 = .ok (.aload_n 0, 1) := by decide +kernel
theorem dI_mayStand_53 : decode prog_1_method_9_code 53 = .ok (.getfield 26, 3) := by decide +kernel
theorem dI_mayStand_56 : decode prog_1_method_9_code 56 = .ok (.iload_n 3, 1) := by decide +kernel
theorem dI_mayStand_57 : decode prog_1_method_9_code 57 = .ok (.invokevirtual 101, 3) := by decide +kernel
theorem dI_mayStand_60 : decode prog_1_method_9_code 60 = .ok (.ifCond .eq 7, 3) := by decide +kernel
theorem dI_mayStand_63 : decode prog_1_method_9_code 63 = .ok (.iconst 1, 1) := by decide +kernel
theorem dI_mayStand_64 : decode prog_1_method_9_code 64 = .ok (.goto 4, 3) := by decide +kernel
theorem dI_mayStand_67 : decode prog_1_method_9_code 67 = .ok (.iconst 0, 1) := by decide +kernel
theorem dI_mayStand_68 : decode prog_1_method_9_code 68 = .ok (.ireturn, 1) := by decide +kernel
theorem dI_mayStand_69 : decode prog_1_method_9_code 69 = .ok (.aload_n 0, 1) := by decide +kernel
theorem dI_mayStand_70 : decode prog_1_method_9_code 70 = .ok (.getfield 26, 3) := by decide +kernel
theorem dI_mayStand_73 : decode prog_1_method_9_code 73 = .ok (.iload_n 2, 1) := by decide +kernel
theorem dI_mayStand_74 : decode prog_1_method_9_code 74 = .ok (.invokevirtual 101, 3) := by decide +kernel
theorem dI_mayStand_77 : decode prog_1_method_9_code 77 = .ok (.ifCond .eq 18, 3) := by decide +kernel
theorem dI_mayStand_80 : decode prog_1_method_9_code 80 = .ok (.aload_n 0, 1) := by decide +kernel
theorem dI_mayStand_81 : decode prog_1_method_9_code 81 = .ok (.getfield 26, 3) := by decide +kernel
theorem dI_mayStand_84 : decode prog_1_method_9_code 84 = .ok (.iload_n 3, 1) := by decide +kernel
theorem dI_mayStand_85 : decode prog_1_method_9_code 85 = .ok (.invokevirtual 101, 3) := by decide +kernel
theorem dI_mayStand_88 : decode prog_1_method_9_code 88 = .ok (.ifCond .eq 7, 3) := by decide +kernel
theorem dI_mayStand_91 : decode prog_1_method_9_code 91 = .ok (.iconst 1, 1) := by decide +kernel
theorem dI_mayStand_92 : decode prog_1_method_9_code 92 = .ok (.goto 4, 3) := by decide +kernel
theorem dI_mayStand_95 : decode prog_1_method_9_code 95 = .ok (.iconst 0, 1) := by decide +kernel
theorem dI_mayStand_96 : decode prog_1_method_9_code 96 = .ok (.ireturn, 1) := by decide +kernel
theorem dI_mayStand_97 : decode prog_1_method_9_code 97 = .ok (.iload_n 2, 1) := by decide +kernel
theorem dI_mayStand_98 : decode prog_1_method_9_code 98 = .ok (.invokestatic 98, 3) := by decide +kernel
theorem dI_mayStand_101 : decode prog_1_method_9_code 101 = .ok (.ifCond .eq 30, 3) := by decide +kernel
theorem dI_mayStand_104 : decode prog_1_method_9_code 104 = .ok (.aload_n 0, 1) := by decide +kernel
theorem dI_mayStand_105 : decode prog_1_method_9_code 105 = .ok (.getfield 26, 3) := by decide +kernel
theorem dI_mayStand_108 : decode prog_1_method_9_code 108 = .ok (.iload_n 3, 1) := by decide +kernel
theorem dI_mayStand_109 : decode prog_1_method_9_code 109 = .ok (.invokevirtual 101, 3) := by decide +kernel
theorem dI_mayStand_112 : decode prog_1_method_9_code 112 = .ok (.ifCond .eq 19, 3) := by decide +kernel
theorem dI_mayStand_115 : decode prog_1_method_9_code 115 = .ok (.aload_n 0, 1) := by decide +kernel
theorem dI_mayStand_116 : decode prog_1_method_9_code 116 = .ok (.getfield 26, 3) := by decide +kernel
theorem dI_mayStand_119 : decode prog_1_method_9_code 119 = .ok (.iload 4, 2) := by decide +kernel
theorem dI_mayStand_121 : decode prog_1_method_9_code 121 = .ok (.invokevirtual 101, 3) := by decide +kernel
theorem dI_mayStand_124 : decode prog_1_method_9_code 124 = .ok (.ifCond .eq 7, 3) := by decide +kernel
theorem dI_mayStand_127 : decode prog_1_method_9_code 127 = .ok (.iconst 1, 1) := by decide +kernel
theorem dI_mayStand_128 : decode prog_1_method_9_code 128 = .ok (.goto 4, 3) := by decide +kernel
theorem dI_mayStand_131 : decode prog_1_method_9_code 131 = .ok (.iconst 0, 1) := by decide +kernel
theorem dI_mayStand_132 : decode prog_1_method_9_code 132 = .ok (.ireturn, 1) := by decide +kernel
theorem dI_mayStand_133 : decode prog_1_method_9_code 133 = .ok (.aload_n 0, 1) := by decide +kernel
theorem dI_mayStand_134 : decode prog_1_method_9_code 134 = .ok (.getfield 19, 3) := by decide +kernel
theorem dI_mayStand_137 : decode prog_1_method_9_code 137 = .ok (.iload_n 2, 1) := by decide +kernel
theorem dI_mayStand_138 : decode prog_1_method_9_code 138 = .ok (.invokevirtual 67, 3) := by decide +kernel
theorem dI_mayStand_141 : decode prog_1_method_9_code 141 = .ok (.ifCond .eq 19, 3) := by decide +kernel
theorem dI_mayStand_144 : decode prog_1_method_9_code 144 = .ok (.aload_n 0, 1) := by decide +kernel
theorem dI_mayStand_145 : decode prog_1_method_9_code 145 = .ok (.getfield 19, 3) := by decide +kernel
theorem dI_mayStand_148 : decode prog_1_method_9_code 148 = .ok (.iload_n 2, 1) := by decide +kernel
theorem dI_mayStand_149 : decode prog_1_method_9_code 149 = .ok (.invokevirtual 73, 3) := by decide +kernel
theorem dI_mayStand_152 : decode prog_1_method_9_code 152 = .ok (.iconst (-1), 1) := by decide +kernel
theorem dI_mayStand_153 : decode prog_1_method_9_code 153 = .ok (.if_icmp .eq 7, 3) := by decide +kernel
theorem dI_mayStand_156 : decode prog_1_method_9_code 156 = .ok (.iconst 1, 1) := by decide +kernel
theorem dI_mayStand_157 : decode prog_1_method_9_code 157 = .ok (.goto 4, 3) := by decide +kernel
theorem dI_mayStand_160 : decode prog_1_method_9_code 160 = .ok (.iconst 0, 1) := by decide +kernel
theorem dI_mayStand_161 : decode prog_1_method_9_code 161 = .ok (.ireturn, 1) := by decide +kernel
theorem dI_mayStand_162 : decode prog_1_method_9_code 162 = .ok (.aload_n 0, 1) := by decide +kernel
theorem dI_mayStand_163 : decode prog_1_method_9_code 163 = .ok (.getfield 10, 3) := by decide +kernel
theorem dI_mayStand_166 : decode prog_1_method_9_code 166 = .ok (.iload_n 2, 1) := by decide +kernel
theorem dI_mayStand_167 : decode prog_1_method_9_code 167 = .ok (.invokevirtual 60, 3) := by decide +kernel
theorem dI_mayStand_170 : decode prog_1_method_9_code 170 = .ok (.ireturn, 1) := by decide +kernel
theorem dI_mayStand_171 : decode prog_1_method_9_code 171 = .ok (.iconst 0, 1) := by decide +kernel
theorem dI_mayStand_172 : decode prog_1_method_9_code 172 = .ok (.ireturn, 1) := by decide +kernel
theorem dI_isName_0 : decode prog_1_method_10_code 0 = .ok (.iload_n 0, 1) := by decide +kernel
theorem dI_isName_1 : decode prog_1_method_10_code 1 = .ok (.ifCond .lt 13, 3) := by decide +kernel
theorem dI_isName_4 : decode prog_1_method_10_code 4 = .ok (.iload_n 0, 1) := by decide +kernel
theorem dI_isName_5 : decode prog_1_method_10_code 5 = .ok (.bipush 16, 2) := by decide +kernel
theorem dI_isName_7 : decode prog_1_method_10_code 7 = .ok (.if_icmp .ge 7, 3) := by decide +kernel
theorem dI_isName_10 : decode prog_1_method_10_code 10 = .ok (.iconst 1, 1) := by decide +kernel
theorem dI_isName_11 : decode prog_1_method_10_code 11 = .ok (.goto 4, 3) := by decide +kernel
theorem dI_isName_14 : decode prog_1_method_10_code 14 = .ok (.iconst 0, 1) := by decide +kernel
theorem dI_isName_15 : decode prog_1_method_10_code 15 = .ok (.ireturn, 1) := by decide +kernel
theorem dI_infer_0 : decode prog_1_method_11_code 0 = .ok (.aload_n 0, 1) := by decide +kernel
theorem dI_infer_1 : decode prog_1_method_11_code 1 = .ok (.getfield 26, 3) := by decide +kernel
theorem dI_infer_4 : decode prog_1_method_11_code 4 = .ok (.iload_n 1, 1) := by decide +kernel
theorem dI_infer_5 : decode prog_1_method_11_code 5 = .ok (.invokevirtual 101, 3) := by decide +kernel
theorem dI_infer_8 : decode prog_1_method_11_code 8 = .ok (.ifCond .ne 5, 3) := by decide +kernel
theorem dI_infer_11 : decode prog_1_method_11_code 11 = .ok (.iconst (-1), 1) := by decide +kernel
theorem dI_infer_12 : decode prog_1_method_11_code 12 = .ok (.ireturn, 1) := by decide +kernel
theorem dI_infer_13 : decode prog_1_method_11_code 13 = .ok (.aload_n 0, 1) := by decide +kernel
theorem dI_infer_14 : decode prog_1_method_11_code 14 = .ok (.getfield 26, 3) := by decide +kernel
theorem dI_infer_17 : decode prog_1_method_11_code 17 = .ok (.iload_n 1, 1) := by decide +kernel
theorem dI_infer_18 : decode prog_1_method_11_code 18 = .ok (.invokevirtual 104, 3) := by decide +kernel
theorem dI_infer_21 : decode prog_1_method_11_code 21 = .ok (.bipush 24, 2) := by decide +kernel
theorem dI_infer_23 : decode prog_1_method_11_code 23 = .ok (.if_icmp .le 6, 3) := by decide +kernel
theorem dI_infer_26 : decode prog_1_method_11_code 26 = .ok (.bipush (-3), 2) := by decide +kernel
theorem dI_infer_28 : decode prog_1_method_11_code 28 = .ok (.ireturn, 1) := by decide +kernel
theorem dI_infer_29 : decode prog_1_method_11_code 29 = .ok (.aload_n 0, 1) := by decide +kernel
theorem dI_infer_30 : decode prog_1_method_11_code 30 = .ok (.getfield 35, 3) := by decide +kernel
theorem dI_infer_33 : decode prog_1_method_11_code 33 = .ok (.iload_n 1, 1) := by decide +kernel
theorem dI_infer_34 : decode prog_1_method_11_code 34 = .ok (.invokevirtual 107, 3) := by decide +kernel
theorem dI_infer_37 : decode prog_1_method_11_code 37 = .ok (.istore_n 2, 1) := by decide +kernel
theorem dI_infer_38 : decode prog_1_method_11_code 38 = .ok (.iload_n 2, 1) := by decide +kernel
theorem dI_infer_39 : decode prog_1_method_11_code 39 = .ok (.ifCond .eq 5, 3) := by decide +kernel
theorem dI_infer_42 : decode prog_1_method_11_code 42 = .ok (.iload_n 2, 1) := by decide +kernel
theorem dI_infer_43 : decode prog_1_method_11_code 43 = .ok (.ireturn, 1) := by decide +kernel
theorem dI_infer_44 : decode prog_1_method_11_code 44 = .ok (.aload_n 0, 1) := by decide +kernel
theorem dI_infer_45 : decode prog_1_method_11_code 45 = .ok (.getfield 35, 3) := by decide +kernel
theorem dI_infer_48 : decode prog_1_method_11_code 48 = .ok (.aload_n 0, 1) := by decide +kernel
theorem dI_infer_49 : decode prog_1_method_11_code 49 = .ok (.getfield 42, 3) := by decide +kernel
theorem dI_infer_52 : decode prog_1_method_11_code 52 = .ok (.invokevirtual 110, 3) := by decide +kernel
theorem dI_infer_55 : decode prog_1_method_11_code 55 = .ok (.aload_n 0, 1) := by decide +kernel
theorem dI_infer_56 : decode prog_1_method_11_code 56 = .ok (.getfield 42, 3) := by decide +kernel
theorem dI_infer_59 : decode prog_1_method_11_code 59 = .ok (.invokevirtual 114, 3) := by decide +kernel
theorem dI_infer_62 : decode prog_1_method_11_code 62 = .ok (.ireturn, 1) := by decide +kernel
theorem dI_shape_0 : decode prog_1_method_12_code 0 = .ok (.aload_n 0, 1) := by decide +kernel
theorem dI_shape_1 : decode prog_1_method_12_code 1 = .ok (.getfield 42, 3) := by decide +kernel
theorem dI_shape_4 : decode prog_1_method_12_code 4 = .ok (.iload_n 1, 1) := by decide +kernel
theorem dI_shape_5 : decode prog_1_method_12_code 5 = .ok (.invokevirtual 118, 3) := by decide +kernel
theorem dI_shape_8 : decode prog_1_method_12_code 8 = .ok (.ireturn, 1) := by decide +kernel
theorem dI_wants_0 : decode prog_1_method_13_code 0 = .ok (.aload_n 0, 1) := by decide +kernel
theorem dI_wants_1 : decode prog_1_method_13_code 1 = .ok (.getfield 42, 3) := by decide +kernel
theorem dI_wants_4 : decode prog_1_method_13_code 4 = .ok (.invokevirtual 121, 3) := by decide +kernel
theorem dI_wants_7 : decode prog_1_method_13_code 7 = .ok (.ireturn, 1) := by decide +kernel
theorem dI_want_0 : decode prog_1_method_14_code 0 = .ok (.iload_n 1, 1) := by decide +kernel
theorem dI_want_1 : decode prog_1_method_14_code 1 = .ok (.ifCond .lt 23, 3) := by decide +kernel
theorem dI_want_4 : decode prog_1_method_14_code 4 = .ok (.iload_n 1, 1) := by decide +kernel
theorem dI_want_5 : decode prog_1_method_14_code 5 = .ok (.aload_n 0, 1) := by decide +kernel
theorem dI_want_6 : decode prog_1_method_14_code 6 = .ok (.getfield 42, 3) := by decide +kernel
theorem dI_want_9 : decode prog_1_method_14_code 9 = .ok (.invokevirtual 121, 3) := by decide +kernel
theorem dI_want_12 : decode prog_1_method_14_code 12 = .ok (.if_icmp .ge 12, 3) := by decide +kernel
theorem dI_want_15 : decode prog_1_method_14_code 15 = .ok (.iload_n 2, 1) := by decide +kernel
theorem dI_want_16 : decode prog_1_method_14_code 16 = .ok (.ifCond .lt 8, 3) := by decide +kernel
theorem dI_want_19 : decode prog_1_method_14_code 19 = .ok (.iload_n 2, 1) := by decide +kernel
theorem dI_want_20 : decode prog_1_method_14_code 20 = .ok (.iconst 1, 1) := by decide +kernel
theorem dI_want_21 : decode prog_1_method_14_code 21 = .ok (.if_icmp .le 5, 3) := by decide +kernel
theorem dI_want_24 : decode prog_1_method_14_code 24 = .ok (.iconst (-1), 1) := by decide +kernel
theorem dI_want_25 : decode prog_1_method_14_code 25 = .ok (.ireturn, 1) := by decide +kernel
theorem dI_want_26 : decode prog_1_method_14_code 26 = .ok (.aload_n 0, 1) := by decide +kernel
theorem dI_want_27 : decode prog_1_method_14_code 27 = .ok (.getfield 42, 3) := by decide +kernel
theorem dI_want_30 : decode prog_1_method_14_code 30 = .ok (.iload_n 1, 1) := by decide +kernel
theorem dI_want_31 : decode prog_1_method_14_code 31 = .ok (.iload_n 2, 1) := by decide +kernel
theorem dI_want_32 : decode prog_1_method_14_code 32 = .ok (.invokevirtual 124, 3) := by decide +kernel
theorem dI_want_35 : decode prog_1_method_14_code 35 = .ok (.ireturn, 1) := by decide +kernel
theorem dI_passes_0 : decode prog_1_method_15_code 0 = .ok (.aload_n 0, 1) := by decide +kernel
theorem dI_passes_1 : decode prog_1_method_15_code 1 = .ok (.getfield 42, 3) := by decide +kernel
theorem dI_passes_4 : decode prog_1_method_15_code 4 = .ok (.invokevirtual 128, 3) := by decide +kernel
theorem dI_passes_7 : decode prog_1_method_15_code 7 = .ok (.ireturn, 1) := by decide +kernel
theorem dI_is_0 : decode prog_1_method_16_code 0 = .ok (.aload_n 0, 1) := by decide +kernel
theorem dI_is_1 : decode prog_1_method_16_code 1 = .ok (.getfield 19, 3) := by decide +kernel
theorem dI_is_4 : decode prog_1_method_16_code 4 = .ok (.iload_n 1, 1) := by decide +kernel
theorem dI_is_5 : decode prog_1_method_16_code 5 = .ok (.invokevirtual 67, 3) := by decide +kernel
theorem dI_is_8 : decode prog_1_method_16_code 8 = .ok (.ifCond .eq 25, 3) := by decide +kernel
theorem dI_is_11 : decode prog_1_method_16_code 11 = .ok (.aload_n 0, 1) := by decide +kernel
theorem dI_is_12 : decode prog_1_method_16_code 12 = .ok (.getfield 10, 3) := by decide +kernel
theorem dI_is_15 : decode prog_1_method_16_code 15 = .ok (.iload_n 2, 1) := by decide +kernel
theorem dI_is_16 : decode prog_1_method_16_code 16 = .ok (.invokevirtual 60, 3) := by decide +kernel
theorem dI_is_19 : decode prog_1_method_16_code 19 = .ok (.ifCond .eq 14, 3) := by decide +kernel
theorem dI_is_22 : decode prog_1_method_16_code 22 = .ok (.aload_n 0, 1) := by decide +kernel
theorem dI_is_23 : decode prog_1_method_16_code 23 = .ok (.getfield 10, 3) := by decide +kernel
theorem dI_is_26 : decode prog_1_method_16_code 26 = .ok (.iload_n 2, 1) := by decide +kernel
theorem dI_is_27 : decode prog_1_method_16_code 27 = .ok (.invokevirtual 131, 3) := by decide +kernel
theorem dI_is_30 : decode prog_1_method_16_code 30 = .ok (.ifCond .eq 5, 3) := by decide +kernel
theorem dI_is_33 : decode prog_1_method_16_code 33 = .ok (.iconst (-1), 1) := by decide +kernel
theorem dI_is_34 : decode prog_1_method_16_code 34 = .ok (.ireturn, 1) := by decide +kernel
theorem dI_is_35 : decode prog_1_method_16_code 35 = .ok (.aload_n 0, 1) := by decide +kernel
theorem dI_is_36 : decode prog_1_method_16_code 36 = .ok (.getfield 19, 3) := by decide +kernel
theorem dI_is_39 : decode prog_1_method_16_code 39 = .ok (.iconst 1, 1) := by decide +kernel
theorem dI_is_40 : decode prog_1_method_16_code 40 = .ok (.iload_n 1, 1) := by decide +kernel
theorem dI_is_41 : decode prog_1_method_16_code 41 = .ok (.ishl, 1) := by decide +kernel
theorem dI_is_42 : decode prog_1_method_16_code 42 = .ok (.iload_n 2, 1) := by decide +kernel
theorem dI_is_43 : decode prog_1_method_16_code 43 = .ok (.aload_n 0, 1) := by decide +kernel
theorem dI_is_44 : decode prog_1_method_16_code 44 = .ok (.getfield 10, 3) := by decide +kernel
theorem dI_is_47 : decode prog_1_method_16_code 47 = .ok (.invokevirtual 134, 3) := by decide +kernel
theorem dI_is_50 : decode prog_1_method_16_code 50 = .ok (.ifCond .eq 7, 3) := by decide +kernel
theorem dI_is_53 : decode prog_1_method_16_code 53 = .ok (.iconst 1, 1) := by decide +kernel
theorem dI_is_54 : decode prog_1_method_16_code 54 = .ok (.goto 4, 3) := by decide +kernel
theorem dI_is_57 : decode prog_1_method_16_code 57 = .ok (.iconst 0, 1) := by decide +kernel
theorem dI_is_58 : decode prog_1_method_16_code 58 = .ok (.ireturn, 1) := by decide +kernel
theorem dI_under_0 : decode prog_1_method_17_code 0 = .ok (.aload_n 0, 1) := by decide +kernel
theorem dI_under_1 : decode prog_1_method_17_code 1 = .ok (.getfield 19, 3) := by decide +kernel
theorem dI_under_4 : decode prog_1_method_17_code 4 = .ok (.iload_n 1, 1) := by decide +kernel
theorem dI_under_5 : decode prog_1_method_17_code 5 = .ok (.invokevirtual 67, 3) := by decide +kernel
theorem dI_under_8 : decode prog_1_method_17_code 8 = .ok (.ifCond .eq 14, 3) := by decide +kernel
theorem dI_under_11 : decode prog_1_method_17_code 11 = .ok (.aload_n 0, 1) := by decide +kernel
theorem dI_under_12 : decode prog_1_method_17_code 12 = .ok (.getfield 19, 3) := by decide +kernel
theorem dI_under_15 : decode prog_1_method_17_code 15 = .ok (.iload_n 2, 1) := by decide +kernel
theorem dI_under_16 : decode prog_1_method_17_code 16 = .ok (.invokevirtual 67, 3) := by decide +kernel
theorem dI_under_19 : decode prog_1_method_17_code 19 = .ok (.ifCond .ne 5, 3) := by decide +kernel
theorem dI_under_22 : decode prog_1_method_17_code 22 = .ok (.iconst (-1), 1) := by decide +kernel
theorem dI_under_23 : decode prog_1_method_17_code 23 = .ok (.ireturn, 1) := by decide +kernel
theorem dI_under_24 : decode prog_1_method_17_code 24 = .ok (.aload_n 0, 1) := by decide +kernel
theorem dI_under_25 : decode prog_1_method_17_code 25 = .ok (.getfield 19, 3) := by decide +kernel
theorem dI_under_28 : decode prog_1_method_17_code 28 = .ok (.iconst 1, 1) := by decide +kernel
theorem dI_under_29 : decode prog_1_method_17_code 29 = .ok (.iload_n 1, 1) := by decide +kernel
theorem dI_under_30 : decode prog_1_method_17_code 30 = .ok (.ishl, 1) := by decide +kernel
theorem dI_under_31 : decode prog_1_method_17_code 31 = .ok (.iconst 1, 1) := by decide +kernel
theorem dI_under_32 : decode prog_1_method_17_code 32 = .ok (.iload_n 2, 1) := by decide +kernel
theorem dI_under_33 : decode prog_1_method_17_code 33 = .ok (.ishl, 1) := by decide +kernel
theorem dI_under_34 : decode prog_1_method_17_code 34 = .ok (.invokevirtual 138, 3) := by decide +kernel
theorem dI_under_37 : decode prog_1_method_17_code 37 = .ok (.ifCond .eq 7, 3) := by decide +kernel
theorem dI_under_40 : decode prog_1_method_17_code 40 = .ok (.iconst 1, 1) := by decide +kernel
theorem dI_under_41 : decode prog_1_method_17_code 41 = .ok (.goto 4, 3) := by decide +kernel
theorem dI_under_44 : decode prog_1_method_17_code 44 = .ok (.iconst 0, 1) := by decide +kernel
theorem dI_under_45 : decode prog_1_method_17_code 45 = .ok (.ireturn, 1) := by decide +kernel
theorem dI_types_0 : decode prog_1_method_18_code 0 = .ok (.aload_n 0, 1) := by decide +kernel
theorem dI_types_1 : decode prog_1_method_18_code 1 = .ok (.getfield 10, 3) := by decide +kernel
theorem dI_types_4 : decode prog_1_method_18_code 4 = .ok (.getfield 141, 3) := by decide +kernel
theorem dI_types_7 : decode prog_1_method_18_code 7 = .ok (.ireturn, 1) := by decide +kernel
theorem dI_classes_0 : decode prog_1_method_19_code 0 = .ok (.aload_n 0, 1) := by decide +kernel
theorem dI_classes_1 : decode prog_1_method_19_code 1 = .ok (.getfield 19, 3) := by decide +kernel
theorem dI_classes_4 : decode prog_1_method_19_code 4 = .ok (.getfield 145, 3) := by decide +kernel
theorem dI_classes_7 : decode prog_1_method_19_code 7 = .ok (.ireturn, 1) := by decide +kernel
theorem dI_expressions_0 : decode prog_1_method_20_code 0 = .ok (.aload_n 0, 1) := by decide +kernel
theorem dI_expressions_1 : decode prog_1_method_20_code 1 = .ok (.getfield 26, 3) := by decide +kernel
theorem dI_expressions_4 : decode prog_1_method_20_code 4 = .ok (.getfield 146, 3) := by decide +kernel
theorem dI_expressions_7 : decode prog_1_method_20_code 7 = .ok (.ireturn, 1) := by decide +kernel
theorem dT_init_0 : decode prog_6_method_1_code 0 = .ok (.aload_n 0, 1) := by decide +kernel
theorem dT_init_1 : decode prog_6_method_1_code 1 = .ok (.invokespecial 3, 3) := by decide +kernel
theorem dT_init_4 : decode prog_6_method_1_code 4 = .ok (.aload_n 0, 1) := by decide +kernel
theorem dT_init_5 : decode prog_6_method_1_code 5 = .ok (.bipush 8, 2) := by decide +kernel
theorem dT_init_7 : decode prog_6_method_1_code 7 = .ok (.newarray .int, 2) := by decide +kernel
theorem dT_init_9 : decode prog_6_method_1_code 9 = .ok (.putfield 9, 3) := by decide +kernel
theorem dT_init_12 : decode prog_6_method_1_code 12 = .ok (.aload_n 0, 1) := by decide +kernel
theorem dT_init_13 : decode prog_6_method_1_code 13 = .ok (.bipush 60, 2) := by decide +kernel
theorem dT_init_15 : decode prog_6_method_1_code 15 = .ok (.newarray .int, 2) := by decide +kernel
theorem dT_init_17 : decode prog_6_method_1_code 17 = .ok (.putfield 15, 3) := by decide +kernel
theorem dT_init_20 : decode prog_6_method_1_code 20 = .ok (.aload_n 0, 1) := by decide +kernel
theorem dT_init_21 : decode prog_6_method_1_code 21 = .ok (.bipush 60, 2) := by decide +kernel
theorem dT_init_23 : decode prog_6_method_1_code 23 = .ok (.newarray .int, 2) := by decide +kernel
theorem dT_init_25 : decode prog_6_method_1_code 25 = .ok (.putfield 18, 3) := by decide +kernel
theorem dT_init_28 : decode prog_6_method_1_code 28 = .ok (.aload_n 0, 1) := by decide +kernel
theorem dT_init_29 : decode prog_6_method_1_code 29 = .ok (.bipush 60, 2) := by decide +kernel
theorem dT_init_31 : decode prog_6_method_1_code 31 = .ok (.newarray .int, 2) := by decide +kernel
theorem dT_init_33 : decode prog_6_method_1_code 33 = .ok (.putfield 21, 3) := by decide +kernel
theorem dT_init_36 : decode prog_6_method_1_code 36 = .ok (.aload_n 0, 1) := by decide +kernel
theorem dT_init_37 : decode prog_6_method_1_code 37 = .ok (.bipush 60, 2) := by decide +kernel
theorem dT_init_39 : decode prog_6_method_1_code 39 = .ok (.newarray .int, 2) := by decide +kernel
theorem dT_init_41 : decode prog_6_method_1_code 41 = .ok (.putfield 24, 3) := by decide +kernel
theorem dT_init_44 : decode prog_6_method_1_code 44 = .ok (.aload_n 0, 1) := by decide +kernel
theorem dT_init_45 : decode prog_6_method_1_code 45 = .ok (.bipush 60, 2) := by decide +kernel
theorem dT_init_47 : decode prog_6_method_1_code 47 = .ok (.newarray .int, 2) := by decide +kernel
theorem dT_init_49 : decode prog_6_method_1_code 49 = .ok (.putfield 27, 3) := by decide +kernel
theorem dT_init_52 : decode prog_6_method_1_code 52 = .ok (.aload_n 0, 1) := by decide +kernel
theorem dT_init_53 : decode prog_6_method_1_code 53 = .ok (.getfield 9, 3) := by decide +kernel
theorem dT_init_56 : decode prog_6_method_1_code 56 = .ok (.iconst 0, 1) := by decide +kernel
theorem dT_init_57 : decode prog_6_method_1_code 57 = .ok (.iconst 2, 1) := by decide +kernel
theorem dT_init_58 : decode prog_6_method_1_code 58 = .ok (.iastore, 1) := by decide +kernel
theorem dT_init_59 : decode prog_6_method_1_code 59 = .ok (.aload_n 0, 1) := by decide +kernel
theorem dT_init_60 : decode prog_6_method_1_code 60 = .ok (.iconst 1, 1) := by decide +kernel
theorem dT_init_61 : decode prog_6_method_1_code 61 = .ok (.putfield 30, 3) := by decide +kernel
theorem dT_init_64 : decode prog_6_method_1_code 64 = .ok (.return_, 1) := by decide +kernel
theorem dT_hasConstructor_0 : decode prog_6_method_2_code 0 = .ok (.iload_n 1, 1) := by decide +kernel
theorem dT_hasConstructor_1 : decode prog_6_method_2_code 1 = .ok (.ifCond .lt 15, 3) := by decide +kernel
theorem dT_hasConstructor_4 : decode prog_6_method_2_code 4 = .ok (.iload_n 1, 1) := by decide +kernel
theorem dT_hasConstructor_5 : decode prog_6_method_2_code 5 = .ok (.aload_n 0, 1) := by decide +kernel
theorem dT_hasConstructor_6 : decode prog_6_method_2_code 6 = .ok (.getfield 30, 3) := by decide +kernel
theorem dT_hasConstructor_9 : decode prog_6_method_2_code 9 = .ok (.if_icmp .ge 7, 3) := by decide +kernel
theorem dT_hasConstructor_12 : decode prog_6_method_2_code 12 = .ok (.iconst 1, 1) := by decide +kernel
theorem dT_hasConstructor_13 : decode prog_6_method_2_code 13 = .ok (.goto 4, 3) := by decide +kernel
theorem dT_hasConstructor_16 : decode prog_6_method_2_code 16 = .ok (.iconst 0, 1) := by decide +kernel
theorem dT_hasConstructor_17 : decode prog_6_method_2_code 17 = .ok (.ireturn, 1) := by decide +kernel
theorem dT_partsOf_0 : decode prog_6_method_3_code 0 = .ok (.aload_n 0, 1) := by decide +kernel
theorem dT_partsOf_1 : decode prog_6_method_3_code 1 = .ok (.getfield 9, 3) := by decide +kernel
theorem dT_partsOf_4 : decode prog_6_method_3_code 4 = .ok (.iload_n 1, 1) := by decide +kernel
theorem dT_partsOf_5 : decode prog_6_method_3_code 5 = .ok (.iaload, 1) := by decide +kernel
theorem dT_partsOf_6 : decode prog_6_method_3_code 6 = .ok (.ireturn, 1) := by decide +kernel
theorem dT_hasType_0 : decode prog_6_method_4_code 0 = .ok (.iload_n 1, 1) := by decide +kernel
theorem dT_hasType_1 : decode prog_6_method_4_code 1 = .ok (.ifCond .lt 15, 3) := by decide +kernel
theorem dT_hasType_4 : decode prog_6_method_4_code 4 = .ok (.iload_n 1, 1) := by decide +kernel
theorem dT_hasType_5 : decode prog_6_method_4_code 5 = .ok (.aload_n 0, 1) := by decide +kernel
theorem dT_hasType_6 : decode prog_6_method_4_code 6 = .ok (.getfield 34, 3) := by decide +kernel
theorem dT_hasType_9 : decode prog_6_method_4_code 9 = .ok (.if_icmp .ge 7, 3) := by decide +kernel
theorem dT_hasType_12 : decode prog_6_method_4_code 12 = .ok (.iconst 1, 1) := by decide +kernel
theorem dT_hasType_13 : decode prog_6_method_4_code 13 = .ok (.goto 4, 3) := by decide +kernel
theorem dT_hasType_16 : decode prog_6_method_4_code 16 = .ok (.iconst 0, 1) := by decide +kernel
theorem dT_hasType_17 : decode prog_6_method_4_code 17 = .ok (.ireturn, 1) := by decide +kernel
theorem dT_holdsVariables_0 : decode prog_6_method_5_code 0 = .ok (.aload_n 0, 1) := by decide +kernel
theorem dT_holdsVariables_1 : decode prog_6_method_5_code 1 = .ok (.getfield 27, 3) := by decide +kernel
theorem dT_holdsVariables_4 : decode prog_6_method_5_code 4 = .ok (.iload_n 1, 1) := by decide +kernel
theorem dT_holdsVariables_5 : decode prog_6_method_5_code 5 = .ok (.iaload, 1) := by decide +kernel
theorem dT_holdsVariables_6 : decode prog_6_method_5_code 6 = .ok (.ifCond .eq 7, 3) := by decide +kernel
theorem dT_holdsVariables_9 : decode prog_6_method_5_code 9 = .ok (.iconst 1, 1) := by decide +kernel
theorem dT_holdsVariables_10 : decode prog_6_method_5_code 10 = .ok (.goto 4, 3) := by decide +kernel
theorem dT_holdsVariables_13 : decode prog_6_method_5_code 13 = .ok (.iconst 0, 1) := by decide +kernel
theorem dT_holdsVariables_14 : decode prog_6_method_5_code 14 = .ok (.ireturn, 1) := by decide +kernel
theorem dT_holdsVariable_0 : decode prog_6_method_6_code 0 = .ok (.aload_n 0, 1) := by decide +kernel
theorem dT_holdsVariable_1 : decode prog_6_method_6_code 1 = .ok (.getfield 27, 3) := by decide +kernel
theorem dT_holdsVariable_4 : decode prog_6_method_6_code 4 = .ok (.iload_n 1, 1) := by decide +kernel
theorem dT_holdsVariable_5 : decode prog_6_method_6_code 5 = .ok (.iaload, 1) := by decide +kernel
theorem dT_holdsVariable_6 : decode prog_6_method_6_code 6 = .ok (.iconst 1, 1) := by decide +kernel
theorem dT_holdsVariable_7 : decode prog_6_method_6_code 7 = .ok (.iload_n 2, 1) := by decide +kernel
theorem dT_holdsVariable_8 : decode prog_6_method_6_code 8 = .ok (.ishl, 1) := by decide +kernel
theorem dT_holdsVariable_9 : decode prog_6_method_6_code 9 = .ok (.iand, 1) := by decide +kernel
theorem dT_holdsVariable_10 : decode prog_6_method_6_code 10 = .ok (.ifCond .eq 7, 3) := by decide +kernel
theorem dT_holdsVariable_13 : decode prog_6_method_6_code 13 = .ok (.iconst 1, 1) := by decide +kernel
theorem dT_holdsVariable_14 : decode prog_6_method_6_code 14 = .ok (.goto 4, 3) := by decide +kernel
theorem dT_holdsVariable_17 : decode prog_6_method_6_code 17 = .ok (.iconst 0, 1) := by decide +kernel
theorem dT_holdsVariable_18 : decode prog_6_method_6_code 18 = .ok (.ireturn, 1) := by decide +kernel
theorem dT_addConstructor_0 : decode prog_6_method_7_code 0 = .ok (.aload_n 0, 1) := by decide +kernel
theorem dT_addConstructor_1 : decode prog_6_method_7_code 1 = .ok (.getfield 30, 3) := by decide +kernel
theorem dT_addConstructor_4 : decode prog_6_method_7_code 4 = .ok (.bipush 8, 2) := by decide +kernel
theorem dT_addConstructor_6 : decode prog_6_method_7_code 6 = .ok (.if_icmp .lt 6, 3) := by decide +kernel
theorem dT_addConstructor_9 : decode prog_6_method_7_code 9 = .ok (.bipush (-3), 2) := by decide +kernel
theorem dT_addConstructor_11 : decode prog_6_method_7_code 11 = .ok (.ireturn, 1) := by decide +kernel
theorem dT_addConstructor_12 : decode prog_6_method_7_code 12 = .ok (.aload_n 0, 1) := by decide +kernel
theorem dT_addConstructor_13 : decode prog_6_method_7_code 13 = .ok (.getfield 9, 3) := by decide +kernel
theorem dT_addConstructor_16 : decode prog_6_method_7_code 16 = .ok (.aload_n 0, 1) := by decide +kernel
theorem dT_addConstructor_17 : decode prog_6_method_7_code 17 = .ok (.getfield 30, 3) := by decide +kernel
theorem dT_addConstructor_20 : decode prog_6_method_7_code 20 = .ok (.iload_n 1, 1) := by decide +kernel
theorem dT_addConstructor_21 : decode prog_6_method_7_code 21 = .ok (.iastore, 1) := by decide +kernel
theorem dT_addConstructor_22 : decode prog_6_method_7_code 22 = .ok (.aload_n 0, 1) := by decide +kernel
theorem dT_addConstructor_23 : decode prog_6_method_7_code 23 = .ok (.dup, 1) := by decide +kernel
theorem dT_addConstructor_24 : decode prog_6_method_7_code 24 = .ok (.getfield 30, 3) := by decide +kernel
theorem dT_addConstructor_27 : decode prog_6_method_7_code 27 = .ok (.iconst 1, 1) := by decide +kernel
theorem dT_addConstructor_28 : decode prog_6_method_7_code 28 = .ok (.iadd, 1) := by decide +kernel
theorem dT_addConstructor_29 : decode prog_6_method_7_code 29 = .ok (.putfield 30, 3) := by decide +kernel
theorem dT_addConstructor_32 : decode prog_6_method_7_code 32 = .ok (.aload_n 0, 1) := by decide +kernel
theorem dT_addConstructor_33 : decode prog_6_method_7_code 33 = .ok (.getfield 30, 3) := by decide +kernel
theorem dT_addConstructor_36 : decode prog_6_method_7_code 36 = .ok (.iconst 1, 1) := by decide +kernel
theorem dT_addConstructor_37 : decode prog_6_method_7_code 37 = .ok (.isub, 1) := by decide +kernel
theorem dT_addConstructor_38 : decode prog_6_method_7_code 38 = .ok (.ireturn, 1) := by decide +kernel
theorem dT_addVariable_0 : decode prog_6_method_8_code 0 = .ok (.aload_n 0, 1) := by decide +kernel
theorem dT_addVariable_1 : decode prog_6_method_8_code 1 = .ok (.iconst (-1), 1) := by decide +kernel
theorem dT_addVariable_2 : decode prog_6_method_8_code 2 = .ok (.iload_n 1, 1) := by decide +kernel
theorem dT_addVariable_3 : decode prog_6_method_8_code 3 = .ok (.isub, 1) := by decide +kernel
theorem dT_addVariable_4 : decode prog_6_method_8_code 4 = .ok (.iconst (-1), 1) := by decide +kernel
theorem dT_addVariable_5 : decode prog_6_method_8_code 5 = .ok (.iconst (-1), 1) := by decide +kernel
theorem dT_addVariable_6 : decode prog_6_method_8_code 6 = .ok (.invokevirtual 37, 3) := by decide +kernel
theorem dT_addVariable_9 : decode prog_6_method_8_code 9 = .ok (.istore_n 2, 1) := by decide +kernel
theorem dT_addVariable_10 : decode prog_6_method_8_code 10 = .ok (.iload_n 2, 1) := by decide +kernel
theorem dT_addVariable_11 : decode prog_6_method_8_code 11 = .ok (.iconst (-1), 1) := by decide +kernel
theorem dT_addVariable_12 : decode prog_6_method_8_code 12 = .ok (.if_icmp .eq 5, 3) := by decide +kernel
theorem dT_addVariable_15 : decode prog_6_method_8_code 15 = .ok (.iload_n 2, 1) := by decide +kernel
theorem dT_addVariable_16 : decode prog_6_method_8_code 16 = .ok (.ireturn, 1) := by decide +kernel
theorem dT_addVariable_17 : decode prog_6_method_8_code 17 = .ok (.aload_n 0, 1) := by decide +kernel
theorem dT_addVariable_18 : decode prog_6_method_8_code 18 = .ok (.iconst (-1), 1) := by decide +kernel
theorem dT_addVariable_19 : decode prog_6_method_8_code 19 = .ok (.iload_n 1, 1) := by decide +kernel
theorem dT_addVariable_20 : decode prog_6_method_8_code 20 = .ok (.isub, 1) := by decide +kernel
theorem dT_addVariable_21 : decode prog_6_method_8_code 21 = .ok (.iconst (-1), 1) := by decide +kernel
theorem dT_addVariable_22 : decode prog_6_method_8_code 22 = .ok (.iconst (-1), 1) := by decide +kernel
theorem dT_addVariable_23 : decode prog_6_method_8_code 23 = .ok (.iconst 1, 1) := by decide +kernel
theorem dT_addVariable_24 : decode prog_6_method_8_code 24 = .ok (.iconst 1, 1) := by decide +kernel
theorem dT_addVariable_25 : decode prog_6_method_8_code 25 = .ok (.iload_n 1, 1) := by decide +kernel
theorem dT_addVariable_26 : decode prog_6_method_8_code 26 = .ok (.ishl, 1) := by decide +kernel
theorem dT_addVariable_27 : decode prog_6_method_8_code 27 = .ok (.invokevirtual 41, 3) := by decide +kernel
theorem dT_addVariable_30 : decode prog_6_method_8_code 30 = .ok (.ireturn, 1) := by decide +kernel
