theorem dE_add_0 : decode prog_3_method_4_code 0 = .ok (.aload_n 0, 1) := by decide +kernel
theorem dE_add_1 : decode prog_3_method_4_code 1 = .ok (.getfield 27, 3) := by decide +kernel
theorem dE_add_4 : decode prog_3_method_4_code 4 = .ok (.bipush 120, 2) := by decide +kernel
theorem dE_add_6 : decode prog_3_method_4_code 6 = .ok (.if_icmp .lt 6, 3) := by decide +kernel
theorem dE_add_9 : decode prog_3_method_4_code 9 = .ok (.bipush (-3), 2) := by decide +kernel
theorem dE_add_11 : decode prog_3_method_4_code 11 = .ok (.ireturn, 1) := by decide +kernel
theorem dE_add_12 : decode prog_3_method_4_code 12 = .ok (.aload_n 0, 1) := by decide +kernel
theorem dE_add_13 : decode prog_3_method_4_code 13 = .ok (.getfield 9, 3) := by decide +kernel
theorem dE_add_16 : decode prog_3_method_4_code 16 = .ok (.aload_n 0, 1) := by decide +kernel
theorem dE_add_17 : decode prog_3_method_4_code 17 = .ok (.getfield 27, 3) := by decide +kernel
theorem dE_add_20 : decode prog_3_method_4_code 20 = .ok (.iload_n 1, 1) := by decide +kernel
theorem dE_add_21 : decode prog_3_method_4_code 21 = .ok (.iastore, 1) := by decide +kernel
theorem dE_add_22 : decode prog_3_method_4_code 22 = .ok (.aload_n 0, 1) := by decide +kernel
theorem dE_add_23 : decode prog_3_method_4_code 23 = .ok (.getfield 15, 3) := by decide +kernel
theorem dE_add_26 : decode prog_3_method_4_code 26 = .ok (.aload_n 0, 1) := by decide +kernel
theorem dE_add_27 : decode prog_3_method_4_code 27 = .ok (.getfield 27, 3) := by decide +kernel
theorem dE_add_30 : decode prog_3_method_4_code 30 = .ok (.iload_n 2, 1) := by decide +kernel
theorem dE_add_31 : decode prog_3_method_4_code 31 = .ok (.iastore, 1) := by decide +kernel
theorem dE_add_32 : decode prog_3_method_4_code 32 = .ok (.aload_n 0, 1) := by decide +kernel
theorem dE_add_33 : decode prog_3_method_4_code 33 = .ok (.getfield 18, 3) := by decide +kernel
theorem dE_add_36 : decode prog_3_method_4_code 36 = .ok (.aload_n 0, 1) := by decide +kernel
theorem dE_add_37 : decode prog_3_method_4_code 37 = .ok (.getfield 27, 3) := by decide +kernel
theorem dE_add_40 : decode prog_3_method_4_code 40 = .ok (.iload_n 3, 1) := by decide +kernel
theorem dE_add_41 : decode prog_3_method_4_code 41 = .ok (.iastore, 1) := by decide +kernel
theorem dE_add_42 : decode prog_3_method_4_code 42 = .ok (.aload_n 0, 1) := by decide +kernel
theorem dE_add_43 : decode prog_3_method_4_code 43 = .ok (.getfield 21, 3) := by decide +kernel
theorem dE_add_46 : decode prog_3_method_4_code 46 = .ok (.aload_n 0, 1) := by decide +kernel
theorem dE_add_47 : decode prog_3_method_4_code 47 = .ok (.getfield 27, 3) := by decide +kernel
theorem dE_add_50 : decode prog_3_method_4_code 50 = .ok (.iload 4, 2) := by decide +kernel
theorem dE_add_52 : decode prog_3_method_4_code 52 = .ok (.iastore, 1) := by decide +kernel
theorem dE_add_53 : decode prog_3_method_4_code 53 = .ok (.aload_n 0, 1) := by decide +kernel
theorem dE_add_54 : decode prog_3_method_4_code 54 = .ok (.getfield 24, 3) := by decide +kernel
theorem dE_add_57 : decode prog_3_method_4_code 57 = .ok (.aload_n 0, 1) := by decide +kernel
theorem dE_add_58 : decode prog_3_method_4_code 58 = .ok (.getfield 27, 3) := by decide +kernel
theorem dE_add_61 : decode prog_3_method_4_code 61 = .ok (.iconst 1, 1) := by decide +kernel
theorem dE_add_62 : decode prog_3_method_4_code 62 = .ok (.aload_n 0, 1) := by decide +kernel
theorem dE_add_63 : decode prog_3_method_4_code 63 = .ok (.aload_n 0, 1) := by decide +kernel
theorem dE_add_64 : decode prog_3_method_4_code 64 = .ok (.getfield 27, 3) := by decide +kernel
theorem dE_add_67 : decode prog_3_method_4_code 67 = .ok (.invokevirtual 31, 3) := by decide +kernel
theorem dE_add_70 : decode prog_3_method_4_code 70 = .ok (.iadd, 1) := by decide +kernel
theorem dE_add_71 : decode prog_3_method_4_code 71 = .ok (.bipush 25, 2) := by decide +kernel
theorem dE_add_73 : decode prog_3_method_4_code 73 = .ok (.invokestatic 35, 3) := by decide +kernel
theorem dE_add_76 : decode prog_3_method_4_code 76 = .ok (.iastore, 1) := by decide +kernel
theorem dE_add_77 : decode prog_3_method_4_code 77 = .ok (.aload_n 0, 1) := by decide +kernel
theorem dE_add_78 : decode prog_3_method_4_code 78 = .ok (.dup, 1) := by decide +kernel
theorem dE_add_79 : decode prog_3_method_4_code 79 = .ok (.getfield 27, 3) := by decide +kernel
theorem dE_add_82 : decode prog_3_method_4_code 82 = .ok (.iconst 1, 1) := by decide +kernel
theorem dE_add_83 : decode prog_3_method_4_code 83 = .ok (.iadd, 1) := by decide +kernel
theorem dE_add_84 : decode prog_3_method_4_code 84 = .ok (.putfield 27, 3) := by decide +kernel
theorem dE_add_87 : decode prog_3_method_4_code 87 = .ok (.aload_n 0, 1) := by decide +kernel
theorem dE_add_88 : decode prog_3_method_4_code 88 = .ok (.getfield 27, 3) := by decide +kernel
theorem dE_add_91 : decode prog_3_method_4_code 91 = .ok (.iconst 1, 1) := by decide +kernel
theorem dE_add_92 : decode prog_3_method_4_code 92 = .ok (.isub, 1) := by decide +kernel
theorem dE_add_93 : decode prog_3_method_4_code 93 = .ok (.ireturn, 1) := by decide +kernel
theorem dE_nodesOfParts_0 : decode prog_3_method_5_code 0 = .ok (.aload_n 0, 1) := by decide +kernel
theorem dE_nodesOfParts_1 : decode prog_3_method_5_code 1 = .ok (.getfield 9, 3) := by decide +kernel
theorem dE_nodesOfParts_4 : decode prog_3_method_5_code 4 = .ok (.iload_n 1, 1) := by decide +kernel
theorem dE_nodesOfParts_5 : decode prog_3_method_5_code 5 = .ok (.iaload, 1) := by decide +kernel
theorem dE_nodesOfParts_6 : decode prog_3_method_5_code 6 = .ok (.tableswitch 86 1 3 #[26, 38, 62], 26) := by decide +kernel
theorem dE_nodesOfParts_32 : decode prog_3_method_5_code 32 = .ok (.aload_n 0, 1) := by decide +kernel
theorem dE_nodesOfParts_33 : decode prog_3_method_5_code 33 = .ok (.getfield 24, 3) := by decide +kernel
theorem dE_nodesOfParts_36 : decode prog_3_method_5_code 36 = .ok (.aload_n 0, 1) := by decide +kernel
theorem dE_nodesOfParts_37 : decode prog_3_method_5_code 37 = .ok (.getfield 18, 3) := by decide +kernel
theorem dE_nodesOfParts_40 : decode prog_3_method_5_code 40 = .ok (.iload_n 1, 1) := by decide +kernel
theorem dE_nodesOfParts_41 : decode prog_3_method_5_code 41 = .ok (.iaload, 1) := by decide +kernel
theorem dE_nodesOfParts_42 : decode prog_3_method_5_code 42 = .ok (.iaload, 1) := by decide +kernel
theorem dE_nodesOfParts_43 : decode prog_3_method_5_code 43 = .ok (.ireturn, 1) := by decide +kernel
theorem dE_nodesOfParts_44 : decode prog_3_method_5_code 44 = .ok (.aload_n 0, 1) := by decide +kernel
theorem dE_nodesOfParts_45 : decode prog_3_method_5_code 45 = .ok (.getfield 24, 3) := by decide +kernel
theorem dE_nodesOfParts_48 : decode prog_3_method_5_code 48 = .ok (.aload_n 0, 1) := by decide +kernel
theorem dE_nodesOfParts_49 : decode prog_3_method_5_code 49 = .ok (.getfield 15, 3) := by decide +kernel
theorem dE_nodesOfParts_52 : decode prog_3_method_5_code 52 = .ok (.iload_n 1, 1) := by decide +kernel
theorem dE_nodesOfParts_53 : decode prog_3_method_5_code 53 = .ok (.iaload, 1) := by decide +kernel
theorem dE_nodesOfParts_54 : decode prog_3_method_5_code 54 = .ok (.iaload, 1) := by decide +kernel
theorem dE_nodesOfParts_55 : decode prog_3_method_5_code 55 = .ok (.aload_n 0, 1) := by decide +kernel
theorem dE_nodesOfParts_56 : decode prog_3_method_5_code 56 = .ok (.getfield 24, 3) := by decide +kernel
theorem dE_nodesOfParts_59 : decode prog_3_method_5_code 59 = .ok (.aload_n 0, 1) := by decide +kernel
theorem dE_nodesOfParts_60 : decode prog_3_method_5_code 60 = .ok (.getfield 18, 3) := by decide +kernel
theorem dE_nodesOfParts_63 : decode prog_3_method_5_code 63 = .ok (.iload_n 1, 1) := by decide +kernel
theorem dE_nodesOfParts_64 : decode prog_3_method_5_code 64 = .ok (.iaload, 1) := by decide +kernel
theorem dE_nodesOfParts_65 : decode prog_3_method_5_code 65 = .ok (.iaload, 1) := by decide +kernel
theorem dE_nodesOfParts_66 : decode prog_3_method_5_code 66 = .ok (.iadd, 1) := by decide +kernel
theorem dE_nodesOfParts_67 : decode prog_3_method_5_code 67 = .ok (.ireturn, 1) := by decide +kernel
theorem dE_nodesOfParts_68 : decode prog_3_method_5_code 68 = .ok (.aload_n 0, 1) := by decide +kernel
theorem dE_nodesOfParts_69 : decode prog_3_method_5_code 69 = .ok (.getfield 24, 3) := by decide +kernel
theorem dE_nodesOfParts_72 : decode prog_3_method_5_code 72 = .ok (.aload_n 0, 1) := by decide +kernel
theorem dE_nodesOfParts_73 : decode prog_3_method_5_code 73 = .ok (.getfield 18, 3) := by decide +kernel
theorem dE_nodesOfParts_76 : decode prog_3_method_5_code 76 = .ok (.iload_n 1, 1) := by decide +kernel
theorem dE_nodesOfParts_77 : decode prog_3_method_5_code 77 = .ok (.iaload, 1) := by decide +kernel
theorem dE_nodesOfParts_78 : decode prog_3_method_5_code 78 = .ok (.iaload, 1) := by decide +kernel
theorem dE_nodesOfParts_79 : decode prog_3_method_5_code 79 = .ok (.aload_n 0, 1) := by decide +kernel
theorem dE_nodesOfParts_80 : decode prog_3_method_5_code 80 = .ok (.getfield 24, 3) := by decide +kernel
theorem dE_nodesOfParts_83 : decode prog_3_method_5_code 83 = .ok (.aload_n 0, 1) := by decide +kernel
theorem dE_nodesOfParts_84 : decode prog_3_method_5_code 84 = .ok (.getfield 21, 3) := by decide +kernel
theorem dE_nodesOfParts_87 : decode prog_3_method_5_code 87 = .ok (.iload_n 1, 1) := by decide +kernel
theorem dE_nodesOfParts_88 : decode prog_3_method_5_code 88 = .ok (.iaload, 1) := by decide +kernel
theorem dE_nodesOfParts_89 : decode prog_3_method_5_code 89 = .ok (.iaload, 1) := by decide +kernel
theorem dE_nodesOfParts_90 : decode prog_3_method_5_code 90 = .ok (.iadd, 1) := by decide +kernel
theorem dE_nodesOfParts_91 : decode prog_3_method_5_code 91 = .ok (.ireturn, 1) := by decide +kernel
theorem dE_nodesOfParts_92 : decode prog_3_method_5_code 92 = .ok (.iconst 0, 1) := by decide +kernel
theorem dE_nodesOfParts_93 : decode prog_3_method_5_code 93 = .ok (.ireturn, 1) := by decide +kernel
theorem dY_init_0 : decode prog_7_method_1_code 0 = .ok (.aload_n 0, 1) := by decide +kernel
theorem dY_init_1 : decode prog_7_method_1_code 1 = .ok (.invokespecial 3, 3) := by decide +kernel
theorem dY_init_4 : decode prog_7_method_1_code 4 = .ok (.aload_n 0, 1) := by decide +kernel
theorem dY_init_5 : decode prog_7_method_1_code 5 = .ok (.new 9, 3) := by decide +kernel
theorem dY_init_8 : decode prog_7_method_1_code 8 = .ok (.dup, 1) := by decide +kernel
theorem dY_init_9 : decode prog_7_method_1_code 9 = .ok (.invokespecial 11, 3) := by decide +kernel
theorem dY_init_12 : decode prog_7_method_1_code 12 = .ok (.putfield 12, 3) := by decide +kernel
theorem dY_init_15 : decode prog_7_method_1_code 15 = .ok (.aload_n 0, 1) := by decide +kernel
theorem dY_init_16 : decode prog_7_method_1_code 16 = .ok (.bipush 24, 2) := by decide +kernel
theorem dY_init_18 : decode prog_7_method_1_code 18 = .ok (.newarray .int, 2) := by decide +kernel
theorem dY_init_20 : decode prog_7_method_1_code 20 = .ok (.putfield 18, 3) := by decide +kernel
theorem dY_init_23 : decode prog_7_method_1_code 23 = .ok (.aload_n 0, 1) := by decide +kernel
theorem dY_init_24 : decode prog_7_method_1_code 24 = .ok (.bipush 24, 2) := by decide +kernel
theorem dY_init_26 : decode prog_7_method_1_code 26 = .ok (.newarray .int, 2) := by decide +kernel
theorem dY_init_28 : decode prog_7_method_1_code 28 = .ok (.putfield 22, 3) := by decide +kernel
theorem dY_init_31 : decode prog_7_method_1_code 31 = .ok (.aload_n 0, 1) := by decide +kernel
theorem dY_init_32 : decode prog_7_method_1_code 32 = .ok (.bipush 24, 2) := by decide +kernel
theorem dY_init_34 : decode prog_7_method_1_code 34 = .ok (.newarray .int, 2) := by decide +kernel
theorem dY_init_36 : decode prog_7_method_1_code 36 = .ok (.putfield 25, 3) := by decide +kernel
theorem dY_init_39 : decode prog_7_method_1_code 39 = .ok (.aload_n 0, 1) := by decide +kernel
theorem dY_init_40 : decode prog_7_method_1_code 40 = .ok (.bipush 8, 2) := by decide +kernel
theorem dY_init_42 : decode prog_7_method_1_code 42 = .ok (.newarray .int, 2) := by decide +kernel
theorem dY_init_44 : decode prog_7_method_1_code 44 = .ok (.putfield 28, 3) := by decide +kernel
theorem dY_init_47 : decode prog_7_method_1_code 47 = .ok (.aload_n 0, 1) := by decide +kernel
theorem dY_init_48 : decode prog_7_method_1_code 48 = .ok (.aload_n 1, 1) := by decide +kernel
theorem dY_init_49 : decode prog_7_method_1_code 49 = .ok (.putfield 31, 3) := by decide +kernel
theorem dY_init_52 : decode prog_7_method_1_code 52 = .ok (.aload_n 0, 1) := by decide +kernel
theorem dY_init_53 : decode prog_7_method_1_code 53 = .ok (.aload_n 2, 1) := by decide +kernel
theorem dY_init_54 : decode prog_7_method_1_code 54 = .ok (.putfield 35, 3) := by decide +kernel
theorem dY_init_57 : decode prog_7_method_1_code 57 = .ok (.aload_n 0, 1) := by decide +kernel
theorem dY_init_58 : decode prog_7_method_1_code 58 = .ok (.aload_n 3, 1) := by decide +kernel
theorem dY_init_59 : decode prog_7_method_1_code 59 = .ok (.putfield 39, 3) := by decide +kernel
theorem dY_init_62 : decode prog_7_method_1_code 62 = .ok (.return_, 1) := by decide +kernel
theorem dY_run_0 : decode prog_7_method_2_code 0 = .ok (.aload_n 0, 1) := by decide +kernel
theorem dY_run_1 : decode prog_7_method_2_code 1 = .ok (.getfield 12, 3) := by decide +kernel
theorem dY_run_4 : decode prog_7_method_2_code 4 = .ok (.invokevirtual 43, 3) := by decide +kernel
theorem dY_run_7 : decode prog_7_method_2_code 7 = .ok (.aload_n 0, 1) := by decide +kernel
theorem dY_run_8 : decode prog_7_method_2_code 8 = .ok (.iconst 0, 1) := by decide +kernel
theorem dY_run_9 : decode prog_7_method_2_code 9 = .ok (.putfield 46, 3) := by decide +kernel
theorem dY_run_12 : decode prog_7_method_2_code 12 = .ok (.aload_n 0, 1) := by decide +kernel
theorem dY_run_13 : decode prog_7_method_2_code 13 = .ok (.iconst 0, 1) := by decide +kernel
theorem dY_run_14 : decode prog_7_method_2_code 14 = .ok (.putfield 50, 3) := by decide +kernel
theorem dY_run_17 : decode prog_7_method_2_code 17 = .ok (.aload_n 0, 1) := by decide +kernel
theorem dY_run_18 : decode prog_7_method_2_code 18 = .ok (.iconst 0, 1) := by decide +kernel
theorem dY_run_19 : decode prog_7_method_2_code 19 = .ok (.putfield 53, 3) := by decide +kernel
theorem dY_run_22 : decode prog_7_method_2_code 22 = .ok (.aload_n 0, 1) := by decide +kernel
theorem dY_run_23 : decode prog_7_method_2_code 23 = .ok (.iconst 0, 1) := by decide +kernel
theorem dY_run_24 : decode prog_7_method_2_code 24 = .ok (.putfield 57, 3) := by decide +kernel
theorem dY_run_27 : decode prog_7_method_2_code 27 = .ok (.aload_n 0, 1) := by decide +kernel
theorem dY_run_28 : decode prog_7_method_2_code 28 = .ok (.aload_n 0, 1) := by decide +kernel
theorem dY_run_29 : decode prog_7_method_2_code 29 = .ok (.iload_n 1, 1) := by decide +kernel
theorem dY_run_30 : decode prog_7_method_2_code 30 = .ok (.invokevirtual 60, 3) := by decide +kernel
theorem dY_run_33 : decode prog_7_method_2_code 33 = .ok (.putfield 64, 3) := by decide +kernel
theorem dY_run_36 : decode prog_7_method_2_code 36 = .ok (.aload_n 0, 1) := by decide +kernel
theorem dY_run_37 : decode prog_7_method_2_code 37 = .ok (.iconst 0, 1) := by decide +kernel
theorem dY_run_38 : decode prog_7_method_2_code 38 = .ok (.aload_n 0, 1) := by decide +kernel
theorem dY_run_39 : decode prog_7_method_2_code 39 = .ok (.getfield 64, 3) := by decide +kernel
theorem dY_run_42 : decode prog_7_method_2_code 42 = .ok (.invokevirtual 67, 3) := by decide +kernel
theorem dY_run_45 : decode prog_7_method_2_code 45 = .ok (.pop, 1) := by decide +kernel
theorem dY_run_46 : decode prog_7_method_2_code 46 = .ok (.aload_n 0, 1) := by decide +kernel
theorem dY_run_47 : decode prog_7_method_2_code 47 = .ok (.getfield 12, 3) := by decide +kernel
theorem dY_run_50 : decode prog_7_method_2_code 50 = .ok (.getfield 71, 3) := by decide +kernel
theorem dY_run_53 : decode prog_7_method_2_code 53 = .ok (.ifCond .ne 13, 3) := by decide +kernel
theorem dY_run_56 : decode prog_7_method_2_code 56 = .ok (.aload_n 0, 1) := by decide +kernel
theorem dY_run_57 : decode prog_7_method_2_code 57 = .ok (.getfield 12, 3) := by decide +kernel
theorem dY_run_60 : decode prog_7_method_2_code 60 = .ok (.invokevirtual 74, 3) := by decide +kernel
theorem dY_run_63 : decode prog_7_method_2_code 63 = .ok (.ifCond .eq 6, 3) := by decide +kernel
theorem dY_run_66 : decode prog_7_method_2_code 66 = .ok (.bipush (-2), 2) := by decide +kernel
theorem dY_run_68 : decode prog_7_method_2_code 68 = .ok (.ireturn, 1) := by decide +kernel
theorem dY_run_69 : decode prog_7_method_2_code 69 = .ok (.aload_n 0, 1) := by decide +kernel
theorem dY_run_70 : decode prog_7_method_2_code 70 = .ok (.getfield 53, 3) := by decide +kernel
theorem dY_run_73 : decode prog_7_method_2_code 73 = .ok (.ifCond .eq 6, 3) := by decide +kernel
theorem dY_run_76 : decode prog_7_method_2_code 76 = .ok (.bipush (-4), 2) := by decide +kernel
theorem dY_run_78 : decode prog_7_method_2_code 78 = .ok (.ireturn, 1) := by decide +kernel
theorem dY_run_79 : decode prog_7_method_2_code 79 = .ok (.aload_n 0, 1) := by decide +kernel
theorem dY_run_80 : decode prog_7_method_2_code 80 = .ok (.getfield 57, 3) := by decide +kernel
theorem dY_run_83 : decode prog_7_method_2_code 83 = .ok (.ifCond .eq 8, 3) := by decide +kernel
theorem dY_run_86 : decode prog_7_method_2_code 86 = .ok (.bipush (-5), 2) := by decide +kernel
theorem dY_run_88 : decode prog_7_method_2_code 88 = .ok (.goto 4, 3) := by decide +kernel
theorem dY_run_91 : decode prog_7_method_2_code 91 = .ok (.iconst 0, 1) := by decide +kernel
theorem dY_run_92 : decode prog_7_method_2_code 92 = .ok (.ireturn, 1) := by decide +kernel
theorem dY_typeOf_0 : decode prog_7_method_3_code 0 = .ok (.aload_n 0, 1) := by decide +kernel
theorem dY_typeOf_1 : decode prog_7_method_3_code 1 = .ok (.getfield 39, 3) := by decide +kernel
theorem dY_typeOf_4 : decode prog_7_method_3_code 4 = .ok (.getfield 78, 3) := by decide +kernel
theorem dY_typeOf_7 : decode prog_7_method_3_code 7 = .ok (.iload_n 1, 1) := by decide +kernel
theorem dY_typeOf_8 : decode prog_7_method_3_code 8 = .ok (.iaload, 1) := by decide +kernel
theorem dY_typeOf_9 : decode prog_7_method_3_code 9 = .ok (.istore_n 2, 1) := by decide +kernel
theorem dY_typeOf_10 : decode prog_7_method_3_code 10 = .ok (.aload_n 0, 1) := by decide +kernel
theorem dY_typeOf_11 : decode prog_7_method_3_code 11 = .ok (.getfield 39, 3) := by decide +kernel
theorem dY_typeOf_14 : decode prog_7_method_3_code 14 = .ok (.getfield 83, 3) := by decide +kernel
theorem dY_typeOf_17 : decode prog_7_method_3_code 17 = .ok (.iload_n 1, 1) := by decide +kernel
theorem dY_typeOf_18 : decode prog_7_method_3_code 18 = .ok (.iaload, 1) := by decide +kernel
theorem dY_typeOf_19 : decode prog_7_method_3_code 19 = .ok (.istore_n 3, 1) := by decide +kernel
theorem dY_typeOf_20 : decode prog_7_method_3_code 20 = .ok (.aload_n 0, 1) := by decide +kernel
theorem dY_typeOf_21 : decode prog_7_method_3_code 21 = .ok (.getfield 39, 3) := by decide +kernel
theorem dY_typeOf_24 : decode prog_7_method_3_code 24 = .ok (.getfield 86, 3) := by decide +kernel
theorem dY_typeOf_27 : decode prog_7_method_3_code 27 = .ok (.iload_n 1, 1) := by decide +kernel
theorem dY_typeOf_28 : decode prog_7_method_3_code 28 = .ok (.iaload, 1) := by decide +kernel
theorem dY_typeOf_29 : decode prog_7_method_3_code 29 = .ok (.tableswitch 77 1 5 #[35, 42, 49, 65, 71], 35) := by decide +kernel
theorem dY_typeOf_64 : decode prog_7_method_3_code 64 = .ok (.aload_n 0, 1) := by decide +kernel
theorem dY_typeOf_65 : decode prog_7_method_3_code 65 = .ok (.iload_n 2, 1) := by decide +kernel
theorem dY_typeOf_66 : decode prog_7_method_3_code 66 = .ok (.iload_n 3, 1) := by decide +kernel
theorem dY_typeOf_67 : decode prog_7_method_3_code 67 = .ok (.invokevirtual 89, 3) := by decide +kernel
theorem dY_typeOf_70 : decode prog_7_method_3_code 70 = .ok (.ireturn, 1) := by decide +kernel
theorem dY_typeOf_71 : decode prog_7_method_3_code 71 = .ok (.aload_n 0, 1) := by decide +kernel
theorem dY_typeOf_72 : decode prog_7_method_3_code 72 = .ok (.iload_n 2, 1) := by decide +kernel
theorem dY_typeOf_73 : decode prog_7_method_3_code 73 = .ok (.iload_n 3, 1) := by decide +kernel
theorem dY_typeOf_74 : decode prog_7_method_3_code 74 = .ok (.invokevirtual 92, 3) := by decide +kernel
theorem dY_typeOf_77 : decode prog_7_method_3_code 77 = .ok (.ireturn, 1) := by decide +kernel
theorem dY_typeOf_78 : decode prog_7_method_3_code 78 = .ok (.aload_n 0, 1) := by decide +kernel
theorem dY_typeOf_79 : decode prog_7_method_3_code 79 = .ok (.iload_n 2, 1) := by decide +kernel
theorem dY_typeOf_80 : decode prog_7_method_3_code 80 = .ok (.iload_n 3, 1) := by decide +kernel
theorem dY_typeOf_81 : decode prog_7_method_3_code 81 = .ok (.aload_n 0, 1) := by decide +kernel
theorem dY_typeOf_82 : decode prog_7_method_3_code 82 = .ok (.getfield 39, 3) := by decide +kernel
theorem dY_typeOf_85 : decode prog_7_method_3_code 85 = .ok (.getfield 95, 3) := by decide +kernel
theorem dY_typeOf_88 : decode prog_7_method_3_code 88 = .ok (.iload_n 1, 1) := by decide +kernel
theorem dY_typeOf_89 : decode prog_7_method_3_code 89 = .ok (.iaload, 1) := by decide +kernel
theorem dY_typeOf_90 : decode prog_7_method_3_code 90 = .ok (.invokevirtual 98, 3) := by decide +kernel
theorem dY_typeOf_93 : decode prog_7_method_3_code 93 = .ok (.ireturn, 1) := by decide +kernel
theorem dY_typeOf_94 : decode prog_7_method_3_code 94 = .ok (.aload_n 0, 1) := by decide +kernel
theorem dY_typeOf_95 : decode prog_7_method_3_code 95 = .ok (.iload_n 2, 1) := by decide +kernel
theorem dY_typeOf_96 : decode prog_7_method_3_code 96 = .ok (.invokevirtual 102, 3) := by decide +kernel
theorem dY_typeOf_99 : decode prog_7_method_3_code 99 = .ok (.ireturn, 1) := by decide +kernel
theorem dY_typeOf_100 : decode prog_7_method_3_code 100 = .ok (.aload_n 0, 1) := by decide +kernel
theorem dY_typeOf_101 : decode prog_7_method_3_code 101 = .ok (.iload_n 2, 1) := by decide +kernel
theorem dY_typeOf_102 : decode prog_7_method_3_code 102 = .ok (.invokevirtual 105, 3) := by decide +kernel
theorem dY_typeOf_105 : decode prog_7_method_3_code 105 = .ok (.ireturn, 1) := by decide +kernel
theorem dY_typeOf_106 : decode prog_7_method_3_code 106 = .ok (.aload_n 0, 1) := by decide +kernel
theorem dY_typeOf_107 : decode prog_7_method_3_code 107 = .ok (.iload_n 2, 1) := by decide +kernel
theorem dY_typeOf_108 : decode prog_7_method_3_code 108 = .ok (.invokevirtual 108, 3) := by decide +kernel
theorem dY_typeOf_111 : decode prog_7_method_3_code 111 = .ok (.ireturn, 1) := by decide +kernel
theorem dY_typeOfName_0 : decode prog_7_method_4_code 0 = .ok (.aload_n 0, 1) := by decide +kernel
theorem dY_typeOfName_1 : decode prog_7_method_4_code 1 = .ok (.getfield 46, 3) := by decide +kernel
theorem dY_typeOfName_4 : decode prog_7_method_4_code 4 = .ok (.iconst 1, 1) := by decide +kernel
theorem dY_typeOfName_5 : decode prog_7_method_4_code 5 = .ok (.isub, 1) := by decide +kernel
theorem dY_typeOfName_6 : decode prog_7_method_4_code 6 = .ok (.istore_n 2, 1) := by decide +kernel
theorem dY_typeOfName_7 : decode prog_7_method_4_code 7 = .ok (.iload_n 2, 1) := by decide +kernel
theorem dY_typeOfName_8 : decode prog_7_method_4_code 8 = .ok (.ifCond .lt 68, 3) := by decide +kernel
theorem dY_typeOfName_11 : decode prog_7_method_4_code 11 = .ok (.aload_n 0, 1) := by decide +kernel
theorem dY_typeOfName_12 : decode prog_7_method_4_code 12 = .ok (.getfield 18, 3) := by decide +kernel
theorem dY_typeOfName_15 : decode prog_7_method_4_code 15 = .ok (.iload_n 2, 1) := by decide +kernel
theorem dY_typeOfName_16 : decode prog_7_method_4_code 16 = .ok (.iaload, 1) := by decide +kernel
theorem dY_typeOfName_17 : decode prog_7_method_4_code 17 = .ok (.iload_n 1, 1) := by decide +kernel
theorem dY_typeOfName_18 : decode prog_7_method_4_code 18 = .ok (.if_icmp .eq 6, 3) := by decide +kernel
theorem dY_typeOfName_21 : decode prog_7_method_4_code 21 = .ok (.goto 49, 3) := by decide +kernel
theorem dY_typeOfName_24 : decode prog_7_method_4_code 24 = .ok (.aload_n 0, 1) := by decide +kernel
theorem dY_typeOfName_25 : decode prog_7_method_4_code 25 = .ok (.getfield 25, 3) := by decide +kernel
theorem dY_typeOfName_28 : decode prog_7_method_4_code 28 = .ok (.iload_n 2, 1) := by decide +kernel
theorem dY_typeOfName_29 : decode prog_7_method_4_code 29 = .ok (.iaload, 1) := by decide +kernel
theorem dY_typeOfName_30 : decode prog_7_method_4_code 30 = .ok (.iconst (-1), 1) := by decide +kernel
theorem dY_typeOfName_31 : decode prog_7_method_4_code 31 = .ok (.if_icmp .ne 10, 3) := by decide +kernel
theorem dY_typeOfName_34 : decode prog_7_method_4_code 34 = .ok (.aload_n 0, 1) := by decide +kernel
theorem dY_typeOfName_35 : decode prog_7_method_4_code 35 = .ok (.getfield 22, 3) := by decide +kernel
theorem dY_typeOfName_38 : decode prog_7_method_4_code 38 = .ok (.iload_n 2, 1) := by decide +kernel
theorem dY_typeOfName_39 : decode prog_7_method_4_code 39 = .ok (.iaload, 1) := by decide +kernel
theorem dY_typeOfName_40 : decode prog_7_method_4_code 40 = .ok (.ireturn, 1) := by decide +kernel
theorem dY_typeOfName_41 : decode prog_7_method_4_code 41 = .ok (.aload_n 0, 1) := by decide +kernel
theorem dY_typeOfName_42 : decode prog_7_method_4_code 42 = .ok (.dup, 1) := by decide +kernel
theorem dY_typeOfName_43 : decode prog_7_method_4_code 43 = .ok (.getfield 50, 3) := by decide +kernel
theorem dY_typeOfName_46 : decode prog_7_method_4_code 46 = .ok (.aload_n 0, 1) := by decide +kernel
theorem dY_typeOfName_47 : decode prog_7_method_4_code 47 = .ok (.getfield 25, 3) := by decide +kernel
theorem dY_typeOfName_50 : decode prog_7_method_4_code 50 = .ok (.iload_n 2, 1) := by decide +kernel
theorem dY_typeOfName_51 : decode prog_7_method_4_code 51 = .ok (.iaload, 1) := by decide +kernel
theorem dY_typeOfName_52 : decode prog_7_method_4_code 52 = .ok (.iadd, 1) := by decide +kernel
theorem dY_typeOfName_53 : decode prog_7_method_4_code 53 = .ok (.putfield 50, 3) := by decide +kernel
theorem dY_typeOfName_56 : decode prog_7_method_4_code 56 = .ok (.aload_n 0, 1) := by decide +kernel
theorem dY_typeOfName_57 : decode prog_7_method_4_code 57 = .ok (.getfield 12, 3) := by decide +kernel
theorem dY_typeOfName_60 : decode prog_7_method_4_code 60 = .ok (.aload_n 0, 1) := by decide +kernel
theorem dY_typeOfName_61 : decode prog_7_method_4_code 61 = .ok (.getfield 22, 3) := by decide +kernel
theorem dY_typeOfName_64 : decode prog_7_method_4_code 64 = .ok (.iload_n 2, 1) := by decide +kernel
theorem dY_typeOfName_65 : decode prog_7_method_4_code 65 = .ok (.iaload, 1) := by decide +kernel
theorem dY_typeOfName_66 : decode prog_7_method_4_code 66 = .ok (.invokevirtual 111, 3) := by decide +kernel
theorem dY_typeOfName_69 : decode prog_7_method_4_code 69 = .ok (.ireturn, 1) := by decide +kernel
theorem dY_typeOfName_70 : decode prog_7_method_4_code 70 = .ok (.iinc 2 (-1), 3) := by decide +kernel
theorem dY_typeOfName_73 : decode prog_7_method_4_code 73 = .ok (.goto (-66), 3) := by decide +kernel
theorem dY_typeOfName_76 : decode prog_7_method_4_code 76 = .ok (.aload_n 0, 1) := by decide +kernel
theorem dY_typeOfName_77 : decode prog_7_method_4_code 77 = .ok (.getfield 12, 3) := by decide +kernel
theorem dY_typeOfName_80 : decode prog_7_method_4_code 80 = .ok (.iconst 1, 1) := by decide +kernel
theorem dY_typeOfName_81 : decode prog_7_method_4_code 81 = .ok (.putfield 71, 3) := by decide +kernel
theorem dY_typeOfName_84 : decode prog_7_method_4_code 84 = .ok (.aload_n 0, 1) := by decide +kernel
theorem dY_typeOfName_85 : decode prog_7_method_4_code 85 = .ok (.getfield 12, 3) := by decide +kernel
theorem dY_typeOfName_88 : decode prog_7_method_4_code 88 = .ok (.iconst (-1), 1) := by decide +kernel
theorem dY_typeOfName_89 : decode prog_7_method_4_code 89 = .ok (.iconst (-1), 1) := by decide +kernel
theorem dY_typeOfName_90 : decode prog_7_method_4_code 90 = .ok (.iconst (-1), 1) := by decide +kernel
theorem dY_typeOfName_91 : decode prog_7_method_4_code 91 = .ok (.invokevirtual 114, 3) := by decide +kernel
theorem dY_typeOfName_94 : decode prog_7_method_4_code 94 = .ok (.ireturn, 1) := by decide +kernel
theorem dY_typeOfLambda_0 : decode prog_7_method_5_code 0 = .ok (.aload_n 0, 1) := by decide +kernel
theorem dY_typeOfLambda_1 : decode prog_7_method_5_code 1 = .ok (.getfield 12, 3) := by decide +kernel
theorem dY_typeOfLambda_4 : decode prog_7_method_5_code 4 = .ok (.iconst (-1), 1) := by decide +kernel
theorem dY_typeOfLambda_5 : decode prog_7_method_5_code 5 = .ok (.iconst (-1), 1) := by decide +kernel
theorem dY_typeOfLambda_6 : decode prog_7_method_5_code 6 = .ok (.iconst (-1), 1) := by decide +kernel
theorem dY_typeOfLambda_7 : decode prog_7_method_5_code 7 = .ok (.invokevirtual 114, 3) := by decide +kernel
theorem dY_typeOfLambda_10 : decode prog_7_method_5_code 10 = .ok (.istore_n 3, 1) := by decide +kernel
theorem dY_typeOfLambda_11 : decode prog_7_method_5_code 11 = .ok (.aload_n 0, 1) := by decide +kernel
theorem dY_typeOfLambda_12 : decode prog_7_method_5_code 12 = .ok (.iload_n 1, 1) := by decide +kernel
theorem dY_typeOfLambda_13 : decode prog_7_method_5_code 13 = .ok (.iload_n 3, 1) := by decide +kernel
theorem dY_typeOfLambda_14 : decode prog_7_method_5_code 14 = .ok (.iconst (-1), 1) := by decide +kernel
theorem dY_typeOfLambda_15 : decode prog_7_method_5_code 15 = .ok (.invokevirtual 117, 3) := by decide +kernel
theorem dY_typeOfLambda_18 : decode prog_7_method_5_code 18 = .ok (.aload_n 0, 1) := by decide +kernel
theorem dY_typeOfLambda_19 : decode prog_7_method_5_code 19 = .ok (.iload_n 2, 1) := by decide +kernel
theorem dY_typeOfLambda_20 : decode prog_7_method_5_code 20 = .ok (.invokevirtual 60, 3) := by decide +kernel
theorem dY_typeOfLambda_23 : decode prog_7_method_5_code 23 = .ok (.istore 4, 2) := by decide +kernel
theorem dY_typeOfLambda_25 : decode prog_7_method_5_code 25 = .ok (.aload_n 0, 1) := by decide +kernel
theorem dY_typeOfLambda_26 : decode prog_7_method_5_code 26 = .ok (.invokevirtual 121, 3) := by decide +kernel
theorem dY_typeOfLambda_29 : decode prog_7_method_5_code 29 = .ok (.aload_n 0, 1) := by decide +kernel
theorem dY_typeOfLambda_30 : decode prog_7_method_5_code 30 = .ok (.getfield 12, 3) := by decide +kernel
theorem dY_typeOfLambda_33 : decode prog_7_method_5_code 33 = .ok (.iconst 0, 1) := by decide +kernel
theorem dY_typeOfLambda_34 : decode prog_7_method_5_code 34 = .ok (.iload_n 3, 1) := by decide +kernel
theorem dY_typeOfLambda_35 : decode prog_7_method_5_code 35 = .ok (.iload 4, 2) := by decide +kernel
theorem dY_typeOfLambda_37 : decode prog_7_method_5_code 37 = .ok (.invokevirtual 114, 3) := by decide +kernel
theorem dY_typeOfLambda_40 : decode prog_7_method_5_code 40 = .ok (.ireturn, 1) := by decide +kernel
theorem dY_typeOfApply_0 : decode prog_7_method_6_code 0 = .ok (.aload_n 0, 1) := by decide +kernel
theorem dY_typeOfApply_1 : decode prog_7_method_6_code 1 = .ok (.iload_n 1, 1) := by decide +kernel
theorem dY_typeOfApply_2 : decode prog_7_method_6_code 2 = .ok (.invokevirtual 60, 3) := by decide +kernel
theorem dY_typeOfApply_5 : decode prog_7_method_6_code 5 = .ok (.istore_n 3, 1) := by decide +kernel
theorem dY_typeOfApply_6 : decode prog_7_method_6_code 6 = .ok (.aload_n 0, 1) := by decide +kernel
theorem dY_typeOfApply_7 : decode prog_7_method_6_code 7 = .ok (.iload_n 2, 1) := by decide +kernel
theorem dY_typeOfApply_8 : decode prog_7_method_6_code 8 = .ok (.invokevirtual 60, 3) := by decide +kernel
theorem dY_typeOfApply_11 : decode prog_7_method_6_code 11 = .ok (.istore 4, 2) := by decide +kernel
theorem dY_typeOfApply_13 : decode prog_7_method_6_code 13 = .ok (.aload_n 0, 1) := by decide +kernel
theorem dY_typeOfApply_14 : decode prog_7_method_6_code 14 = .ok (.getfield 12, 3) := by decide +kernel
theorem dY_typeOfApply_17 : decode prog_7_method_6_code 17 = .ok (.iconst (-1), 1) := by decide +kernel
theorem dY_typeOfApply_18 : decode prog_7_method_6_code 18 = .ok (.iconst (-1), 1) := by decide +kernel
theorem dY_typeOfApply_19 : decode prog_7_method_6_code 19 = .ok (.iconst (-1), 1) := by decide +kernel
theorem dY_typeOfApply_20 : decode prog_7_method_6_code 20 = .ok (.invokevirtual 114, 3) := by decide +kernel
theorem dY_typeOfApply_23 : decode prog_7_method_6_code 23 = .ok (.istore 5, 2) := by decide +kernel
theorem dY_typeOfApply_25 : decode prog_7_method_6_code 25 = .ok (.aload_n 0, 1) := by decide +kernel
theorem dY_typeOfApply_26 : decode prog_7_method_6_code 26 = .ok (.getfield 12, 3) := by decide +kernel
theorem dY_typeOfApply_29 : decode prog_7_method_6_code 29 = .ok (.iload_n 3, 1) := by decide +kernel
theorem dY_typeOfApply_30 : decode prog_7_method_6_code 30 = .ok (.aload_n 0, 1) := by decide +kernel
theorem dY_typeOfApply_31 : decode prog_7_method_6_code 31 = .ok (.getfield 12, 3) := by decide +kernel
theorem dY_typeOfApply_34 : decode prog_7_method_6_code 34 = .ok (.iconst 0, 1) := by decide +kernel
theorem dY_typeOfApply_35 : decode prog_7_method_6_code 35 = .ok (.iload 4, 2) := by decide +kernel
theorem dY_typeOfApply_37 : decode prog_7_method_6_code 37 = .ok (.iload 5, 2) := by decide +kernel
theorem dY_typeOfApply_39 : decode prog_7_method_6_code 39 = .ok (.invokevirtual 114, 3) := by decide +kernel
theorem dY_typeOfApply_42 : decode prog_7_method_6_code 42 = .ok (.invokevirtual 124, 3) := by decide +kernel
theorem dY_typeOfApply_45 : decode prog_7_method_6_code 45 = .ok (.iload 5, 2) := by decide +kernel
theorem dY_typeOfApply_47 : decode prog_7_method_6_code 47 = .ok (.ireturn, 1) := by decide +kernel
theorem dY_typeOfLet_0 : decode prog_7_method_7_code 0 = .ok (.aload_n 0, 1) := by decide +kernel
theorem dY_typeOfLet_1 : decode prog_7_method_7_code 1 = .ok (.getfield 12, 3) := by decide +kernel
theorem dY_typeOfLet_4 : decode prog_7_method_7_code 4 = .ok (.getfield 128, 3) := by decide +kernel
theorem dY_typeOfLet_7 : decode prog_7_method_7_code 7 = .ok (.istore 4, 2) := by decide +kernel
theorem dY_typeOfLet_9 : decode prog_7_method_7_code 9 = .ok (.aload_n 0, 1) := by decide +kernel
theorem dY_typeOfLet_10 : decode prog_7_method_7_code 10 = .ok (.iload_n 2, 1) := by decide +kernel
theorem dY_typeOfLet_11 : decode prog_7_method_7_code 11 = .ok (.invokevirtual 60, 3) := by decide +kernel
theorem dY_typeOfLet_14 : decode prog_7_method_7_code 14 = .ok (.istore 5, 2) := by decide +kernel
theorem dY_typeOfLet_16 : decode prog_7_method_7_code 16 = .ok (.aload_n 0, 1) := by decide +kernel
theorem dY_typeOfLet_17 : decode prog_7_method_7_code 17 = .ok (.iload_n 1, 1) := by decide +kernel
theorem dY_typeOfLet_18 : decode prog_7_method_7_code 18 = .ok (.iload 5, 2) := by decide +kernel
theorem dY_typeOfLet_20 : decode prog_7_method_7_code 20 = .ok (.aload_n 0, 1) := by decide +kernel
theorem dY_typeOfLet_21 : decode prog_7_method_7_code 21 = .ok (.iload 4, 2) := by decide +kernel
theorem dY_typeOfLet_23 : decode prog_7_method_7_code 23 = .ok (.iload 5, 2) := by decide +kernel
theorem dY_typeOfLet_25 : decode prog_7_method_7_code 25 = .ok (.invokevirtual 67, 3) := by decide +kernel
theorem dY_typeOfLet_28 : decode prog_7_method_7_code 28 = .ok (.invokevirtual 117, 3) := by decide +kernel
theorem dY_typeOfLet_31 : decode prog_7_method_7_code 31 = .ok (.aload_n 0, 1) := by decide +kernel
theorem dY_typeOfLet_32 : decode prog_7_method_7_code 32 = .ok (.iload_n 3, 1) := by decide +kernel
theorem dY_typeOfLet_33 : decode prog_7_method_7_code 33 = .ok (.invokevirtual 60, 3) := by decide +kernel
theorem dY_typeOfLet_36 : decode prog_7_method_7_code 36 = .ok (.istore 6, 2) := by decide +kernel
theorem dY_typeOfLet_38 : decode prog_7_method_7_code 38 = .ok (.aload_n 0, 1) := by decide +kernel
theorem dY_typeOfLet_39 : decode prog_7_method_7_code 39 = .ok (.invokevirtual 121, 3) := by decide +kernel
theorem dY_typeOfLet_42 : decode prog_7_method_7_code 42 = .ok (.iload 6, 2) := by decide +kernel
theorem dY_typeOfLet_44 : decode prog_7_method_7_code 44 = .ok (.ireturn, 1) := by decide +kernel
theorem dY_typeOfMethod_0 : decode prog_7_method_8_code 0 = .ok (.aload_n 0, 1) := by decide +kernel
theorem dY_typeOfMethod_1 : decode prog_7_method_8_code 1 = .ok (.aload_n 0, 1) := by decide +kernel
theorem dY_typeOfMethod_2 : decode prog_7_method_8_code 2 = .ok (.getfield 35, 3) := by decide +kernel
theorem dY_typeOfMethod_5 : decode prog_7_method_8_code 5 = .ok (.iload_n 1, 1) := by decide +kernel
theorem dY_typeOfMethod_6 : decode prog_7_method_8_code 6 = .ok (.invokevirtual 131, 3) := by decide +kernel
theorem dY_typeOfMethod_9 : decode prog_7_method_8_code 9 = .ok (.invokevirtual 105, 3) := by decide +kernel
theorem dY_typeOfMethod_12 : decode prog_7_method_8_code 12 = .ok (.istore_n 2, 1) := by decide +kernel
theorem dY_typeOfMethod_13 : decode prog_7_method_8_code 13 = .ok (.aload_n 0, 1) := by decide +kernel
theorem dY_typeOfMethod_14 : decode prog_7_method_8_code 14 = .ok (.getfield 28, 3) := by decide +kernel
theorem dY_typeOfMethod_17 : decode prog_7_method_8_code 17 = .ok (.iconst 0, 1) := by decide +kernel
theorem dY_typeOfMethod_18 : decode prog_7_method_8_code 18 = .ok (.iaload, 1) := by decide +kernel
theorem dY_typeOfMethod_19 : decode prog_7_method_8_code 19 = .ok (.iconst (-1), 1) := by decide +kernel
theorem dY_typeOfMethod_20 : decode prog_7_method_8_code 20 = .ok (.if_icmp .eq 23, 3) := by decide +kernel
theorem dY_typeOfMethod_23 : decode prog_7_method_8_code 23 = .ok (.aload_n 0, 1) := by decide +kernel
theorem dY_typeOfMethod_24 : decode prog_7_method_8_code 24 = .ok (.getfield 12, 3) := by decide +kernel
theorem dY_typeOfMethod_27 : decode prog_7_method_8_code 27 = .ok (.getfield 136, 3) := by decide +kernel
theorem dY_typeOfMethod_30 : decode prog_7_method_8_code 30 = .ok (.aload_n 0, 1) := by decide +kernel
theorem dY_typeOfMethod_31 : decode prog_7_method_8_code 31 = .ok (.getfield 28, 3) := by decide +kernel
theorem dY_typeOfMethod_34 : decode prog_7_method_8_code 34 = .ok (.iconst 0, 1) := by decide +kernel
theorem dY_typeOfMethod_35 : decode prog_7_method_8_code 35 = .ok (.iaload, 1) := by decide +kernel
theorem dY_typeOfMethod_36 : decode prog_7_method_8_code 36 = .ok (.dup2, 1) := by decide +kernel
theorem dY_typeOfMethod_37 : decode prog_7_method_8_code 37 = .ok (.iaload, 1) := by decide +kernel
theorem dY_typeOfMethod_38 : decode prog_7_method_8_code 38 = .ok (.iconst 1, 1) := by decide +kernel
theorem dY_typeOfMethod_39 : decode prog_7_method_8_code 39 = .ok (.iload_n 1, 1) := by decide +kernel
theorem dY_typeOfMethod_40 : decode prog_7_method_8_code 40 = .ok (.ishl, 1) := by decide +kernel
theorem dY_typeOfMethod_41 : decode prog_7_method_8_code 41 = .ok (.ior, 1) := by decide +kernel
theorem dY_typeOfMethod_42 : decode prog_7_method_8_code 42 = .ok (.iastore, 1) := by decide +kernel
theorem dY_typeOfMethod_43 : decode prog_7_method_8_code 43 = .ok (.aload_n 0, 1) := by decide +kernel
theorem dY_typeOfMethod_44 : decode prog_7_method_8_code 44 = .ok (.dup, 1) := by decide +kernel
theorem dY_typeOfMethod_45 : decode prog_7_method_8_code 45 = .ok (.getfield 50, 3) := by decide +kernel
theorem dY_typeOfMethod_48 : decode prog_7_method_8_code 48 = .ok (.iconst 1, 1) := by decide +kernel
theorem dY_typeOfMethod_49 : decode prog_7_method_8_code 49 = .ok (.iadd, 1) := by decide +kernel
theorem dY_typeOfMethod_50 : decode prog_7_method_8_code 50 = .ok (.putfield 50, 3) := by decide +kernel
theorem dY_typeOfMethod_53 : decode prog_7_method_8_code 53 = .ok (.iload_n 2, 1) := by decide +kernel
theorem dY_typeOfMethod_54 : decode prog_7_method_8_code 54 = .ok (.ireturn, 1) := by decide +kernel
theorem dY_enter_0 : decode prog_7_method_9_code 0 = .ok (.aload_n 0, 1) := by decide +kernel
theorem dY_enter_1 : decode prog_7_method_9_code 1 = .ok (.getfield 46, 3) := by decide +kernel
theorem dY_enter_4 : decode prog_7_method_9_code 4 = .ok (.bipush 24, 2) := by decide +kernel
theorem dY_enter_6 : decode prog_7_method_9_code 6 = .ok (.if_icmp .ge 43, 3) := by decide +kernel
theorem dY_enter_9 : decode prog_7_method_9_code 9 = .ok (.aload_n 0, 1) := by decide +kernel
theorem dY_enter_10 : decode prog_7_method_9_code 10 = .ok (.getfield 18, 3) := by decide +kernel
theorem dY_enter_13 : decode prog_7_method_9_code 13 = .ok (.aload_n 0, 1) := by decide +kernel
theorem dY_enter_14 : decode prog_7_method_9_code 14 = .ok (.getfield 46, 3) := by decide +kernel
theorem dY_enter_17 : decode prog_7_method_9_code 17 = .ok (.iload_n 1, 1) := by decide +kernel
theorem dY_enter_18 : decode prog_7_method_9_code 18 = .ok (.iastore, 1) := by decide +kernel
theorem dY_enter_19 : decode prog_7_method_9_code 19 = .ok (.aload_n 0, 1) := by decide +kernel
theorem dY_enter_20 : decode prog_7_method_9_code 20 = .ok (.getfield 22, 3) := by decide +kernel
theorem dY_enter_23 : decode prog_7_method_9_code 23 = .ok (.aload_n 0, 1) := by decide +kernel
theorem dY_enter_24 : decode prog_7_method_9_code 24 = .ok (.getfield 46, 3) := by decide +kernel
theorem dY_enter_27 : decode prog_7_method_9_code 27 = .ok (.iload_n 2, 1) := by decide +kernel
theorem dY_enter_28 : decode prog_7_method_9_code 28 = .ok (.iastore, 1) := by decide +kernel
theorem dY_enter_29 : decode prog_7_method_9_code 29 = .ok (.aload_n 0, 1) := by decide +kernel
theorem dY_enter_30 : decode prog_7_method_9_code 30 = .ok (.getfield 25, 3) := by decide +kernel
theorem dY_enter_33 : decode prog_7_method_9_code 33 = .ok (.aload_n 0, 1) := by decide +kernel
theorem dY_enter_34 : decode prog_7_method_9_code 34 = .ok (.getfield 46, 3) := by decide +kernel
theorem dY_enter_37 : decode prog_7_method_9_code 37 = .ok (.iload_n 3, 1) := by decide +kernel
theorem dY_enter_38 : decode prog_7_method_9_code 38 = .ok (.iastore, 1) := by decide +kernel
theorem dY_enter_39 : decode prog_7_method_9_code 39 = .ok (.aload_n 0, 1) := by decide +kernel
theorem dY_enter_40 : decode prog_7_method_9_code 40 = .ok (.dup, 1) := by decide +kernel
theorem dY_enter_41 : decode prog_7_method_9_code 41 = .ok (.getfield 46, 3) := by decide +kernel
theorem dY_enter_44 : decode prog_7_method_9_code 44 = .ok (.iconst 1, 1) := by decide +kernel
theorem dY_enter_45 : decode prog_7_method_9_code 45 = .ok (.iadd, 1) := by decide +kernel
theorem dY_enter_46 : decode prog_7_method_9_code 46 = .ok (.putfield 46, 3) := by decide +kernel
theorem dY_enter_49 : decode prog_7_method_9_code 49 = .ok (.return_, 1) := by decide +kernel
theorem dY_leave_0 : decode prog_7_method_10_code 0 = .ok (.aload_n 0, 1) := by decide +kernel
theorem dY_leave_1 : decode prog_7_method_10_code 1 = .ok (.getfield 46, 3) := by decide +kernel
theorem dY_leave_4 : decode prog_7_method_10_code 4 = .ok (.ifCond .le 13, 3) := by decide +kernel
theorem dY_leave_7 : decode prog_7_method_10_code 7 = .ok (.aload_n 0, 1) := by decide +kernel
theorem dY_leave_8 : decode prog_7_method_10_code 8 = .ok (.dup, 1) := by decide +kernel
theorem dY_leave_9 : decode prog_7_method_10_code 9 = .ok (.getfield 46, 3) := by decide +kernel
theorem dY_leave_12 : decode prog_7_method_10_code 12 = .ok (.iconst 1, 1) := by decide +kernel
theorem dY_leave_13 : decode prog_7_method_10_code 13 = .ok (.isub, 1) := by decide +kernel
theorem dY_leave_14 : decode prog_7_method_10_code 14 = .ok (.putfield 46, 3) := by decide +kernel
theorem dY_leave_17 : decode prog_7_method_10_code 17 = .ok (.return_, 1) := by decide +kernel
theorem dY_freshCopy_0 : decode prog_7_method_11_code 0 = .ok (.aload_n 0, 1) := by decide +kernel
theorem dY_freshCopy_1 : decode prog_7_method_11_code 1 = .ok (.getfield 28, 3) := by decide +kernel
theorem dY_freshCopy_4 : decode prog_7_method_11_code 4 = .ok (.iconst (-1), 1) := by decide +kernel
theorem dY_freshCopy_5 : decode prog_7_method_11_code 5 = .ok (.invokestatic 139, 3) := by decide +kernel
theorem dY_freshCopy_8 : decode prog_7_method_11_code 8 = .ok (.aload_n 0, 1) := by decide +kernel
theorem dY_freshCopy_9 : decode prog_7_method_11_code 9 = .ok (.iload_n 1, 1) := by decide +kernel
theorem dY_freshCopy_10 : decode prog_7_method_11_code 10 = .ok (.invokevirtual 145, 3) := by decide +kernel
theorem dY_freshCopy_13 : decode prog_7_method_11_code 13 = .ok (.ireturn, 1) := by decide +kernel
theorem dY_writeOut_0 : decode prog_7_method_12_code 0 = .ok (.aload_n 0, 1) := by decide +kernel
theorem dY_writeOut_1 : decode prog_7_method_12_code 1 = .ok (.getfield 31, 3) := by decide +kernel
theorem dY_writeOut_4 : decode prog_7_method_12_code 4 = .ok (.getfield 148, 3) := by decide +kernel
theorem dY_writeOut_7 : decode prog_7_method_12_code 7 = .ok (.iload_n 1, 1) := by decide +kernel
theorem dY_writeOut_8 : decode prog_7_method_12_code 8 = .ok (.iaload, 1) := by decide +kernel
theorem dY_writeOut_9 : decode prog_7_method_12_code 9 = .ok (.istore_n 2, 1) := by decide +kernel
theorem dY_writeOut_10 : decode prog_7_method_12_code 10 = .ok (.iload_n 2, 1) := by decide +kernel
theorem dY_writeOut_11 : decode prog_7_method_12_code 11 = .ok (.ifCond .ge 49, 3) := by decide +kernel
theorem dY_writeOut_14 : decode prog_7_method_12_code 14 = .ok (.iconst (-1), 1) := by decide +kernel
theorem dY_writeOut_15 : decode prog_7_method_12_code 15 = .ok (.iload_n 2, 1) := by decide +kernel
theorem dY_writeOut_16 : decode prog_7_method_12_code 16 = .ok (.isub, 1) := by decide +kernel
theorem dY_writeOut_17 : decode prog_7_method_12_code 17 = .ok (.istore_n 3, 1) := by decide +kernel
theorem dY_writeOut_18 : decode prog_7_method_12_code 18 = .ok (.aload_n 0, 1) := by decide +kernel
theorem dY_writeOut_19 : decode prog_7_method_12_code 19 = .ok (.getfield 28, 3) := by decide +kernel
theorem dY_writeOut_22 : decode prog_7_method_12_code 22 = .ok (.iload_n 3, 1) := by decide +kernel
theorem dY_writeOut_23 : decode prog_7_method_12_code 23 = .ok (.aload_n 0, 1) := by decide +kernel
theorem dY_writeOut_24 : decode prog_7_method_12_code 24 = .ok (.getfield 28, 3) := by decide +kernel
theorem dY_writeOut_27 : decode prog_7_method_12_code 27 = .ok (.iload_n 3, 1) := by decide +kernel
theorem dY_writeOut_28 : decode prog_7_method_12_code 28 = .ok (.iaload, 1) := by decide +kernel
theorem dY_writeOut_29 : decode prog_7_method_12_code 29 = .ok (.iconst (-1), 1) := by decide +kernel
theorem dY_writeOut_30 : decode prog_7_method_12_code 30 = .ok (.if_icmp .ne 16, 3) := by decide +kernel
theorem dY_writeOut_33 : decode prog_7_method_12_code 33 = .ok (.aload_n 0, 1) := by decide +kernel
theorem dY_writeOut_34 : decode prog_7_method_12_code 34 = .ok (.getfield 12, 3) := by decide +kernel
theorem dY_writeOut_37 : decode prog_7_method_12_code 37 = .ok (.iconst (-1), 1) := by decide +kernel
theorem dY_writeOut_38 : decode prog_7_method_12_code 38 = .ok (.iconst (-1), 1) := by decide +kernel
theorem dY_writeOut_39 : decode prog_7_method_12_code 39 = .ok (.iconst (-1), 1) := by decide +kernel
theorem dY_writeOut_40 : decode prog_7_method_12_code 40 = .ok (.invokevirtual 114, 3) := by decide +kernel
theorem dY_writeOut_43 : decode prog_7_method_12_code 43 = .ok (.goto 9, 3) := by decide +kernel
theorem dY_writeOut_46 : decode prog_7_method_12_code 46 = .ok (.aload_n 0, 1) := by decide +kernel
theorem dY_writeOut_47 : decode prog_7_method_12_code 47 = .ok (.getfield 28, 3) := by decide +kernel
theorem dY_writeOut_50 : decode prog_7_method_12_code 50 = .ok (.iload_n 3, 1) := by decide +kernel
theorem dY_writeOut_51 : decode prog_7_method_12_code 51 = .ok (.iaload, 1) := by decide +kernel
theorem dY_writeOut_52 : decode prog_7_method_12_code 52 = .ok (.iastore, 1) := by decide +kernel
theorem dY_writeOut_53 : decode prog_7_method_12_code 53 = .ok (.aload_n 0, 1) := by decide +kernel
theorem dY_writeOut_54 : decode prog_7_method_12_code 54 = .ok (.getfield 28, 3) := by decide +kernel
theorem dY_writeOut_57 : decode prog_7_method_12_code 57 = .ok (.iload_n 3, 1) := by decide +kernel
theorem dY_writeOut_58 : decode prog_7_method_12_code 58 = .ok (.iaload, 1) := by decide +kernel
theorem dY_writeOut_59 : decode prog_7_method_12_code 59 = .ok (.ireturn, 1) := by decide +kernel
theorem dY_writeOut_60 : decode prog_7_method_12_code 60 = .ok (.aload_n 0, 1) := by decide +kernel
theorem dY_writeOut_61 : decode prog_7_method_12_code 61 = .ok (.getfield 31, 3) := by decide +kernel
theorem dY_writeOut_64 : decode prog_7_method_12_code 64 = .ok (.getfield 153, 3) := by decide +kernel
theorem dY_writeOut_67 : decode prog_7_method_12_code 67 = .ok (.iload_n 1, 1) := by decide +kernel
theorem dY_writeOut_68 : decode prog_7_method_12_code 68 = .ok (.iaload, 1) := by decide +kernel
theorem dY_writeOut_69 : decode prog_7_method_12_code 69 = .ok (.istore_n 3, 1) := by decide +kernel
theorem dY_writeOut_70 : decode prog_7_method_12_code 70 = .ok (.aload_n 0, 1) := by decide +kernel
theorem dY_writeOut_71 : decode prog_7_method_12_code 71 = .ok (.getfield 31, 3) := by decide +kernel
theorem dY_writeOut_74 : decode prog_7_method_12_code 74 = .ok (.getfield 156, 3) := by decide +kernel
theorem dY_writeOut_77 : decode prog_7_method_12_code 77 = .ok (.iload_n 1, 1) := by decide +kernel
theorem dY_writeOut_78 : decode prog_7_method_12_code 78 = .ok (.iaload, 1) := by decide +kernel
theorem dY_writeOut_79 : decode prog_7_method_12_code 79 = .ok (.istore 4, 2) := by decide +kernel
theorem dY_writeOut_81 : decode prog_7_method_12_code 81 = .ok (.iload_n 3, 1) := by decide +kernel
theorem dY_writeOut_82 : decode prog_7_method_12_code 82 = .ok (.iconst (-1), 1) := by decide +kernel
theorem dY_writeOut_83 : decode prog_7_method_12_code 83 = .ok (.if_icmp .ne 7, 3) := by decide +kernel
theorem dY_writeOut_86 : decode prog_7_method_12_code 86 = .ok (.iconst (-1), 1) := by decide +kernel
theorem dY_writeOut_87 : decode prog_7_method_12_code 87 = .ok (.goto 8, 3) := by decide +kernel
theorem dY_writeOut_90 : decode prog_7_method_12_code 90 = .ok (.aload_n 0, 1) := by decide +kernel
theorem dY_writeOut_91 : decode prog_7_method_12_code 91 = .ok (.iload_n 3, 1) := by decide +kernel
theorem dY_writeOut_92 : decode prog_7_method_12_code 92 = .ok (.invokevirtual 145, 3) := by decide +kernel
theorem dY_writeOut_95 : decode prog_7_method_12_code 95 = .ok (.istore 5, 2) := by decide +kernel
theorem dY_writeOut_97 : decode prog_7_method_12_code 97 = .ok (.iload 4, 2) := by decide +kernel
theorem dY_writeOut_99 : decode prog_7_method_12_code 99 = .ok (.iconst (-1), 1) := by decide +kernel
theorem dY_writeOut_100 : decode prog_7_method_12_code 100 = .ok (.if_icmp .ne 7, 3) := by decide +kernel
theorem dY_writeOut_103 : decode prog_7_method_12_code 103 = .ok (.iconst (-1), 1) := by decide +kernel
theorem dY_writeOut_104 : decode prog_7_method_12_code 104 = .ok (.goto 9, 3) := by decide +kernel
theorem dY_writeOut_107 : decode prog_7_method_12_code 107 = .ok (.aload_n 0, 1) := by decide +kernel
theorem dY_writeOut_108 : decode prog_7_method_12_code 108 = .ok (.iload 4, 2) := by decide +kernel
theorem dY_writeOut_110 : decode prog_7_method_12_code 110 = .ok (.invokevirtual 145, 3) := by decide +kernel
theorem dY_writeOut_113 : decode prog_7_method_12_code 113 = .ok (.istore 6, 2) := by decide +kernel
theorem dY_writeOut_115 : decode prog_7_method_12_code 115 = .ok (.aload_n 0, 1) := by decide +kernel
theorem dY_writeOut_116 : decode prog_7_method_12_code 116 = .ok (.getfield 12, 3) := by decide +kernel
theorem dY_writeOut_119 : decode prog_7_method_12_code 119 = .ok (.iload_n 2, 1) := by decide +kernel
theorem dY_writeOut_120 : decode prog_7_method_12_code 120 = .ok (.iload 5, 2) := by decide +kernel
theorem dY_writeOut_122 : decode prog_7_method_12_code 122 = .ok (.iload 6, 2) := by decide +kernel
theorem dY_writeOut_124 : decode prog_7_method_12_code 124 = .ok (.invokevirtual 114, 3) := by decide +kernel
theorem dY_writeOut_127 : decode prog_7_method_12_code 127 = .ok (.ireturn, 1) := by decide +kernel
theorem dY_settle_0 : decode prog_7_method_13_code 0 = .ok (.aload_n 0, 1) := by decide +kernel
theorem dY_settle_1 : decode prog_7_method_13_code 1 = .ok (.dup, 1) := by decide +kernel
theorem dY_settle_2 : decode prog_7_method_13_code 2 = .ok (.getfield 159, 3) := by decide +kernel
theorem dY_settle_5 : decode prog_7_method_13_code 5 = .ok (.iconst 1, 1) := by decide +kernel
theorem dY_settle_6 : decode prog_7_method_13_code 6 = .ok (.iadd, 1) := by decide +kernel
theorem dY_settle_7 : decode prog_7_method_13_code 7 = .ok (.putfield 159, 3) := by decide +kernel
theorem dY_settle_10 : decode prog_7_method_13_code 10 = .ok (.aload_n 0, 1) := by decide +kernel
theorem dY_settle_11 : decode prog_7_method_13_code 11 = .ok (.invokevirtual 162, 3) := by decide +kernel
theorem dY_settle_14 : decode prog_7_method_13_code 14 = .ok (.aload_n 0, 1) := by decide +kernel
theorem dY_settle_15 : decode prog_7_method_13_code 15 = .ok (.iload_n 2, 1) := by decide +kernel
theorem dY_settle_16 : decode prog_7_method_13_code 16 = .ok (.invokevirtual 165, 3) := by decide +kernel
theorem dY_settle_19 : decode prog_7_method_13_code 19 = .ok (.aload_n 0, 1) := by decide +kernel
theorem dY_settle_20 : decode prog_7_method_13_code 20 = .ok (.iload_n 1, 1) := by decide +kernel
theorem dY_settle_21 : decode prog_7_method_13_code 21 = .ok (.invokevirtual 169, 3) := by decide +kernel
theorem dY_settle_24 : decode prog_7_method_13_code 24 = .ok (.iconst 0, 1) := by decide +kernel
theorem dY_settle_25 : decode prog_7_method_13_code 25 = .ok (.istore_n 3, 1) := by decide +kernel
theorem dY_settle_26 : decode prog_7_method_13_code 26 = .ok (.aload_n 0, 1) := by decide +kernel
theorem dY_settle_27 : decode prog_7_method_13_code 27 = .ok (.getfield 12, 3) := by decide +kernel
theorem dY_settle_30 : decode prog_7_method_13_code 30 = .ok (.getfield 172, 3) := by decide +kernel
theorem dY_settle_33 : decode prog_7_method_13_code 33 = .ok (.iconst 1, 1) := by decide +kernel
theorem dY_settle_34 : decode prog_7_method_13_code 34 = .ok (.isub, 1) := by decide +kernel
theorem dY_settle_35 : decode prog_7_method_13_code 35 = .ok (.istore 4, 2) := by decide +kernel
theorem dY_settle_37 : decode prog_7_method_13_code 37 = .ok (.iload 4, 2) := by decide +kernel
theorem dY_settle_39 : decode prog_7_method_13_code 39 = .ok (.ifCond .lt 87, 3) := by decide +kernel
theorem dY_settle_42 : decode prog_7_method_13_code 42 = .ok (.aload_n 0, 1) := by decide +kernel
theorem dY_settle_43 : decode prog_7_method_13_code 43 = .ok (.getfield 12, 3) := by decide +kernel
theorem dY_settle_46 : decode prog_7_method_13_code 46 = .ok (.getfield 175, 3) := by decide +kernel
theorem dY_settle_49 : decode prog_7_method_13_code 49 = .ok (.iload 4, 2) := by decide +kernel
theorem dY_settle_51 : decode prog_7_method_13_code 51 = .ok (.iaload, 1) := by decide +kernel
theorem dY_settle_52 : decode prog_7_method_13_code 52 = .ok (.istore 5, 2) := by decide +kernel
theorem dY_settle_54 : decode prog_7_method_13_code 54 = .ok (.aload_n 0, 1) := by decide +kernel
theorem dY_settle_55 : decode prog_7_method_13_code 55 = .ok (.getfield 12, 3) := by decide +kernel
theorem dY_settle_58 : decode prog_7_method_13_code 58 = .ok (.getfield 178, 3) := by decide +kernel
theorem dY_settle_61 : decode prog_7_method_13_code 61 = .ok (.iload 5, 2) := by decide +kernel
theorem dY_settle_63 : decode prog_7_method_13_code 63 = .ok (.iaload, 1) := by decide +kernel
theorem dY_settle_64 : decode prog_7_method_13_code 64 = .ok (.ifCond .ne 6, 3) := by decide +kernel
theorem dY_settle_67 : decode prog_7_method_13_code 67 = .ok (.goto 53, 3) := by decide +kernel
theorem dY_settle_70 : decode prog_7_method_13_code 70 = .ok (.aload_n 0, 1) := by decide +kernel
theorem dY_settle_71 : decode prog_7_method_13_code 71 = .ok (.getfield 12, 3) := by decide +kernel
theorem dY_settle_74 : decode prog_7_method_13_code 74 = .ok (.iload 5, 2) := by decide +kernel
theorem dY_settle_76 : decode prog_7_method_13_code 76 = .ok (.invokevirtual 181, 3) := by decide +kernel
theorem dY_settle_79 : decode prog_7_method_13_code 79 = .ok (.ifCond .eq 25, 3) := by decide +kernel
theorem dY_settle_82 : decode prog_7_method_13_code 82 = .ok (.iload_n 3, 1) := by decide +kernel
theorem dY_settle_83 : decode prog_7_method_13_code 83 = .ok (.aload_n 0, 1) := by decide +kernel
theorem dY_settle_84 : decode prog_7_method_13_code 84 = .ok (.iload 5, 2) := by decide +kernel
theorem dY_settle_86 : decode prog_7_method_13_code 86 = .ok (.aload_n 0, 1) := by decide +kernel
theorem dY_settle_87 : decode prog_7_method_13_code 87 = .ok (.getfield 12, 3) := by decide +kernel
theorem dY_settle_90 : decode prog_7_method_13_code 90 = .ok (.getfield 178, 3) := by decide +kernel
theorem dY_settle_93 : decode prog_7_method_13_code 93 = .ok (.iload 5, 2) := by decide +kernel
theorem dY_settle_95 : decode prog_7_method_13_code 95 = .ok (.iaload, 1) := by decide +kernel
theorem dY_settle_96 : decode prog_7_method_13_code 96 = .ok (.invokevirtual 185, 3) := by decide +kernel
theorem dY_settle_99 : decode prog_7_method_13_code 99 = .ok (.iadd, 1) := by decide +kernel
theorem dY_settle_100 : decode prog_7_method_13_code 100 = .ok (.istore_n 3, 1) := by decide +kernel
theorem dY_settle_101 : decode prog_7_method_13_code 101 = .ok (.goto 19, 3) := by decide +kernel
theorem dY_settle_104 : decode prog_7_method_13_code 104 = .ok (.aload_n 0, 1) := by decide +kernel
theorem dY_settle_105 : decode prog_7_method_13_code 105 = .ok (.iload 5, 2) := by decide +kernel
theorem dY_settle_107 : decode prog_7_method_13_code 107 = .ok (.aload_n 0, 1) := by decide +kernel
theorem dY_settle_108 : decode prog_7_method_13_code 108 = .ok (.getfield 12, 3) := by decide +kernel
theorem dY_settle_111 : decode prog_7_method_13_code 111 = .ok (.getfield 178, 3) := by decide +kernel
theorem dY_settle_114 : decode prog_7_method_13_code 114 = .ok (.iload 5, 2) := by decide +kernel
theorem dY_settle_116 : decode prog_7_method_13_code 116 = .ok (.iaload, 1) := by decide +kernel
theorem dY_settle_117 : decode prog_7_method_13_code 117 = .ok (.invokevirtual 188, 3) := by decide +kernel
theorem dY_settle_120 : decode prog_7_method_13_code 120 = .ok (.iinc 4 (-1), 3) := by decide +kernel
theorem dY_settle_123 : decode prog_7_method_13_code 123 = .ok (.goto (-86), 3) := by decide +kernel
theorem dY_settle_126 : decode prog_7_method_13_code 126 = .ok (.iload_n 3, 1) := by decide +kernel
theorem dY_settle_127 : decode prog_7_method_13_code 127 = .ok (.ireturn, 1) := by decide +kernel
