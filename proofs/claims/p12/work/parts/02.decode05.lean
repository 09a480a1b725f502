theorem dD_addBuilt_0 : decode prog_5_method_4_code 0 = .ok (.aload_n 0, 1) := by decide +kernel
theorem dD_addBuilt_1 : decode prog_5_method_4_code 1 = .ok (.getfield 28, 3) := by decide +kernel
theorem dD_addBuilt_4 : decode prog_5_method_4_code 4 = .ok (.aload_n 0, 1) := by decide +kernel
theorem dD_addBuilt_5 : decode prog_5_method_4_code 5 = .ok (.getfield 9, 3) := by decide +kernel
theorem dD_addBuilt_8 : decode prog_5_method_4_code 8 = .ok (.arraylength, 1) := by decide +kernel
theorem dD_addBuilt_9 : decode prog_5_method_4_code 9 = .ok (.if_icmp .ge 71, 3) := by decide +kernel
theorem dD_addBuilt_12 : decode prog_5_method_4_code 12 = .ok (.aload_n 0, 1) := by decide +kernel
theorem dD_addBuilt_13 : decode prog_5_method_4_code 13 = .ok (.getfield 9, 3) := by decide +kernel
theorem dD_addBuilt_16 : decode prog_5_method_4_code 16 = .ok (.aload_n 0, 1) := by decide +kernel
theorem dD_addBuilt_17 : decode prog_5_method_4_code 17 = .ok (.getfield 28, 3) := by decide +kernel
theorem dD_addBuilt_20 : decode prog_5_method_4_code 20 = .ok (.iload_n 1, 1) := by decide +kernel
theorem dD_addBuilt_21 : decode prog_5_method_4_code 21 = .ok (.iastore, 1) := by decide +kernel
theorem dD_addBuilt_22 : decode prog_5_method_4_code 22 = .ok (.aload_n 0, 1) := by decide +kernel
theorem dD_addBuilt_23 : decode prog_5_method_4_code 23 = .ok (.getfield 15, 3) := by decide +kernel
theorem dD_addBuilt_26 : decode prog_5_method_4_code 26 = .ok (.aload_n 0, 1) := by decide +kernel
theorem dD_addBuilt_27 : decode prog_5_method_4_code 27 = .ok (.getfield 28, 3) := by decide +kernel
theorem dD_addBuilt_30 : decode prog_5_method_4_code 30 = .ok (.iload_n 2, 1) := by decide +kernel
theorem dD_addBuilt_31 : decode prog_5_method_4_code 31 = .ok (.iastore, 1) := by decide +kernel
theorem dD_addBuilt_32 : decode prog_5_method_4_code 32 = .ok (.aload_n 0, 1) := by decide +kernel
theorem dD_addBuilt_33 : decode prog_5_method_4_code 33 = .ok (.getfield 18, 3) := by decide +kernel
theorem dD_addBuilt_36 : decode prog_5_method_4_code 36 = .ok (.aload_n 0, 1) := by decide +kernel
theorem dD_addBuilt_37 : decode prog_5_method_4_code 37 = .ok (.getfield 28, 3) := by decide +kernel
theorem dD_addBuilt_40 : decode prog_5_method_4_code 40 = .ok (.iload_n 3, 1) := by decide +kernel
theorem dD_addBuilt_41 : decode prog_5_method_4_code 41 = .ok (.iastore, 1) := by decide +kernel
theorem dD_addBuilt_42 : decode prog_5_method_4_code 42 = .ok (.aload_n 0, 1) := by decide +kernel
theorem dD_addBuilt_43 : decode prog_5_method_4_code 43 = .ok (.getfield 21, 3) := by decide +kernel
theorem dD_addBuilt_46 : decode prog_5_method_4_code 46 = .ok (.aload_n 0, 1) := by decide +kernel
theorem dD_addBuilt_47 : decode prog_5_method_4_code 47 = .ok (.getfield 28, 3) := by decide +kernel
theorem dD_addBuilt_50 : decode prog_5_method_4_code 50 = .ok (.lconst 1, 1) := by decide +kernel
theorem dD_addBuilt_51 : decode prog_5_method_4_code 51 = .ok (.aload_n 0, 1) := by decide +kernel
theorem dD_addBuilt_52 : decode prog_5_method_4_code 52 = .ok (.iload_n 2, 1) := by decide +kernel
theorem dD_addBuilt_53 : decode prog_5_method_4_code 53 = .ok (.invokevirtual 51, 3) := by decide +kernel
theorem dD_addBuilt_56 : decode prog_5_method_4_code 56 = .ok (.ladd, 1) := by decide +kernel
theorem dD_addBuilt_57 : decode prog_5_method_4_code 57 = .ok (.aload_n 0, 1) := by decide +kernel
theorem dD_addBuilt_58 : decode prog_5_method_4_code 58 = .ok (.iload_n 3, 1) := by decide +kernel
theorem dD_addBuilt_59 : decode prog_5_method_4_code 59 = .ok (.invokevirtual 51, 3) := by decide +kernel
theorem dD_addBuilt_62 : decode prog_5_method_4_code 62 = .ok (.ladd, 1) := by decide +kernel
theorem dD_addBuilt_63 : decode prog_5_method_4_code 63 = .ok (.ldc2_w 55, 3) := by decide +kernel
theorem dD_addBuilt_66 : decode prog_5_method_4_code 66 = .ok (.invokestatic 57, 3) := by decide +kernel
theorem dD_addBuilt_69 : decode prog_5_method_4_code 69 = .ok (.lastore, 1) := by decide +kernel
theorem dD_addBuilt_70 : decode prog_5_method_4_code 70 = .ok (.aload_n 0, 1) := by decide +kernel
theorem dD_addBuilt_71 : decode prog_5_method_4_code 71 = .ok (.dup, 1) := by decide +kernel
theorem dD_addBuilt_72 : decode prog_5_method_4_code 72 = .ok (.getfield 28, 3) := by decide +kernel
theorem dD_addBuilt_75 : decode prog_5_method_4_code 75 = .ok (.iconst 1, 1) := by decide +kernel
theorem dD_addBuilt_76 : decode prog_5_method_4_code 76 = .ok (.iadd, 1) := by decide +kernel
theorem dD_addBuilt_77 : decode prog_5_method_4_code 77 = .ok (.putfield 28, 3) := by decide +kernel
theorem dD_addBuilt_80 : decode prog_5_method_4_code 80 = .ok (.return_, 1) := by decide +kernel
theorem dD_sizeOf_0 : decode prog_5_method_5_code 0 = .ok (.iload_n 1, 1) := by decide +kernel
theorem dD_sizeOf_1 : decode prog_5_method_5_code 1 = .ok (.iconst (-1), 1) := by decide +kernel
theorem dD_sizeOf_2 : decode prog_5_method_5_code 2 = .ok (.if_icmp .ne 7, 3) := by decide +kernel
theorem dD_sizeOf_5 : decode prog_5_method_5_code 5 = .ok (.lconst 0, 1) := by decide +kernel
theorem dD_sizeOf_6 : decode prog_5_method_5_code 6 = .ok (.goto 9, 3) := by decide +kernel
theorem dD_sizeOf_9 : decode prog_5_method_5_code 9 = .ok (.aload_n 0, 1) := by decide +kernel
theorem dD_sizeOf_10 : decode prog_5_method_5_code 10 = .ok (.getfield 21, 3) := by decide +kernel
theorem dD_sizeOf_13 : decode prog_5_method_5_code 13 = .ok (.iload_n 1, 1) := by decide +kernel
theorem dD_sizeOf_14 : decode prog_5_method_5_code 14 = .ok (.laload, 1) := by decide +kernel
theorem dD_sizeOf_15 : decode prog_5_method_5_code 15 = .ok (.lreturn, 1) := by decide +kernel
theorem dD_nodes_0 : decode prog_5_method_6_code 0 = .ok (.aload_n 0, 1) := by decide +kernel
theorem dD_nodes_1 : decode prog_5_method_6_code 1 = .ok (.getfield 28, 3) := by decide +kernel
theorem dD_nodes_4 : decode prog_5_method_6_code 4 = .ok (.ifCond .ne 7, 3) := by decide +kernel
theorem dD_nodes_7 : decode prog_5_method_6_code 7 = .ok (.iconst 0, 1) := by decide +kernel
theorem dD_nodes_8 : decode prog_5_method_6_code 8 = .ok (.goto 21, 3) := by decide +kernel
theorem dD_nodes_11 : decode prog_5_method_6_code 11 = .ok (.aload_n 0, 1) := by decide +kernel
theorem dD_nodes_12 : decode prog_5_method_6_code 12 = .ok (.getfield 21, 3) := by decide +kernel
theorem dD_nodes_15 : decode prog_5_method_6_code 15 = .ok (.aload_n 0, 1) := by decide +kernel
theorem dD_nodes_16 : decode prog_5_method_6_code 16 = .ok (.getfield 28, 3) := by decide +kernel
theorem dD_nodes_19 : decode prog_5_method_6_code 19 = .ok (.iconst 1, 1) := by decide +kernel
theorem dD_nodes_20 : decode prog_5_method_6_code 20 = .ok (.isub, 1) := by decide +kernel
theorem dD_nodes_21 : decode prog_5_method_6_code 21 = .ok (.laload, 1) := by decide +kernel
theorem dD_nodes_22 : decode prog_5_method_6_code 22 = .ok (.ldc2_w 63, 3) := by decide +kernel
theorem dD_nodes_25 : decode prog_5_method_6_code 25 = .ok (.invokestatic 57, 3) := by decide +kernel
theorem dD_nodes_28 : decode prog_5_method_6_code 28 = .ok (.l2i, 1) := by decide +kernel
theorem dD_nodes_29 : decode prog_5_method_6_code 29 = .ok (.ireturn, 1) := by decide +kernel
theorem dD_headAt_0 : decode prog_5_method_7_code 0 = .ok (.iload_n 1, 1) := by decide +kernel
theorem dD_headAt_1 : decode prog_5_method_7_code 1 = .ok (.ifCond .lt 27, 3) := by decide +kernel
theorem dD_headAt_4 : decode prog_5_method_7_code 4 = .ok (.aload_n 0, 1) := by decide +kernel
theorem dD_headAt_5 : decode prog_5_method_7_code 5 = .ok (.getfield 28, 3) := by decide +kernel
theorem dD_headAt_8 : decode prog_5_method_7_code 8 = .ok (.ifCond .eq 20, 3) := by decide +kernel
theorem dD_headAt_11 : decode prog_5_method_7_code 11 = .ok (.iload_n 1, 1) := by decide +kernel
theorem dD_headAt_12 : decode prog_5_method_7_code 12 = .ok (.i2l, 1) := by decide +kernel
theorem dD_headAt_13 : decode prog_5_method_7_code 13 = .ok (.aload_n 0, 1) := by decide +kernel
theorem dD_headAt_14 : decode prog_5_method_7_code 14 = .ok (.getfield 21, 3) := by decide +kernel
theorem dD_headAt_17 : decode prog_5_method_7_code 17 = .ok (.aload_n 0, 1) := by decide +kernel
theorem dD_headAt_18 : decode prog_5_method_7_code 18 = .ok (.getfield 28, 3) := by decide +kernel
theorem dD_headAt_21 : decode prog_5_method_7_code 21 = .ok (.iconst 1, 1) := by decide +kernel
theorem dD_headAt_22 : decode prog_5_method_7_code 22 = .ok (.isub, 1) := by decide +kernel
theorem dD_headAt_23 : decode prog_5_method_7_code 23 = .ok (.laload, 1) := by decide +kernel
theorem dD_headAt_24 : decode prog_5_method_7_code 24 = .ok (.lcmp, 1) := by decide +kernel
theorem dD_headAt_25 : decode prog_5_method_7_code 25 = .ok (.ifCond .lt 6, 3) := by decide +kernel
theorem dD_headAt_28 : decode prog_5_method_7_code 28 = .ok (.bipush (-100), 2) := by decide +kernel
theorem dD_headAt_30 : decode prog_5_method_7_code 30 = .ok (.ireturn, 1) := by decide +kernel
theorem dD_headAt_31 : decode prog_5_method_7_code 31 = .ok (.aload_n 0, 1) := by decide +kernel
theorem dD_headAt_32 : decode prog_5_method_7_code 32 = .ok (.getfield 28, 3) := by decide +kernel
theorem dD_headAt_35 : decode prog_5_method_7_code 35 = .ok (.iconst 1, 1) := by decide +kernel
theorem dD_headAt_36 : decode prog_5_method_7_code 36 = .ok (.isub, 1) := by decide +kernel
theorem dD_headAt_37 : decode prog_5_method_7_code 37 = .ok (.istore_n 2, 1) := by decide +kernel
theorem dD_headAt_38 : decode prog_5_method_7_code 38 = .ok (.iload_n 1, 1) := by decide +kernel
theorem dD_headAt_39 : decode prog_5_method_7_code 39 = .ok (.istore_n 3, 1) := by decide +kernel
theorem dD_headAt_40 : decode prog_5_method_7_code 40 = .ok (.iconst 0, 1) := by decide +kernel
theorem dD_headAt_41 : decode prog_5_method_7_code 41 = .ok (.istore 4, 2) := by decide +kernel
theorem dD_headAt_43 : decode prog_5_method_7_code 43 = .ok (.iload_n 3, 1) := by decide +kernel
theorem dD_headAt_44 : decode prog_5_method_7_code 44 = .ok (.ifCond .le 64, 3) := by decide +kernel
theorem dD_headAt_47 : decode prog_5_method_7_code 47 = .ok (.iload 4, 2) := by decide +kernel
theorem dD_headAt_49 : decode prog_5_method_7_code 49 = .ok (.aload_n 0, 1) := by decide +kernel
theorem dD_headAt_50 : decode prog_5_method_7_code 50 = .ok (.getfield 28, 3) := by decide +kernel
theorem dD_headAt_53 : decode prog_5_method_7_code 53 = .ok (.if_icmp .ge 55, 3) := by decide +kernel
theorem dD_headAt_56 : decode prog_5_method_7_code 56 = .ok (.iinc 3 (-1), 3) := by decide +kernel
theorem dD_headAt_59 : decode prog_5_method_7_code 59 = .ok (.aload_n 0, 1) := by decide +kernel
theorem dD_headAt_60 : decode prog_5_method_7_code 60 = .ok (.aload_n 0, 1) := by decide +kernel
theorem dD_headAt_61 : decode prog_5_method_7_code 61 = .ok (.getfield 15, 3) := by decide +kernel
theorem dD_headAt_64 : decode prog_5_method_7_code 64 = .ok (.iload_n 2, 1) := by decide +kernel
theorem dD_headAt_65 : decode prog_5_method_7_code 65 = .ok (.iaload, 1) := by decide +kernel
theorem dD_headAt_66 : decode prog_5_method_7_code 66 = .ok (.invokevirtual 51, 3) := by decide +kernel
theorem dD_headAt_69 : decode prog_5_method_7_code 69 = .ok (.lstore 5, 2) := by decide +kernel
theorem dD_headAt_71 : decode prog_5_method_7_code 71 = .ok (.iload_n 3, 1) := by decide +kernel
theorem dD_headAt_72 : decode prog_5_method_7_code 72 = .ok (.i2l, 1) := by decide +kernel
theorem dD_headAt_73 : decode prog_5_method_7_code 73 = .ok (.lload 5, 2) := by decide +kernel
theorem dD_headAt_75 : decode prog_5_method_7_code 75 = .ok (.lcmp, 1) := by decide +kernel
theorem dD_headAt_76 : decode prog_5_method_7_code 76 = .ok (.ifCond .ge 13, 3) := by decide +kernel
theorem dD_headAt_79 : decode prog_5_method_7_code 79 = .ok (.aload_n 0, 1) := by decide +kernel
theorem dD_headAt_80 : decode prog_5_method_7_code 80 = .ok (.getfield 15, 3) := by decide +kernel
theorem dD_headAt_83 : decode prog_5_method_7_code 83 = .ok (.iload_n 2, 1) := by decide +kernel
theorem dD_headAt_84 : decode prog_5_method_7_code 84 = .ok (.iaload, 1) := by decide +kernel
theorem dD_headAt_85 : decode prog_5_method_7_code 85 = .ok (.istore_n 2, 1) := by decide +kernel
theorem dD_headAt_86 : decode prog_5_method_7_code 86 = .ok (.goto 16, 3) := by decide +kernel
theorem dD_headAt_89 : decode prog_5_method_7_code 89 = .ok (.iload_n 3, 1) := by decide +kernel
theorem dD_headAt_90 : decode prog_5_method_7_code 90 = .ok (.lload 5, 2) := by decide +kernel
theorem dD_headAt_92 : decode prog_5_method_7_code 92 = .ok (.l2i, 1) := by decide +kernel
theorem dD_headAt_93 : decode prog_5_method_7_code 93 = .ok (.isub, 1) := by decide +kernel
theorem dD_headAt_94 : decode prog_5_method_7_code 94 = .ok (.istore_n 3, 1) := by decide +kernel
theorem dD_headAt_95 : decode prog_5_method_7_code 95 = .ok (.aload_n 0, 1) := by decide +kernel
theorem dD_headAt_96 : decode prog_5_method_7_code 96 = .ok (.getfield 18, 3) := by decide +kernel
theorem dD_headAt_99 : decode prog_5_method_7_code 99 = .ok (.iload_n 2, 1) := by decide +kernel
theorem dD_headAt_100 : decode prog_5_method_7_code 100 = .ok (.iaload, 1) := by decide +kernel
theorem dD_headAt_101 : decode prog_5_method_7_code 101 = .ok (.istore_n 2, 1) := by decide +kernel
theorem dD_headAt_102 : decode prog_5_method_7_code 102 = .ok (.iinc 4 1, 3) := by decide +kernel
theorem dD_headAt_105 : decode prog_5_method_7_code 105 = .ok (.goto (-62), 3) := by decide +kernel
theorem dD_headAt_108 : decode prog_5_method_7_code 108 = .ok (.aload_n 0, 1) := by decide +kernel
theorem dD_headAt_109 : decode prog_5_method_7_code 109 = .ok (.getfield 9, 3) := by decide +kernel
theorem dD_headAt_112 : decode prog_5_method_7_code 112 = .ok (.iload_n 2, 1) := by decide +kernel
theorem dD_headAt_113 : decode prog_5_method_7_code 113 = .ok (.iaload, 1) := by decide +kernel
theorem dD_headAt_114 : decode prog_5_method_7_code 114 = .ok (.ireturn, 1) := by decide +kernel
theorem dD_wantCount_0 : decode prog_5_method_8_code 0 = .ok (.aload_n 0, 1) := by decide +kernel
theorem dD_wantCount_1 : decode prog_5_method_8_code 1 = .ok (.getfield 35, 3) := by decide +kernel
theorem dD_wantCount_4 : decode prog_5_method_8_code 4 = .ok (.ireturn, 1) := by decide +kernel
theorem dD_handedOver_0 : decode prog_5_method_9_code 0 = .ok (.aload_n 0, 1) := by decide +kernel
theorem dD_handedOver_1 : decode prog_5_method_9_code 1 = .ok (.getfield 38, 3) := by decide +kernel
theorem dD_handedOver_4 : decode prog_5_method_9_code 4 = .ok (.ireturn, 1) := by decide +kernel
theorem dD_wantAt_0 : decode prog_5_method_10_code 0 = .ok (.iload_n 1, 1) := by decide +kernel
theorem dD_wantAt_1 : decode prog_5_method_10_code 1 = .ok (.istore_n 3, 1) := by decide +kernel
theorem dD_wantAt_2 : decode prog_5_method_10_code 2 = .ok (.iconst 0, 1) := by decide +kernel
theorem dD_wantAt_3 : decode prog_5_method_10_code 3 = .ok (.istore 4, 2) := by decide +kernel
theorem dD_wantAt_5 : decode prog_5_method_10_code 5 = .ok (.iload 4, 2) := by decide +kernel
theorem dD_wantAt_7 : decode prog_5_method_10_code 7 = .ok (.aload_n 0, 1) := by decide +kernel
theorem dD_wantAt_8 : decode prog_5_method_10_code 8 = .ok (.getfield 32, 3) := by decide +kernel
theorem dD_wantAt_11 : decode prog_5_method_10_code 11 = .ok (.if_icmp .ge 62, 3) := by decide +kernel
theorem dD_wantAt_14 : decode prog_5_method_10_code 14 = .ok (.iconst 0, 1) := by decide +kernel
theorem dD_wantAt_15 : decode prog_5_method_10_code 15 = .ok (.istore 5, 2) := by decide +kernel
theorem dD_wantAt_17 : decode prog_5_method_10_code 17 = .ok (.iload 5, 2) := by decide +kernel
theorem dD_wantAt_19 : decode prog_5_method_10_code 19 = .ok (.bipush 8, 2) := by decide +kernel
theorem dD_wantAt_21 : decode prog_5_method_10_code 21 = .ok (.if_icmp .ge 46, 3) := by decide +kernel
theorem dD_wantAt_24 : decode prog_5_method_10_code 24 = .ok (.aload_n 0, 1) := by decide +kernel
theorem dD_wantAt_25 : decode prog_5_method_10_code 25 = .ok (.getfield 25, 3) := by decide +kernel
theorem dD_wantAt_28 : decode prog_5_method_10_code 28 = .ok (.iload 4, 2) := by decide +kernel
theorem dD_wantAt_30 : decode prog_5_method_10_code 30 = .ok (.iaload, 1) := by decide +kernel
theorem dD_wantAt_31 : decode prog_5_method_10_code 31 = .ok (.iconst 1, 1) := by decide +kernel
theorem dD_wantAt_32 : decode prog_5_method_10_code 32 = .ok (.iload 5, 2) := by decide +kernel
theorem dD_wantAt_34 : decode prog_5_method_10_code 34 = .ok (.ishl, 1) := by decide +kernel
theorem dD_wantAt_35 : decode prog_5_method_10_code 35 = .ok (.iand, 1) := by decide +kernel
theorem dD_wantAt_36 : decode prog_5_method_10_code 36 = .ok (.ifCond .ne 6, 3) := by decide +kernel
theorem dD_wantAt_39 : decode prog_5_method_10_code 39 = .ok (.goto 22, 3) := by decide +kernel
theorem dD_wantAt_42 : decode prog_5_method_10_code 42 = .ok (.iload_n 3, 1) := by decide +kernel
theorem dD_wantAt_43 : decode prog_5_method_10_code 43 = .ok (.ifCond .ne 15, 3) := by decide +kernel
theorem dD_wantAt_46 : decode prog_5_method_10_code 46 = .ok (.iload_n 2, 1) := by decide +kernel
theorem dD_wantAt_47 : decode prog_5_method_10_code 47 = .ok (.ifCond .ne 8, 3) := by decide +kernel
theorem dD_wantAt_50 : decode prog_5_method_10_code 50 = .ok (.iload 5, 2) := by decide +kernel
theorem dD_wantAt_52 : decode prog_5_method_10_code 52 = .ok (.goto 5, 3) := by decide +kernel
theorem dD_wantAt_55 : decode prog_5_method_10_code 55 = .ok (.iload 4, 2) := by decide +kernel
theorem dD_wantAt_57 : decode prog_5_method_10_code 57 = .ok (.ireturn, 1) := by decide +kernel
theorem dD_wantAt_58 : decode prog_5_method_10_code 58 = .ok (.iinc 3 (-1), 3) := by decide +kernel
theorem dD_wantAt_61 : decode prog_5_method_10_code 61 = .ok (.iinc 5 1, 3) := by decide +kernel
theorem dD_wantAt_64 : decode prog_5_method_10_code 64 = .ok (.goto (-47), 3) := by decide +kernel
theorem dD_wantAt_67 : decode prog_5_method_10_code 67 = .ok (.iinc 4 1, 3) := by decide +kernel
theorem dD_wantAt_70 : decode prog_5_method_10_code 70 = .ok (.goto (-65), 3) := by decide +kernel
theorem dD_wantAt_73 : decode prog_5_method_10_code 73 = .ok (.iconst (-1), 1) := by decide +kernel
theorem dD_wantAt_74 : decode prog_5_method_10_code 74 = .ok (.ireturn, 1) := by decide +kernel
theorem dM_init_0 : decode prog_9_method_1_code 0 = .ok (.aload_n 0, 1) := by decide +kernel
theorem dM_init_1 : decode prog_9_method_1_code 1 = .ok (.invokespecial 1, 3) := by decide +kernel
theorem dM_init_4 : decode prog_9_method_1_code 4 = .ok (.aload_n 0, 1) := by decide +kernel
theorem dM_init_5 : decode prog_9_method_1_code 5 = .ok (.iconst 1, 1) := by decide +kernel
theorem dM_init_6 : decode prog_9_method_1_code 6 = .ok (.putfield 7, 3) := by decide +kernel
theorem dM_init_9 : decode prog_9_method_1_code 9 = .ok (.aload_n 0, 1) := by decide +kernel
theorem dM_init_10 : decode prog_9_method_1_code 10 = .ok (.bipush 8, 2) := by decide +kernel
theorem dM_init_12 : decode prog_9_method_1_code 12 = .ok (.newarray .int, 2) := by decide +kernel
theorem dM_init_14 : decode prog_9_method_1_code 14 = .ok (.putfield 13, 3) := by decide +kernel
theorem dM_init_17 : decode prog_9_method_1_code 17 = .ok (.aload_n 0, 1) := by decide +kernel
theorem dM_init_18 : decode prog_9_method_1_code 18 = .ok (.bipush 60, 2) := by decide +kernel
theorem dM_init_20 : decode prog_9_method_1_code 20 = .ok (.newarray .int, 2) := by decide +kernel
theorem dM_init_22 : decode prog_9_method_1_code 22 = .ok (.putfield 17, 3) := by decide +kernel
theorem dM_init_25 : decode prog_9_method_1_code 25 = .ok (.aload_n 0, 1) := by decide +kernel
theorem dM_init_26 : decode prog_9_method_1_code 26 = .ok (.bipush 60, 2) := by decide +kernel
theorem dM_init_28 : decode prog_9_method_1_code 28 = .ok (.newarray .int, 2) := by decide +kernel
theorem dM_init_30 : decode prog_9_method_1_code 30 = .ok (.putfield 20, 3) := by decide +kernel
theorem dM_init_33 : decode prog_9_method_1_code 33 = .ok (.aload_n 0, 1) := by decide +kernel
theorem dM_init_34 : decode prog_9_method_1_code 34 = .ok (.bipush 60, 2) := by decide +kernel
theorem dM_init_36 : decode prog_9_method_1_code 36 = .ok (.newarray .int, 2) := by decide +kernel
theorem dM_init_38 : decode prog_9_method_1_code 38 = .ok (.putfield 23, 3) := by decide +kernel
theorem dM_init_41 : decode prog_9_method_1_code 41 = .ok (.aload_n 0, 1) := by decide +kernel
theorem dM_init_42 : decode prog_9_method_1_code 42 = .ok (.bipush 60, 2) := by decide +kernel
theorem dM_init_44 : decode prog_9_method_1_code 44 = .ok (.newarray .int, 2) := by decide +kernel
theorem dM_init_46 : decode prog_9_method_1_code 46 = .ok (.putfield 26, 3) := by decide +kernel
theorem dM_init_49 : decode prog_9_method_1_code 49 = .ok (.aload_n 0, 1) := by decide +kernel
theorem dM_init_50 : decode prog_9_method_1_code 50 = .ok (.bipush 8, 2) := by decide +kernel
theorem dM_init_52 : decode prog_9_method_1_code 52 = .ok (.newarray .int, 2) := by decide +kernel
theorem dM_init_54 : decode prog_9_method_1_code 54 = .ok (.putfield 29, 3) := by decide +kernel
theorem dM_init_57 : decode prog_9_method_1_code 57 = .ok (.aload_n 0, 1) := by decide +kernel
theorem dM_init_58 : decode prog_9_method_1_code 58 = .ok (.bipush 8, 2) := by decide +kernel
theorem dM_init_60 : decode prog_9_method_1_code 60 = .ok (.newarray .int, 2) := by decide +kernel
theorem dM_init_62 : decode prog_9_method_1_code 62 = .ok (.putfield 32, 3) := by decide +kernel
theorem dM_init_65 : decode prog_9_method_1_code 65 = .ok (.aload_n 0, 1) := by decide +kernel
theorem dM_init_66 : decode prog_9_method_1_code 66 = .ok (.bipush 64, 2) := by decide +kernel
theorem dM_init_68 : decode prog_9_method_1_code 68 = .ok (.newarray .boolean, 2) := by decide +kernel
theorem dM_init_70 : decode prog_9_method_1_code 70 = .ok (.putfield 35, 3) := by decide +kernel
theorem dM_init_73 : decode prog_9_method_1_code 73 = .ok (.aload_n 0, 1) := by decide +kernel
theorem dM_init_74 : decode prog_9_method_1_code 74 = .ok (.bipush 64, 2) := by decide +kernel
theorem dM_init_76 : decode prog_9_method_1_code 76 = .ok (.newarray .int, 2) := by decide +kernel
theorem dM_init_78 : decode prog_9_method_1_code 78 = .ok (.putfield 39, 3) := by decide +kernel
theorem dM_init_81 : decode prog_9_method_1_code 81 = .ok (.aload_n 0, 1) := by decide +kernel
theorem dM_init_82 : decode prog_9_method_1_code 82 = .ok (.bipush 64, 2) := by decide +kernel
theorem dM_init_84 : decode prog_9_method_1_code 84 = .ok (.newarray .int, 2) := by decide +kernel
theorem dM_init_86 : decode prog_9_method_1_code 86 = .ok (.putfield 42, 3) := by decide +kernel
theorem dM_init_89 : decode prog_9_method_1_code 89 = .ok (.aload_n 0, 1) := by decide +kernel
theorem dM_init_90 : decode prog_9_method_1_code 90 = .ok (.bipush 120, 2) := by decide +kernel
theorem dM_init_92 : decode prog_9_method_1_code 92 = .ok (.newarray .int, 2) := by decide +kernel
theorem dM_init_94 : decode prog_9_method_1_code 94 = .ok (.putfield 45, 3) := by decide +kernel
theorem dM_init_97 : decode prog_9_method_1_code 97 = .ok (.aload_n 0, 1) := by decide +kernel
theorem dM_init_98 : decode prog_9_method_1_code 98 = .ok (.bipush 120, 2) := by decide +kernel
theorem dM_init_100 : decode prog_9_method_1_code 100 = .ok (.newarray .int, 2) := by decide +kernel
theorem dM_init_102 : decode prog_9_method_1_code 102 = .ok (.putfield 48, 3) := by decide +kernel
theorem dM_init_105 : decode prog_9_method_1_code 105 = .ok (.aload_n 0, 1) := by decide +kernel
theorem dM_init_106 : decode prog_9_method_1_code 106 = .ok (.bipush 120, 2) := by decide +kernel
theorem dM_init_108 : decode prog_9_method_1_code 108 = .ok (.newarray .int, 2) := by decide +kernel
theorem dM_init_110 : decode prog_9_method_1_code 110 = .ok (.putfield 51, 3) := by decide +kernel
theorem dM_init_113 : decode prog_9_method_1_code 113 = .ok (.aload_n 0, 1) := by decide +kernel
theorem dM_init_114 : decode prog_9_method_1_code 114 = .ok (.bipush 120, 2) := by decide +kernel
theorem dM_init_116 : decode prog_9_method_1_code 116 = .ok (.newarray .int, 2) := by decide +kernel
theorem dM_init_118 : decode prog_9_method_1_code 118 = .ok (.putfield 54, 3) := by decide +kernel
theorem dM_init_121 : decode prog_9_method_1_code 121 = .ok (.aload_n 0, 1) := by decide +kernel
theorem dM_init_122 : decode prog_9_method_1_code 122 = .ok (.bipush 120, 2) := by decide +kernel
theorem dM_init_124 : decode prog_9_method_1_code 124 = .ok (.newarray .int, 2) := by decide +kernel
theorem dM_init_126 : decode prog_9_method_1_code 126 = .ok (.putfield 57, 3) := by decide +kernel
theorem dM_init_129 : decode prog_9_method_1_code 129 = .ok (.aload_n 0, 1) := by decide +kernel
theorem dM_init_130 : decode prog_9_method_1_code 130 = .ok (.bipush 25, 2) := by decide +kernel
theorem dM_init_132 : decode prog_9_method_1_code 132 = .ok (.newarray .int, 2) := by decide +kernel
theorem dM_init_134 : decode prog_9_method_1_code 134 = .ok (.putfield 60, 3) := by decide +kernel
theorem dM_init_137 : decode prog_9_method_1_code 137 = .ok (.aload_n 0, 1) := by decide +kernel
theorem dM_init_138 : decode prog_9_method_1_code 138 = .ok (.bipush 25, 2) := by decide +kernel
theorem dM_init_140 : decode prog_9_method_1_code 140 = .ok (.newarray .int, 2) := by decide +kernel
theorem dM_init_142 : decode prog_9_method_1_code 142 = .ok (.putfield 63, 3) := by decide +kernel
theorem dM_init_145 : decode prog_9_method_1_code 145 = .ok (.aload_n 0, 1) := by decide +kernel
theorem dM_init_146 : decode prog_9_method_1_code 146 = .ok (.bipush 25, 2) := by decide +kernel
theorem dM_init_148 : decode prog_9_method_1_code 148 = .ok (.newarray .int, 2) := by decide +kernel
theorem dM_init_150 : decode prog_9_method_1_code 150 = .ok (.putfield 66, 3) := by decide +kernel
theorem dM_init_153 : decode prog_9_method_1_code 153 = .ok (.aload_n 0, 1) := by decide +kernel
theorem dM_init_154 : decode prog_9_method_1_code 154 = .ok (.bipush 25, 2) := by decide +kernel
theorem dM_init_156 : decode prog_9_method_1_code 156 = .ok (.newarray .int, 2) := by decide +kernel
theorem dM_init_158 : decode prog_9_method_1_code 158 = .ok (.putfield 69, 3) := by decide +kernel
theorem dM_init_161 : decode prog_9_method_1_code 161 = .ok (.aload_n 0, 1) := by decide +kernel
theorem dM_init_162 : decode prog_9_method_1_code 162 = .ok (.bipush 25, 2) := by decide +kernel
theorem dM_init_164 : decode prog_9_method_1_code 164 = .ok (.newarray .int, 2) := by decide +kernel
theorem dM_init_166 : decode prog_9_method_1_code 166 = .ok (.putfield 72, 3) := by decide +kernel
theorem dM_init_169 : decode prog_9_method_1_code 169 = .ok (.aload_n 0, 1) := by decide +kernel
theorem dM_init_170 : decode prog_9_method_1_code 170 = .ok (.bipush 25, 2) := by decide +kernel
theorem dM_init_172 : decode prog_9_method_1_code 172 = .ok (.newarray .int, 2) := by decide +kernel
theorem dM_init_174 : decode prog_9_method_1_code 174 = .ok (.putfield 75, 3) := by decide +kernel
theorem dM_init_177 : decode prog_9_method_1_code 177 = .ok (.aload_n 0, 1) := by decide +kernel
theorem dM_init_178 : decode prog_9_method_1_code 178 = .ok (.bipush 25, 2) := by decide +kernel
theorem dM_init_180 : decode prog_9_method_1_code 180 = .ok (.newarray .int, 2) := by decide +kernel
theorem dM_init_182 : decode prog_9_method_1_code 182 = .ok (.putfield 78, 3) := by decide +kernel
theorem dM_init_185 : decode prog_9_method_1_code 185 = .ok (.aload_n 0, 1) := by decide +kernel
theorem dM_init_186 : decode prog_9_method_1_code 186 = .ok (.bipush 25, 2) := by decide +kernel
theorem dM_init_188 : decode prog_9_method_1_code 188 = .ok (.newarray .int, 2) := by decide +kernel
theorem dM_init_190 : decode prog_9_method_1_code 190 = .ok (.putfield 81, 3) := by decide +kernel
theorem dM_init_193 : decode prog_9_method_1_code 193 = .ok (.aload_n 0, 1) := by decide +kernel
theorem dM_init_194 : decode prog_9_method_1_code 194 = .ok (.bipush 25, 2) := by decide +kernel
theorem dM_init_196 : decode prog_9_method_1_code 196 = .ok (.newarray .int, 2) := by decide +kernel
theorem dM_init_198 : decode prog_9_method_1_code 198 = .ok (.putfield 84, 3) := by decide +kernel
theorem dM_init_201 : decode prog_9_method_1_code 201 = .ok (.aload_n 0, 1) := by decide +kernel
theorem dM_init_202 : decode prog_9_method_1_code 202 = .ok (.bipush 25, 2) := by decide +kernel
theorem dM_init_204 : decode prog_9_method_1_code 204 = .ok (.newarray .int, 2) := by decide +kernel
theorem dM_init_206 : decode prog_9_method_1_code 206 = .ok (.putfield 87, 3) := by decide +kernel
theorem dM_init_209 : decode prog_9_method_1_code 209 = .ok (.aload_n 0, 1) := by decide +kernel
theorem dM_init_210 : decode prog_9_method_1_code 210 = .ok (.bipush 64, 2) := by decide +kernel
theorem dM_init_212 : decode prog_9_method_1_code 212 = .ok (.newarray .int, 2) := by decide +kernel
theorem dM_init_214 : decode prog_9_method_1_code 214 = .ok (.putfield 90, 3) := by decide +kernel
theorem dM_init_217 : decode prog_9_method_1_code 217 = .ok (.aload_n 0, 1) := by decide +kernel
theorem dM_init_218 : decode prog_9_method_1_code 218 = .ok (.bipush 25, 2) := by decide +kernel
theorem dM_init_220 : decode prog_9_method_1_code 220 = .ok (.newarray .int, 2) := by decide +kernel
theorem dM_init_222 : decode prog_9_method_1_code 222 = .ok (.putfield 93, 3) := by decide +kernel
theorem dM_init_225 : decode prog_9_method_1_code 225 = .ok (.aload_n 0, 1) := by decide +kernel
theorem dM_init_226 : decode prog_9_method_1_code 226 = .ok (.sipush 20000, 3) := by decide +kernel
theorem dM_init_229 : decode prog_9_method_1_code 229 = .ok (.newarray .int, 2) := by decide +kernel
theorem dM_init_231 : decode prog_9_method_1_code 231 = .ok (.putfield 96, 3) := by decide +kernel
theorem dM_init_234 : decode prog_9_method_1_code 234 = .ok (.aload_n 0, 1) := by decide +kernel
theorem dM_init_235 : decode prog_9_method_1_code 235 = .ok (.sipush 20000, 3) := by decide +kernel
theorem dM_init_238 : decode prog_9_method_1_code 238 = .ok (.newarray .int, 2) := by decide +kernel
theorem dM_init_240 : decode prog_9_method_1_code 240 = .ok (.putfield 99, 3) := by decide +kernel
theorem dM_init_243 : decode prog_9_method_1_code 243 = .ok (.aload_n 0, 1) := by decide +kernel
theorem dM_init_244 : decode prog_9_method_1_code 244 = .ok (.ldc 102, 2) := by decide +kernel
theorem dM_init_246 : decode prog_9_method_1_code 246 = .ok (.newarray .int, 2) := by decide +kernel
theorem dM_init_248 : decode prog_9_method_1_code 248 = .ok (.putfield 103, 3) := by decide +kernel
theorem dM_init_251 : decode prog_9_method_1_code 251 = .ok (.aload_n 0, 1) := by decide +kernel
theorem dM_init_252 : decode prog_9_method_1_code 252 = .ok (.ldc 102, 2) := by decide +kernel
theorem dM_init_254 : decode prog_9_method_1_code 254 = .ok (.newarray .int, 2) := by decide +kernel
theorem dM_init_256 : decode prog_9_method_1_code 256 = .ok (.putfield 106, 3) := by decide +kernel
theorem dM_init_259 : decode prog_9_method_1_code 259 = .ok (.aload_n 0, 1) := by decide +kernel
theorem dM_init_260 : decode prog_9_method_1_code 260 = .ok (.ldc 102, 2) := by decide +kernel
theorem dM_init_262 : decode prog_9_method_1_code 262 = .ok (.newarray .int, 2) := by decide +kernel
theorem dM_init_264 : decode prog_9_method_1_code 264 = .ok (.putfield 109, 3) := by decide +kernel
theorem dM_init_267 : decode prog_9_method_1_code 267 = .ok (.aload_n 0, 1) := by decide +kernel
theorem dM_init_268 : decode prog_9_method_1_code 268 = .ok (.ldc 102, 2) := by decide +kernel
theorem dM_init_270 : decode prog_9_method_1_code 270 = .ok (.newarray .int, 2) := by decide +kernel
theorem dM_init_272 : decode prog_9_method_1_code 272 = .ok (.putfield 112, 3) := by decide +kernel
theorem dM_init_275 : decode prog_9_method_1_code 275 = .ok (.aload_n 0, 1) := by decide +kernel
theorem dM_init_276 : decode prog_9_method_1_code 276 = .ok (.ldc 102, 2) := by decide +kernel
theorem dM_init_278 : decode prog_9_method_1_code 278 = .ok (.newarray .int, 2) := by decide +kernel
theorem dM_init_280 : decode prog_9_method_1_code 280 = .ok (.putfield 115, 3) := by decide +kernel
theorem dM_init_283 : decode prog_9_method_1_code 283 = .ok (.aload_n 0, 1) := by decide +kernel
theorem dM_init_284 : decode prog_9_method_1_code 284 = .ok (.ldc 102, 2) := by decide +kernel
theorem dM_init_286 : decode prog_9_method_1_code 286 = .ok (.newarray .int, 2) := by decide +kernel
theorem dM_init_288 : decode prog_9_method_1_code 288 = .ok (.putfield 118, 3) := by decide +kernel
theorem dM_init_291 : decode prog_9_method_1_code 291 = .ok (.aload_n 0, 1) := by decide +kernel
theorem dM_init_292 : decode prog_9_method_1_code 292 = .ok (.ldc 102, 2) := by decide +kernel
theorem dM_init_294 : decode prog_9_method_1_code 294 = .ok (.newarray .boolean, 2) := by decide +kernel
theorem dM_init_296 : decode prog_9_method_1_code 296 = .ok (.putfield 121, 3) := by decide +kernel
theorem dM_init_299 : decode prog_9_method_1_code 299 = .ok (.aload_n 0, 1) := by decide +kernel
theorem dM_init_300 : decode prog_9_method_1_code 300 = .ok (.ldc 102, 2) := by decide +kernel
theorem dM_init_302 : decode prog_9_method_1_code 302 = .ok (.newarray .int, 2) := by decide +kernel
theorem dM_init_304 : decode prog_9_method_1_code 304 = .ok (.putfield 124, 3) := by decide +kernel
theorem dM_init_307 : decode prog_9_method_1_code 307 = .ok (.aload_n 0, 1) := by decide +kernel
theorem dM_init_308 : decode prog_9_method_1_code 308 = .ok (.ldc 102, 2) := by decide +kernel
theorem dM_init_310 : decode prog_9_method_1_code 310 = .ok (.newarray .int, 2) := by decide +kernel
theorem dM_init_312 : decode prog_9_method_1_code 312 = .ok (.putfield 127, 3) := by decide +kernel
theorem dM_init_315 : decode prog_9_method_1_code 315 = .ok (.aload_n 0, 1) := by decide +kernel
theorem dM_init_316 : decode prog_9_method_1_code 316 = .ok (.ldc 130, 2) := by decide +kernel
theorem dM_init_318 : decode prog_9_method_1_code 318 = .ok (.newarray .int, 2) := by decide +kernel
theorem dM_init_320 : decode prog_9_method_1_code 320 = .ok (.putfield 131, 3) := by decide +kernel
theorem dM_init_323 : decode prog_9_method_1_code 323 = .ok (.aload_n 0, 1) := by decide +kernel
theorem dM_init_324 : decode prog_9_method_1_code 324 = .ok (.ldc 102, 2) := by decide +kernel
theorem dM_init_326 : decode prog_9_method_1_code 326 = .ok (.newarray .int, 2) := by decide +kernel
theorem dM_init_328 : decode prog_9_method_1_code 328 = .ok (.putfield 134, 3) := by decide +kernel
theorem dM_init_331 : decode prog_9_method_1_code 331 = .ok (.aload_n 0, 1) := by decide +kernel
theorem dM_init_332 : decode prog_9_method_1_code 332 = .ok (.bipush 60, 2) := by decide +kernel
theorem dM_init_334 : decode prog_9_method_1_code 334 = .ok (.newarray .int, 2) := by decide +kernel
theorem dM_init_336 : decode prog_9_method_1_code 336 = .ok (.putfield 137, 3) := by decide +kernel
theorem dM_init_339 : decode prog_9_method_1_code 339 = .ok (.aload_n 0, 1) := by decide +kernel
theorem dM_init_340 : decode prog_9_method_1_code 340 = .ok (.bipush 60, 2) := by decide +kernel
theorem dM_init_342 : decode prog_9_method_1_code 342 = .ok (.newarray .boolean, 2) := by decide +kernel
theorem dM_init_344 : decode prog_9_method_1_code 344 = .ok (.putfield 140, 3) := by decide +kernel
theorem dM_init_347 : decode prog_9_method_1_code 347 = .ok (.aload_n 0, 1) := by decide +kernel
theorem dM_init_348 : decode prog_9_method_1_code 348 = .ok (.sipush 20000, 3) := by decide +kernel
theorem dM_init_351 : decode prog_9_method_1_code 351 = .ok (.newarray .int, 2) := by decide +kernel
theorem dM_init_353 : decode prog_9_method_1_code 353 = .ok (.putfield 143, 3) := by decide +kernel
theorem dM_init_356 : decode prog_9_method_1_code 356 = .ok (.aload_n 0, 1) := by decide +kernel
theorem dM_init_357 : decode prog_9_method_1_code 357 = .ok (.sipush 20000, 3) := by decide +kernel
theorem dM_init_360 : decode prog_9_method_1_code 360 = .ok (.newarray .int, 2) := by decide +kernel
theorem dM_init_362 : decode prog_9_method_1_code 362 = .ok (.putfield 146, 3) := by decide +kernel
theorem dM_init_365 : decode prog_9_method_1_code 365 = .ok (.aload_n 0, 1) := by decide +kernel
theorem dM_init_366 : decode prog_9_method_1_code 366 = .ok (.ldc 102, 2) := by decide +kernel
theorem dM_init_368 : decode prog_9_method_1_code 368 = .ok (.newarray .int, 2) := by decide +kernel
theorem dM_init_370 : decode prog_9_method_1_code 370 = .ok (.putfield 149, 3) := by decide +kernel
theorem dM_init_373 : decode prog_9_method_1_code 373 = .ok (.aload_n 0, 1) := by decide +kernel
theorem dM_init_374 : decode prog_9_method_1_code 374 = .ok (.ldc 102, 2) := by decide +kernel
theorem dM_init_376 : decode prog_9_method_1_code 376 = .ok (.newarray .int, 2) := by decide +kernel
theorem dM_init_378 : decode prog_9_method_1_code 378 = .ok (.putfield 152, 3) := by decide +kernel
theorem dM_init_381 : decode prog_9_method_1_code 381 = .ok (.aload_n 0, 1) := by decide +kernel
theorem dM_init_382 : decode prog_9_method_1_code 382 = .ok (.ldc 102, 2) := by decide +kernel
theorem dM_init_384 : decode prog_9_method_1_code 384 = .ok (.newarray .int, 2) := by decide +kernel
theorem dM_init_386 : decode prog_9_method_1_code 386 = .ok (.putfield 155, 3) := by decide +kernel
theorem dM_init_389 : decode prog_9_method_1_code 389 = .ok (.aload_n 0, 1) := by decide +kernel
theorem dM_init_390 : decode prog_9_method_1_code 390 = .ok (.ldc 102, 2) := by decide +kernel
theorem dM_init_392 : decode prog_9_method_1_code 392 = .ok (.newarray .int, 2) := by decide +kernel
theorem dM_init_394 : decode prog_9_method_1_code 394 = .ok (.putfield 158, 3) := by decide +kernel
theorem dM_init_397 : decode prog_9_method_1_code 397 = .ok (.aload_n 0, 1) := by decide +kernel
theorem dM_init_398 : decode prog_9_method_1_code 398 = .ok (.sipush 20000, 3) := by decide +kernel
theorem dM_init_401 : decode prog_9_method_1_code 401 = .ok (.newarray .int, 2) := by decide +kernel
theorem dM_init_403 : decode prog_9_method_1_code 403 = .ok (.putfield 161, 3) := by decide +kernel
theorem dM_init_406 : decode prog_9_method_1_code 406 = .ok (.aload_n 0, 1) := by decide +kernel
theorem dM_init_407 : decode prog_9_method_1_code 407 = .ok (.sipush 20000, 3) := by decide +kernel
theorem dM_init_410 : decode prog_9_method_1_code 410 = .ok (.newarray .int, 2) := by decide +kernel
theorem dM_init_412 : decode prog_9_method_1_code 412 = .ok (.putfield 164, 3) := by decide +kernel
theorem dM_init_415 : decode prog_9_method_1_code 415 = .ok (.aload_n 0, 1) := by decide +kernel
theorem dM_init_416 : decode prog_9_method_1_code 416 = .ok (.ldc 102, 2) := by decide +kernel
theorem dM_init_418 : decode prog_9_method_1_code 418 = .ok (.newarray .int, 2) := by decide +kernel
theorem dM_init_420 : decode prog_9_method_1_code 420 = .ok (.putfield 167, 3) := by decide +kernel
theorem dM_init_423 : decode prog_9_method_1_code 423 = .ok (.aload_n 0, 1) := by decide +kernel
theorem dM_init_424 : decode prog_9_method_1_code 424 = .ok (.ldc 102, 2) := by decide +kernel
theorem dM_init_426 : decode prog_9_method_1_code 426 = .ok (.newarray .int, 2) := by decide +kernel
theorem dM_init_428 : decode prog_9_method_1_code 428 = .ok (.putfield 170, 3) := by decide +kernel
theorem dM_init_431 : decode prog_9_method_1_code 431 = .ok (.aload_n 0, 1) := by decide +kernel
theorem dM_init_432 : decode prog_9_method_1_code 432 = .ok (.ldc 102, 2) := by decide +kernel
theorem dM_init_434 : decode prog_9_method_1_code 434 = .ok (.newarray .int, 2) := by decide +kernel
theorem dM_init_436 : decode prog_9_method_1_code 436 = .ok (.putfield 173, 3) := by decide +kernel
theorem dM_init_439 : decode prog_9_method_1_code 439 = .ok (.aload_n 0, 1) := by decide +kernel
theorem dM_init_440 : decode prog_9_method_1_code 440 = .ok (.getfield 13, 3) := by decide +kernel
theorem dM_init_443 : decode prog_9_method_1_code 443 = .ok (.iconst 0, 1) := by decide +kernel
theorem dM_init_444 : decode prog_9_method_1_code 444 = .ok (.iconst 2, 1) := by decide +kernel
theorem dM_init_445 : decode prog_9_method_1_code 445 = .ok (.iastore, 1) := by decide +kernel
theorem dM_init_446 : decode prog_9_method_1_code 446 = .ok (.iconst 0, 1) := by decide +kernel
theorem dM_init_447 : decode prog_9_method_1_code 447 = .ok (.istore_n 1, 1) := by decide +kernel
theorem dM_init_448 : decode prog_9_method_1_code 448 = .ok (.iload_n 1, 1) := by decide +kernel
theorem dM_init_449 : decode prog_9_method_1_code 449 = .ok (.bipush 8, 2) := by decide +kernel
theorem dM_init_451 : decode prog_9_method_1_code 451 = .ok (.if_icmp .ge 16, 3) := by decide +kernel
theorem dM_init_454 : decode prog_9_method_1_code 454 = .ok (.aload_n 0, 1) := by decide +kernel
theorem dM_init_455 : decode prog_9_method_1_code 455 = .ok (.getfield 32, 3) := by decide +kernel
theorem dM_init_458 : decode prog_9_method_1_code 458 = .ok (.iload_n 1, 1) := by decide +kernel
theorem dM_init_459 : decode prog_9_method_1_code 459 = .ok (.iconst (-1), 1) := by decide +kernel
theorem dM_init_460 : decode prog_9_method_1_code 460 = .ok (.iastore, 1) := by decide +kernel
theorem dM_init_461 : decode prog_9_method_1_code 461 = .ok (.iinc 1 1, 3) := by decide +kernel
theorem dM_init_464 : decode prog_9_method_1_code 464 = .ok (.goto (-16), 3) := by decide +kernel
theorem dM_init_467 : decode prog_9_method_1_code 467 = .ok (.return_, 1) := by decide +kernel
theorem dM_in_0 : decode prog_9_method_3_code 0 = .ok (.iload_n 0, 1) := by decide +kernel
theorem dM_in_1 : decode prog_9_method_3_code 1 = .ok (.iload_n 1, 1) := by decide +kernel
theorem dM_in_2 : decode prog_9_method_3_code 2 = .ok (.if_icmp .lt 12, 3) := by decide +kernel
theorem dM_in_5 : decode prog_9_method_3_code 5 = .ok (.iload_n 0, 1) := by decide +kernel
theorem dM_in_6 : decode prog_9_method_3_code 6 = .ok (.iload_n 2, 1) := by decide +kernel
theorem dM_in_7 : decode prog_9_method_3_code 7 = .ok (.if_icmp .gt 7, 3) := by decide +kernel
theorem dM_in_10 : decode prog_9_method_3_code 10 = .ok (.iconst 1, 1) := by decide +kernel
theorem dM_in_11 : decode prog_9_method_3_code 11 = .ok (.goto 4, 3) := by decide +kernel
theorem dM_in_14 : decode prog_9_method_3_code 14 = .ok (.iconst 0, 1) := by decide +kernel
theorem dM_in_15 : decode prog_9_method_3_code 15 = .ok (.ireturn, 1) := by decide +kernel
theorem dM_constructor_0 : decode prog_9_method_4_code 0 = .ok (.aload_n 0, 1) := by decide +kernel
theorem dM_constructor_1 : decode prog_9_method_4_code 1 = .ok (.iconst 0, 1) := by decide +kernel
theorem dM_constructor_2 : decode prog_9_method_4_code 2 = .ok (.putfield 176, 3) := by decide +kernel
theorem dM_constructor_5 : decode prog_9_method_4_code 5 = .ok (.iload_n 1, 1) := by decide +kernel
theorem dM_constructor_6 : decode prog_9_method_4_code 6 = .ok (.iconst 0, 1) := by decide +kernel
theorem dM_constructor_7 : decode prog_9_method_4_code 7 = .ok (.iconst 2, 1) := by decide +kernel
theorem dM_constructor_8 : decode prog_9_method_4_code 8 = .ok (.invokestatic 179, 3) := by decide +kernel
theorem dM_constructor_11 : decode prog_9_method_4_code 11 = .ok (.ifCond .ne 5, 3) := by decide +kernel
theorem dM_constructor_14 : decode prog_9_method_4_code 14 = .ok (.iconst (-1), 1) := by decide +kernel
theorem dM_constructor_15 : decode prog_9_method_4_code 15 = .ok (.ireturn, 1) := by decide +kernel
theorem dM_constructor_16 : decode prog_9_method_4_code 16 = .ok (.aload_n 0, 1) := by decide +kernel
theorem dM_constructor_17 : decode prog_9_method_4_code 17 = .ok (.getfield 7, 3) := by decide +kernel
theorem dM_constructor_20 : decode prog_9_method_4_code 20 = .ok (.bipush 8, 2) := by decide +kernel
theorem dM_constructor_22 : decode prog_9_method_4_code 22 = .ok (.if_icmp .ne 6, 3) := by decide +kernel
theorem dM_constructor_25 : decode prog_9_method_4_code 25 = .ok (.bipush (-3), 2) := by decide +kernel
theorem dM_constructor_27 : decode prog_9_method_4_code 27 = .ok (.ireturn, 1) := by decide +kernel
theorem dM_constructor_28 : decode prog_9_method_4_code 28 = .ok (.aload_n 0, 1) := by decide +kernel
theorem dM_constructor_29 : decode prog_9_method_4_code 29 = .ok (.getfield 13, 3) := by decide +kernel
theorem dM_constructor_32 : decode prog_9_method_4_code 32 = .ok (.aload_n 0, 1) := by decide +kernel
theorem dM_constructor_33 : decode prog_9_method_4_code 33 = .ok (.getfield 7, 3) := by decide +kernel
theorem dM_constructor_36 : decode prog_9_method_4_code 36 = .ok (.iload_n 1, 1) := by decide +kernel
theorem dM_constructor_37 : decode prog_9_method_4_code 37 = .ok (.iastore, 1) := by decide +kernel
theorem dM_constructor_38 : decode prog_9_method_4_code 38 = .ok (.aload_n 0, 1) := by decide +kernel
theorem dM_constructor_39 : decode prog_9_method_4_code 39 = .ok (.dup, 1) := by decide +kernel
theorem dM_constructor_40 : decode prog_9_method_4_code 40 = .ok (.getfield 7, 3) := by decide +kernel
theorem dM_constructor_43 : decode prog_9_method_4_code 43 = .ok (.iconst 1, 1) := by decide +kernel
theorem dM_constructor_44 : decode prog_9_method_4_code 44 = .ok (.iadd, 1) := by decide +kernel
theorem dM_constructor_45 : decode prog_9_method_4_code 45 = .ok (.putfield 7, 3) := by decide +kernel
theorem dM_constructor_48 : decode prog_9_method_4_code 48 = .ok (.aload_n 0, 1) := by decide +kernel
theorem dM_constructor_49 : decode prog_9_method_4_code 49 = .ok (.getfield 7, 3) := by decide +kernel
theorem dM_constructor_52 : decode prog_9_method_4_code 52 = .ok (.iconst 1, 1) := by decide +kernel
theorem dM_constructor_53 : decode prog_9_method_4_code 53 = .ok (.isub, 1) := by decide +kernel
theorem dM_constructor_54 : decode prog_9_method_4_code 54 = .ok (.ireturn, 1) := by decide +kernel
theorem dM_keepType_0 : decode prog_9_method_5_code 0 = .ok (.iconst 0, 1) := by decide +kernel
theorem dM_keepType_1 : decode prog_9_method_5_code 1 = .ok (.istore 5, 2) := by decide +kernel
theorem dM_keepType_3 : decode prog_9_method_5_code 3 = .ok (.iload 5, 2) := by decide +kernel
theorem dM_keepType_5 : decode prog_9_method_5_code 5 = .ok (.aload_n 0, 1) := by decide +kernel
theorem dM_keepType_6 : decode prog_9_method_5_code 6 = .ok (.getfield 183, 3) := by decide +kernel
theorem dM_keepType_9 : decode prog_9_method_5_code 9 = .ok (.if_icmp .ge 45, 3) := by decide +kernel
theorem dM_keepType_12 : decode prog_9_method_5_code 12 = .ok (.aload_n 0, 1) := by decide +kernel
theorem dM_keepType_13 : decode prog_9_method_5_code 13 = .ok (.getfield 17, 3) := by decide +kernel
theorem dM_keepType_16 : decode prog_9_method_5_code 16 = .ok (.iload 5, 2) := by decide +kernel
theorem dM_keepType_18 : decode prog_9_method_5_code 18 = .ok (.iaload, 1) := by decide +kernel
theorem dM_keepType_19 : decode prog_9_method_5_code 19 = .ok (.iload_n 1, 1) := by decide +kernel
theorem dM_keepType_20 : decode prog_9_method_5_code 20 = .ok (.if_icmp .ne 28, 3) := by decide +kernel
theorem dM_keepType_23 : decode prog_9_method_5_code 23 = .ok (.aload_n 0, 1) := by decide +kernel
theorem dM_keepType_24 : decode prog_9_method_5_code 24 = .ok (.getfield 20, 3) := by decide +kernel
theorem dM_keepType_27 : decode prog_9_method_5_code 27 = .ok (.iload 5, 2) := by decide +kernel
theorem dM_keepType_29 : decode prog_9_method_5_code 29 = .ok (.iaload, 1) := by decide +kernel
theorem dM_keepType_30 : decode prog_9_method_5_code 30 = .ok (.iload_n 2, 1) := by decide +kernel
theorem dM_keepType_31 : decode prog_9_method_5_code 31 = .ok (.if_icmp .ne 17, 3) := by decide +kernel
theorem dM_keepType_34 : decode prog_9_method_5_code 34 = .ok (.aload_n 0, 1) := by decide +kernel
theorem dM_keepType_35 : decode prog_9_method_5_code 35 = .ok (.getfield 23, 3) := by decide +kernel
theorem dM_keepType_38 : decode prog_9_method_5_code 38 = .ok (.iload 5, 2) := by decide +kernel
theorem dM_keepType_40 : decode prog_9_method_5_code 40 = .ok (.iaload, 1) := by decide +kernel
theorem dM_keepType_41 : decode prog_9_method_5_code 41 = .ok (.iload_n 3, 1) := by decide +kernel
theorem dM_keepType_42 : decode prog_9_method_5_code 42 = .ok (.if_icmp .ne 6, 3) := by decide +kernel
theorem dM_keepType_45 : decode prog_9_method_5_code 45 = .ok (.iload 5, 2) := by decide +kernel
theorem dM_keepType_47 : decode prog_9_method_5_code 47 = .ok (.ireturn, 1) := by decide +kernel
theorem dM_keepType_48 : decode prog_9_method_5_code 48 = .ok (.iinc 5 1, 3) := by decide +kernel
theorem dM_keepType_51 : decode prog_9_method_5_code 51 = .ok (.goto (-48), 3) := by decide +kernel
theorem dM_keepType_54 : decode prog_9_method_5_code 54 = .ok (.aload_n 0, 1) := by decide +kernel
theorem dM_keepType_55 : decode prog_9_method_5_code 55 = .ok (.getfield 183, 3) := by decide +kernel
theorem dM_keepType_58 : decode prog_9_method_5_code 58 = .ok (.bipush 60, 2) := by decide +kernel
theorem dM_keepType_60 : decode prog_9_method_5_code 60 = .ok (.if_icmp .eq 10, 3) := by decide +kernel
theorem dM_keepType_63 : decode prog_9_method_5_code 63 = .ok (.iload 4, 2) := by decide +kernel
theorem dM_keepType_65 : decode prog_9_method_5_code 65 = .ok (.bipush 16, 2) := by decide +kernel
theorem dM_keepType_67 : decode prog_9_method_5_code 67 = .ok (.if_icmp .le 6, 3) := by decide +kernel
theorem dM_keepType_70 : decode prog_9_method_5_code 70 = .ok (.bipush (-3), 2) := by decide +kernel
theorem dM_keepType_72 : decode prog_9_method_5_code 72 = .ok (.ireturn, 1) := by decide +kernel
theorem dM_keepType_73 : decode prog_9_method_5_code 73 = .ok (.aload_n 0, 1) := by decide +kernel
theorem dM_keepType_74 : decode prog_9_method_5_code 74 = .ok (.getfield 17, 3) := by decide +kernel
theorem dM_keepType_77 : decode prog_9_method_5_code 77 = .ok (.aload_n 0, 1) := by decide +kernel
theorem dM_keepType_78 : decode prog_9_method_5_code 78 = .ok (.getfield 183, 3) := by decide +kernel
theorem dM_keepType_81 : decode prog_9_method_5_code 81 = .ok (.iload_n 1, 1) := by decide +kernel
theorem dM_keepType_82 : decode prog_9_method_5_code 82 = .ok (.iastore, 1) := by decide +kernel
theorem dM_keepType_83 : decode prog_9_method_5_code 83 = .ok (.aload_n 0, 1) := by decide +kernel
theorem dM_keepType_84 : decode prog_9_method_5_code 84 = .ok (.getfield 20, 3) := by decide +kernel
theorem dM_keepType_87 : decode prog_9_method_5_code 87 = .ok (.aload_n 0, 1) := by decide +kernel
theorem dM_keepType_88 : decode prog_9_method_5_code 88 = .ok (.getfield 183, 3) := by decide +kernel
theorem dM_keepType_91 : decode prog_9_method_5_code 91 = .ok (.iload_n 2, 1) := by decide +kernel
theorem dM_keepType_92 : decode prog_9_method_5_code 92 = .ok (.iastore, 1) := by decide +kernel
theorem dM_keepType_93 : decode prog_9_method_5_code 93 = .ok (.aload_n 0, 1) := by decide +kernel
theorem dM_keepType_94 : decode prog_9_method_5_code 94 = .ok (.getfield 23, 3) := by decide +kernel
theorem dM_keepType_97 : decode prog_9_method_5_code 97 = .ok (.aload_n 0, 1) := by decide +kernel
theorem dM_keepType_98 : decode prog_9_method_5_code 98 = .ok (.getfield 183, 3) := by decide +kernel
theorem dM_keepType_101 : decode prog_9_method_5_code 101 = .ok (.iload_n 3, 1) := by decide +kernel
theorem dM_keepType_102 : decode prog_9_method_5_code 102 = .ok (.iastore, 1) := by decide +kernel
theorem dM_keepType_103 : decode prog_9_method_5_code 103 = .ok (.aload_n 0, 1) := by decide +kernel
theorem dM_keepType_104 : decode prog_9_method_5_code 104 = .ok (.getfield 26, 3) := by decide +kernel
theorem dM_keepType_107 : decode prog_9_method_5_code 107 = .ok (.aload_n 0, 1) := by decide +kernel
theorem dM_keepType_108 : decode prog_9_method_5_code 108 = .ok (.getfield 183, 3) := by decide +kernel
theorem dM_keepType_111 : decode prog_9_method_5_code 111 = .ok (.iload 4, 2) := by decide +kernel
theorem dM_keepType_113 : decode prog_9_method_5_code 113 = .ok (.iastore, 1) := by decide +kernel
theorem dM_keepType_114 : decode prog_9_method_5_code 114 = .ok (.aload_n 0, 1) := by decide +kernel
theorem dM_keepType_115 : decode prog_9_method_5_code 115 = .ok (.dup, 1) := by decide +kernel
theorem dM_keepType_116 : decode prog_9_method_5_code 116 = .ok (.getfield 183, 3) := by decide +kernel
theorem dM_keepType_119 : decode prog_9_method_5_code 119 = .ok (.iconst 1, 1) := by decide +kernel
theorem dM_keepType_120 : decode prog_9_method_5_code 120 = .ok (.iadd, 1) := by decide +kernel
theorem dM_keepType_121 : decode prog_9_method_5_code 121 = .ok (.putfield 183, 3) := by decide +kernel
theorem dM_keepType_124 : decode prog_9_method_5_code 124 = .ok (.aload_n 0, 1) := by decide +kernel
theorem dM_keepType_125 : decode prog_9_method_5_code 125 = .ok (.getfield 183, 3) := by decide +kernel
theorem dM_keepType_128 : decode prog_9_method_5_code 128 = .ok (.iconst 1, 1) := by decide +kernel
theorem dM_keepType_129 : decode prog_9_method_5_code 129 = .ok (.isub, 1) := by decide +kernel
theorem dM_keepType_130 : decode prog_9_method_5_code 130 = .ok (.ireturn, 1) := by decide +kernel
theorem dM_variable_0 : decode prog_9_method_6_code 0 = .ok (.aload_n 0, 1) := by decide +kernel
theorem dM_variable_1 : decode prog_9_method_6_code 1 = .ok (.iconst 0, 1) := by decide +kernel
theorem dM_variable_2 : decode prog_9_method_6_code 2 = .ok (.putfield 176, 3) := by decide +kernel
theorem dM_variable_5 : decode prog_9_method_6_code 5 = .ok (.iload_n 1, 1) := by decide +kernel
theorem dM_variable_6 : decode prog_9_method_6_code 6 = .ok (.iconst 0, 1) := by decide +kernel
theorem dM_variable_7 : decode prog_9_method_6_code 7 = .ok (.bipush 7, 2) := by decide +kernel
theorem dM_variable_9 : decode prog_9_method_6_code 9 = .ok (.invokestatic 179, 3) := by decide +kernel
theorem dM_variable_12 : decode prog_9_method_6_code 12 = .ok (.ifCond .eq 16, 3) := by decide +kernel
theorem dM_variable_15 : decode prog_9_method_6_code 15 = .ok (.aload_n 0, 1) := by decide +kernel
theorem dM_variable_16 : decode prog_9_method_6_code 16 = .ok (.iconst (-1), 1) := by decide +kernel
theorem dM_variable_17 : decode prog_9_method_6_code 17 = .ok (.iload_n 1, 1) := by decide +kernel
theorem dM_variable_18 : decode prog_9_method_6_code 18 = .ok (.isub, 1) := by decide +kernel
theorem dM_variable_19 : decode prog_9_method_6_code 19 = .ok (.iconst (-1), 1) := by decide +kernel
theorem dM_variable_20 : decode prog_9_method_6_code 20 = .ok (.iconst (-1), 1) := by decide +kernel
theorem dM_variable_21 : decode prog_9_method_6_code 21 = .ok (.iconst 1, 1) := by decide +kernel
theorem dM_variable_22 : decode prog_9_method_6_code 22 = .ok (.invokevirtual 186, 3) := by decide +kernel
theorem dM_variable_25 : decode prog_9_method_6_code 25 = .ok (.goto 4, 3) := by decide +kernel
theorem dM_variable_28 : decode prog_9_method_6_code 28 = .ok (.iconst (-1), 1) := by decide +kernel
theorem dM_variable_29 : decode prog_9_method_6_code 29 = .ok (.ireturn, 1) := by decide +kernel
