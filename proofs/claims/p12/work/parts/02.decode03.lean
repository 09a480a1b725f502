theorem dY_markBound_0 : decode prog_7_method_14_code 0 = .ok (.aload_n 0, 1) := by decide +kernel
theorem dY_markBound_1 : decode prog_7_method_14_code 1 = .ok (.getfield 12, 3) := by decide +kernel
theorem dY_markBound_4 : decode prog_7_method_14_code 4 = .ok (.invokevirtual 191, 3) := by decide +kernel
theorem dY_markBound_7 : decode prog_7_method_14_code 7 = .ok (.iconst 0, 1) := by decide +kernel
theorem dY_markBound_8 : decode prog_7_method_14_code 8 = .ok (.istore_n 1, 1) := by decide +kernel
theorem dY_markBound_9 : decode prog_7_method_14_code 9 = .ok (.iload_n 1, 1) := by decide +kernel
theorem dY_markBound_10 : decode prog_7_method_14_code 10 = .ok (.aload_n 0, 1) := by decide +kernel
theorem dY_markBound_11 : decode prog_7_method_14_code 11 = .ok (.getfield 46, 3) := by decide +kernel
theorem dY_markBound_14 : decode prog_7_method_14_code 14 = .ok (.if_icmp .ge 32, 3) := by decide +kernel
theorem dY_markBound_17 : decode prog_7_method_14_code 17 = .ok (.aload_n 0, 1) := by decide +kernel
theorem dY_markBound_18 : decode prog_7_method_14_code 18 = .ok (.getfield 25, 3) := by decide +kernel
theorem dY_markBound_21 : decode prog_7_method_14_code 21 = .ok (.iload_n 1, 1) := by decide +kernel
theorem dY_markBound_22 : decode prog_7_method_14_code 22 = .ok (.iaload, 1) := by decide +kernel
theorem dY_markBound_23 : decode prog_7_method_14_code 23 = .ok (.iconst (-1), 1) := by decide +kernel
theorem dY_markBound_24 : decode prog_7_method_14_code 24 = .ok (.if_icmp .ne 16, 3) := by decide +kernel
theorem dY_markBound_27 : decode prog_7_method_14_code 27 = .ok (.aload_n 0, 1) := by decide +kernel
theorem dY_markBound_28 : decode prog_7_method_14_code 28 = .ok (.getfield 12, 3) := by decide +kernel
theorem dY_markBound_31 : decode prog_7_method_14_code 31 = .ok (.aload_n 0, 1) := by decide +kernel
theorem dY_markBound_32 : decode prog_7_method_14_code 32 = .ok (.getfield 22, 3) := by decide +kernel
theorem dY_markBound_35 : decode prog_7_method_14_code 35 = .ok (.iload_n 1, 1) := by decide +kernel
theorem dY_markBound_36 : decode prog_7_method_14_code 36 = .ok (.iaload, 1) := by decide +kernel
theorem dY_markBound_37 : decode prog_7_method_14_code 37 = .ok (.invokevirtual 194, 3) := by decide +kernel
theorem dY_markBound_40 : decode prog_7_method_14_code 40 = .ok (.iinc 1 1, 3) := by decide +kernel
theorem dY_markBound_43 : decode prog_7_method_14_code 43 = .ok (.goto (-34), 3) := by decide +kernel
theorem dY_markBound_46 : decode prog_7_method_14_code 46 = .ok (.iconst 0, 1) := by decide +kernel
theorem dY_markBound_47 : decode prog_7_method_14_code 47 = .ok (.istore_n 1, 1) := by decide +kernel
theorem dY_markBound_48 : decode prog_7_method_14_code 48 = .ok (.iload_n 1, 1) := by decide +kernel
theorem dY_markBound_49 : decode prog_7_method_14_code 49 = .ok (.aload_n 0, 1) := by decide +kernel
theorem dY_markBound_50 : decode prog_7_method_14_code 50 = .ok (.getfield 12, 3) := by decide +kernel
theorem dY_markBound_53 : decode prog_7_method_14_code 53 = .ok (.getfield 172, 3) := by decide +kernel
theorem dY_markBound_56 : decode prog_7_method_14_code 56 = .ok (.if_icmp .ge 30, 3) := by decide +kernel
theorem dY_markBound_59 : decode prog_7_method_14_code 59 = .ok (.aload_n 0, 1) := by decide +kernel
theorem dY_markBound_60 : decode prog_7_method_14_code 60 = .ok (.getfield 12, 3) := by decide +kernel
theorem dY_markBound_63 : decode prog_7_method_14_code 63 = .ok (.getfield 197, 3) := by decide +kernel
theorem dY_markBound_66 : decode prog_7_method_14_code 66 = .ok (.aload_n 0, 1) := by decide +kernel
theorem dY_markBound_67 : decode prog_7_method_14_code 67 = .ok (.getfield 12, 3) := by decide +kernel
theorem dY_markBound_70 : decode prog_7_method_14_code 70 = .ok (.getfield 175, 3) := by decide +kernel
theorem dY_markBound_73 : decode prog_7_method_14_code 73 = .ok (.iload_n 1, 1) := by decide +kernel
theorem dY_markBound_74 : decode prog_7_method_14_code 74 = .ok (.iaload, 1) := by decide +kernel
theorem dY_markBound_75 : decode prog_7_method_14_code 75 = .ok (.aload_n 0, 1) := by decide +kernel
theorem dY_markBound_76 : decode prog_7_method_14_code 76 = .ok (.getfield 159, 3) := by decide +kernel
theorem dY_markBound_79 : decode prog_7_method_14_code 79 = .ok (.iastore, 1) := by decide +kernel
theorem dY_markBound_80 : decode prog_7_method_14_code 80 = .ok (.iinc 1 1, 3) := by decide +kernel
theorem dY_markBound_83 : decode prog_7_method_14_code 83 = .ok (.goto (-35), 3) := by decide +kernel
theorem dY_markBound_86 : decode prog_7_method_14_code 86 = .ok (.return_, 1) := by decide +kernel
theorem dY_markOpen_0 : decode prog_7_method_15_code 0 = .ok (.aload_n 0, 1) := by decide +kernel
theorem dY_markOpen_1 : decode prog_7_method_15_code 1 = .ok (.getfield 12, 3) := by decide +kernel
theorem dY_markOpen_4 : decode prog_7_method_15_code 4 = .ok (.invokevirtual 191, 3) := by decide +kernel
theorem dY_markOpen_7 : decode prog_7_method_15_code 7 = .ok (.aload_n 0, 1) := by decide +kernel
theorem dY_markOpen_8 : decode prog_7_method_15_code 8 = .ok (.getfield 12, 3) := by decide +kernel
theorem dY_markOpen_11 : decode prog_7_method_15_code 11 = .ok (.iload_n 1, 1) := by decide +kernel
theorem dY_markOpen_12 : decode prog_7_method_15_code 12 = .ok (.invokevirtual 194, 3) := by decide +kernel
theorem dY_markOpen_15 : decode prog_7_method_15_code 15 = .ok (.iconst 0, 1) := by decide +kernel
theorem dY_markOpen_16 : decode prog_7_method_15_code 16 = .ok (.istore_n 2, 1) := by decide +kernel
theorem dY_markOpen_17 : decode prog_7_method_15_code 17 = .ok (.iload_n 2, 1) := by decide +kernel
theorem dY_markOpen_18 : decode prog_7_method_15_code 18 = .ok (.aload_n 0, 1) := by decide +kernel
theorem dY_markOpen_19 : decode prog_7_method_15_code 19 = .ok (.getfield 12, 3) := by decide +kernel
theorem dY_markOpen_22 : decode prog_7_method_15_code 22 = .ok (.getfield 172, 3) := by decide +kernel
theorem dY_markOpen_25 : decode prog_7_method_15_code 25 = .ok (.if_icmp .ge 110, 3) := by decide +kernel
theorem dY_markOpen_28 : decode prog_7_method_15_code 28 = .ok (.aload_n 0, 1) := by decide +kernel
theorem dY_markOpen_29 : decode prog_7_method_15_code 29 = .ok (.getfield 12, 3) := by decide +kernel
theorem dY_markOpen_32 : decode prog_7_method_15_code 32 = .ok (.getfield 175, 3) := by decide +kernel
theorem dY_markOpen_35 : decode prog_7_method_15_code 35 = .ok (.iload_n 2, 1) := by decide +kernel
theorem dY_markOpen_36 : decode prog_7_method_15_code 36 = .ok (.iaload, 1) := by decide +kernel
theorem dY_markOpen_37 : decode prog_7_method_15_code 37 = .ok (.istore_n 3, 1) := by decide +kernel
theorem dY_markOpen_38 : decode prog_7_method_15_code 38 = .ok (.aload_n 0, 1) := by decide +kernel
theorem dY_markOpen_39 : decode prog_7_method_15_code 39 = .ok (.getfield 12, 3) := by decide +kernel
theorem dY_markOpen_42 : decode prog_7_method_15_code 42 = .ok (.iload_n 3, 1) := by decide +kernel
theorem dY_markOpen_43 : decode prog_7_method_15_code 43 = .ok (.invokevirtual 181, 3) := by decide +kernel
theorem dY_markOpen_46 : decode prog_7_method_15_code 46 = .ok (.ifCond .eq 27, 3) := by decide +kernel
theorem dY_markOpen_49 : decode prog_7_method_15_code 49 = .ok (.aload_n 0, 1) := by decide +kernel
theorem dY_markOpen_50 : decode prog_7_method_15_code 50 = .ok (.getfield 12, 3) := by decide +kernel
theorem dY_markOpen_53 : decode prog_7_method_15_code 53 = .ok (.getfield 197, 3) := by decide +kernel
theorem dY_markOpen_56 : decode prog_7_method_15_code 56 = .ok (.iload_n 3, 1) := by decide +kernel
theorem dY_markOpen_57 : decode prog_7_method_15_code 57 = .ok (.iaload, 1) := by decide +kernel
theorem dY_markOpen_58 : decode prog_7_method_15_code 58 = .ok (.aload_n 0, 1) := by decide +kernel
theorem dY_markOpen_59 : decode prog_7_method_15_code 59 = .ok (.getfield 159, 3) := by decide +kernel
theorem dY_markOpen_62 : decode prog_7_method_15_code 62 = .ok (.if_icmp .eq 7, 3) := by decide +kernel
theorem dY_markOpen_65 : decode prog_7_method_15_code 65 = .ok (.iconst 1, 1) := by decide +kernel
theorem dY_markOpen_66 : decode prog_7_method_15_code 66 = .ok (.goto 42, 3) := by decide +kernel
theorem dY_markOpen_69 : decode prog_7_method_15_code 69 = .ok (.iconst 0, 1) := by decide +kernel
theorem dY_markOpen_70 : decode prog_7_method_15_code 70 = .ok (.goto 38, 3) := by decide +kernel
theorem dY_markOpen_73 : decode prog_7_method_15_code 73 = .ok (.aload_n 0, 1) := by decide +kernel
theorem dY_markOpen_74 : decode prog_7_method_15_code 74 = .ok (.aload_n 0, 1) := by decide +kernel
theorem dY_markOpen_75 : decode prog_7_method_15_code 75 = .ok (.getfield 12, 3) := by decide +kernel
theorem dY_markOpen_78 : decode prog_7_method_15_code 78 = .ok (.iload_n 3, 1) := by decide +kernel
theorem dY_markOpen_79 : decode prog_7_method_15_code 79 = .ok (.invokevirtual 200, 3) := by decide +kernel
theorem dY_markOpen_82 : decode prog_7_method_15_code 82 = .ok (.invokevirtual 203, 3) := by decide +kernel
theorem dY_markOpen_85 : decode prog_7_method_15_code 85 = .ok (.ifCond .ne 18, 3) := by decide +kernel
theorem dY_markOpen_88 : decode prog_7_method_15_code 88 = .ok (.aload_n 0, 1) := by decide +kernel
theorem dY_markOpen_89 : decode prog_7_method_15_code 89 = .ok (.aload_n 0, 1) := by decide +kernel
theorem dY_markOpen_90 : decode prog_7_method_15_code 90 = .ok (.getfield 12, 3) := by decide +kernel
theorem dY_markOpen_93 : decode prog_7_method_15_code 93 = .ok (.iload_n 3, 1) := by decide +kernel
theorem dY_markOpen_94 : decode prog_7_method_15_code 94 = .ok (.invokevirtual 206, 3) := by decide +kernel
theorem dY_markOpen_97 : decode prog_7_method_15_code 97 = .ok (.invokevirtual 203, 3) := by decide +kernel
theorem dY_markOpen_100 : decode prog_7_method_15_code 100 = .ok (.ifCond .eq 7, 3) := by decide +kernel
theorem dY_markOpen_103 : decode prog_7_method_15_code 103 = .ok (.iconst 1, 1) := by decide +kernel
theorem dY_markOpen_104 : decode prog_7_method_15_code 104 = .ok (.goto 4, 3) := by decide +kernel
theorem dY_markOpen_107 : decode prog_7_method_15_code 107 = .ok (.iconst 0, 1) := by decide +kernel
theorem dY_markOpen_108 : decode prog_7_method_15_code 108 = .ok (.istore 4, 2) := by decide +kernel
theorem dY_markOpen_110 : decode prog_7_method_15_code 110 = .ok (.aload_n 0, 1) := by decide +kernel
theorem dY_markOpen_111 : decode prog_7_method_15_code 111 = .ok (.getfield 12, 3) := by decide +kernel
theorem dY_markOpen_114 : decode prog_7_method_15_code 114 = .ok (.getfield 209, 3) := by decide +kernel
theorem dY_markOpen_117 : decode prog_7_method_15_code 117 = .ok (.iload_n 3, 1) := by decide +kernel
theorem dY_markOpen_118 : decode prog_7_method_15_code 118 = .ok (.iload 4, 2) := by decide +kernel
theorem dY_markOpen_120 : decode prog_7_method_15_code 120 = .ok (.ifCond .eq 7, 3) := by decide +kernel
theorem dY_markOpen_123 : decode prog_7_method_15_code 123 = .ok (.iconst 1, 1) := by decide +kernel
theorem dY_markOpen_124 : decode prog_7_method_15_code 124 = .ok (.goto 4, 3) := by decide +kernel
theorem dY_markOpen_127 : decode prog_7_method_15_code 127 = .ok (.iconst 0, 1) := by decide +kernel
theorem dY_markOpen_128 : decode prog_7_method_15_code 128 = .ok (.iastore, 1) := by decide +kernel
theorem dY_markOpen_129 : decode prog_7_method_15_code 129 = .ok (.iinc 2 1, 3) := by decide +kernel
theorem dY_markOpen_132 : decode prog_7_method_15_code 132 = .ok (.goto (-115), 3) := by decide +kernel
theorem dY_markOpen_135 : decode prog_7_method_15_code 135 = .ok (.return_, 1) := by decide +kernel
theorem dY_holdsOpen_0 : decode prog_7_method_16_code 0 = .ok (.iload_n 1, 1) := by decide +kernel
theorem dY_holdsOpen_1 : decode prog_7_method_16_code 1 = .ok (.iconst (-1), 1) := by decide +kernel
theorem dY_holdsOpen_2 : decode prog_7_method_16_code 2 = .ok (.if_icmp .eq 20, 3) := by decide +kernel
theorem dY_holdsOpen_5 : decode prog_7_method_16_code 5 = .ok (.aload_n 0, 1) := by decide +kernel
theorem dY_holdsOpen_6 : decode prog_7_method_16_code 6 = .ok (.getfield 12, 3) := by decide +kernel
theorem dY_holdsOpen_9 : decode prog_7_method_16_code 9 = .ok (.getfield 209, 3) := by decide +kernel
theorem dY_holdsOpen_12 : decode prog_7_method_16_code 12 = .ok (.iload_n 1, 1) := by decide +kernel
theorem dY_holdsOpen_13 : decode prog_7_method_16_code 13 = .ok (.iaload, 1) := by decide +kernel
theorem dY_holdsOpen_14 : decode prog_7_method_16_code 14 = .ok (.iconst 1, 1) := by decide +kernel
theorem dY_holdsOpen_15 : decode prog_7_method_16_code 15 = .ok (.if_icmp .ne 7, 3) := by decide +kernel
theorem dY_holdsOpen_18 : decode prog_7_method_16_code 18 = .ok (.iconst 1, 1) := by decide +kernel
theorem dY_holdsOpen_19 : decode prog_7_method_16_code 19 = .ok (.goto 4, 3) := by decide +kernel
theorem dY_holdsOpen_22 : decode prog_7_method_16_code 22 = .ok (.iconst 0, 1) := by decide +kernel
theorem dY_holdsOpen_23 : decode prog_7_method_16_code 23 = .ok (.ireturn, 1) := by decide +kernel
theorem dY_gatherAsked_0 : decode prog_7_method_17_code 0 = .ok (.aload_n 0, 1) := by decide +kernel
theorem dY_gatherAsked_1 : decode prog_7_method_17_code 1 = .ok (.getfield 12, 3) := by decide +kernel
theorem dY_gatherAsked_4 : decode prog_7_method_17_code 4 = .ok (.invokevirtual 191, 3) := by decide +kernel
theorem dY_gatherAsked_7 : decode prog_7_method_17_code 7 = .ok (.iload_n 1, 1) := by decide +kernel
theorem dY_gatherAsked_8 : decode prog_7_method_17_code 8 = .ok (.istore_n 2, 1) := by decide +kernel
theorem dY_gatherAsked_9 : decode prog_7_method_17_code 9 = .ok (.iload_n 2, 1) := by decide +kernel
theorem dY_gatherAsked_10 : decode prog_7_method_17_code 10 = .ok (.aload_n 0, 1) := by decide +kernel
theorem dY_gatherAsked_11 : decode prog_7_method_17_code 11 = .ok (.getfield 12, 3) := by decide +kernel
theorem dY_gatherAsked_14 : decode prog_7_method_17_code 14 = .ok (.getfield 128, 3) := by decide +kernel
theorem dY_gatherAsked_17 : decode prog_7_method_17_code 17 = .ok (.if_icmp .ge 29, 3) := by decide +kernel
theorem dY_gatherAsked_20 : decode prog_7_method_17_code 20 = .ok (.aload_n 0, 1) := by decide +kernel
theorem dY_gatherAsked_21 : decode prog_7_method_17_code 21 = .ok (.getfield 12, 3) := by decide +kernel
theorem dY_gatherAsked_24 : decode prog_7_method_17_code 24 = .ok (.getfield 136, 3) := by decide +kernel
theorem dY_gatherAsked_27 : decode prog_7_method_17_code 27 = .ok (.iload_n 2, 1) := by decide +kernel
theorem dY_gatherAsked_28 : decode prog_7_method_17_code 28 = .ok (.iaload, 1) := by decide +kernel
theorem dY_gatherAsked_29 : decode prog_7_method_17_code 29 = .ok (.ifCond .eq 11, 3) := by decide +kernel
theorem dY_gatherAsked_32 : decode prog_7_method_17_code 32 = .ok (.aload_n 0, 1) := by decide +kernel
theorem dY_gatherAsked_33 : decode prog_7_method_17_code 33 = .ok (.getfield 12, 3) := by decide +kernel
theorem dY_gatherAsked_36 : decode prog_7_method_17_code 36 = .ok (.iload_n 2, 1) := by decide +kernel
theorem dY_gatherAsked_37 : decode prog_7_method_17_code 37 = .ok (.invokevirtual 194, 3) := by decide +kernel
theorem dY_gatherAsked_40 : decode prog_7_method_17_code 40 = .ok (.iinc 2 1, 3) := by decide +kernel
theorem dY_gatherAsked_43 : decode prog_7_method_17_code 43 = .ok (.goto (-34), 3) := by decide +kernel
theorem dY_gatherAsked_46 : decode prog_7_method_17_code 46 = .ok (.iconst 0, 1) := by decide +kernel
theorem dY_gatherAsked_47 : decode prog_7_method_17_code 47 = .ok (.istore_n 2, 1) := by decide +kernel
theorem dY_gatherAsked_48 : decode prog_7_method_17_code 48 = .ok (.iload_n 2, 1) := by decide +kernel
theorem dY_gatherAsked_49 : decode prog_7_method_17_code 49 = .ok (.aload_n 0, 1) := by decide +kernel
theorem dY_gatherAsked_50 : decode prog_7_method_17_code 50 = .ok (.getfield 12, 3) := by decide +kernel
theorem dY_gatherAsked_53 : decode prog_7_method_17_code 53 = .ok (.getfield 172, 3) := by decide +kernel
theorem dY_gatherAsked_56 : decode prog_7_method_17_code 56 = .ok (.if_icmp .ge 27, 3) := by decide +kernel
theorem dY_gatherAsked_59 : decode prog_7_method_17_code 59 = .ok (.aload_n 0, 1) := by decide +kernel
theorem dY_gatherAsked_60 : decode prog_7_method_17_code 60 = .ok (.getfield 12, 3) := by decide +kernel
theorem dY_gatherAsked_63 : decode prog_7_method_17_code 63 = .ok (.getfield 178, 3) := by decide +kernel
theorem dY_gatherAsked_66 : decode prog_7_method_17_code 66 = .ok (.aload_n 0, 1) := by decide +kernel
theorem dY_gatherAsked_67 : decode prog_7_method_17_code 67 = .ok (.getfield 12, 3) := by decide +kernel
theorem dY_gatherAsked_70 : decode prog_7_method_17_code 70 = .ok (.getfield 175, 3) := by decide +kernel
theorem dY_gatherAsked_73 : decode prog_7_method_17_code 73 = .ok (.iload_n 2, 1) := by decide +kernel
theorem dY_gatherAsked_74 : decode prog_7_method_17_code 74 = .ok (.iaload, 1) := by decide +kernel
theorem dY_gatherAsked_75 : decode prog_7_method_17_code 75 = .ok (.iconst 0, 1) := by decide +kernel
theorem dY_gatherAsked_76 : decode prog_7_method_17_code 76 = .ok (.iastore, 1) := by decide +kernel
theorem dY_gatherAsked_77 : decode prog_7_method_17_code 77 = .ok (.iinc 2 1, 3) := by decide +kernel
theorem dY_gatherAsked_80 : decode prog_7_method_17_code 80 = .ok (.goto (-32), 3) := by decide +kernel
theorem dY_gatherAsked_83 : decode prog_7_method_17_code 83 = .ok (.iload_n 1, 1) := by decide +kernel
theorem dY_gatherAsked_84 : decode prog_7_method_17_code 84 = .ok (.istore_n 2, 1) := by decide +kernel
theorem dY_gatherAsked_85 : decode prog_7_method_17_code 85 = .ok (.iload_n 2, 1) := by decide +kernel
theorem dY_gatherAsked_86 : decode prog_7_method_17_code 86 = .ok (.aload_n 0, 1) := by decide +kernel
theorem dY_gatherAsked_87 : decode prog_7_method_17_code 87 = .ok (.getfield 12, 3) := by decide +kernel
theorem dY_gatherAsked_90 : decode prog_7_method_17_code 90 = .ok (.getfield 128, 3) := by decide +kernel
theorem dY_gatherAsked_93 : decode prog_7_method_17_code 93 = .ok (.if_icmp .ge 59, 3) := by decide +kernel
theorem dY_gatherAsked_96 : decode prog_7_method_17_code 96 = .ok (.aload_n 0, 1) := by decide +kernel
theorem dY_gatherAsked_97 : decode prog_7_method_17_code 97 = .ok (.getfield 12, 3) := by decide +kernel
theorem dY_gatherAsked_100 : decode prog_7_method_17_code 100 = .ok (.getfield 136, 3) := by decide +kernel
theorem dY_gatherAsked_103 : decode prog_7_method_17_code 103 = .ok (.iload_n 2, 1) := by decide +kernel
theorem dY_gatherAsked_104 : decode prog_7_method_17_code 104 = .ok (.iaload, 1) := by decide +kernel
theorem dY_gatherAsked_105 : decode prog_7_method_17_code 105 = .ok (.ifCond .eq 41, 3) := by decide +kernel
theorem dY_gatherAsked_108 : decode prog_7_method_17_code 108 = .ok (.aload_n 0, 1) := by decide +kernel
theorem dY_gatherAsked_109 : decode prog_7_method_17_code 109 = .ok (.getfield 12, 3) := by decide +kernel
theorem dY_gatherAsked_112 : decode prog_7_method_17_code 112 = .ok (.getfield 178, 3) := by decide +kernel
theorem dY_gatherAsked_115 : decode prog_7_method_17_code 115 = .ok (.aload_n 0, 1) := by decide +kernel
theorem dY_gatherAsked_116 : decode prog_7_method_17_code 116 = .ok (.getfield 12, 3) := by decide +kernel
theorem dY_gatherAsked_119 : decode prog_7_method_17_code 119 = .ok (.iload_n 2, 1) := by decide +kernel
theorem dY_gatherAsked_120 : decode prog_7_method_17_code 120 = .ok (.invokevirtual 212, 3) := by decide +kernel
theorem dY_gatherAsked_123 : decode prog_7_method_17_code 123 = .ok (.dup2, 1) := by decide +kernel
theorem dY_gatherAsked_124 : decode prog_7_method_17_code 124 = .ok (.iaload, 1) := by decide +kernel
theorem dY_gatherAsked_125 : decode prog_7_method_17_code 125 = .ok (.aload_n 0, 1) := by decide +kernel
theorem dY_gatherAsked_126 : decode prog_7_method_17_code 126 = .ok (.getfield 12, 3) := by decide +kernel
theorem dY_gatherAsked_129 : decode prog_7_method_17_code 129 = .ok (.getfield 136, 3) := by decide +kernel
theorem dY_gatherAsked_132 : decode prog_7_method_17_code 132 = .ok (.iload_n 2, 1) := by decide +kernel
theorem dY_gatherAsked_133 : decode prog_7_method_17_code 133 = .ok (.iaload, 1) := by decide +kernel
theorem dY_gatherAsked_134 : decode prog_7_method_17_code 134 = .ok (.ior, 1) := by decide +kernel
theorem dY_gatherAsked_135 : decode prog_7_method_17_code 135 = .ok (.iastore, 1) := by decide +kernel
theorem dY_gatherAsked_136 : decode prog_7_method_17_code 136 = .ok (.aload_n 0, 1) := by decide +kernel
theorem dY_gatherAsked_137 : decode prog_7_method_17_code 137 = .ok (.getfield 12, 3) := by decide +kernel
theorem dY_gatherAsked_140 : decode prog_7_method_17_code 140 = .ok (.getfield 136, 3) := by decide +kernel
theorem dY_gatherAsked_143 : decode prog_7_method_17_code 143 = .ok (.iload_n 2, 1) := by decide +kernel
theorem dY_gatherAsked_144 : decode prog_7_method_17_code 144 = .ok (.iconst 0, 1) := by decide +kernel
theorem dY_gatherAsked_145 : decode prog_7_method_17_code 145 = .ok (.iastore, 1) := by decide +kernel
theorem dY_gatherAsked_146 : decode prog_7_method_17_code 146 = .ok (.iinc 2 1, 3) := by decide +kernel
theorem dY_gatherAsked_149 : decode prog_7_method_17_code 149 = .ok (.goto (-64), 3) := by decide +kernel
theorem dY_gatherAsked_152 : decode prog_7_method_17_code 152 = .ok (.return_, 1) := by decide +kernel
theorem dY_settleVariable_0 : decode prog_7_method_18_code 0 = .ok (.aload_n 0, 1) := by decide +kernel
theorem dY_settleVariable_1 : decode prog_7_method_18_code 1 = .ok (.getfield 12, 3) := by decide +kernel
theorem dY_settleVariable_4 : decode prog_7_method_18_code 4 = .ok (.getfield 209, 3) := by decide +kernel
theorem dY_settleVariable_7 : decode prog_7_method_18_code 7 = .ok (.iload_n 1, 1) := by decide +kernel
theorem dY_settleVariable_8 : decode prog_7_method_18_code 8 = .ok (.iaload, 1) := by decide +kernel
theorem dY_settleVariable_9 : decode prog_7_method_18_code 9 = .ok (.iconst 1, 1) := by decide +kernel
theorem dY_settleVariable_10 : decode prog_7_method_18_code 10 = .ok (.if_icmp .ne 33, 3) := by decide +kernel
theorem dY_settleVariable_13 : decode prog_7_method_18_code 13 = .ok (.aload_n 0, 1) := by decide +kernel
theorem dY_settleVariable_14 : decode prog_7_method_18_code 14 = .ok (.getfield 12, 3) := by decide +kernel
theorem dY_settleVariable_17 : decode prog_7_method_18_code 17 = .ok (.getfield 215, 3) := by decide +kernel
theorem dY_settleVariable_20 : decode prog_7_method_18_code 20 = .ok (.iload_n 1, 1) := by decide +kernel
theorem dY_settleVariable_21 : decode prog_7_method_18_code 21 = .ok (.aload_n 0, 1) := by decide +kernel
theorem dY_settleVariable_22 : decode prog_7_method_18_code 22 = .ok (.getfield 35, 3) := by decide +kernel
theorem dY_settleVariable_25 : decode prog_7_method_18_code 25 = .ok (.iload_n 2, 1) := by decide +kernel
theorem dY_settleVariable_26 : decode prog_7_method_18_code 26 = .ok (.invokevirtual 218, 3) := by decide +kernel
theorem dY_settleVariable_29 : decode prog_7_method_18_code 29 = .ok (.iastore, 1) := by decide +kernel
theorem dY_settleVariable_30 : decode prog_7_method_18_code 30 = .ok (.aload_n 0, 1) := by decide +kernel
theorem dY_settleVariable_31 : decode prog_7_method_18_code 31 = .ok (.getfield 12, 3) := by decide +kernel
theorem dY_settleVariable_34 : decode prog_7_method_18_code 34 = .ok (.getfield 215, 3) := by decide +kernel
theorem dY_settleVariable_37 : decode prog_7_method_18_code 37 = .ok (.iload_n 1, 1) := by decide +kernel
theorem dY_settleVariable_38 : decode prog_7_method_18_code 38 = .ok (.iaload, 1) := by decide +kernel
theorem dY_settleVariable_39 : decode prog_7_method_18_code 39 = .ok (.invokestatic 221, 3) := by decide +kernel
theorem dY_settleVariable_42 : decode prog_7_method_18_code 42 = .ok (.ireturn, 1) := by decide +kernel
theorem dY_settleVariable_43 : decode prog_7_method_18_code 43 = .ok (.aload_n 0, 1) := by decide +kernel
theorem dY_settleVariable_44 : decode prog_7_method_18_code 44 = .ok (.getfield 12, 3) := by decide +kernel
theorem dY_settleVariable_47 : decode prog_7_method_18_code 47 = .ok (.getfield 197, 3) := by decide +kernel
theorem dY_settleVariable_50 : decode prog_7_method_18_code 50 = .ok (.iload_n 1, 1) := by decide +kernel
theorem dY_settleVariable_51 : decode prog_7_method_18_code 51 = .ok (.iaload, 1) := by decide +kernel
theorem dY_settleVariable_52 : decode prog_7_method_18_code 52 = .ok (.aload_n 0, 1) := by decide +kernel
theorem dY_settleVariable_53 : decode prog_7_method_18_code 53 = .ok (.getfield 159, 3) := by decide +kernel
theorem dY_settleVariable_56 : decode prog_7_method_18_code 56 = .ok (.if_icmp .ne 19, 3) := by decide +kernel
theorem dY_settleVariable_59 : decode prog_7_method_18_code 59 = .ok (.aload_n 0, 1) := by decide +kernel
theorem dY_settleVariable_60 : decode prog_7_method_18_code 60 = .ok (.getfield 12, 3) := by decide +kernel
theorem dY_settleVariable_63 : decode prog_7_method_18_code 63 = .ok (.getfield 136, 3) := by decide +kernel
theorem dY_settleVariable_66 : decode prog_7_method_18_code 66 = .ok (.iload_n 1, 1) := by decide +kernel
theorem dY_settleVariable_67 : decode prog_7_method_18_code 67 = .ok (.dup2, 1) := by decide +kernel
theorem dY_settleVariable_68 : decode prog_7_method_18_code 68 = .ok (.iaload, 1) := by decide +kernel
theorem dY_settleVariable_69 : decode prog_7_method_18_code 69 = .ok (.iload_n 2, 1) := by decide +kernel
theorem dY_settleVariable_70 : decode prog_7_method_18_code 70 = .ok (.ior, 1) := by decide +kernel
theorem dY_settleVariable_71 : decode prog_7_method_18_code 71 = .ok (.iastore, 1) := by decide +kernel
theorem dY_settleVariable_72 : decode prog_7_method_18_code 72 = .ok (.goto 8, 3) := by decide +kernel
theorem dY_settleVariable_75 : decode prog_7_method_18_code 75 = .ok (.aload_n 0, 1) := by decide +kernel
theorem dY_settleVariable_76 : decode prog_7_method_18_code 76 = .ok (.iconst 1, 1) := by decide +kernel
theorem dY_settleVariable_77 : decode prog_7_method_18_code 77 = .ok (.putfield 57, 3) := by decide +kernel
theorem dY_settleVariable_80 : decode prog_7_method_18_code 80 = .ok (.iconst 0, 1) := by decide +kernel
theorem dY_settleVariable_81 : decode prog_7_method_18_code 81 = .ok (.ireturn, 1) := by decide +kernel
theorem dY_handDown_0 : decode prog_7_method_19_code 0 = .ok (.aload_n 0, 1) := by decide +kernel
theorem dY_handDown_1 : decode prog_7_method_19_code 1 = .ok (.getfield 12, 3) := by decide +kernel
theorem dY_handDown_4 : decode prog_7_method_19_code 4 = .ok (.getfield 226, 3) := by decide +kernel
theorem dY_handDown_7 : decode prog_7_method_19_code 7 = .ok (.iload_n 1, 1) := by decide +kernel
theorem dY_handDown_8 : decode prog_7_method_19_code 8 = .ok (.iaload, 1) := by decide +kernel
theorem dY_handDown_9 : decode prog_7_method_19_code 9 = .ok (.istore_n 3, 1) := by decide +kernel
theorem dY_handDown_10 : decode prog_7_method_19_code 10 = .ok (.aload_n 0, 1) := by decide +kernel
theorem dY_handDown_11 : decode prog_7_method_19_code 11 = .ok (.getfield 35, 3) := by decide +kernel
theorem dY_handDown_14 : decode prog_7_method_19_code 14 = .ok (.iload_n 2, 1) := by decide +kernel
theorem dY_handDown_15 : decode prog_7_method_19_code 15 = .ok (.iload_n 3, 1) := by decide +kernel
theorem dY_handDown_16 : decode prog_7_method_19_code 16 = .ok (.invokevirtual 227, 3) := by decide +kernel
theorem dY_handDown_19 : decode prog_7_method_19_code 19 = .ok (.ifCond .ne 8, 3) := by decide +kernel
theorem dY_handDown_22 : decode prog_7_method_19_code 22 = .ok (.aload_n 0, 1) := by decide +kernel
theorem dY_handDown_23 : decode prog_7_method_19_code 23 = .ok (.iconst 1, 1) := by decide +kernel
theorem dY_handDown_24 : decode prog_7_method_19_code 24 = .ok (.putfield 53, 3) := by decide +kernel
theorem dY_handDown_27 : decode prog_7_method_19_code 27 = .ok (.aload_n 0, 1) := by decide +kernel
theorem dY_handDown_28 : decode prog_7_method_19_code 28 = .ok (.getfield 12, 3) := by decide +kernel
theorem dY_handDown_31 : decode prog_7_method_19_code 31 = .ok (.iload_n 1, 1) := by decide +kernel
theorem dY_handDown_32 : decode prog_7_method_19_code 32 = .ok (.invokevirtual 200, 3) := by decide +kernel
theorem dY_handDown_35 : decode prog_7_method_19_code 35 = .ok (.istore 4, 2) := by decide +kernel
theorem dY_handDown_37 : decode prog_7_method_19_code 37 = .ok (.aload_n 0, 1) := by decide +kernel
theorem dY_handDown_38 : decode prog_7_method_19_code 38 = .ok (.getfield 12, 3) := by decide +kernel
theorem dY_handDown_41 : decode prog_7_method_19_code 41 = .ok (.iload_n 1, 1) := by decide +kernel
theorem dY_handDown_42 : decode prog_7_method_19_code 42 = .ok (.invokevirtual 206, 3) := by decide +kernel
theorem dY_handDown_45 : decode prog_7_method_19_code 45 = .ok (.istore 5, 2) := by decide +kernel
theorem dY_handDown_47 : decode prog_7_method_19_code 47 = .ok (.iload 4, 2) := by decide +kernel
theorem dY_handDown_49 : decode prog_7_method_19_code 49 = .ok (.iconst (-1), 1) := by decide +kernel
theorem dY_handDown_50 : decode prog_7_method_19_code 50 = .ok (.if_icmp .eq 32, 3) := by decide +kernel
theorem dY_handDown_53 : decode prog_7_method_19_code 53 = .ok (.aload_n 0, 1) := by decide +kernel
theorem dY_handDown_54 : decode prog_7_method_19_code 54 = .ok (.getfield 12, 3) := by decide +kernel
theorem dY_handDown_57 : decode prog_7_method_19_code 57 = .ok (.getfield 178, 3) := by decide +kernel
theorem dY_handDown_60 : decode prog_7_method_19_code 60 = .ok (.iload 4, 2) := by decide +kernel
theorem dY_handDown_62 : decode prog_7_method_19_code 62 = .ok (.dup2, 1) := by decide +kernel
theorem dY_handDown_63 : decode prog_7_method_19_code 63 = .ok (.iaload, 1) := by decide +kernel
theorem dY_handDown_64 : decode prog_7_method_19_code 64 = .ok (.aload_n 0, 1) := by decide +kernel
theorem dY_handDown_65 : decode prog_7_method_19_code 65 = .ok (.getfield 35, 3) := by decide +kernel
theorem dY_handDown_68 : decode prog_7_method_19_code 68 = .ok (.aload_n 0, 1) := by decide +kernel
theorem dY_handDown_69 : decode prog_7_method_19_code 69 = .ok (.getfield 35, 3) := by decide +kernel
theorem dY_handDown_72 : decode prog_7_method_19_code 72 = .ok (.getfield 231, 3) := by decide +kernel
theorem dY_handDown_75 : decode prog_7_method_19_code 75 = .ok (.iload_n 2, 1) := by decide +kernel
theorem dY_handDown_76 : decode prog_7_method_19_code 76 = .ok (.iload_n 3, 1) := by decide +kernel
theorem dY_handDown_77 : decode prog_7_method_19_code 77 = .ok (.invokevirtual 234, 3) := by decide +kernel
theorem dY_handDown_80 : decode prog_7_method_19_code 80 = .ok (.ior, 1) := by decide +kernel
theorem dY_handDown_81 : decode prog_7_method_19_code 81 = .ok (.iastore, 1) := by decide +kernel
theorem dY_handDown_82 : decode prog_7_method_19_code 82 = .ok (.iload 5, 2) := by decide +kernel
theorem dY_handDown_84 : decode prog_7_method_19_code 84 = .ok (.iconst (-1), 1) := by decide +kernel
theorem dY_handDown_85 : decode prog_7_method_19_code 85 = .ok (.if_icmp .eq 32, 3) := by decide +kernel
theorem dY_handDown_88 : decode prog_7_method_19_code 88 = .ok (.aload_n 0, 1) := by decide +kernel
theorem dY_handDown_89 : decode prog_7_method_19_code 89 = .ok (.getfield 12, 3) := by decide +kernel
theorem dY_handDown_92 : decode prog_7_method_19_code 92 = .ok (.getfield 178, 3) := by decide +kernel
theorem dY_handDown_95 : decode prog_7_method_19_code 95 = .ok (.iload 5, 2) := by decide +kernel
theorem dY_handDown_97 : decode prog_7_method_19_code 97 = .ok (.dup2, 1) := by decide +kernel
theorem dY_handDown_98 : decode prog_7_method_19_code 98 = .ok (.iaload, 1) := by decide +kernel
theorem dY_handDown_99 : decode prog_7_method_19_code 99 = .ok (.aload_n 0, 1) := by decide +kernel
theorem dY_handDown_100 : decode prog_7_method_19_code 100 = .ok (.getfield 35, 3) := by decide +kernel
theorem dY_handDown_103 : decode prog_7_method_19_code 103 = .ok (.aload_n 0, 1) := by decide +kernel
theorem dY_handDown_104 : decode prog_7_method_19_code 104 = .ok (.getfield 35, 3) := by decide +kernel
theorem dY_handDown_107 : decode prog_7_method_19_code 107 = .ok (.getfield 238, 3) := by decide +kernel
theorem dY_handDown_110 : decode prog_7_method_19_code 110 = .ok (.iload_n 2, 1) := by decide +kernel
theorem dY_handDown_111 : decode prog_7_method_19_code 111 = .ok (.iload_n 3, 1) := by decide +kernel
theorem dY_handDown_112 : decode prog_7_method_19_code 112 = .ok (.invokevirtual 234, 3) := by decide +kernel
theorem dY_handDown_115 : decode prog_7_method_19_code 115 = .ok (.ior, 1) := by decide +kernel
theorem dY_handDown_116 : decode prog_7_method_19_code 116 = .ok (.iastore, 1) := by decide +kernel
theorem dY_handDown_117 : decode prog_7_method_19_code 117 = .ok (.return_, 1) := by decide +kernel
theorem dY_tell_0 : decode prog_7_method_20_code 0 = .ok (.aload_n 0, 1) := by decide +kernel
theorem dY_tell_1 : decode prog_7_method_20_code 1 = .ok (.getfield 12, 3) := by decide +kernel
theorem dY_tell_4 : decode prog_7_method_20_code 4 = .ok (.invokevirtual 191, 3) := by decide +kernel
theorem dY_tell_7 : decode prog_7_method_20_code 7 = .ok (.aload_n 0, 1) := by decide +kernel
theorem dY_tell_8 : decode prog_7_method_20_code 8 = .ok (.getfield 12, 3) := by decide +kernel
theorem dY_tell_11 : decode prog_7_method_20_code 11 = .ok (.aload_n 0, 1) := by decide +kernel
theorem dY_tell_12 : decode prog_7_method_20_code 12 = .ok (.getfield 64, 3) := by decide +kernel
theorem dY_tell_15 : decode prog_7_method_20_code 15 = .ok (.invokevirtual 194, 3) := by decide +kernel
theorem dY_tell_18 : decode prog_7_method_20_code 18 = .ok (.aload_n 1, 1) := by decide +kernel
theorem dY_tell_19 : decode prog_7_method_20_code 19 = .ok (.aload_n 0, 1) := by decide +kernel
theorem dY_tell_20 : decode prog_7_method_20_code 20 = .ok (.getfield 12, 3) := by decide +kernel
theorem dY_tell_23 : decode prog_7_method_20_code 23 = .ok (.getfield 172, 3) := by decide +kernel
theorem dY_tell_26 : decode prog_7_method_20_code 26 = .ok (.aload_n 0, 1) := by decide +kernel
theorem dY_tell_27 : decode prog_7_method_20_code 27 = .ok (.getfield 50, 3) := by decide +kernel
theorem dY_tell_30 : decode prog_7_method_20_code 30 = .ok (.invokevirtual 241, 3) := by decide +kernel
theorem dY_tell_33 : decode prog_7_method_20_code 33 = .ok (.iconst 0, 1) := by decide +kernel
theorem dY_tell_34 : decode prog_7_method_20_code 34 = .ok (.istore_n 2, 1) := by decide +kernel
theorem dY_tell_35 : decode prog_7_method_20_code 35 = .ok (.iload_n 2, 1) := by decide +kernel
theorem dY_tell_36 : decode prog_7_method_20_code 36 = .ok (.aload_n 0, 1) := by decide +kernel
theorem dY_tell_37 : decode prog_7_method_20_code 37 = .ok (.getfield 12, 3) := by decide +kernel
theorem dY_tell_40 : decode prog_7_method_20_code 40 = .ok (.getfield 172, 3) := by decide +kernel
theorem dY_tell_43 : decode prog_7_method_20_code 43 = .ok (.if_icmp .ge 109, 3) := by decide +kernel
theorem dY_tell_46 : decode prog_7_method_20_code 46 = .ok (.aload_n 0, 1) := by decide +kernel
theorem dY_tell_47 : decode prog_7_method_20_code 47 = .ok (.getfield 12, 3) := by decide +kernel
theorem dY_tell_50 : decode prog_7_method_20_code 50 = .ok (.getfield 175, 3) := by decide +kernel
theorem dY_tell_53 : decode prog_7_method_20_code 53 = .ok (.iload_n 2, 1) := by decide +kernel
theorem dY_tell_54 : decode prog_7_method_20_code 54 = .ok (.iaload, 1) := by decide +kernel
theorem dY_tell_55 : decode prog_7_method_20_code 55 = .ok (.istore_n 3, 1) := by decide +kernel
theorem dY_tell_56 : decode prog_7_method_20_code 56 = .ok (.aload_n 0, 1) := by decide +kernel
theorem dY_tell_57 : decode prog_7_method_20_code 57 = .ok (.getfield 12, 3) := by decide +kernel
theorem dY_tell_60 : decode prog_7_method_20_code 60 = .ok (.iload_n 3, 1) := by decide +kernel
theorem dY_tell_61 : decode prog_7_method_20_code 61 = .ok (.invokevirtual 181, 3) := by decide +kernel
theorem dY_tell_64 : decode prog_7_method_20_code 64 = .ok (.ifCond .eq 19, 3) := by decide +kernel
theorem dY_tell_67 : decode prog_7_method_20_code 67 = .ok (.aload_n 1, 1) := by decide +kernel
theorem dY_tell_68 : decode prog_7_method_20_code 68 = .ok (.aload_n 0, 1) := by decide +kernel
theorem dY_tell_69 : decode prog_7_method_20_code 69 = .ok (.getfield 12, 3) := by decide +kernel
theorem dY_tell_72 : decode prog_7_method_20_code 72 = .ok (.getfield 215, 3) := by decide +kernel
theorem dY_tell_75 : decode prog_7_method_20_code 75 = .ok (.iload_n 3, 1) := by decide +kernel
theorem dY_tell_76 : decode prog_7_method_20_code 76 = .ok (.iaload, 1) := by decide +kernel
theorem dY_tell_77 : decode prog_7_method_20_code 77 = .ok (.invokevirtual 246, 3) := by decide +kernel
theorem dY_tell_80 : decode prog_7_method_20_code 80 = .ok (.goto 56, 3) := by decide +kernel
theorem dY_tell_83 : decode prog_7_method_20_code 83 = .ok (.aload_n 0, 1) := by decide +kernel
theorem dY_tell_84 : decode prog_7_method_20_code 84 = .ok (.getfield 12, 3) := by decide +kernel
theorem dY_tell_87 : decode prog_7_method_20_code 87 = .ok (.aload_n 0, 1) := by decide +kernel
theorem dY_tell_88 : decode prog_7_method_20_code 88 = .ok (.getfield 12, 3) := by decide +kernel
theorem dY_tell_91 : decode prog_7_method_20_code 91 = .ok (.getfield 249, 3) := by decide +kernel
theorem dY_tell_94 : decode prog_7_method_20_code 94 = .ok (.iload_n 3, 1) := by decide +kernel
theorem dY_tell_95 : decode prog_7_method_20_code 95 = .ok (.iaload, 1) := by decide +kernel
theorem dY_tell_96 : decode prog_7_method_20_code 96 = .ok (.invokevirtual 250, 3) := by decide +kernel
theorem dY_tell_99 : decode prog_7_method_20_code 99 = .ok (.istore 4, 2) := by decide +kernel
theorem dY_tell_101 : decode prog_7_method_20_code 101 = .ok (.aload_n 0, 1) := by decide +kernel
theorem dY_tell_102 : decode prog_7_method_20_code 102 = .ok (.getfield 12, 3) := by decide +kernel
theorem dY_tell_105 : decode prog_7_method_20_code 105 = .ok (.aload_n 0, 1) := by decide +kernel
theorem dY_tell_106 : decode prog_7_method_20_code 106 = .ok (.getfield 12, 3) := by decide +kernel
theorem dY_tell_109 : decode prog_7_method_20_code 109 = .ok (.getfield 253, 3) := by decide +kernel
theorem dY_tell_112 : decode prog_7_method_20_code 112 = .ok (.iload_n 3, 1) := by decide +kernel
theorem dY_tell_113 : decode prog_7_method_20_code 113 = .ok (.iaload, 1) := by decide +kernel
theorem dY_tell_114 : decode prog_7_method_20_code 114 = .ok (.invokevirtual 250, 3) := by decide +kernel
theorem dY_tell_117 : decode prog_7_method_20_code 117 = .ok (.istore 5, 2) := by decide +kernel
theorem dY_tell_119 : decode prog_7_method_20_code 119 = .ok (.aload_n 1, 1) := by decide +kernel
theorem dY_tell_120 : decode prog_7_method_20_code 120 = .ok (.aload_n 0, 1) := by decide +kernel
theorem dY_tell_121 : decode prog_7_method_20_code 121 = .ok (.getfield 12, 3) := by decide +kernel
theorem dY_tell_124 : decode prog_7_method_20_code 124 = .ok (.getfield 226, 3) := by decide +kernel
theorem dY_tell_127 : decode prog_7_method_20_code 127 = .ok (.iload_n 3, 1) := by decide +kernel
theorem dY_tell_128 : decode prog_7_method_20_code 128 = .ok (.iaload, 1) := by decide +kernel
theorem dY_tell_129 : decode prog_7_method_20_code 129 = .ok (.iload 4, 2) := by decide +kernel
theorem dY_tell_131 : decode prog_7_method_20_code 131 = .ok (.iload 5, 2) := by decide +kernel
theorem dY_tell_133 : decode prog_7_method_20_code 133 = .ok (.invokevirtual 254, 3) := by decide +kernel
theorem dY_tell_136 : decode prog_7_method_20_code 136 = .ok (.aload_n 0, 1) := by decide +kernel
theorem dY_tell_137 : decode prog_7_method_20_code 137 = .ok (.getfield 12, 3) := by decide +kernel
theorem dY_tell_140 : decode prog_7_method_20_code 140 = .ok (.getfield 178, 3) := by decide +kernel
theorem dY_tell_143 : decode prog_7_method_20_code 143 = .ok (.iload_n 3, 1) := by decide +kernel
theorem dY_tell_144 : decode prog_7_method_20_code 144 = .ok (.iload_n 2, 1) := by decide +kernel
theorem dY_tell_145 : decode prog_7_method_20_code 145 = .ok (.iastore, 1) := by decide +kernel
theorem dY_tell_146 : decode prog_7_method_20_code 146 = .ok (.iinc 2 1, 3) := by decide +kernel
theorem dY_tell_149 : decode prog_7_method_20_code 149 = .ok (.goto (-114), 3) := by decide +kernel
theorem dY_tell_152 : decode prog_7_method_20_code 152 = .ok (.return_, 1) := by decide +kernel
theorem dG_init_0 : decode prog_4_method_1_code 0 = .ok (.aload_n 0, 1) := by decide +kernel
theorem dG_init_1 : decode prog_4_method_1_code 1 = .ok (.invokespecial 3, 3) := by decide +kernel
theorem dG_init_4 : decode prog_4_method_1_code 4 = .ok (.aload_n 0, 1) := by decide +kernel
theorem dG_init_5 : decode prog_4_method_1_code 5 = .ok (.bipush 64, 2) := by decide +kernel
theorem dG_init_7 : decode prog_4_method_1_code 7 = .ok (.newarray .int, 2) := by decide +kernel
theorem dG_init_9 : decode prog_4_method_1_code 9 = .ok (.putfield 9, 3) := by decide +kernel
theorem dG_init_12 : decode prog_4_method_1_code 12 = .ok (.aload_n 0, 1) := by decide +kernel
theorem dG_init_13 : decode prog_4_method_1_code 13 = .ok (.bipush 64, 2) := by decide +kernel
theorem dG_init_15 : decode prog_4_method_1_code 15 = .ok (.newarray .int, 2) := by decide +kernel
theorem dG_init_17 : decode prog_4_method_1_code 17 = .ok (.putfield 15, 3) := by decide +kernel
theorem dG_init_20 : decode prog_4_method_1_code 20 = .ok (.aload_n 0, 1) := by decide +kernel
theorem dG_init_21 : decode prog_4_method_1_code 21 = .ok (.bipush 64, 2) := by decide +kernel
theorem dG_init_23 : decode prog_4_method_1_code 23 = .ok (.newarray .int, 2) := by decide +kernel
theorem dG_init_25 : decode prog_4_method_1_code 25 = .ok (.putfield 18, 3) := by decide +kernel
theorem dG_init_28 : decode prog_4_method_1_code 28 = .ok (.aload_n 0, 1) := by decide +kernel
theorem dG_init_29 : decode prog_4_method_1_code 29 = .ok (.bipush 64, 2) := by decide +kernel
theorem dG_init_31 : decode prog_4_method_1_code 31 = .ok (.newarray .int, 2) := by decide +kernel
theorem dG_init_33 : decode prog_4_method_1_code 33 = .ok (.putfield 21, 3) := by decide +kernel
theorem dG_init_36 : decode prog_4_method_1_code 36 = .ok (.aload_n 0, 1) := by decide +kernel
theorem dG_init_37 : decode prog_4_method_1_code 37 = .ok (.bipush 64, 2) := by decide +kernel
theorem dG_init_39 : decode prog_4_method_1_code 39 = .ok (.newarray .int, 2) := by decide +kernel
theorem dG_init_41 : decode prog_4_method_1_code 41 = .ok (.putfield 24, 3) := by decide +kernel
theorem dG_init_44 : decode prog_4_method_1_code 44 = .ok (.aload_n 0, 1) := by decide +kernel
theorem dG_init_45 : decode prog_4_method_1_code 45 = .ok (.bipush 64, 2) := by decide +kernel
theorem dG_init_47 : decode prog_4_method_1_code 47 = .ok (.newarray .int, 2) := by decide +kernel
theorem dG_init_49 : decode prog_4_method_1_code 49 = .ok (.putfield 27, 3) := by decide +kernel
theorem dG_init_52 : decode prog_4_method_1_code 52 = .ok (.aload_n 0, 1) := by decide +kernel
theorem dG_init_53 : decode prog_4_method_1_code 53 = .ok (.bipush 64, 2) := by decide +kernel
theorem dG_init_55 : decode prog_4_method_1_code 55 = .ok (.newarray .int, 2) := by decide +kernel
theorem dG_init_57 : decode prog_4_method_1_code 57 = .ok (.putfield 30, 3) := by decide +kernel
theorem dG_init_60 : decode prog_4_method_1_code 60 = .ok (.aload_n 0, 1) := by decide +kernel
theorem dG_init_61 : decode prog_4_method_1_code 61 = .ok (.bipush 64, 2) := by decide +kernel
theorem dG_init_63 : decode prog_4_method_1_code 63 = .ok (.newarray .int, 2) := by decide +kernel
theorem dG_init_65 : decode prog_4_method_1_code 65 = .ok (.putfield 33, 3) := by decide +kernel
theorem dG_init_68 : decode prog_4_method_1_code 68 = .ok (.aload_n 0, 1) := by decide +kernel
theorem dG_init_69 : decode prog_4_method_1_code 69 = .ok (.bipush 64, 2) := by decide +kernel
theorem dG_init_71 : decode prog_4_method_1_code 71 = .ok (.newarray .int, 2) := by decide +kernel
theorem dG_init_73 : decode prog_4_method_1_code 73 = .ok (.putfield 36, 3) := by decide +kernel
theorem dG_init_76 : decode prog_4_method_1_code 76 = .ok (.aload_n 0, 1) := by decide +kernel
theorem dG_init_77 : decode prog_4_method_1_code 77 = .ok (.bipush 64, 2) := by decide +kernel
theorem dG_init_79 : decode prog_4_method_1_code 79 = .ok (.newarray .int, 2) := by decide +kernel
theorem dG_init_81 : decode prog_4_method_1_code 81 = .ok (.putfield 39, 3) := by decide +kernel
theorem dG_init_84 : decode prog_4_method_1_code 84 = .ok (.aload_n 0, 1) := by decide +kernel
theorem dG_init_85 : decode prog_4_method_1_code 85 = .ok (.sipush 132, 3) := by decide +kernel
theorem dG_init_88 : decode prog_4_method_1_code 88 = .ok (.newarray .int, 2) := by decide +kernel
theorem dG_init_90 : decode prog_4_method_1_code 90 = .ok (.putfield 42, 3) := by decide +kernel
theorem dG_init_93 : decode prog_4_method_1_code 93 = .ok (.return_, 1) := by decide +kernel
theorem dG_clear_0 : decode prog_4_method_2_code 0 = .ok (.aload_n 0, 1) := by decide +kernel
theorem dG_clear_1 : decode prog_4_method_2_code 1 = .ok (.iconst 0, 1) := by decide +kernel
theorem dG_clear_2 : decode prog_4_method_2_code 2 = .ok (.putfield 45, 3) := by decide +kernel
theorem dG_clear_5 : decode prog_4_method_2_code 5 = .ok (.aload_n 0, 1) := by decide +kernel
theorem dG_clear_6 : decode prog_4_method_2_code 6 = .ok (.iconst 0, 1) := by decide +kernel
theorem dG_clear_7 : decode prog_4_method_2_code 7 = .ok (.putfield 49, 3) := by decide +kernel
theorem dG_clear_10 : decode prog_4_method_2_code 10 = .ok (.return_, 1) := by decide +kernel
theorem dG_newNode_0 : decode prog_4_method_3_code 0 = .ok (.aload_n 0, 1) := by decide +kernel
theorem dG_newNode_1 : decode prog_4_method_3_code 1 = .ok (.getfield 45, 3) := by decide +kernel
theorem dG_newNode_4 : decode prog_4_method_3_code 4 = .ok (.sipush 4096, 3) := by decide +kernel
theorem dG_newNode_7 : decode prog_4_method_3_code 7 = .ok (.if_icmp .lt 10, 3) := by decide +kernel
theorem dG_newNode_10 : decode prog_4_method_3_code 10 = .ok (.aload_n 0, 1) := by decide +kernel
theorem dG_newNode_11 : decode prog_4_method_3_code 11 = .ok (.iconst 1, 1) := by decide +kernel
theorem dG_newNode_12 : decode prog_4_method_3_code 12 = .ok (.putfield 49, 3) := by decide +kernel
theorem dG_newNode_15 : decode prog_4_method_3_code 15 = .ok (.iconst 0, 1) := by decide +kernel
theorem dG_newNode_16 : decode prog_4_method_3_code 16 = .ok (.ireturn, 1) := by decide +kernel
theorem dG_newNode_17 : decode prog_4_method_3_code 17 = .ok (.aload_n 0, 1) := by decide +kernel
theorem dG_newNode_18 : decode prog_4_method_3_code 18 = .ok (.getfield 45, 3) := by decide +kernel
theorem dG_newNode_21 : decode prog_4_method_3_code 21 = .ok (.aload_n 0, 1) := by decide +kernel
theorem dG_newNode_22 : decode prog_4_method_3_code 22 = .ok (.getfield 9, 3) := by decide +kernel
theorem dG_newNode_25 : decode prog_4_method_3_code 25 = .ok (.arraylength, 1) := by decide +kernel
theorem dG_newNode_26 : decode prog_4_method_3_code 26 = .ok (.if_icmp .lt 14, 3) := by decide +kernel
theorem dG_newNode_29 : decode prog_4_method_3_code 29 = .ok (.aload_n 0, 1) := by decide +kernel
theorem dG_newNode_30 : decode prog_4_method_3_code 30 = .ok (.iconst 2, 1) := by decide +kernel
theorem dG_newNode_31 : decode prog_4_method_3_code 31 = .ok (.aload_n 0, 1) := by decide +kernel
theorem dG_newNode_32 : decode prog_4_method_3_code 32 = .ok (.getfield 9, 3) := by decide +kernel
theorem dG_newNode_35 : decode prog_4_method_3_code 35 = .ok (.arraylength, 1) := by decide +kernel
theorem dG_newNode_36 : decode prog_4_method_3_code 36 = .ok (.imul, 1) := by decide +kernel
theorem dG_newNode_37 : decode prog_4_method_3_code 37 = .ok (.invokevirtual 53, 3) := by decide +kernel
theorem dG_newNode_40 : decode prog_4_method_3_code 40 = .ok (.aload_n 0, 1) := by decide +kernel
theorem dG_newNode_41 : decode prog_4_method_3_code 41 = .ok (.getfield 9, 3) := by decide +kernel
theorem dG_newNode_44 : decode prog_4_method_3_code 44 = .ok (.aload_n 0, 1) := by decide +kernel
theorem dG_newNode_45 : decode prog_4_method_3_code 45 = .ok (.getfield 45, 3) := by decide +kernel
theorem dG_newNode_48 : decode prog_4_method_3_code 48 = .ok (.iload_n 1, 1) := by decide +kernel
theorem dG_newNode_49 : decode prog_4_method_3_code 49 = .ok (.iastore, 1) := by decide +kernel
theorem dG_newNode_50 : decode prog_4_method_3_code 50 = .ok (.aload_n 0, 1) := by decide +kernel
theorem dG_newNode_51 : decode prog_4_method_3_code 51 = .ok (.getfield 15, 3) := by decide +kernel
theorem dG_newNode_54 : decode prog_4_method_3_code 54 = .ok (.aload_n 0, 1) := by decide +kernel
theorem dG_newNode_55 : decode prog_4_method_3_code 55 = .ok (.getfield 45, 3) := by decide +kernel
theorem dG_newNode_58 : decode prog_4_method_3_code 58 = .ok (.iload_n 2, 1) := by decide +kernel
theorem dG_newNode_59 : decode prog_4_method_3_code 59 = .ok (.iastore, 1) := by decide +kernel
theorem dG_newNode_60 : decode prog_4_method_3_code 60 = .ok (.aload_n 0, 1) := by decide +kernel
theorem dG_newNode_61 : decode prog_4_method_3_code 61 = .ok (.getfield 18, 3) := by decide +kernel
theorem dG_newNode_64 : decode prog_4_method_3_code 64 = .ok (.aload_n 0, 1) := by decide +kernel
theorem dG_newNode_65 : decode prog_4_method_3_code 65 = .ok (.getfield 45, 3) := by decide +kernel
theorem dG_newNode_68 : decode prog_4_method_3_code 68 = .ok (.iload_n 3, 1) := by decide +kernel
theorem dG_newNode_69 : decode prog_4_method_3_code 69 = .ok (.iastore, 1) := by decide +kernel
theorem dG_newNode_70 : decode prog_4_method_3_code 70 = .ok (.aload_n 0, 1) := by decide +kernel
theorem dG_newNode_71 : decode prog_4_method_3_code 71 = .ok (.getfield 21, 3) := by decide +kernel
theorem dG_newNode_74 : decode prog_4_method_3_code 74 = .ok (.aload_n 0, 1) := by decide +kernel
theorem dG_newNode_75 : decode prog_4_method_3_code 75 = .ok (.getfield 45, 3) := by decide +kernel
theorem dG_newNode_78 : decode prog_4_method_3_code 78 = .ok (.iconst 0, 1) := by decide +kernel
theorem dG_newNode_79 : decode prog_4_method_3_code 79 = .ok (.iastore, 1) := by decide +kernel
theorem dG_newNode_80 : decode prog_4_method_3_code 80 = .ok (.aload_n 0, 1) := by decide +kernel
theorem dG_newNode_81 : decode prog_4_method_3_code 81 = .ok (.getfield 24, 3) := by decide +kernel
theorem dG_newNode_84 : decode prog_4_method_3_code 84 = .ok (.aload_n 0, 1) := by decide +kernel
theorem dG_newNode_85 : decode prog_4_method_3_code 85 = .ok (.getfield 45, 3) := by decide +kernel
theorem dG_newNode_88 : decode prog_4_method_3_code 88 = .ok (.iconst 0, 1) := by decide +kernel
theorem dG_newNode_89 : decode prog_4_method_3_code 89 = .ok (.iastore, 1) := by decide +kernel
theorem dG_newNode_90 : decode prog_4_method_3_code 90 = .ok (.aload_n 0, 1) := by decide +kernel
theorem dG_newNode_91 : decode prog_4_method_3_code 91 = .ok (.getfield 27, 3) := by decide +kernel
theorem dG_newNode_94 : decode prog_4_method_3_code 94 = .ok (.aload_n 0, 1) := by decide +kernel
theorem dG_newNode_95 : decode prog_4_method_3_code 95 = .ok (.getfield 45, 3) := by decide +kernel
theorem dG_newNode_98 : decode prog_4_method_3_code 98 = .ok (.iconst 0, 1) := by decide +kernel
theorem dG_newNode_99 : decode prog_4_method_3_code 99 = .ok (.iastore, 1) := by decide +kernel
theorem dG_newNode_100 : decode prog_4_method_3_code 100 = .ok (.aload_n 0, 1) := by decide +kernel
theorem dG_newNode_101 : decode prog_4_method_3_code 101 = .ok (.getfield 30, 3) := by decide +kernel
theorem dG_newNode_104 : decode prog_4_method_3_code 104 = .ok (.aload_n 0, 1) := by decide +kernel
theorem dG_newNode_105 : decode prog_4_method_3_code 105 = .ok (.getfield 45, 3) := by decide +kernel
theorem dG_newNode_108 : decode prog_4_method_3_code 108 = .ok (.iconst 0, 1) := by decide +kernel
theorem dG_newNode_109 : decode prog_4_method_3_code 109 = .ok (.iastore, 1) := by decide +kernel
theorem dG_newNode_110 : decode prog_4_method_3_code 110 = .ok (.aload_n 0, 1) := by decide +kernel
theorem dG_newNode_111 : decode prog_4_method_3_code 111 = .ok (.dup, 1) := by decide +kernel
theorem dG_newNode_112 : decode prog_4_method_3_code 112 = .ok (.getfield 45, 3) := by decide +kernel
theorem dG_newNode_115 : decode prog_4_method_3_code 115 = .ok (.iconst 1, 1) := by decide +kernel
theorem dG_newNode_116 : decode prog_4_method_3_code 116 = .ok (.iadd, 1) := by decide +kernel
theorem dG_newNode_117 : decode prog_4_method_3_code 117 = .ok (.putfield 45, 3) := by decide +kernel
theorem dG_newNode_120 : decode prog_4_method_3_code 120 = .ok (.aload_n 0, 1) := by decide +kernel
theorem dG_newNode_121 : decode prog_4_method_3_code 121 = .ok (.getfield 45, 3) := by decide +kernel
theorem dG_newNode_124 : decode prog_4_method_3_code 124 = .ok (.iconst 1, 1) := by decide +kernel
theorem dG_newNode_125 : decode prog_4_method_3_code 125 = .ok (.isub, 1) := by decide +kernel
theorem dG_newNode_126 : decode prog_4_method_3_code 126 = .ok (.ireturn, 1) := by decide +kernel
theorem dG_grow_0 : decode prog_4_method_4_code 0 = .ok (.aload_n 0, 1) := by decide +kernel
theorem dG_grow_1 : decode prog_4_method_4_code 1 = .ok (.aload_n 0, 1) := by decide +kernel
theorem dG_grow_2 : decode prog_4_method_4_code 2 = .ok (.getfield 9, 3) := by decide +kernel
theorem dG_grow_5 : decode prog_4_method_4_code 5 = .ok (.iload_n 1, 1) := by decide +kernel
theorem dG_grow_6 : decode prog_4_method_4_code 6 = .ok (.invokestatic 57, 3) := by decide +kernel
theorem dG_grow_9 : decode prog_4_method_4_code 9 = .ok (.putfield 9, 3) := by decide +kernel
theorem dG_grow_12 : decode prog_4_method_4_code 12 = .ok (.aload_n 0, 1) := by decide +kernel
theorem dG_grow_13 : decode prog_4_method_4_code 13 = .ok (.aload_n 0, 1) := by decide +kernel
theorem dG_grow_14 : decode prog_4_method_4_code 14 = .ok (.getfield 15, 3) := by decide +kernel
theorem dG_grow_17 : decode prog_4_method_4_code 17 = .ok (.iload_n 1, 1) := by decide +kernel
theorem dG_grow_18 : decode prog_4_method_4_code 18 = .ok (.invokestatic 57, 3) := by decide +kernel
theorem dG_grow_21 : decode prog_4_method_4_code 21 = .ok (.putfield 15, 3) := by decide +kernel
theorem dG_grow_24 : decode prog_4_method_4_code 24 = .ok (.aload_n 0, 1) := by decide +kernel
theorem dG_grow_25 : decode prog_4_method_4_code 25 = .ok (.aload_n 0, 1) := by decide +kernel
theorem dG_grow_26 : decode prog_4_method_4_code 26 = .ok (.getfield 18, 3) := by decide +kernel
theorem dG_grow_29 : decode prog_4_method_4_code 29 = .ok (.iload_n 1, 1) := by decide +kernel
theorem dG_grow_30 : decode prog_4_method_4_code 30 = .ok (.invokestatic 57, 3) := by decide +kernel
theorem dG_grow_33 : decode prog_4_method_4_code 33 = .ok (.putfield 18, 3) := by decide +kernel
theorem dG_grow_36 : decode prog_4_method_4_code 36 = .ok (.aload_n 0, 1) := by decide +kernel
theorem dG_grow_37 : decode prog_4_method_4_code 37 = .ok (.aload_n 0, 1) := by decide +kernel
theorem dG_grow_38 : decode prog_4_method_4_code 38 = .ok (.getfield 21, 3) := by decide +kernel
theorem dG_grow_41 : decode prog_4_method_4_code 41 = .ok (.iload_n 1, 1) := by decide +kernel
theorem dG_grow_42 : decode prog_4_method_4_code 42 = .ok (.invokestatic 57, 3) := by decide +kernel
theorem dG_grow_45 : decode prog_4_method_4_code 45 = .ok (.putfield 21, 3) := by decide +kernel
theorem dG_grow_48 : decode prog_4_method_4_code 48 = .ok (.aload_n 0, 1) := by decide +kernel
theorem dG_grow_49 : decode prog_4_method_4_code 49 = .ok (.aload_n 0, 1) := by decide +kernel
theorem dG_grow_50 : decode prog_4_method_4_code 50 = .ok (.getfield 24, 3) := by decide +kernel
theorem dG_grow_53 : decode prog_4_method_4_code 53 = .ok (.iload_n 1, 1) := by decide +kernel
theorem dG_grow_54 : decode prog_4_method_4_code 54 = .ok (.invokestatic 57, 3) := by decide +kernel
theorem dG_grow_57 : decode prog_4_method_4_code 57 = .ok (.putfield 24, 3) := by decide +kernel
theorem dG_grow_60 : decode prog_4_method_4_code 60 = .ok (.aload_n 0, 1) := by decide +kernel
theorem dG_grow_61 : decode prog_4_method_4_code 61 = .ok (.aload_n 0, 1) := by decide +kernel
theorem dG_grow_62 : decode prog_4_method_4_code 62 = .ok (.getfield 27, 3) := by decide +kernel
theorem dG_grow_65 : decode prog_4_method_4_code 65 = .ok (.iload_n 1, 1) := by decide +kernel
theorem dG_grow_66 : decode prog_4_method_4_code 66 = .ok (.invokestatic 57, 3) := by decide +kernel
theorem dG_grow_69 : decode prog_4_method_4_code 69 = .ok (.putfield 27, 3) := by decide +kernel
theorem dG_grow_72 : decode prog_4_method_4_code 72 = .ok (.aload_n 0, 1) := by decide +kernel
theorem dG_grow_73 : decode prog_4_method_4_code 73 = .ok (.aload_n 0, 1) := by decide +kernel
theorem dG_grow_74 : decode prog_4_method_4_code 74 = .ok (.getfield 30, 3) := by decide +kernel
theorem dG_grow_77 : decode prog_4_method_4_code 77 = .ok (.iload_n 1, 1) := by decide +kernel
theorem dG_grow_78 : decode prog_4_method_4_code 78 = .ok (.invokestatic 57, 3) := by decide +kernel
theorem dG_grow_81 : decode prog_4_method_4_code 81 = .ok (.putfield 30, 3) := by decide +kernel
theorem dG_grow_84 : decode prog_4_method_4_code 84 = .ok (.aload_n 0, 1) := by decide +kernel
theorem dG_grow_85 : decode prog_4_method_4_code 85 = .ok (.aload_n 0, 1) := by decide +kernel
theorem dG_grow_86 : decode prog_4_method_4_code 86 = .ok (.getfield 33, 3) := by decide +kernel
theorem dG_grow_89 : decode prog_4_method_4_code 89 = .ok (.iload_n 1, 1) := by decide +kernel
theorem dG_grow_90 : decode prog_4_method_4_code 90 = .ok (.invokestatic 57, 3) := by decide +kernel
theorem dG_grow_93 : decode prog_4_method_4_code 93 = .ok (.putfield 33, 3) := by decide +kernel
theorem dG_grow_96 : decode prog_4_method_4_code 96 = .ok (.aload_n 0, 1) := by decide +kernel
theorem dG_grow_97 : decode prog_4_method_4_code 97 = .ok (.aload_n 0, 1) := by decide +kernel
theorem dG_grow_98 : decode prog_4_method_4_code 98 = .ok (.getfield 36, 3) := by decide +kernel
theorem dG_grow_101 : decode prog_4_method_4_code 101 = .ok (.iload_n 1, 1) := by decide +kernel
theorem dG_grow_102 : decode prog_4_method_4_code 102 = .ok (.invokestatic 57, 3) := by decide +kernel
theorem dG_grow_105 : decode prog_4_method_4_code 105 = .ok (.putfield 36, 3) := by decide +kernel
theorem dG_grow_108 : decode prog_4_method_4_code 108 = .ok (.aload_n 0, 1) := by decide +kernel
theorem dG_grow_109 : decode prog_4_method_4_code 109 = .ok (.aload_n 0, 1) := by decide +kernel
theorem dG_grow_110 : decode prog_4_method_4_code 110 = .ok (.getfield 39, 3) := by decide +kernel
theorem dG_grow_113 : decode prog_4_method_4_code 113 = .ok (.iload_n 1, 1) := by decide +kernel
theorem dG_grow_114 : decode prog_4_method_4_code 114 = .ok (.invokestatic 57, 3) := by decide +kernel
theorem dG_grow_117 : decode prog_4_method_4_code 117 = .ok (.putfield 39, 3) := by decide +kernel
theorem dG_grow_120 : decode prog_4_method_4_code 120 = .ok (.aload_n 0, 1) := by decide +kernel
theorem dG_grow_121 : decode prog_4_method_4_code 121 = .ok (.aload_n 0, 1) := by decide +kernel
theorem dG_grow_122 : decode prog_4_method_4_code 122 = .ok (.getfield 42, 3) := by decide +kernel
theorem dG_grow_125 : decode prog_4_method_4_code 125 = .ok (.iconst 2, 1) := by decide +kernel
theorem dG_grow_126 : decode prog_4_method_4_code 126 = .ok (.iload_n 1, 1) := by decide +kernel
theorem dG_grow_127 : decode prog_4_method_4_code 127 = .ok (.imul, 1) := by decide +kernel
theorem dG_grow_128 : decode prog_4_method_4_code 128 = .ok (.iconst 4, 1) := by decide +kernel
theorem dG_grow_129 : decode prog_4_method_4_code 129 = .ok (.iadd, 1) := by decide +kernel
theorem dG_grow_130 : decode prog_4_method_4_code 130 = .ok (.invokestatic 57, 3) := by decide +kernel
theorem dG_grow_133 : decode prog_4_method_4_code 133 = .ok (.putfield 42, 3) := by decide +kernel
theorem dG_grow_136 : decode prog_4_method_4_code 136 = .ok (.return_, 1) := by decide +kernel
