theorem dL_cell_0 : decode cL_cell 0 = .ok (.iload_n 1, 1) := by decide +kernel
theorem dL_cell_1 : decode cL_cell 1 = .ok (.aload_n 0, 1) := by decide +kernel
theorem dL_cell_2 : decode cL_cell 2 = .ok (.arraylength, 1) := by decide +kernel
theorem dL_cell_3 : decode cL_cell 3 = .ok (.if_icmp .ge 9, 3) := by decide +kernel
theorem dL_cell_6 : decode cL_cell 6 = .ok (.aload_n 0, 1) := by decide +kernel
theorem dL_cell_7 : decode cL_cell 7 = .ok (.iload_n 1, 1) := by decide +kernel
theorem dL_cell_8 : decode cL_cell 8 = .ok (.iaload, 1) := by decide +kernel
theorem dL_cell_9 : decode cL_cell 9 = .ok (.goto 9, 3) := by decide +kernel
theorem dL_cell_12 : decode cL_cell 12 = .ok (.ldc 7, 2) := by decide +kernel
theorem dL_cell_14 : decode cL_cell 14 = .ok (.iload_n 1, 1) := by decide +kernel
theorem dL_cell_15 : decode cL_cell 15 = .ok (.iconst 3, 1) := by decide +kernel
theorem dL_cell_16 : decode cL_cell 16 = .ok (.iadd, 1) := by decide +kernel
theorem dL_cell_17 : decode cL_cell 17 = .ok (.imul, 1) := by decide +kernel
theorem dL_cell_18 : decode cL_cell 18 = .ok (.ireturn, 1) := by decide +kernel
theorem dL_low_0 : decode cL_low 0 = .ok (.iload_n 0, 1) := by decide +kernel
theorem dL_low_1 : decode cL_low 1 = .ok (.ldc 8, 2) := by decide +kernel
theorem dL_low_3 : decode cL_low 3 = .ok (.iand, 1) := by decide +kernel
theorem dL_low_4 : decode cL_low 4 = .ok (.iload_n 1, 1) := by decide +kernel
theorem dL_low_5 : decode cL_low 5 = .ok (.irem, 1) := by decide +kernel
theorem dL_low_6 : decode cL_low 6 = .ok (.ireturn, 1) := by decide +kernel
theorem dL_is_0 : decode cL_is 0 = .ok (.iload_n 2, 1) := by decide +kernel
theorem dL_is_1 : decode cL_is 1 = .ok (.ifCond .lt 25, 3) := by decide +kernel
theorem dL_is_4 : decode cL_is 4 = .ok (.iload_n 2, 1) := by decide +kernel
theorem dL_is_5 : decode cL_is 5 = .ok (.aload_n 0, 1) := by decide +kernel
theorem dL_is_6 : decode cL_is 6 = .ok (.iconst 3, 1) := by decide +kernel
theorem dL_is_7 : decode cL_is 7 = .ok (.iaload, 1) := by decide +kernel
theorem dL_is_8 : decode cL_is 8 = .ok (.if_icmp .ge 18, 3) := by decide +kernel
theorem dL_is_11 : decode cL_is 11 = .ok (.aload_n 1, 1) := by decide +kernel
theorem dL_is_12 : decode cL_is 12 = .ok (.iconst 4, 1) := by decide +kernel
theorem dL_is_13 : decode cL_is 13 = .ok (.iload_n 2, 1) := by decide +kernel
theorem dL_is_14 : decode cL_is 14 = .ok (.imul, 1) := by decide +kernel
theorem dL_is_15 : decode cL_is 15 = .ok (.iconst 2, 1) := by decide +kernel
theorem dL_is_16 : decode cL_is 16 = .ok (.iadd, 1) := by decide +kernel
theorem dL_is_17 : decode cL_is 17 = .ok (.iaload, 1) := by decide +kernel
theorem dL_is_18 : decode cL_is 18 = .ok (.iconst 5, 1) := by decide +kernel
theorem dL_is_19 : decode cL_is 19 = .ok (.if_icmp .ge 7, 3) := by decide +kernel
theorem dL_is_22 : decode cL_is 22 = .ok (.iconst 1, 1) := by decide +kernel
theorem dL_is_23 : decode cL_is 23 = .ok (.goto 4, 3) := by decide +kernel
theorem dL_is_26 : decode cL_is 26 = .ok (.iconst 0, 1) := by decide +kernel
theorem dL_is_27 : decode cL_is 27 = .ok (.ireturn, 1) := by decide +kernel
theorem dL_load_0 : decode cL_load 0 = .ok (.iconst 0, 1) := by decide +kernel
theorem dL_load_1 : decode cL_load 1 = .ok (.istore 5, 2) := by decide +kernel
theorem dL_load_3 : decode cL_load 3 = .ok (.iconst 0, 1) := by decide +kernel
theorem dL_load_4 : decode cL_load 4 = .ok (.istore 6, 2) := by decide +kernel
theorem dL_load_6 : decode cL_load 6 = .ok (.iload 6, 2) := by decide +kernel
theorem dL_load_8 : decode cL_load 8 = .ok (.aload_n 0, 1) := by decide +kernel
theorem dL_load_9 : decode cL_load 9 = .ok (.iconst 3, 1) := by decide +kernel
theorem dL_load_10 : decode cL_load 10 = .ok (.iaload, 1) := by decide +kernel
theorem dL_load_11 : decode cL_load 11 = .ok (.if_icmp .ge 87, 3) := by decide +kernel
theorem dL_load_14 : decode cL_load 14 = .ok (.aload_n 2, 1) := by decide +kernel
theorem dL_load_15 : decode cL_load 15 = .ok (.iconst 4, 1) := by decide +kernel
theorem dL_load_16 : decode cL_load 16 = .ok (.iload 6, 2) := by decide +kernel
theorem dL_load_18 : decode cL_load 18 = .ok (.imul, 1) := by decide +kernel
theorem dL_load_19 : decode cL_load 19 = .ok (.iconst 2, 1) := by decide +kernel
theorem dL_load_20 : decode cL_load 20 = .ok (.iadd, 1) := by decide +kernel
theorem dL_load_21 : decode cL_load 21 = .ok (.iaload, 1) := by decide +kernel
theorem dL_load_22 : decode cL_load 22 = .ok (.iconst 1, 1) := by decide +kernel
theorem dL_load_23 : decode cL_load 23 = .ok (.if_icmp .eq 15, 3) := by decide +kernel
theorem dL_load_26 : decode cL_load 26 = .ok (.aload_n 2, 1) := by decide +kernel
theorem dL_load_27 : decode cL_load 27 = .ok (.iconst 4, 1) := by decide +kernel
theorem dL_load_28 : decode cL_load 28 = .ok (.iload 6, 2) := by decide +kernel
theorem dL_load_30 : decode cL_load 30 = .ok (.imul, 1) := by decide +kernel
theorem dL_load_31 : decode cL_load 31 = .ok (.iconst 2, 1) := by decide +kernel
theorem dL_load_32 : decode cL_load 32 = .ok (.iadd, 1) := by decide +kernel
theorem dL_load_33 : decode cL_load 33 = .ok (.iaload, 1) := by decide +kernel
theorem dL_load_34 : decode cL_load 34 = .ok (.iconst 2, 1) := by decide +kernel
theorem dL_load_35 : decode cL_load 35 = .ok (.if_icmp .ne 19, 3) := by decide +kernel
theorem dL_load_38 : decode cL_load 38 = .ok (.aload_n 2, 1) := by decide +kernel
theorem dL_load_39 : decode cL_load 39 = .ok (.iconst 4, 1) := by decide +kernel
theorem dL_load_40 : decode cL_load 40 = .ok (.iload 6, 2) := by decide +kernel
theorem dL_load_42 : decode cL_load 42 = .ok (.imul, 1) := by decide +kernel
theorem dL_load_43 : decode cL_load 43 = .ok (.iconst 3, 1) := by decide +kernel
theorem dL_load_44 : decode cL_load 44 = .ok (.iadd, 1) := by decide +kernel
theorem dL_load_45 : decode cL_load 45 = .ok (.iaload, 1) := by decide +kernel
theorem dL_load_46 : decode cL_load 46 = .ok (.iload_n 3, 1) := by decide +kernel
theorem dL_load_47 : decode cL_load 47 = .ok (.if_icmp .ne 7, 3) := by decide +kernel
theorem dL_load_50 : decode cL_load 50 = .ok (.iconst 1, 1) := by decide +kernel
theorem dL_load_51 : decode cL_load 51 = .ok (.goto 4, 3) := by decide +kernel
theorem dL_load_54 : decode cL_load 54 = .ok (.iconst 0, 1) := by decide +kernel
theorem dL_load_55 : decode cL_load 55 = .ok (.istore 7, 2) := by decide +kernel
theorem dL_load_57 : decode cL_load 57 = .ok (.iload 5, 2) := by decide +kernel
theorem dL_load_59 : decode cL_load 59 = .ok (.iload 7, 2) := by decide +kernel
theorem dL_load_61 : decode cL_load 61 = .ok (.ifCond .ne 7, 3) := by decide +kernel
theorem dL_load_64 : decode cL_load 64 = .ok (.iconst 0, 1) := by decide +kernel
theorem dL_load_65 : decode cL_load 65 = .ok (.goto 24, 3) := by decide +kernel
theorem dL_load_68 : decode cL_load 68 = .ok (.iload 4, 2) := by decide +kernel
theorem dL_load_70 : decode cL_load 70 = .ok (.ifCond .ne 10, 3) := by decide +kernel
theorem dL_load_73 : decode cL_load 73 = .ok (.iconst 1, 1) := by decide +kernel
theorem dL_load_74 : decode cL_load 74 = .ok (.iload 6, 2) := by decide +kernel
theorem dL_load_76 : decode cL_load 76 = .ok (.ishl, 1) := by decide +kernel
theorem dL_load_77 : decode cL_load 77 = .ok (.goto 12, 3) := by decide +kernel
theorem dL_load_80 : decode cL_load 80 = .ok (.aload_n 1, 1) := by decide +kernel
theorem dL_load_81 : decode cL_load 81 = .ok (.iconst 4, 1) := by decide +kernel
theorem dL_load_82 : decode cL_load 82 = .ok (.iload 6, 2) := by decide +kernel
theorem dL_load_84 : decode cL_load 84 = .ok (.imul, 1) := by decide +kernel
theorem dL_load_85 : decode cL_load 85 = .ok (.iload 4, 2) := by decide +kernel
theorem dL_load_87 : decode cL_load 87 = .ok (.iadd, 1) := by decide +kernel
theorem dL_load_88 : decode cL_load 88 = .ok (.iaload, 1) := by decide +kernel
theorem dL_load_89 : decode cL_load 89 = .ok (.iadd, 1) := by decide +kernel
theorem dL_load_90 : decode cL_load 90 = .ok (.istore 5, 2) := by decide +kernel
theorem dL_load_92 : decode cL_load 92 = .ok (.iinc 6 1, 3) := by decide +kernel
theorem dL_load_95 : decode cL_load 95 = .ok (.goto (-89), 3) := by decide +kernel
theorem dL_load_98 : decode cL_load 98 = .ok (.iload 5, 2) := by decide +kernel
theorem dL_load_100 : decode cL_load 100 = .ok (.ireturn, 1) := by decide +kernel
theorem dL_goal_0 : decode cL_goal 0 = .ok (.aload_n 0, 1) := by decide +kernel
theorem dL_goal_1 : decode cL_goal 1 = .ok (.aload_n 1, 1) := by decide +kernel
theorem dL_goal_2 : decode cL_goal 2 = .ok (.aload_n 2, 1) := by decide +kernel
theorem dL_goal_3 : decode cL_goal 3 = .ok (.iload 4, 2) := by decide +kernel
theorem dL_goal_5 : decode cL_goal 5 = .ok (.iconst 0, 1) := by decide +kernel
theorem dL_goal_6 : decode cL_goal 6 = .ok (.invokestatic 9, 3) := by decide +kernel
theorem dL_goal_9 : decode cL_goal 9 = .ok (.istore 5, 2) := by decide +kernel
theorem dL_goal_11 : decode cL_goal 11 = .ok (.iconst 0, 1) := by decide +kernel
theorem dL_goal_12 : decode cL_goal 12 = .ok (.istore 6, 2) := by decide +kernel
theorem dL_goal_14 : decode cL_goal 14 = .ok (.iload 5, 2) := by decide +kernel
theorem dL_goal_16 : decode cL_goal 16 = .ok (.ifCond .le 19, 3) := by decide +kernel
theorem dL_goal_19 : decode cL_goal 19 = .ok (.iload 5, 2) := by decide +kernel
theorem dL_goal_21 : decode cL_goal 21 = .ok (.iload 6, 2) := by decide +kernel
theorem dL_goal_23 : decode cL_goal 23 = .ok (.ishr, 1) := by decide +kernel
theorem dL_goal_24 : decode cL_goal 24 = .ok (.iconst 1, 1) := by decide +kernel
theorem dL_goal_25 : decode cL_goal 25 = .ok (.iand, 1) := by decide +kernel
theorem dL_goal_26 : decode cL_goal 26 = .ok (.ifCond .ne 9, 3) := by decide +kernel
theorem dL_goal_29 : decode cL_goal 29 = .ok (.iinc 6 1, 3) := by decide +kernel
theorem dL_goal_32 : decode cL_goal 32 = .ok (.goto (-18), 3) := by decide +kernel
theorem dL_goal_35 : decode cL_goal 35 = .ok (.iload 5, 2) := by decide +kernel
theorem dL_goal_37 : decode cL_goal 37 = .ok (.ifCond .le 12, 3) := by decide +kernel
theorem dL_goal_40 : decode cL_goal 40 = .ok (.aload_n 1, 1) := by decide +kernel
theorem dL_goal_41 : decode cL_goal 41 = .ok (.iconst 4, 1) := by decide +kernel
theorem dL_goal_42 : decode cL_goal 42 = .ok (.iload 6, 2) := by decide +kernel
theorem dL_goal_44 : decode cL_goal 44 = .ok (.imul, 1) := by decide +kernel
theorem dL_goal_45 : decode cL_goal 45 = .ok (.iaload, 1) := by decide +kernel
theorem dL_goal_46 : decode cL_goal 46 = .ok (.goto 28, 3) := by decide +kernel
theorem dL_goal_49 : decode cL_goal 49 = .ok (.aload_n 3, 1) := by decide +kernel
theorem dL_goal_50 : decode cL_goal 50 = .ok (.bipush 8, 2) := by decide +kernel
theorem dL_goal_52 : decode cL_goal 52 = .ok (.iload 4, 2) := by decide +kernel
theorem dL_goal_54 : decode cL_goal 54 = .ok (.imul, 1) := by decide +kernel
theorem dL_goal_55 : decode cL_goal 55 = .ok (.iconst 2, 1) := by decide +kernel
theorem dL_goal_56 : decode cL_goal 56 = .ok (.iadd, 1) := by decide +kernel
theorem dL_goal_57 : decode cL_goal 57 = .ok (.iaload, 1) := by decide +kernel
theorem dL_goal_58 : decode cL_goal 58 = .ok (.ifCond .le 15, 3) := by decide +kernel
theorem dL_goal_61 : decode cL_goal 61 = .ok (.aload_n 3, 1) := by decide +kernel
theorem dL_goal_62 : decode cL_goal 62 = .ok (.bipush 8, 2) := by decide +kernel
theorem dL_goal_64 : decode cL_goal 64 = .ok (.iload 4, 2) := by decide +kernel
theorem dL_goal_66 : decode cL_goal 66 = .ok (.imul, 1) := by decide +kernel
theorem dL_goal_67 : decode cL_goal 67 = .ok (.iconst 3, 1) := by decide +kernel
theorem dL_goal_68 : decode cL_goal 68 = .ok (.iadd, 1) := by decide +kernel
theorem dL_goal_69 : decode cL_goal 69 = .ok (.iaload, 1) := by decide +kernel
theorem dL_goal_70 : decode cL_goal 70 = .ok (.goto 4, 3) := by decide +kernel
theorem dL_goal_73 : decode cL_goal 73 = .ok (.iconst (-1), 1) := by decide +kernel
theorem dL_goal_74 : decode cL_goal 74 = .ok (.ireturn, 1) := by decide +kernel
theorem dL_fits_0 : decode cL_fits 0 = .ok (.aload_n 0, 1) := by decide +kernel
theorem dL_fits_1 : decode cL_fits 1 = .ok (.aload_n 1, 1) := by decide +kernel
theorem dL_fits_2 : decode cL_fits 2 = .ok (.aload_n 2, 1) := by decide +kernel
theorem dL_fits_3 : decode cL_fits 3 = .ok (.aload_n 3, 1) := by decide +kernel
theorem dL_fits_4 : decode cL_fits 4 = .ok (.iload 5, 2) := by decide +kernel
theorem dL_fits_6 : decode cL_fits 6 = .ok (.invokestatic 15, 3) := by decide +kernel
theorem dL_fits_9 : decode cL_fits 9 = .ok (.istore 6, 2) := by decide +kernel
theorem dL_fits_11 : decode cL_fits 11 = .ok (.aload_n 2, 1) := by decide +kernel
theorem dL_fits_12 : decode cL_fits 12 = .ok (.iconst 4, 1) := by decide +kernel
theorem dL_fits_13 : decode cL_fits 13 = .ok (.iload 4, 2) := by decide +kernel
theorem dL_fits_15 : decode cL_fits 15 = .ok (.imul, 1) := by decide +kernel
theorem dL_fits_16 : decode cL_fits 16 = .ok (.iconst 2, 1) := by decide +kernel
theorem dL_fits_17 : decode cL_fits 17 = .ok (.iadd, 1) := by decide +kernel
theorem dL_fits_18 : decode cL_fits 18 = .ok (.iaload, 1) := by decide +kernel
theorem dL_fits_19 : decode cL_fits 19 = .ok (.ifCond .ne 35, 3) := by decide +kernel
theorem dL_fits_22 : decode cL_fits 22 = .ok (.aload_n 3, 1) := by decide +kernel
theorem dL_fits_23 : decode cL_fits 23 = .ok (.bipush 8, 2) := by decide +kernel
theorem dL_fits_25 : decode cL_fits 25 = .ok (.iload 5, 2) := by decide +kernel
theorem dL_fits_27 : decode cL_fits 27 = .ok (.imul, 1) := by decide +kernel
theorem dL_fits_28 : decode cL_fits 28 = .ok (.iconst 2, 1) := by decide +kernel
theorem dL_fits_29 : decode cL_fits 29 = .ok (.iadd, 1) := by decide +kernel
theorem dL_fits_30 : decode cL_fits 30 = .ok (.iaload, 1) := by decide +kernel
theorem dL_fits_31 : decode cL_fits 31 = .ok (.ifCond .ne 23, 3) := by decide +kernel
theorem dL_fits_34 : decode cL_fits 34 = .ok (.iload 6, 2) := by decide +kernel
theorem dL_fits_36 : decode cL_fits 36 = .ok (.ifCond .lt 14, 3) := by decide +kernel
theorem dL_fits_39 : decode cL_fits 39 = .ok (.iload 6, 2) := by decide +kernel
theorem dL_fits_41 : decode cL_fits 41 = .ok (.aload_n 1, 1) := by decide +kernel
theorem dL_fits_42 : decode cL_fits 42 = .ok (.iconst 4, 1) := by decide +kernel
theorem dL_fits_43 : decode cL_fits 43 = .ok (.iload 4, 2) := by decide +kernel
theorem dL_fits_45 : decode cL_fits 45 = .ok (.imul, 1) := by decide +kernel
theorem dL_fits_46 : decode cL_fits 46 = .ok (.iaload, 1) := by decide +kernel
theorem dL_fits_47 : decode cL_fits 47 = .ok (.if_icmp .ne 7, 3) := by decide +kernel
theorem dL_fits_50 : decode cL_fits 50 = .ok (.iconst 1, 1) := by decide +kernel
theorem dL_fits_51 : decode cL_fits 51 = .ok (.goto 4, 3) := by decide +kernel
theorem dL_fits_54 : decode cL_fits 54 = .ok (.iconst 0, 1) := by decide +kernel
theorem dL_fits_55 : decode cL_fits 55 = .ok (.istore 7, 2) := by decide +kernel
theorem dL_fits_57 : decode cL_fits 57 = .ok (.iload 7, 2) := by decide +kernel
theorem dL_fits_59 : decode cL_fits 59 = .ok (.ifCond .eq 65, 3) := by decide +kernel
theorem dL_fits_62 : decode cL_fits 62 = .ok (.aload_n 0, 1) := by decide +kernel
theorem dL_fits_63 : decode cL_fits 63 = .ok (.aload_n 1, 1) := by decide +kernel
theorem dL_fits_64 : decode cL_fits 64 = .ok (.aload_n 2, 1) := by decide +kernel
theorem dL_fits_65 : decode cL_fits 65 = .ok (.iload 5, 2) := by decide +kernel
theorem dL_fits_67 : decode cL_fits 67 = .ok (.iconst 1, 1) := by decide +kernel
theorem dL_fits_68 : decode cL_fits 68 = .ok (.invokestatic 9, 3) := by decide +kernel
theorem dL_fits_71 : decode cL_fits 71 = .ok (.aload_n 1, 1) := by decide +kernel
theorem dL_fits_72 : decode cL_fits 72 = .ok (.iconst 4, 1) := by decide +kernel
theorem dL_fits_73 : decode cL_fits 73 = .ok (.iload 4, 2) := by decide +kernel
theorem dL_fits_75 : decode cL_fits 75 = .ok (.imul, 1) := by decide +kernel
theorem dL_fits_76 : decode cL_fits 76 = .ok (.iconst 1, 1) := by decide +kernel
theorem dL_fits_77 : decode cL_fits 77 = .ok (.iadd, 1) := by decide +kernel
theorem dL_fits_78 : decode cL_fits 78 = .ok (.iaload, 1) := by decide +kernel
theorem dL_fits_79 : decode cL_fits 79 = .ok (.iadd, 1) := by decide +kernel
theorem dL_fits_80 : decode cL_fits 80 = .ok (.aload_n 3, 1) := by decide +kernel
theorem dL_fits_81 : decode cL_fits 81 = .ok (.bipush 8, 2) := by decide +kernel
theorem dL_fits_83 : decode cL_fits 83 = .ok (.iload 5, 2) := by decide +kernel
theorem dL_fits_85 : decode cL_fits 85 = .ok (.imul, 1) := by decide +kernel
theorem dL_fits_86 : decode cL_fits 86 = .ok (.iaload, 1) := by decide +kernel
theorem dL_fits_87 : decode cL_fits 87 = .ok (.if_icmp .gt 37, 3) := by decide +kernel
theorem dL_fits_90 : decode cL_fits 90 = .ok (.aload_n 0, 1) := by decide +kernel
theorem dL_fits_91 : decode cL_fits 91 = .ok (.aload_n 1, 1) := by decide +kernel
theorem dL_fits_92 : decode cL_fits 92 = .ok (.aload_n 2, 1) := by decide +kernel
theorem dL_fits_93 : decode cL_fits 93 = .ok (.iload 5, 2) := by decide +kernel
theorem dL_fits_95 : decode cL_fits 95 = .ok (.iconst 2, 1) := by decide +kernel
theorem dL_fits_96 : decode cL_fits 96 = .ok (.invokestatic 9, 3) := by decide +kernel
theorem dL_fits_99 : decode cL_fits 99 = .ok (.aload_n 1, 1) := by decide +kernel
theorem dL_fits_100 : decode cL_fits 100 = .ok (.iconst 4, 1) := by decide +kernel
theorem dL_fits_101 : decode cL_fits 101 = .ok (.iload 4, 2) := by decide +kernel
theorem dL_fits_103 : decode cL_fits 103 = .ok (.imul, 1) := by decide +kernel
theorem dL_fits_104 : decode cL_fits 104 = .ok (.iconst 2, 1) := by decide +kernel
theorem dL_fits_105 : decode cL_fits 105 = .ok (.iadd, 1) := by decide +kernel
theorem dL_fits_106 : decode cL_fits 106 = .ok (.iaload, 1) := by decide +kernel
theorem dL_fits_107 : decode cL_fits 107 = .ok (.iadd, 1) := by decide +kernel
theorem dL_fits_108 : decode cL_fits 108 = .ok (.aload_n 3, 1) := by decide +kernel
theorem dL_fits_109 : decode cL_fits 109 = .ok (.bipush 8, 2) := by decide +kernel
theorem dL_fits_111 : decode cL_fits 111 = .ok (.iload 5, 2) := by decide +kernel
theorem dL_fits_113 : decode cL_fits 113 = .ok (.imul, 1) := by decide +kernel
theorem dL_fits_114 : decode cL_fits 114 = .ok (.iconst 1, 1) := by decide +kernel
theorem dL_fits_115 : decode cL_fits 115 = .ok (.iadd, 1) := by decide +kernel
theorem dL_fits_116 : decode cL_fits 116 = .ok (.iaload, 1) := by decide +kernel
theorem dL_fits_117 : decode cL_fits 117 = .ok (.if_icmp .gt 7, 3) := by decide +kernel
theorem dL_fits_120 : decode cL_fits 120 = .ok (.iconst 1, 1) := by decide +kernel
theorem dL_fits_121 : decode cL_fits 121 = .ok (.goto 4, 3) := by decide +kernel
theorem dL_fits_124 : decode cL_fits 124 = .ok (.iconst 0, 1) := by decide +kernel
theorem dL_fits_125 : decode cL_fits 125 = .ok (.ireturn, 1) := by decide +kernel
theorem dL_put_0 : decode cL_put 0 = .ok (.aload_n 0, 1) := by decide +kernel
theorem dL_put_1 : decode cL_put 1 = .ok (.iconst 4, 1) := by decide +kernel
theorem dL_put_2 : decode cL_put 2 = .ok (.iload_n 1, 1) := by decide +kernel
theorem dL_put_3 : decode cL_put 3 = .ok (.imul, 1) := by decide +kernel
theorem dL_put_4 : decode cL_put 4 = .ok (.iconst 2, 1) := by decide +kernel
theorem dL_put_5 : decode cL_put 5 = .ok (.iadd, 1) := by decide +kernel
theorem dL_put_6 : decode cL_put 6 = .ok (.iconst 1, 1) := by decide +kernel
theorem dL_put_7 : decode cL_put 7 = .ok (.iastore, 1) := by decide +kernel
theorem dL_put_8 : decode cL_put 8 = .ok (.aload_n 0, 1) := by decide +kernel
theorem dL_put_9 : decode cL_put 9 = .ok (.iconst 4, 1) := by decide +kernel
theorem dL_put_10 : decode cL_put 10 = .ok (.iload_n 1, 1) := by decide +kernel
theorem dL_put_11 : decode cL_put 11 = .ok (.imul, 1) := by decide +kernel
theorem dL_put_12 : decode cL_put 12 = .ok (.iconst 3, 1) := by decide +kernel
theorem dL_put_13 : decode cL_put 13 = .ok (.iadd, 1) := by decide +kernel
theorem dL_put_14 : decode cL_put 14 = .ok (.iload_n 2, 1) := by decide +kernel
theorem dL_put_15 : decode cL_put 15 = .ok (.iastore, 1) := by decide +kernel
theorem dL_put_16 : decode cL_put 16 = .ok (.return_, 1) := by decide +kernel
theorem dL_fill_0 : decode cL_fill 0 = .ok (.iconst 0, 1) := by decide +kernel
theorem dL_fill_1 : decode cL_fill 1 = .ok (.istore 7, 2) := by decide +kernel
theorem dL_fill_3 : decode cL_fill 3 = .ok (.iconst 0, 1) := by decide +kernel
theorem dL_fill_4 : decode cL_fill 4 = .ok (.istore 8, 2) := by decide +kernel
theorem dL_fill_6 : decode cL_fill 6 = .ok (.iconst 0, 1) := by decide +kernel
theorem dL_fill_7 : decode cL_fill 7 = .ok (.istore 9, 2) := by decide +kernel
theorem dL_fill_9 : decode cL_fill 9 = .ok (.iload 9, 2) := by decide +kernel
theorem dL_fill_11 : decode cL_fill 11 = .ok (.bipush 16, 2) := by decide +kernel
theorem dL_fill_13 : decode cL_fill 13 = .ok (.if_icmp .ge 230, 3) := by decide +kernel
theorem dL_fill_16 : decode cL_fill 16 = .ok (.iconst (-1), 1) := by decide +kernel
theorem dL_fill_17 : decode cL_fill 17 = .ok (.istore 10, 2) := by decide +kernel
theorem dL_fill_19 : decode cL_fill 19 = .ok (.aload_n 0, 1) := by decide +kernel
theorem dL_fill_20 : decode cL_fill 20 = .ok (.iconst 3, 1) := by decide +kernel
theorem dL_fill_21 : decode cL_fill 21 = .ok (.iaload, 1) := by decide +kernel
theorem dL_fill_22 : decode cL_fill 22 = .ok (.iconst 1, 1) := by decide +kernel
theorem dL_fill_23 : decode cL_fill 23 = .ok (.isub, 1) := by decide +kernel
theorem dL_fill_24 : decode cL_fill 24 = .ok (.istore 11, 2) := by decide +kernel
theorem dL_fill_26 : decode cL_fill 26 = .ok (.iload 11, 2) := by decide +kernel
theorem dL_fill_28 : decode cL_fill 28 = .ok (.ifCond .lt 164, 3) := by decide +kernel
theorem dL_fill_31 : decode cL_fill 31 = .ok (.aload_n 2, 1) := by decide +kernel
theorem dL_fill_32 : decode cL_fill 32 = .ok (.iconst 4, 1) := by decide +kernel
theorem dL_fill_33 : decode cL_fill 33 = .ok (.iload 11, 2) := by decide +kernel
theorem dL_fill_35 : decode cL_fill 35 = .ok (.imul, 1) := by decide +kernel
theorem dL_fill_36 : decode cL_fill 36 = .ok (.iconst 2, 1) := by decide +kernel
theorem dL_fill_37 : decode cL_fill 37 = .ok (.iadd, 1) := by decide +kernel
theorem dL_fill_38 : decode cL_fill 38 = .ok (.iaload, 1) := by decide +kernel
theorem dL_fill_39 : decode cL_fill 39 = .ok (.ifCond .ne 28, 3) := by decide +kernel
theorem dL_fill_42 : decode cL_fill 42 = .ok (.aload_n 1, 1) := by decide +kernel
theorem dL_fill_43 : decode cL_fill 43 = .ok (.iconst 4, 1) := by decide +kernel
theorem dL_fill_44 : decode cL_fill 44 = .ok (.iload 11, 2) := by decide +kernel
theorem dL_fill_46 : decode cL_fill 46 = .ok (.imul, 1) := by decide +kernel
theorem dL_fill_47 : decode cL_fill 47 = .ok (.iaload, 1) := by decide +kernel
theorem dL_fill_48 : decode cL_fill 48 = .ok (.iload 5, 2) := by decide +kernel
theorem dL_fill_50 : decode cL_fill 50 = .ok (.if_icmp .ne 17, 3) := by decide +kernel
theorem dL_fill_53 : decode cL_fill 53 = .ok (.iload 8, 2) := by decide +kernel
theorem dL_fill_55 : decode cL_fill 55 = .ok (.iload 11, 2) := by decide +kernel
theorem dL_fill_57 : decode cL_fill 57 = .ok (.ishr, 1) := by decide +kernel
theorem dL_fill_58 : decode cL_fill 58 = .ok (.iconst 1, 1) := by decide +kernel
theorem dL_fill_59 : decode cL_fill 59 = .ok (.iand, 1) := by decide +kernel
theorem dL_fill_60 : decode cL_fill 60 = .ok (.ifCond .ne 7, 3) := by decide +kernel
theorem dL_fill_63 : decode cL_fill 63 = .ok (.iconst 1, 1) := by decide +kernel
theorem dL_fill_64 : decode cL_fill 64 = .ok (.goto 4, 3) := by decide +kernel
theorem dL_fill_67 : decode cL_fill 67 = .ok (.iconst 0, 1) := by decide +kernel
theorem dL_fill_68 : decode cL_fill 68 = .ok (.istore 12, 2) := by decide +kernel
theorem dL_fill_70 : decode cL_fill 70 = .ok (.iload 10, 2) := by decide +kernel
theorem dL_fill_72 : decode cL_fill 72 = .ok (.ifCond .ge 7, 3) := by decide +kernel
theorem dL_fill_75 : decode cL_fill 75 = .ok (.iconst 1, 1) := by decide +kernel
theorem dL_fill_76 : decode cL_fill 76 = .ok (.goto 89, 3) := by decide +kernel
theorem dL_fill_79 : decode cL_fill 79 = .ok (.iload 6, 2) := by decide +kernel
theorem dL_fill_81 : decode cL_fill 81 = .ok (.ifCond .ne 23, 3) := by decide +kernel
theorem dL_fill_84 : decode cL_fill 84 = .ok (.aload_n 2, 1) := by decide +kernel
theorem dL_fill_85 : decode cL_fill 85 = .ok (.iconst 4, 1) := by decide +kernel
theorem dL_fill_86 : decode cL_fill 86 = .ok (.iload 10, 2) := by decide +kernel
theorem dL_fill_88 : decode cL_fill 88 = .ok (.imul, 1) := by decide +kernel
theorem dL_fill_89 : decode cL_fill 89 = .ok (.iconst 1, 1) := by decide +kernel
theorem dL_fill_90 : decode cL_fill 90 = .ok (.iadd, 1) := by decide +kernel
theorem dL_fill_91 : decode cL_fill 91 = .ok (.iaload, 1) := by decide +kernel
theorem dL_fill_92 : decode cL_fill 92 = .ok (.aload_n 2, 1) := by decide +kernel
theorem dL_fill_93 : decode cL_fill 93 = .ok (.iconst 4, 1) := by decide +kernel
theorem dL_fill_94 : decode cL_fill 94 = .ok (.iload 11, 2) := by decide +kernel
theorem dL_fill_96 : decode cL_fill 96 = .ok (.imul, 1) := by decide +kernel
theorem dL_fill_97 : decode cL_fill 97 = .ok (.iconst 1, 1) := by decide +kernel
theorem dL_fill_98 : decode cL_fill 98 = .ok (.iadd, 1) := by decide +kernel
theorem dL_fill_99 : decode cL_fill 99 = .ok (.iaload, 1) := by decide +kernel
theorem dL_fill_100 : decode cL_fill 100 = .ok (.isub, 1) := by decide +kernel
theorem dL_fill_101 : decode cL_fill 101 = .ok (.goto 64, 3) := by decide +kernel
theorem dL_fill_104 : decode cL_fill 104 = .ok (.iload 6, 2) := by decide +kernel
theorem dL_fill_106 : decode cL_fill 106 = .ok (.iconst 1, 1) := by decide +kernel
theorem dL_fill_107 : decode cL_fill 107 = .ok (.if_icmp .ne 23, 3) := by decide +kernel
theorem dL_fill_110 : decode cL_fill 110 = .ok (.aload_n 1, 1) := by decide +kernel
theorem dL_fill_111 : decode cL_fill 111 = .ok (.iconst 4, 1) := by decide +kernel
theorem dL_fill_112 : decode cL_fill 112 = .ok (.iload 11, 2) := by decide +kernel
theorem dL_fill_114 : decode cL_fill 114 = .ok (.imul, 1) := by decide +kernel
theorem dL_fill_115 : decode cL_fill 115 = .ok (.iconst 3, 1) := by decide +kernel
theorem dL_fill_116 : decode cL_fill 116 = .ok (.iadd, 1) := by decide +kernel
theorem dL_fill_117 : decode cL_fill 117 = .ok (.iaload, 1) := by decide +kernel
theorem dL_fill_118 : decode cL_fill 118 = .ok (.aload_n 1, 1) := by decide +kernel
theorem dL_fill_119 : decode cL_fill 119 = .ok (.iconst 4, 1) := by decide +kernel
theorem dL_fill_120 : decode cL_fill 120 = .ok (.iload 10, 2) := by decide +kernel
theorem dL_fill_122 : decode cL_fill 122 = .ok (.imul, 1) := by decide +kernel
theorem dL_fill_123 : decode cL_fill 123 = .ok (.iconst 3, 1) := by decide +kernel
theorem dL_fill_124 : decode cL_fill 124 = .ok (.iadd, 1) := by decide +kernel
theorem dL_fill_125 : decode cL_fill 125 = .ok (.iaload, 1) := by decide +kernel
theorem dL_fill_126 : decode cL_fill 126 = .ok (.isub, 1) := by decide +kernel
theorem dL_fill_127 : decode cL_fill 127 = .ok (.goto 38, 3) := by decide +kernel
theorem dL_fill_130 : decode cL_fill 130 = .ok (.aload_n 1, 1) := by decide +kernel
theorem dL_fill_131 : decode cL_fill 131 = .ok (.iconst 4, 1) := by decide +kernel
theorem dL_fill_132 : decode cL_fill 132 = .ok (.iload 11, 2) := by decide +kernel
theorem dL_fill_134 : decode cL_fill 134 = .ok (.imul, 1) := by decide +kernel
theorem dL_fill_135 : decode cL_fill 135 = .ok (.iconst 3, 1) := by decide +kernel
theorem dL_fill_136 : decode cL_fill 136 = .ok (.iadd, 1) := by decide +kernel
theorem dL_fill_137 : decode cL_fill 137 = .ok (.iaload, 1) := by decide +kernel
theorem dL_fill_138 : decode cL_fill 138 = .ok (.aload_n 1, 1) := by decide +kernel
theorem dL_fill_139 : decode cL_fill 139 = .ok (.iconst 4, 1) := by decide +kernel
theorem dL_fill_140 : decode cL_fill 140 = .ok (.iload 10, 2) := by decide +kernel
theorem dL_fill_142 : decode cL_fill 142 = .ok (.imul, 1) := by decide +kernel
theorem dL_fill_143 : decode cL_fill 143 = .ok (.iconst 1, 1) := by decide +kernel
theorem dL_fill_144 : decode cL_fill 144 = .ok (.iadd, 1) := by decide +kernel
theorem dL_fill_145 : decode cL_fill 145 = .ok (.iaload, 1) := by decide +kernel
theorem dL_fill_146 : decode cL_fill 146 = .ok (.imul, 1) := by decide +kernel
theorem dL_fill_147 : decode cL_fill 147 = .ok (.aload_n 1, 1) := by decide +kernel
theorem dL_fill_148 : decode cL_fill 148 = .ok (.iconst 4, 1) := by decide +kernel
theorem dL_fill_149 : decode cL_fill 149 = .ok (.iload 10, 2) := by decide +kernel
theorem dL_fill_151 : decode cL_fill 151 = .ok (.imul, 1) := by decide +kernel
theorem dL_fill_152 : decode cL_fill 152 = .ok (.iconst 3, 1) := by decide +kernel
theorem dL_fill_153 : decode cL_fill 153 = .ok (.iadd, 1) := by decide +kernel
theorem dL_fill_154 : decode cL_fill 154 = .ok (.iaload, 1) := by decide +kernel
theorem dL_fill_155 : decode cL_fill 155 = .ok (.aload_n 1, 1) := by decide +kernel
theorem dL_fill_156 : decode cL_fill 156 = .ok (.iconst 4, 1) := by decide +kernel
theorem dL_fill_157 : decode cL_fill 157 = .ok (.iload 11, 2) := by decide +kernel
theorem dL_fill_159 : decode cL_fill 159 = .ok (.imul, 1) := by decide +kernel
theorem dL_fill_160 : decode cL_fill 160 = .ok (.iconst 1, 1) := by decide +kernel
theorem dL_fill_161 : decode cL_fill 161 = .ok (.iadd, 1) := by decide +kernel
theorem dL_fill_162 : decode cL_fill 162 = .ok (.iaload, 1) := by decide +kernel
theorem dL_fill_163 : decode cL_fill 163 = .ok (.imul, 1) := by decide +kernel
theorem dL_fill_164 : decode cL_fill 164 = .ok (.isub, 1) := by decide +kernel
theorem dL_fill_165 : decode cL_fill 165 = .ok (.istore 13, 2) := by decide +kernel
theorem dL_fill_167 : decode cL_fill 167 = .ok (.iload 12, 2) := by decide +kernel
theorem dL_fill_169 : decode cL_fill 169 = .ok (.ifCond .eq 13, 3) := by decide +kernel
theorem dL_fill_172 : decode cL_fill 172 = .ok (.iload 13, 2) := by decide +kernel
theorem dL_fill_174 : decode cL_fill 174 = .ok (.ifCond .lt 8, 3) := by decide +kernel
theorem dL_fill_177 : decode cL_fill 177 = .ok (.iload 11, 2) := by decide +kernel
theorem dL_fill_179 : decode cL_fill 179 = .ok (.goto 5, 3) := by decide +kernel
theorem dL_fill_182 : decode cL_fill 182 = .ok (.iload 10, 2) := by decide +kernel
theorem dL_fill_184 : decode cL_fill 184 = .ok (.istore 10, 2) := by decide +kernel
theorem dL_fill_186 : decode cL_fill 186 = .ok (.iinc 11 (-1), 3) := by decide +kernel
theorem dL_fill_189 : decode cL_fill 189 = .ok (.goto (-163), 3) := by decide +kernel
theorem dL_fill_192 : decode cL_fill 192 = .ok (.iload 10, 2) := by decide +kernel
theorem dL_fill_194 : decode cL_fill 194 = .ok (.ifCond .lt 43, 3) := by decide +kernel
theorem dL_fill_197 : decode cL_fill 197 = .ok (.iload 8, 2) := by decide +kernel
theorem dL_fill_199 : decode cL_fill 199 = .ok (.iconst 1, 1) := by decide +kernel
theorem dL_fill_200 : decode cL_fill 200 = .ok (.iload 10, 2) := by decide +kernel
theorem dL_fill_202 : decode cL_fill 202 = .ok (.ishl, 1) := by decide +kernel
theorem dL_fill_203 : decode cL_fill 203 = .ok (.iadd, 1) := by decide +kernel
theorem dL_fill_204 : decode cL_fill 204 = .ok (.istore 8, 2) := by decide +kernel
theorem dL_fill_206 : decode cL_fill 206 = .ok (.aload_n 0, 1) := by decide +kernel
theorem dL_fill_207 : decode cL_fill 207 = .ok (.aload_n 1, 1) := by decide +kernel
theorem dL_fill_208 : decode cL_fill 208 = .ok (.aload_n 2, 1) := by decide +kernel
theorem dL_fill_209 : decode cL_fill 209 = .ok (.aload_n 3, 1) := by decide +kernel
theorem dL_fill_210 : decode cL_fill 210 = .ok (.iload 10, 2) := by decide +kernel
theorem dL_fill_212 : decode cL_fill 212 = .ok (.iload 4, 2) := by decide +kernel
theorem dL_fill_214 : decode cL_fill 214 = .ok (.invokestatic 19, 3) := by decide +kernel
theorem dL_fill_217 : decode cL_fill 217 = .ok (.ifCond .eq 20, 3) := by decide +kernel
theorem dL_fill_220 : decode cL_fill 220 = .ok (.aload_n 2, 1) := by decide +kernel
theorem dL_fill_221 : decode cL_fill 221 = .ok (.iload 10, 2) := by decide +kernel
theorem dL_fill_223 : decode cL_fill 223 = .ok (.iload 4, 2) := by decide +kernel
theorem dL_fill_225 : decode cL_fill 225 = .ok (.invokestatic 23, 3) := by decide +kernel
theorem dL_fill_228 : decode cL_fill 228 = .ok (.iload 7, 2) := by decide +kernel
theorem dL_fill_230 : decode cL_fill 230 = .ok (.iconst 1, 1) := by decide +kernel
theorem dL_fill_231 : decode cL_fill 231 = .ok (.iload 10, 2) := by decide +kernel
theorem dL_fill_233 : decode cL_fill 233 = .ok (.ishl, 1) := by decide +kernel
theorem dL_fill_234 : decode cL_fill 234 = .ok (.iadd, 1) := by decide +kernel
theorem dL_fill_235 : decode cL_fill 235 = .ok (.istore 7, 2) := by decide +kernel
theorem dL_fill_237 : decode cL_fill 237 = .ok (.iinc 9 1, 3) := by decide +kernel
theorem dL_fill_240 : decode cL_fill 240 = .ok (.goto (-231), 3) := by decide +kernel
theorem dL_fill_243 : decode cL_fill 243 = .ok (.iload 7, 2) := by decide +kernel
theorem dL_fill_245 : decode cL_fill 245 = .ok (.ireturn, 1) := by decide +kernel
theorem dL_offers_0 : decode cL_offers 0 = .ok (.aload_n 1, 1) := by decide +kernel
theorem dL_offers_1 : decode cL_offers 1 = .ok (.bipush 8, 2) := by decide +kernel
theorem dL_offers_3 : decode cL_offers 3 = .ok (.iload_n 3, 1) := by decide +kernel
theorem dL_offers_4 : decode cL_offers 4 = .ok (.imul, 1) := by decide +kernel
theorem dL_offers_5 : decode cL_offers 5 = .ok (.iaload, 1) := by decide +kernel
theorem dL_offers_6 : decode cL_offers 6 = .ok (.istore 6, 2) := by decide +kernel
theorem dL_offers_8 : decode cL_offers 8 = .ok (.aload_n 1, 1) := by decide +kernel
theorem dL_offers_9 : decode cL_offers 9 = .ok (.bipush 8, 2) := by decide +kernel
theorem dL_offers_11 : decode cL_offers 11 = .ok (.iload_n 3, 1) := by decide +kernel
theorem dL_offers_12 : decode cL_offers 12 = .ok (.imul, 1) := by decide +kernel
theorem dL_offers_13 : decode cL_offers 13 = .ok (.iconst 1, 1) := by decide +kernel
theorem dL_offers_14 : decode cL_offers 14 = .ok (.iadd, 1) := by decide +kernel
theorem dL_offers_15 : decode cL_offers 15 = .ok (.iaload, 1) := by decide +kernel
theorem dL_offers_16 : decode cL_offers 16 = .ok (.istore 7, 2) := by decide +kernel
theorem dL_offers_18 : decode cL_offers 18 = .ok (.iconst 0, 1) := by decide +kernel
theorem dL_offers_19 : decode cL_offers 19 = .ok (.istore 8, 2) := by decide +kernel
theorem dL_offers_21 : decode cL_offers 21 = .ok (.iconst 0, 1) := by decide +kernel
theorem dL_offers_22 : decode cL_offers 22 = .ok (.istore 9, 2) := by decide +kernel
theorem dL_offers_24 : decode cL_offers 24 = .ok (.iload 9, 2) := by decide +kernel
theorem dL_offers_26 : decode cL_offers 26 = .ok (.bipush 10, 2) := by decide +kernel
theorem dL_offers_28 : decode cL_offers 28 = .ok (.if_icmp .ge 177, 3) := by decide +kernel
theorem dL_offers_31 : decode cL_offers 31 = .ok (.iconst (-1), 1) := by decide +kernel
theorem dL_offers_32 : decode cL_offers 32 = .ok (.istore 10, 2) := by decide +kernel
theorem dL_offers_34 : decode cL_offers 34 = .ok (.aload_n 0, 1) := by decide +kernel
theorem dL_offers_35 : decode cL_offers 35 = .ok (.bipush 6, 2) := by decide +kernel
theorem dL_offers_37 : decode cL_offers 37 = .ok (.iaload, 1) := by decide +kernel
theorem dL_offers_38 : decode cL_offers 38 = .ok (.iconst 1, 1) := by decide +kernel
theorem dL_offers_39 : decode cL_offers 39 = .ok (.isub, 1) := by decide +kernel
theorem dL_offers_40 : decode cL_offers 40 = .ok (.istore 11, 2) := by decide +kernel
theorem dL_offers_42 : decode cL_offers 42 = .ok (.iload 11, 2) := by decide +kernel
theorem dL_offers_44 : decode cL_offers 44 = .ok (.ifCond .lt 104, 3) := by decide +kernel
theorem dL_offers_47 : decode cL_offers 47 = .ok (.aload_n 2, 1) := by decide +kernel
theorem dL_offers_48 : decode cL_offers 48 = .ok (.iconst 5, 1) := by decide +kernel
theorem dL_offers_49 : decode cL_offers 49 = .ok (.iload 11, 2) := by decide +kernel
theorem dL_offers_51 : decode cL_offers 51 = .ok (.imul, 1) := by decide +kernel
theorem dL_offers_52 : decode cL_offers 52 = .ok (.iaload, 1) := by decide +kernel
theorem dL_offers_53 : decode cL_offers 53 = .ok (.iload 4, 2) := by decide +kernel
theorem dL_offers_55 : decode cL_offers 55 = .ok (.if_icmp .ne 46, 3) := by decide +kernel
theorem dL_offers_58 : decode cL_offers 58 = .ok (.aload_n 2, 1) := by decide +kernel
theorem dL_offers_59 : decode cL_offers 59 = .ok (.iconst 5, 1) := by decide +kernel
theorem dL_offers_60 : decode cL_offers 60 = .ok (.iload 11, 2) := by decide +kernel
theorem dL_offers_62 : decode cL_offers 62 = .ok (.imul, 1) := by decide +kernel
theorem dL_offers_63 : decode cL_offers 63 = .ok (.iconst 4, 1) := by decide +kernel
theorem dL_offers_64 : decode cL_offers 64 = .ok (.iadd, 1) := by decide +kernel
theorem dL_offers_65 : decode cL_offers 65 = .ok (.iaload, 1) := by decide +kernel
theorem dL_offers_66 : decode cL_offers 66 = .ok (.iload 5, 2) := by decide +kernel
theorem dL_offers_68 : decode cL_offers 68 = .ok (.if_icmp .lt 33, 3) := by decide +kernel
theorem dL_offers_71 : decode cL_offers 71 = .ok (.aload_n 2, 1) := by decide +kernel
theorem dL_offers_72 : decode cL_offers 72 = .ok (.iconst 5, 1) := by decide +kernel
theorem dL_offers_73 : decode cL_offers 73 = .ok (.iload 11, 2) := by decide +kernel
theorem dL_offers_75 : decode cL_offers 75 = .ok (.imul, 1) := by decide +kernel
theorem dL_offers_76 : decode cL_offers 76 = .ok (.iconst 1, 1) := by decide +kernel
theorem dL_offers_77 : decode cL_offers 77 = .ok (.iadd, 1) := by decide +kernel
theorem dL_offers_78 : decode cL_offers 78 = .ok (.iaload, 1) := by decide +kernel
theorem dL_offers_79 : decode cL_offers 79 = .ok (.iload 6, 2) := by decide +kernel
theorem dL_offers_81 : decode cL_offers 81 = .ok (.if_icmp .gt 20, 3) := by decide +kernel
theorem dL_offers_84 : decode cL_offers 84 = .ok (.aload_n 2, 1) := by decide +kernel
theorem dL_offers_85 : decode cL_offers 85 = .ok (.iconst 5, 1) := by decide +kernel
theorem dL_offers_86 : decode cL_offers 86 = .ok (.iload 11, 2) := by decide +kernel
theorem dL_offers_88 : decode cL_offers 88 = .ok (.imul, 1) := by decide +kernel
theorem dL_offers_89 : decode cL_offers 89 = .ok (.iconst 2, 1) := by decide +kernel
theorem dL_offers_90 : decode cL_offers 90 = .ok (.iadd, 1) := by decide +kernel
theorem dL_offers_91 : decode cL_offers 91 = .ok (.iaload, 1) := by decide +kernel
theorem dL_offers_92 : decode cL_offers 92 = .ok (.iload 7, 2) := by decide +kernel
theorem dL_offers_94 : decode cL_offers 94 = .ok (.if_icmp .gt 7, 3) := by decide +kernel
theorem dL_offers_97 : decode cL_offers 97 = .ok (.iconst 1, 1) := by decide +kernel
theorem dL_offers_98 : decode cL_offers 98 = .ok (.goto 4, 3) := by decide +kernel
theorem dL_offers_101 : decode cL_offers 101 = .ok (.iconst 0, 1) := by decide +kernel
theorem dL_offers_102 : decode cL_offers 102 = .ok (.istore 12, 2) := by decide +kernel
theorem dL_offers_104 : decode cL_offers 104 = .ok (.iload 12, 2) := by decide +kernel
theorem dL_offers_106 : decode cL_offers 106 = .ok (.ifCond .eq 32, 3) := by decide +kernel
theorem dL_offers_109 : decode cL_offers 109 = .ok (.iload 10, 2) := by decide +kernel
theorem dL_offers_111 : decode cL_offers 111 = .ok (.ifCond .lt 22, 3) := by decide +kernel
theorem dL_offers_114 : decode cL_offers 114 = .ok (.aload_n 2, 1) := by decide +kernel
theorem dL_offers_115 : decode cL_offers 115 = .ok (.iconst 5, 1) := by decide +kernel
theorem dL_offers_116 : decode cL_offers 116 = .ok (.iload 11, 2) := by decide +kernel
theorem dL_offers_118 : decode cL_offers 118 = .ok (.imul, 1) := by decide +kernel
theorem dL_offers_119 : decode cL_offers 119 = .ok (.iconst 3, 1) := by decide +kernel
theorem dL_offers_120 : decode cL_offers 120 = .ok (.iadd, 1) := by decide +kernel
theorem dL_offers_121 : decode cL_offers 121 = .ok (.iaload, 1) := by decide +kernel
theorem dL_offers_122 : decode cL_offers 122 = .ok (.aload_n 2, 1) := by decide +kernel
theorem dL_offers_123 : decode cL_offers 123 = .ok (.iconst 5, 1) := by decide +kernel
theorem dL_offers_124 : decode cL_offers 124 = .ok (.iload 10, 2) := by decide +kernel
theorem dL_offers_126 : decode cL_offers 126 = .ok (.imul, 1) := by decide +kernel
theorem dL_offers_127 : decode cL_offers 127 = .ok (.iconst 3, 1) := by decide +kernel
theorem dL_offers_128 : decode cL_offers 128 = .ok (.iadd, 1) := by decide +kernel
theorem dL_offers_129 : decode cL_offers 129 = .ok (.iaload, 1) := by decide +kernel
theorem dL_offers_130 : decode cL_offers 130 = .ok (.if_icmp .lt 8, 3) := by decide +kernel
theorem dL_offers_133 : decode cL_offers 133 = .ok (.iload 11, 2) := by decide +kernel
theorem dL_offers_135 : decode cL_offers 135 = .ok (.goto 5, 3) := by decide +kernel
theorem dL_offers_138 : decode cL_offers 138 = .ok (.iload 10, 2) := by decide +kernel
theorem dL_offers_140 : decode cL_offers 140 = .ok (.istore 10, 2) := by decide +kernel
theorem dL_offers_142 : decode cL_offers 142 = .ok (.iinc 11 (-1), 3) := by decide +kernel
theorem dL_offers_145 : decode cL_offers 145 = .ok (.goto (-103), 3) := by decide +kernel
theorem dL_offers_148 : decode cL_offers 148 = .ok (.iload 10, 2) := by decide +kernel
theorem dL_offers_150 : decode cL_offers 150 = .ok (.ifCond .lt 49, 3) := by decide +kernel
theorem dL_offers_153 : decode cL_offers 153 = .ok (.iload 6, 2) := by decide +kernel
theorem dL_offers_155 : decode cL_offers 155 = .ok (.aload_n 2, 1) := by decide +kernel
theorem dL_offers_156 : decode cL_offers 156 = .ok (.iconst 5, 1) := by decide +kernel
theorem dL_offers_157 : decode cL_offers 157 = .ok (.iload 10, 2) := by decide +kernel
theorem dL_offers_159 : decode cL_offers 159 = .ok (.imul, 1) := by decide +kernel
theorem dL_offers_160 : decode cL_offers 160 = .ok (.iconst 1, 1) := by decide +kernel
theorem dL_offers_161 : decode cL_offers 161 = .ok (.iadd, 1) := by decide +kernel
theorem dL_offers_162 : decode cL_offers 162 = .ok (.iaload, 1) := by decide +kernel
theorem dL_offers_163 : decode cL_offers 163 = .ok (.isub, 1) := by decide +kernel
theorem dL_offers_164 : decode cL_offers 164 = .ok (.istore 6, 2) := by decide +kernel
theorem dL_offers_166 : decode cL_offers 166 = .ok (.iload 7, 2) := by decide +kernel
theorem dL_offers_168 : decode cL_offers 168 = .ok (.aload_n 2, 1) := by decide +kernel
theorem dL_offers_169 : decode cL_offers 169 = .ok (.iconst 5, 1) := by decide +kernel
theorem dL_offers_170 : decode cL_offers 170 = .ok (.iload 10, 2) := by decide +kernel
theorem dL_offers_172 : decode cL_offers 172 = .ok (.imul, 1) := by decide +kernel
theorem dL_offers_173 : decode cL_offers 173 = .ok (.iconst 2, 1) := by decide +kernel
theorem dL_offers_174 : decode cL_offers 174 = .ok (.iadd, 1) := by decide +kernel
theorem dL_offers_175 : decode cL_offers 175 = .ok (.iaload, 1) := by decide +kernel
theorem dL_offers_176 : decode cL_offers 176 = .ok (.isub, 1) := by decide +kernel
theorem dL_offers_177 : decode cL_offers 177 = .ok (.istore 7, 2) := by decide +kernel
theorem dL_offers_179 : decode cL_offers 179 = .ok (.iload 8, 2) := by decide +kernel
theorem dL_offers_181 : decode cL_offers 181 = .ok (.aload_n 2, 1) := by decide +kernel
theorem dL_offers_182 : decode cL_offers 182 = .ok (.iconst 5, 1) := by decide +kernel
theorem dL_offers_183 : decode cL_offers 183 = .ok (.iload 10, 2) := by decide +kernel
theorem dL_offers_185 : decode cL_offers 185 = .ok (.imul, 1) := by decide +kernel
theorem dL_offers_186 : decode cL_offers 186 = .ok (.iconst 3, 1) := by decide +kernel
theorem dL_offers_187 : decode cL_offers 187 = .ok (.iadd, 1) := by decide +kernel
theorem dL_offers_188 : decode cL_offers 188 = .ok (.iaload, 1) := by decide +kernel
theorem dL_offers_189 : decode cL_offers 189 = .ok (.iadd, 1) := by decide +kernel
theorem dL_offers_190 : decode cL_offers 190 = .ok (.istore 8, 2) := by decide +kernel
theorem dL_offers_192 : decode cL_offers 192 = .ok (.aload_n 0, 1) := by decide +kernel
theorem dL_offers_193 : decode cL_offers 193 = .ok (.aload_n 2, 1) := by decide +kernel
theorem dL_offers_194 : decode cL_offers 194 = .ok (.iload 10, 2) := by decide +kernel
theorem dL_offers_196 : decode cL_offers 196 = .ok (.invokestatic 27, 3) := by decide +kernel
theorem dL_offers_199 : decode cL_offers 199 = .ok (.iinc 9 1, 3) := by decide +kernel
theorem dL_offers_202 : decode cL_offers 202 = .ok (.goto (-178), 3) := by decide +kernel
theorem dL_offers_205 : decode cL_offers 205 = .ok (.iload 8, 2) := by decide +kernel
theorem dL_offers_207 : decode cL_offers 207 = .ok (.ireturn, 1) := by decide +kernel
theorem dL_away_0 : decode cL_away 0 = .ok (.iconst 5, 1) := by decide +kernel
theorem dL_away_1 : decode cL_away 1 = .ok (.iload_n 2, 1) := by decide +kernel
theorem dL_away_2 : decode cL_away 2 = .ok (.imul, 1) := by decide +kernel
theorem dL_away_3 : decode cL_away 3 = .ok (.istore_n 3, 1) := by decide +kernel
theorem dL_away_4 : decode cL_away 4 = .ok (.iload_n 3, 1) := by decide +kernel
theorem dL_away_5 : decode cL_away 5 = .ok (.bipush 45, 2) := by decide +kernel
theorem dL_away_7 : decode cL_away 7 = .ok (.if_icmp .ge 17, 3) := by decide +kernel
theorem dL_away_10 : decode cL_away 10 = .ok (.aload_n 1, 1) := by decide +kernel
theorem dL_away_11 : decode cL_away 11 = .ok (.iload_n 3, 1) := by decide +kernel
theorem dL_away_12 : decode cL_away 12 = .ok (.aload_n 1, 1) := by decide +kernel
theorem dL_away_13 : decode cL_away 13 = .ok (.iload_n 3, 1) := by decide +kernel
theorem dL_away_14 : decode cL_away 14 = .ok (.iconst 5, 1) := by decide +kernel
theorem dL_away_15 : decode cL_away 15 = .ok (.iadd, 1) := by decide +kernel
theorem dL_away_16 : decode cL_away 16 = .ok (.iaload, 1) := by decide +kernel
theorem dL_away_17 : decode cL_away 17 = .ok (.iastore, 1) := by decide +kernel
theorem dL_away_18 : decode cL_away 18 = .ok (.iinc 3 1, 3) := by decide +kernel
theorem dL_away_21 : decode cL_away 21 = .ok (.goto (-17), 3) := by decide +kernel
theorem dL_away_24 : decode cL_away 24 = .ok (.aload_n 0, 1) := by decide +kernel
theorem dL_away_25 : decode cL_away 25 = .ok (.bipush 6, 2) := by decide +kernel
theorem dL_away_27 : decode cL_away 27 = .ok (.dup2, 1) := by decide +kernel
theorem dL_away_28 : decode cL_away 28 = .ok (.iaload, 1) := by decide +kernel
theorem dL_away_29 : decode cL_away 29 = .ok (.iconst 1, 1) := by decide +kernel
theorem dL_away_30 : decode cL_away 30 = .ok (.isub, 1) := by decide +kernel
theorem dL_away_31 : decode cL_away 31 = .ok (.iastore, 1) := by decide +kernel
theorem dL_away_32 : decode cL_away 32 = .ok (.return_, 1) := by decide +kernel
theorem dL_hour_0 : decode cL_hour 0 = .ok (.iconst 0, 1) := by decide +kernel
theorem dL_hour_1 : decode cL_hour 1 = .ok (.istore 6, 2) := by decide +kernel
theorem dL_hour_3 : decode cL_hour 3 = .ok (.aload_n 0, 1) := by decide +kernel
theorem dL_hour_4 : decode cL_hour 4 = .ok (.iconst 5, 1) := by decide +kernel
theorem dL_hour_5 : decode cL_hour 5 = .ok (.dup2, 1) := by decide +kernel
theorem dL_hour_6 : decode cL_hour 6 = .ok (.iaload, 1) := by decide +kernel
theorem dL_hour_7 : decode cL_hour 7 = .ok (.iconst 1, 1) := by decide +kernel
theorem dL_hour_8 : decode cL_hour 8 = .ok (.iadd, 1) := by decide +kernel
theorem dL_hour_9 : decode cL_hour 9 = .ok (.iastore, 1) := by decide +kernel
theorem dL_hour_10 : decode cL_hour 10 = .ok (.iconst 0, 1) := by decide +kernel
theorem dL_hour_11 : decode cL_hour 11 = .ok (.istore 7, 2) := by decide +kernel
theorem dL_hour_13 : decode cL_hour 13 = .ok (.iload 7, 2) := by decide +kernel
theorem dL_hour_15 : decode cL_hour 15 = .ok (.aload_n 0, 1) := by decide +kernel
theorem dL_hour_16 : decode cL_hour 16 = .ok (.iconst 4, 1) := by decide +kernel
theorem dL_hour_17 : decode cL_hour 17 = .ok (.iaload, 1) := by decide +kernel
theorem dL_hour_18 : decode cL_hour 18 = .ok (.if_icmp .ge 337, 3) := by decide +kernel
theorem dL_hour_21 : decode cL_hour 21 = .ok (.bipush 8, 2) := by decide +kernel
theorem dL_hour_23 : decode cL_hour 23 = .ok (.iload 7, 2) := by decide +kernel
theorem dL_hour_25 : decode cL_hour 25 = .ok (.imul, 1) := by decide +kernel
theorem dL_hour_26 : decode cL_hour 26 = .ok (.istore 8, 2) := by decide +kernel
theorem dL_hour_28 : decode cL_hour 28 = .ok (.aload 4, 2) := by decide +kernel
theorem dL_hour_30 : decode cL_hour 30 = .ok (.iload 8, 2) := by decide +kernel
theorem dL_hour_32 : decode cL_hour 32 = .ok (.iconst 2, 1) := by decide +kernel
theorem dL_hour_33 : decode cL_hour 33 = .ok (.iadd, 1) := by decide +kernel
theorem dL_hour_34 : decode cL_hour 34 = .ok (.iaload, 1) := by decide +kernel
theorem dL_hour_35 : decode cL_hour 35 = .ok (.iconst 2, 1) := by decide +kernel
theorem dL_hour_36 : decode cL_hour 36 = .ok (.if_icmp .ne 63, 3) := by decide +kernel
theorem dL_hour_39 : decode cL_hour 39 = .ok (.aload 4, 2) := by decide +kernel
theorem dL_hour_41 : decode cL_hour 41 = .ok (.iload 8, 2) := by decide +kernel
theorem dL_hour_43 : decode cL_hour 43 = .ok (.iconst 4, 1) := by decide +kernel
theorem dL_hour_44 : decode cL_hour 44 = .ok (.iadd, 1) := by decide +kernel
theorem dL_hour_45 : decode cL_hour 45 = .ok (.iaload, 1) := by decide +kernel
theorem dL_hour_46 : decode cL_hour 46 = .ok (.aload_n 0, 1) := by decide +kernel
theorem dL_hour_47 : decode cL_hour 47 = .ok (.iconst 5, 1) := by decide +kernel
theorem dL_hour_48 : decode cL_hour 48 = .ok (.iaload, 1) := by decide +kernel
theorem dL_hour_49 : decode cL_hour 49 = .ok (.if_icmp .ne 50, 3) := by decide +kernel
theorem dL_hour_52 : decode cL_hour 52 = .ok (.aload 4, 2) := by decide +kernel
theorem dL_hour_54 : decode cL_hour 54 = .ok (.iload 8, 2) := by decide +kernel
theorem dL_hour_56 : decode cL_hour 56 = .ok (.iconst 2, 1) := by decide +kernel
theorem dL_hour_57 : decode cL_hour 57 = .ok (.iadd, 1) := by decide +kernel
theorem dL_hour_58 : decode cL_hour 58 = .ok (.iconst 0, 1) := by decide +kernel
theorem dL_hour_59 : decode cL_hour 59 = .ok (.iastore, 1) := by decide +kernel
theorem dL_hour_60 : decode cL_hour 60 = .ok (.aload 4, 2) := by decide +kernel
theorem dL_hour_62 : decode cL_hour 62 = .ok (.iload 8, 2) := by decide +kernel
theorem dL_hour_64 : decode cL_hour 64 = .ok (.bipush 7, 2) := by decide +kernel
theorem dL_hour_66 : decode cL_hour 66 = .ok (.iadd, 1) := by decide +kernel
theorem dL_hour_67 : decode cL_hour 67 = .ok (.dup2, 1) := by decide +kernel
theorem dL_hour_68 : decode cL_hour 68 = .ok (.iaload, 1) := by decide +kernel
theorem dL_hour_69 : decode cL_hour 69 = .ok (.iconst 1, 1) := by decide +kernel
theorem dL_hour_70 : decode cL_hour 70 = .ok (.iadd, 1) := by decide +kernel
theorem dL_hour_71 : decode cL_hour 71 = .ok (.iastore, 1) := by decide +kernel
theorem dL_hour_72 : decode cL_hour 72 = .ok (.aload_n 0, 1) := by decide +kernel
theorem dL_hour_73 : decode cL_hour 73 = .ok (.bipush 10, 2) := by decide +kernel
theorem dL_hour_75 : decode cL_hour 75 = .ok (.dup2, 1) := by decide +kernel
theorem dL_hour_76 : decode cL_hour 76 = .ok (.iaload, 1) := by decide +kernel
theorem dL_hour_77 : decode cL_hour 77 = .ok (.aload 4, 2) := by decide +kernel
theorem dL_hour_79 : decode cL_hour 79 = .ok (.iload 8, 2) := by decide +kernel
theorem dL_hour_81 : decode cL_hour 81 = .ok (.bipush 6, 2) := by decide +kernel
theorem dL_hour_83 : decode cL_hour 83 = .ok (.iadd, 1) := by decide +kernel
theorem dL_hour_84 : decode cL_hour 84 = .ok (.iaload, 1) := by decide +kernel
theorem dL_hour_85 : decode cL_hour 85 = .ok (.iadd, 1) := by decide +kernel
theorem dL_hour_86 : decode cL_hour 86 = .ok (.iastore, 1) := by decide +kernel
theorem dL_hour_87 : decode cL_hour 87 = .ok (.aload 4, 2) := by decide +kernel
theorem dL_hour_89 : decode cL_hour 89 = .ok (.iload 8, 2) := by decide +kernel
theorem dL_hour_91 : decode cL_hour 91 = .ok (.bipush 6, 2) := by decide +kernel
theorem dL_hour_93 : decode cL_hour 93 = .ok (.iadd, 1) := by decide +kernel
theorem dL_hour_94 : decode cL_hour 94 = .ok (.iconst 0, 1) := by decide +kernel
theorem dL_hour_95 : decode cL_hour 95 = .ok (.iastore, 1) := by decide +kernel
theorem dL_hour_96 : decode cL_hour 96 = .ok (.goto 253, 3) := by decide +kernel
theorem dL_hour_99 : decode cL_hour 99 = .ok (.aload 4, 2) := by decide +kernel
theorem dL_hour_101 : decode cL_hour 101 = .ok (.iload 8, 2) := by decide +kernel
theorem dL_hour_103 : decode cL_hour 103 = .ok (.iconst 2, 1) := by decide +kernel
theorem dL_hour_104 : decode cL_hour 104 = .ok (.iadd, 1) := by decide +kernel
theorem dL_hour_105 : decode cL_hour 105 = .ok (.iaload, 1) := by decide +kernel
theorem dL_hour_106 : decode cL_hour 106 = .ok (.iconst 1, 1) := by decide +kernel
theorem dL_hour_107 : decode cL_hour 107 = .ok (.if_icmp .ne 242, 3) := by decide +kernel
theorem dL_hour_110 : decode cL_hour 110 = .ok (.aload 4, 2) := by decide +kernel
theorem dL_hour_112 : decode cL_hour 112 = .ok (.iload 8, 2) := by decide +kernel
theorem dL_hour_114 : decode cL_hour 114 = .ok (.iconst 4, 1) := by decide +kernel
theorem dL_hour_115 : decode cL_hour 115 = .ok (.iadd, 1) := by decide +kernel
theorem dL_hour_116 : decode cL_hour 116 = .ok (.iaload, 1) := by decide +kernel
theorem dL_hour_117 : decode cL_hour 117 = .ok (.aload_n 0, 1) := by decide +kernel
theorem dL_hour_118 : decode cL_hour 118 = .ok (.iconst 5, 1) := by decide +kernel
theorem dL_hour_119 : decode cL_hour 119 = .ok (.iaload, 1) := by decide +kernel
theorem dL_hour_120 : decode cL_hour 120 = .ok (.if_icmp .ne 229, 3) := by decide +kernel
theorem dL_hour_123 : decode cL_hour 123 = .ok (.iconst 0, 1) := by decide +kernel
theorem dL_hour_124 : decode cL_hour 124 = .ok (.istore 9, 2) := by decide +kernel
theorem dL_hour_126 : decode cL_hour 126 = .ok (.iload 9, 2) := by decide +kernel
theorem dL_hour_128 : decode cL_hour 128 = .ok (.aload_n 0, 1) := by decide +kernel
theorem dL_hour_129 : decode cL_hour 129 = .ok (.iconst 3, 1) := by decide +kernel
theorem dL_hour_130 : decode cL_hour 130 = .ok (.iaload, 1) := by decide +kernel
theorem dL_hour_131 : decode cL_hour 131 = .ok (.if_icmp .ge 164, 3) := by decide +kernel
theorem dL_hour_134 : decode cL_hour 134 = .ok (.aload_n 2, 1) := by decide +kernel
theorem dL_hour_135 : decode cL_hour 135 = .ok (.iconst 4, 1) := by decide +kernel
theorem dL_hour_136 : decode cL_hour 136 = .ok (.iload 9, 2) := by decide +kernel
theorem dL_hour_138 : decode cL_hour 138 = .ok (.imul, 1) := by decide +kernel
theorem dL_hour_139 : decode cL_hour 139 = .ok (.iconst 2, 1) := by decide +kernel
theorem dL_hour_140 : decode cL_hour 140 = .ok (.iadd, 1) := by decide +kernel
theorem dL_hour_141 : decode cL_hour 141 = .ok (.iaload, 1) := by decide +kernel
theorem dL_hour_142 : decode cL_hour 142 = .ok (.iconst 2, 1) := by decide +kernel
theorem dL_hour_143 : decode cL_hour 143 = .ok (.if_icmp .ne 146, 3) := by decide +kernel
theorem dL_hour_146 : decode cL_hour 146 = .ok (.aload_n 2, 1) := by decide +kernel
theorem dL_hour_147 : decode cL_hour 147 = .ok (.iconst 4, 1) := by decide +kernel
theorem dL_hour_148 : decode cL_hour 148 = .ok (.iload 9, 2) := by decide +kernel
theorem dL_hour_150 : decode cL_hour 150 = .ok (.imul, 1) := by decide +kernel
theorem dL_hour_151 : decode cL_hour 151 = .ok (.iconst 3, 1) := by decide +kernel
theorem dL_hour_152 : decode cL_hour 152 = .ok (.iadd, 1) := by decide +kernel
theorem dL_hour_153 : decode cL_hour 153 = .ok (.iaload, 1) := by decide +kernel
theorem dL_hour_154 : decode cL_hour 154 = .ok (.iload 7, 2) := by decide +kernel
theorem dL_hour_156 : decode cL_hour 156 = .ok (.if_icmp .ne 133, 3) := by decide +kernel
theorem dL_hour_159 : decode cL_hour 159 = .ok (.aload_n 2, 1) := by decide +kernel
theorem dL_hour_160 : decode cL_hour 160 = .ok (.iconst 4, 1) := by decide +kernel
theorem dL_hour_161 : decode cL_hour 161 = .ok (.iload 9, 2) := by decide +kernel
theorem dL_hour_163 : decode cL_hour 163 = .ok (.imul, 1) := by decide +kernel
theorem dL_hour_164 : decode cL_hour 164 = .ok (.iconst 1, 1) := by decide +kernel
theorem dL_hour_165 : decode cL_hour 165 = .ok (.iadd, 1) := by decide +kernel
theorem dL_hour_166 : decode cL_hour 166 = .ok (.iaload, 1) := by decide +kernel
theorem dL_hour_167 : decode cL_hour 167 = .ok (.aload_n 0, 1) := by decide +kernel
theorem dL_hour_168 : decode cL_hour 168 = .ok (.iconst 5, 1) := by decide +kernel
theorem dL_hour_169 : decode cL_hour 169 = .ok (.iaload, 1) := by decide +kernel
theorem dL_hour_170 : decode cL_hour 170 = .ok (.if_icmp .ge 7, 3) := by decide +kernel
theorem dL_hour_173 : decode cL_hour 173 = .ok (.iconst 1, 1) := by decide +kernel
theorem dL_hour_174 : decode cL_hour 174 = .ok (.goto 4, 3) := by decide +kernel
theorem dL_hour_177 : decode cL_hour 177 = .ok (.iconst 0, 1) := by decide +kernel
theorem dL_hour_178 : decode cL_hour 178 = .ok (.istore 10, 2) := by decide +kernel
theorem dL_hour_180 : decode cL_hour 180 = .ok (.aload_n 2, 1) := by decide +kernel
theorem dL_hour_181 : decode cL_hour 181 = .ok (.iconst 4, 1) := by decide +kernel
theorem dL_hour_182 : decode cL_hour 182 = .ok (.iload 9, 2) := by decide +kernel
theorem dL_hour_184 : decode cL_hour 184 = .ok (.imul, 1) := by decide +kernel
theorem dL_hour_185 : decode cL_hour 185 = .ok (.iconst 2, 1) := by decide +kernel
theorem dL_hour_186 : decode cL_hour 186 = .ok (.iadd, 1) := by decide +kernel
theorem dL_hour_187 : decode cL_hour 187 = .ok (.iload 10, 2) := by decide +kernel
theorem dL_hour_189 : decode cL_hour 189 = .ok (.ifCond .eq 7, 3) := by decide +kernel
theorem dL_hour_192 : decode cL_hour 192 = .ok (.iconst 4, 1) := by decide +kernel
theorem dL_hour_193 : decode cL_hour 193 = .ok (.goto 4, 3) := by decide +kernel
theorem dL_hour_196 : decode cL_hour 196 = .ok (.iconst 3, 1) := by decide +kernel
theorem dL_hour_197 : decode cL_hour 197 = .ok (.iastore, 1) := by decide +kernel
theorem dL_hour_198 : decode cL_hour 198 = .ok (.aload_n 3, 1) := by decide +kernel
theorem dL_hour_199 : decode cL_hour 199 = .ok (.iconst 4, 1) := by decide +kernel
theorem dL_hour_200 : decode cL_hour 200 = .ok (.iload 9, 2) := by decide +kernel
theorem dL_hour_202 : decode cL_hour 202 = .ok (.imul, 1) := by decide +kernel
theorem dL_hour_203 : decode cL_hour 203 = .ok (.aload_n 0, 1) := by decide +kernel
theorem dL_hour_204 : decode cL_hour 204 = .ok (.iconst 5, 1) := by decide +kernel
theorem dL_hour_205 : decode cL_hour 205 = .ok (.iaload, 1) := by decide +kernel
theorem dL_hour_206 : decode cL_hour 206 = .ok (.iastore, 1) := by decide +kernel
theorem dL_hour_207 : decode cL_hour 207 = .ok (.aload_n 0, 1) := by decide +kernel
theorem dL_hour_208 : decode cL_hour 208 = .ok (.iload 10, 2) := by decide +kernel
theorem dL_hour_210 : decode cL_hour 210 = .ok (.ifCond .eq 8, 3) := by decide +kernel
theorem dL_hour_213 : decode cL_hour 213 = .ok (.bipush 8, 2) := by decide +kernel
theorem dL_hour_215 : decode cL_hour 215 = .ok (.goto 5, 3) := by decide +kernel
theorem dL_hour_218 : decode cL_hour 218 = .ok (.bipush 7, 2) := by decide +kernel
theorem dL_hour_220 : decode cL_hour 220 = .ok (.dup2, 1) := by decide +kernel
theorem dL_hour_221 : decode cL_hour 221 = .ok (.iaload, 1) := by decide +kernel
theorem dL_hour_222 : decode cL_hour 222 = .ok (.iconst 1, 1) := by decide +kernel
theorem dL_hour_223 : decode cL_hour 223 = .ok (.iadd, 1) := by decide +kernel
theorem dL_hour_224 : decode cL_hour 224 = .ok (.iastore, 1) := by decide +kernel
theorem dL_hour_225 : decode cL_hour 225 = .ok (.aload_n 0, 1) := by decide +kernel
theorem dL_hour_226 : decode cL_hour 226 = .ok (.bipush 9, 2) := by decide +kernel
theorem dL_hour_228 : decode cL_hour 228 = .ok (.dup2, 1) := by decide +kernel
theorem dL_hour_229 : decode cL_hour 229 = .ok (.iaload, 1) := by decide +kernel
theorem dL_hour_230 : decode cL_hour 230 = .ok (.iload 10, 2) := by decide +kernel
theorem dL_hour_232 : decode cL_hour 232 = .ok (.ifCond .eq 7, 3) := by decide +kernel
theorem dL_hour_235 : decode cL_hour 235 = .ok (.iconst 0, 1) := by decide +kernel
theorem dL_hour_236 : decode cL_hour 236 = .ok (.goto 11, 3) := by decide +kernel
theorem dL_hour_239 : decode cL_hour 239 = .ok (.aload_n 1, 1) := by decide +kernel
theorem dL_hour_240 : decode cL_hour 240 = .ok (.iconst 4, 1) := by decide +kernel
theorem dL_hour_241 : decode cL_hour 241 = .ok (.iload 9, 2) := by decide +kernel
theorem dL_hour_243 : decode cL_hour 243 = .ok (.imul, 1) := by decide +kernel
theorem dL_hour_244 : decode cL_hour 244 = .ok (.iconst 3, 1) := by decide +kernel
theorem dL_hour_245 : decode cL_hour 245 = .ok (.iadd, 1) := by decide +kernel
theorem dL_hour_246 : decode cL_hour 246 = .ok (.iaload, 1) := by decide +kernel
theorem dL_hour_247 : decode cL_hour 247 = .ok (.iadd, 1) := by decide +kernel
theorem dL_hour_248 : decode cL_hour 248 = .ok (.iastore, 1) := by decide +kernel
theorem dL_hour_249 : decode cL_hour 249 = .ok (.aload_n 0, 1) := by decide +kernel
theorem dL_hour_250 : decode cL_hour 250 = .ok (.bipush 12, 2) := by decide +kernel
theorem dL_hour_252 : decode cL_hour 252 = .ok (.dup2, 1) := by decide +kernel
theorem dL_hour_253 : decode cL_hour 253 = .ok (.iaload, 1) := by decide +kernel
theorem dL_hour_254 : decode cL_hour 254 = .ok (.aload_n 2, 1) := by decide +kernel
theorem dL_hour_255 : decode cL_hour 255 = .ok (.iconst 4, 1) := by decide +kernel
theorem dL_hour_256 : decode cL_hour 256 = .ok (.iload 9, 2) := by decide +kernel
theorem dL_hour_258 : decode cL_hour 258 = .ok (.imul, 1) := by decide +kernel
theorem dL_hour_259 : decode cL_hour 259 = .ok (.iaload, 1) := by decide +kernel
theorem dL_hour_260 : decode cL_hour 260 = .ok (.aload_n 0, 1) := by decide +kernel
theorem dL_hour_261 : decode cL_hour 261 = .ok (.iconst 5, 1) := by decide +kernel
theorem dL_hour_262 : decode cL_hour 262 = .ok (.iaload, 1) := by decide +kernel
theorem dL_hour_263 : decode cL_hour 263 = .ok (.if_icmp .le 20, 3) := by decide +kernel
theorem dL_hour_266 : decode cL_hour 266 = .ok (.aload_n 0, 1) := by decide +kernel
theorem dL_hour_267 : decode cL_hour 267 = .ok (.iconst 2, 1) := by decide +kernel
theorem dL_hour_268 : decode cL_hour 268 = .ok (.iaload, 1) := by decide +kernel
theorem dL_hour_269 : decode cL_hour 269 = .ok (.aload_n 2, 1) := by decide +kernel
theorem dL_hour_270 : decode cL_hour 270 = .ok (.iconst 4, 1) := by decide +kernel
theorem dL_hour_271 : decode cL_hour 271 = .ok (.iload 9, 2) := by decide +kernel
theorem dL_hour_273 : decode cL_hour 273 = .ok (.imul, 1) := by decide +kernel
theorem dL_hour_274 : decode cL_hour 274 = .ok (.iaload, 1) := by decide +kernel
theorem dL_hour_275 : decode cL_hour 275 = .ok (.aload_n 0, 1) := by decide +kernel
theorem dL_hour_276 : decode cL_hour 276 = .ok (.iconst 5, 1) := by decide +kernel
theorem dL_hour_277 : decode cL_hour 277 = .ok (.iaload, 1) := by decide +kernel
theorem dL_hour_278 : decode cL_hour 278 = .ok (.isub, 1) := by decide +kernel
theorem dL_hour_279 : decode cL_hour 279 = .ok (.imul, 1) := by decide +kernel
theorem dL_hour_280 : decode cL_hour 280 = .ok (.goto 4, 3) := by decide +kernel
theorem dL_hour_283 : decode cL_hour 283 = .ok (.iconst 0, 1) := by decide +kernel
theorem dL_hour_284 : decode cL_hour 284 = .ok (.iadd, 1) := by decide +kernel
theorem dL_hour_285 : decode cL_hour 285 = .ok (.iastore, 1) := by decide +kernel
theorem dL_hour_286 : decode cL_hour 286 = .ok (.iinc 6 1, 3) := by decide +kernel
theorem dL_hour_289 : decode cL_hour 289 = .ok (.iinc 9 1, 3) := by decide +kernel
theorem dL_hour_292 : decode cL_hour 292 = .ok (.goto (-166), 3) := by decide +kernel
theorem dL_hour_295 : decode cL_hour 295 = .ok (.aload 4, 2) := by decide +kernel
theorem dL_hour_297 : decode cL_hour 297 = .ok (.iload 8, 2) := by decide +kernel
theorem dL_hour_299 : decode cL_hour 299 = .ok (.bipush 6, 2) := by decide +kernel
theorem dL_hour_301 : decode cL_hour 301 = .ok (.iadd, 1) := by decide +kernel
theorem dL_hour_302 : decode cL_hour 302 = .ok (.aload_n 0, 1) := by decide +kernel
theorem dL_hour_303 : decode cL_hour 303 = .ok (.aload 4, 2) := by decide +kernel
theorem dL_hour_305 : decode cL_hour 305 = .ok (.aload 5, 2) := by decide +kernel
theorem dL_hour_307 : decode cL_hour 307 = .ok (.iload 7, 2) := by decide +kernel
theorem dL_hour_309 : decode cL_hour 309 = .ok (.aload 4, 2) := by decide +kernel
theorem dL_hour_311 : decode cL_hour 311 = .ok (.iload 8, 2) := by decide +kernel
theorem dL_hour_313 : decode cL_hour 313 = .ok (.iconst 3, 1) := by decide +kernel
theorem dL_hour_314 : decode cL_hour 314 = .ok (.iadd, 1) := by decide +kernel
theorem dL_hour_315 : decode cL_hour 315 = .ok (.iaload, 1) := by decide +kernel
theorem dL_hour_316 : decode cL_hour 316 = .ok (.aload_n 0, 1) := by decide +kernel
theorem dL_hour_317 : decode cL_hour 317 = .ok (.iconst 5, 1) := by decide +kernel
theorem dL_hour_318 : decode cL_hour 318 = .ok (.iaload, 1) := by decide +kernel
theorem dL_hour_319 : decode cL_hour 319 = .ok (.invokestatic 31, 3) := by decide +kernel
theorem dL_hour_322 : decode cL_hour 322 = .ok (.iastore, 1) := by decide +kernel
theorem dL_hour_323 : decode cL_hour 323 = .ok (.aload 4, 2) := by decide +kernel
theorem dL_hour_325 : decode cL_hour 325 = .ok (.iload 8, 2) := by decide +kernel
theorem dL_hour_327 : decode cL_hour 327 = .ok (.iconst 2, 1) := by decide +kernel
theorem dL_hour_328 : decode cL_hour 328 = .ok (.iadd, 1) := by decide +kernel
theorem dL_hour_329 : decode cL_hour 329 = .ok (.iconst 2, 1) := by decide +kernel
theorem dL_hour_330 : decode cL_hour 330 = .ok (.iastore, 1) := by decide +kernel
theorem dL_hour_331 : decode cL_hour 331 = .ok (.aload 4, 2) := by decide +kernel
theorem dL_hour_333 : decode cL_hour 333 = .ok (.iload 8, 2) := by decide +kernel
theorem dL_hour_335 : decode cL_hour 335 = .ok (.iconst 4, 1) := by decide +kernel
theorem dL_hour_336 : decode cL_hour 336 = .ok (.iadd, 1) := by decide +kernel
theorem dL_hour_337 : decode cL_hour 337 = .ok (.aload_n 0, 1) := by decide +kernel
theorem dL_hour_338 : decode cL_hour 338 = .ok (.iconst 5, 1) := by decide +kernel
theorem dL_hour_339 : decode cL_hour 339 = .ok (.iaload, 1) := by decide +kernel
theorem dL_hour_340 : decode cL_hour 340 = .ok (.aload 4, 2) := by decide +kernel
theorem dL_hour_342 : decode cL_hour 342 = .ok (.iload 8, 2) := by decide +kernel
theorem dL_hour_344 : decode cL_hour 344 = .ok (.iconst 5, 1) := by decide +kernel
theorem dL_hour_345 : decode cL_hour 345 = .ok (.iadd, 1) := by decide +kernel
theorem dL_hour_346 : decode cL_hour 346 = .ok (.iaload, 1) := by decide +kernel
theorem dL_hour_347 : decode cL_hour 347 = .ok (.iadd, 1) := by decide +kernel
theorem dL_hour_348 : decode cL_hour 348 = .ok (.iastore, 1) := by decide +kernel
theorem dL_hour_349 : decode cL_hour 349 = .ok (.iinc 7 1, 3) := by decide +kernel
theorem dL_hour_352 : decode cL_hour 352 = .ok (.goto (-339), 3) := by decide +kernel
theorem dL_hour_355 : decode cL_hour 355 = .ok (.bipush 9, 2) := by decide +kernel
theorem dL_hour_357 : decode cL_hour 357 = .ok (.istore 7, 2) := by decide +kernel
theorem dL_hour_359 : decode cL_hour 359 = .ok (.iload 7, 2) := by decide +kernel
theorem dL_hour_361 : decode cL_hour 361 = .ok (.ifCond .lt 41, 3) := by decide +kernel
theorem dL_hour_364 : decode cL_hour 364 = .ok (.iload 7, 2) := by decide +kernel
theorem dL_hour_366 : decode cL_hour 366 = .ok (.aload_n 0, 1) := by decide +kernel
theorem dL_hour_367 : decode cL_hour 367 = .ok (.bipush 6, 2) := by decide +kernel
theorem dL_hour_369 : decode cL_hour 369 = .ok (.iaload, 1) := by decide +kernel
theorem dL_hour_370 : decode cL_hour 370 = .ok (.if_icmp .ge 26, 3) := by decide +kernel
theorem dL_hour_373 : decode cL_hour 373 = .ok (.aload 5, 2) := by decide +kernel
theorem dL_hour_375 : decode cL_hour 375 = .ok (.iconst 5, 1) := by decide +kernel
theorem dL_hour_376 : decode cL_hour 376 = .ok (.iload 7, 2) := by decide +kernel
theorem dL_hour_378 : decode cL_hour 378 = .ok (.imul, 1) := by decide +kernel
theorem dL_hour_379 : decode cL_hour 379 = .ok (.iconst 4, 1) := by decide +kernel
theorem dL_hour_380 : decode cL_hour 380 = .ok (.iadd, 1) := by decide +kernel
theorem dL_hour_381 : decode cL_hour 381 = .ok (.iaload, 1) := by decide +kernel
theorem dL_hour_382 : decode cL_hour 382 = .ok (.aload_n 0, 1) := by decide +kernel
theorem dL_hour_383 : decode cL_hour 383 = .ok (.iconst 5, 1) := by decide +kernel
theorem dL_hour_384 : decode cL_hour 384 = .ok (.iaload, 1) := by decide +kernel
theorem dL_hour_385 : decode cL_hour 385 = .ok (.if_icmp .ge 11, 3) := by decide +kernel
theorem dL_hour_388 : decode cL_hour 388 = .ok (.aload_n 0, 1) := by decide +kernel
theorem dL_hour_389 : decode cL_hour 389 = .ok (.aload 5, 2) := by decide +kernel
theorem dL_hour_391 : decode cL_hour 391 = .ok (.iload 7, 2) := by decide +kernel
theorem dL_hour_393 : decode cL_hour 393 = .ok (.invokestatic 27, 3) := by decide +kernel
theorem dL_hour_396 : decode cL_hour 396 = .ok (.iinc 7 (-1), 3) := by decide +kernel
theorem dL_hour_399 : decode cL_hour 399 = .ok (.goto (-40), 3) := by decide +kernel
theorem dL_hour_402 : decode cL_hour 402 = .ok (.iconst 0, 1) := by decide +kernel
theorem dL_hour_403 : decode cL_hour 403 = .ok (.istore 7, 2) := by decide +kernel
theorem dL_hour_405 : decode cL_hour 405 = .ok (.iload 7, 2) := by decide +kernel
theorem dL_hour_407 : decode cL_hour 407 = .ok (.aload_n 0, 1) := by decide +kernel
theorem dL_hour_408 : decode cL_hour 408 = .ok (.iconst 3, 1) := by decide +kernel
theorem dL_hour_409 : decode cL_hour 409 = .ok (.iaload, 1) := by decide +kernel
theorem dL_hour_410 : decode cL_hour 410 = .ok (.if_icmp .ge 64, 3) := by decide +kernel
theorem dL_hour_413 : decode cL_hour 413 = .ok (.aload_n 0, 1) := by decide +kernel
theorem dL_hour_414 : decode cL_hour 414 = .ok (.bipush 11, 2) := by decide +kernel
theorem dL_hour_416 : decode cL_hour 416 = .ok (.dup2, 1) := by decide +kernel
theorem dL_hour_417 : decode cL_hour 417 = .ok (.iaload, 1) := by decide +kernel
theorem dL_hour_418 : decode cL_hour 418 = .ok (.aload_n 2, 1) := by decide +kernel
theorem dL_hour_419 : decode cL_hour 419 = .ok (.iconst 4, 1) := by decide +kernel
theorem dL_hour_420 : decode cL_hour 420 = .ok (.iload 7, 2) := by decide +kernel
theorem dL_hour_422 : decode cL_hour 422 = .ok (.imul, 1) := by decide +kernel
theorem dL_hour_423 : decode cL_hour 423 = .ok (.iconst 2, 1) := by decide +kernel
theorem dL_hour_424 : decode cL_hour 424 = .ok (.iadd, 1) := by decide +kernel
theorem dL_hour_425 : decode cL_hour 425 = .ok (.iaload, 1) := by decide +kernel
theorem dL_hour_426 : decode cL_hour 426 = .ok (.iconst 2, 1) := by decide +kernel
theorem dL_hour_427 : decode cL_hour 427 = .ok (.if_icmp .ge 38, 3) := by decide +kernel
theorem dL_hour_430 : decode cL_hour 430 = .ok (.aload_n 0, 1) := by decide +kernel
theorem dL_hour_431 : decode cL_hour 431 = .ok (.iconst 5, 1) := by decide +kernel
theorem dL_hour_432 : decode cL_hour 432 = .ok (.iaload, 1) := by decide +kernel
theorem dL_hour_433 : decode cL_hour 433 = .ok (.aload_n 3, 1) := by decide +kernel
theorem dL_hour_434 : decode cL_hour 434 = .ok (.iconst 4, 1) := by decide +kernel
theorem dL_hour_435 : decode cL_hour 435 = .ok (.iload 7, 2) := by decide +kernel
theorem dL_hour_437 : decode cL_hour 437 = .ok (.imul, 1) := by decide +kernel
theorem dL_hour_438 : decode cL_hour 438 = .ok (.iconst 2, 1) := by decide +kernel
theorem dL_hour_439 : decode cL_hour 439 = .ok (.iadd, 1) := by decide +kernel
theorem dL_hour_440 : decode cL_hour 440 = .ok (.iaload, 1) := by decide +kernel
theorem dL_hour_441 : decode cL_hour 441 = .ok (.isub, 1) := by decide +kernel
theorem dL_hour_442 : decode cL_hour 442 = .ok (.aload_n 0, 1) := by decide +kernel
theorem dL_hour_443 : decode cL_hour 443 = .ok (.iconst 1, 1) := by decide +kernel
theorem dL_hour_444 : decode cL_hour 444 = .ok (.iaload, 1) := by decide +kernel
theorem dL_hour_445 : decode cL_hour 445 = .ok (.if_icmp .le 20, 3) := by decide +kernel
theorem dL_hour_448 : decode cL_hour 448 = .ok (.aload_n 1, 1) := by decide +kernel
theorem dL_hour_449 : decode cL_hour 449 = .ok (.iconst 4, 1) := by decide +kernel
theorem dL_hour_450 : decode cL_hour 450 = .ok (.iload 7, 2) := by decide +kernel
theorem dL_hour_452 : decode cL_hour 452 = .ok (.imul, 1) := by decide +kernel
theorem dL_hour_453 : decode cL_hour 453 = .ok (.iconst 1, 1) := by decide +kernel
theorem dL_hour_454 : decode cL_hour 454 = .ok (.iadd, 1) := by decide +kernel
theorem dL_hour_455 : decode cL_hour 455 = .ok (.iaload, 1) := by decide +kernel
theorem dL_hour_456 : decode cL_hour 456 = .ok (.bipush 9, 2) := by decide +kernel
theorem dL_hour_458 : decode cL_hour 458 = .ok (.iadd, 1) := by decide +kernel
theorem dL_hour_459 : decode cL_hour 459 = .ok (.bipush 10, 2) := by decide +kernel
theorem dL_hour_461 : decode cL_hour 461 = .ok (.idiv, 1) := by decide +kernel
theorem dL_hour_462 : decode cL_hour 462 = .ok (.goto 4, 3) := by decide +kernel
theorem dL_hour_465 : decode cL_hour 465 = .ok (.iconst 0, 1) := by decide +kernel
theorem dL_hour_466 : decode cL_hour 466 = .ok (.iadd, 1) := by decide +kernel
theorem dL_hour_467 : decode cL_hour 467 = .ok (.iastore, 1) := by decide +kernel
theorem dL_hour_468 : decode cL_hour 468 = .ok (.iinc 7 1, 3) := by decide +kernel
theorem dL_hour_471 : decode cL_hour 471 = .ok (.goto (-66), 3) := by decide +kernel
theorem dL_hour_474 : decode cL_hour 474 = .ok (.iload 6, 2) := by decide +kernel
theorem dL_hour_476 : decode cL_hour 476 = .ok (.ireturn, 1) := by decide +kernel
theorem dL_makes_0 : decode cL_makes 0 = .ok (.iconst 4, 1) := by decide +kernel
theorem dL_makes_1 : decode cL_makes 1 = .ok (.aload_n 0, 1) := by decide +kernel
theorem dL_makes_2 : decode cL_makes 2 = .ok (.iconst 3, 1) := by decide +kernel
theorem dL_makes_3 : decode cL_makes 3 = .ok (.iaload, 1) := by decide +kernel
theorem dL_makes_4 : decode cL_makes 4 = .ok (.imul, 1) := by decide +kernel
theorem dL_makes_5 : decode cL_makes 5 = .ok (.istore 8, 2) := by decide +kernel
theorem dL_makes_7 : decode cL_makes 7 = .ok (.aload_n 1, 1) := by decide +kernel
theorem dL_makes_8 : decode cL_makes 8 = .ok (.iload 8, 2) := by decide +kernel
theorem dL_makes_10 : decode cL_makes 10 = .ok (.iload 4, 2) := by decide +kernel
theorem dL_makes_12 : decode cL_makes 12 = .ok (.iastore, 1) := by decide +kernel
theorem dL_makes_13 : decode cL_makes 13 = .ok (.aload_n 1, 1) := by decide +kernel
theorem dL_makes_14 : decode cL_makes 14 = .ok (.iload 8, 2) := by decide +kernel
theorem dL_makes_16 : decode cL_makes 16 = .ok (.iconst 1, 1) := by decide +kernel
theorem dL_makes_17 : decode cL_makes 17 = .ok (.iadd, 1) := by decide +kernel
theorem dL_makes_18 : decode cL_makes 18 = .ok (.iload 5, 2) := by decide +kernel
theorem dL_makes_20 : decode cL_makes 20 = .ok (.iastore, 1) := by decide +kernel
theorem dL_makes_21 : decode cL_makes 21 = .ok (.aload_n 1, 1) := by decide +kernel
theorem dL_makes_22 : decode cL_makes 22 = .ok (.iload 8, 2) := by decide +kernel
theorem dL_makes_24 : decode cL_makes 24 = .ok (.iconst 2, 1) := by decide +kernel
theorem dL_makes_25 : decode cL_makes 25 = .ok (.iadd, 1) := by decide +kernel
theorem dL_makes_26 : decode cL_makes 26 = .ok (.iload 6, 2) := by decide +kernel
theorem dL_makes_28 : decode cL_makes 28 = .ok (.iastore, 1) := by decide +kernel
theorem dL_makes_29 : decode cL_makes 29 = .ok (.aload_n 1, 1) := by decide +kernel
theorem dL_makes_30 : decode cL_makes 30 = .ok (.iload 8, 2) := by decide +kernel
theorem dL_makes_32 : decode cL_makes 32 = .ok (.iconst 3, 1) := by decide +kernel
theorem dL_makes_33 : decode cL_makes 33 = .ok (.iadd, 1) := by decide +kernel
theorem dL_makes_34 : decode cL_makes 34 = .ok (.iload 7, 2) := by decide +kernel
theorem dL_makes_36 : decode cL_makes 36 = .ok (.iastore, 1) := by decide +kernel
theorem dL_makes_37 : decode cL_makes 37 = .ok (.aload_n 2, 1) := by decide +kernel
theorem dL_makes_38 : decode cL_makes 38 = .ok (.iload 8, 2) := by decide +kernel
theorem dL_makes_40 : decode cL_makes 40 = .ok (.iconst 2, 1) := by decide +kernel
theorem dL_makes_41 : decode cL_makes 41 = .ok (.iadd, 1) := by decide +kernel
theorem dL_makes_42 : decode cL_makes 42 = .ok (.iconst 0, 1) := by decide +kernel
theorem dL_makes_43 : decode cL_makes 43 = .ok (.iastore, 1) := by decide +kernel
theorem dL_makes_44 : decode cL_makes 44 = .ok (.aload_n 2, 1) := by decide +kernel
theorem dL_makes_45 : decode cL_makes 45 = .ok (.iload 8, 2) := by decide +kernel
theorem dL_makes_47 : decode cL_makes 47 = .ok (.iconst 3, 1) := by decide +kernel
theorem dL_makes_48 : decode cL_makes 48 = .ok (.iadd, 1) := by decide +kernel
theorem dL_makes_49 : decode cL_makes 49 = .ok (.iconst (-1), 1) := by decide +kernel
theorem dL_makes_50 : decode cL_makes 50 = .ok (.iastore, 1) := by decide +kernel
theorem dL_makes_51 : decode cL_makes 51 = .ok (.aload_n 3, 1) := by decide +kernel
theorem dL_makes_52 : decode cL_makes 52 = .ok (.iload 8, 2) := by decide +kernel
theorem dL_makes_54 : decode cL_makes 54 = .ok (.iconst (-1), 1) := by decide +kernel
theorem dL_makes_55 : decode cL_makes 55 = .ok (.iastore, 1) := by decide +kernel
theorem dL_makes_56 : decode cL_makes 56 = .ok (.aload_n 3, 1) := by decide +kernel
theorem dL_makes_57 : decode cL_makes 57 = .ok (.iload 8, 2) := by decide +kernel
theorem dL_makes_59 : decode cL_makes 59 = .ok (.iconst 1, 1) := by decide +kernel
theorem dL_makes_60 : decode cL_makes 60 = .ok (.iadd, 1) := by decide +kernel
theorem dL_makes_61 : decode cL_makes 61 = .ok (.aload_n 0, 1) := by decide +kernel
theorem dL_makes_62 : decode cL_makes 62 = .ok (.iconst 3, 1) := by decide +kernel
theorem dL_makes_63 : decode cL_makes 63 = .ok (.iaload, 1) := by decide +kernel
theorem dL_makes_64 : decode cL_makes 64 = .ok (.iastore, 1) := by decide +kernel
theorem dL_makes_65 : decode cL_makes 65 = .ok (.aload_n 3, 1) := by decide +kernel
theorem dL_makes_66 : decode cL_makes 66 = .ok (.iload 8, 2) := by decide +kernel
theorem dL_makes_68 : decode cL_makes 68 = .ok (.iconst 2, 1) := by decide +kernel
theorem dL_makes_69 : decode cL_makes 69 = .ok (.iadd, 1) := by decide +kernel
theorem dL_makes_70 : decode cL_makes 70 = .ok (.aload_n 0, 1) := by decide +kernel
theorem dL_makes_71 : decode cL_makes 71 = .ok (.iconst 5, 1) := by decide +kernel
theorem dL_makes_72 : decode cL_makes 72 = .ok (.iaload, 1) := by decide +kernel
theorem dL_makes_73 : decode cL_makes 73 = .ok (.iastore, 1) := by decide +kernel
theorem dL_makes_74 : decode cL_makes 74 = .ok (.aload_n 3, 1) := by decide +kernel
theorem dL_makes_75 : decode cL_makes 75 = .ok (.iload 8, 2) := by decide +kernel
theorem dL_makes_77 : decode cL_makes 77 = .ok (.iconst 3, 1) := by decide +kernel
theorem dL_makes_78 : decode cL_makes 78 = .ok (.iadd, 1) := by decide +kernel
theorem dL_makes_79 : decode cL_makes 79 = .ok (.iconst 0, 1) := by decide +kernel
theorem dL_makes_80 : decode cL_makes 80 = .ok (.iastore, 1) := by decide +kernel
theorem dL_makes_81 : decode cL_makes 81 = .ok (.aload_n 0, 1) := by decide +kernel
theorem dL_makes_82 : decode cL_makes 82 = .ok (.iconst 3, 1) := by decide +kernel
theorem dL_makes_83 : decode cL_makes 83 = .ok (.dup2, 1) := by decide +kernel
theorem dL_makes_84 : decode cL_makes 84 = .ok (.iaload, 1) := by decide +kernel
theorem dL_makes_85 : decode cL_makes 85 = .ok (.iconst 1, 1) := by decide +kernel
theorem dL_makes_86 : decode cL_makes 86 = .ok (.iadd, 1) := by decide +kernel
theorem dL_makes_87 : decode cL_makes 87 = .ok (.iastore, 1) := by decide +kernel
theorem dL_makes_88 : decode cL_makes 88 = .ok (.aload_n 0, 1) := by decide +kernel
theorem dL_makes_89 : decode cL_makes 89 = .ok (.iconst 3, 1) := by decide +kernel
theorem dL_makes_90 : decode cL_makes 90 = .ok (.iaload, 1) := by decide +kernel
theorem dL_makes_91 : decode cL_makes 91 = .ok (.iconst 1, 1) := by decide +kernel
theorem dL_makes_92 : decode cL_makes 92 = .ok (.isub, 1) := by decide +kernel
theorem dL_makes_93 : decode cL_makes 93 = .ok (.ireturn, 1) := by decide +kernel
theorem dL_some_0 : decode cL_some 0 = .ok (.aload_n 0, 1) := by decide +kernel
theorem dL_some_1 : decode cL_some 1 = .ok (.iconst 3, 1) := by decide +kernel
theorem dL_some_2 : decode cL_some 2 = .ok (.iaload, 1) := by decide +kernel
theorem dL_some_3 : decode cL_some 3 = .ok (.ifCond .ne 7, 3) := by decide +kernel
theorem dL_some_6 : decode cL_some 6 = .ok (.iconst 0, 1) := by decide +kernel
theorem dL_some_7 : decode cL_some 7 = .ok (.goto 8, 3) := by decide +kernel
theorem dL_some_10 : decode cL_some 10 = .ok (.iload_n 2, 1) := by decide +kernel
theorem dL_some_11 : decode cL_some 11 = .ok (.aload_n 0, 1) := by decide +kernel
theorem dL_some_12 : decode cL_some 12 = .ok (.iconst 3, 1) := by decide +kernel
theorem dL_some_13 : decode cL_some 13 = .ok (.iaload, 1) := by decide +kernel
theorem dL_some_14 : decode cL_some 14 = .ok (.irem, 1) := by decide +kernel
theorem dL_some_15 : decode cL_some 15 = .ok (.istore 4, 2) := by decide +kernel
theorem dL_some_17 : decode cL_some 17 = .ok (.iconst 0, 1) := by decide +kernel
theorem dL_some_18 : decode cL_some 18 = .ok (.istore 5, 2) := by decide +kernel
theorem dL_some_20 : decode cL_some 20 = .ok (.iload 5, 2) := by decide +kernel
theorem dL_some_22 : decode cL_some 22 = .ok (.bipush 16, 2) := by decide +kernel
theorem dL_some_24 : decode cL_some 24 = .ok (.if_icmp .ge 37, 3) := by decide +kernel
theorem dL_some_27 : decode cL_some 27 = .ok (.aload_n 0, 1) := by decide +kernel
theorem dL_some_28 : decode cL_some 28 = .ok (.iconst 3, 1) := by decide +kernel
theorem dL_some_29 : decode cL_some 29 = .ok (.iaload, 1) := by decide +kernel
theorem dL_some_30 : decode cL_some 30 = .ok (.ifCond .le 31, 3) := by decide +kernel
theorem dL_some_33 : decode cL_some 33 = .ok (.aload_n 1, 1) := by decide +kernel
theorem dL_some_34 : decode cL_some 34 = .ok (.iconst 4, 1) := by decide +kernel
theorem dL_some_35 : decode cL_some 35 = .ok (.iload 4, 2) := by decide +kernel
theorem dL_some_37 : decode cL_some 37 = .ok (.imul, 1) := by decide +kernel
theorem dL_some_38 : decode cL_some 38 = .ok (.iconst 2, 1) := by decide +kernel
theorem dL_some_39 : decode cL_some 39 = .ok (.iadd, 1) := by decide +kernel
theorem dL_some_40 : decode cL_some 40 = .ok (.iaload, 1) := by decide +kernel
theorem dL_some_41 : decode cL_some 41 = .ok (.iload_n 3, 1) := by decide +kernel
theorem dL_some_42 : decode cL_some 42 = .ok (.if_icmp .eq 19, 3) := by decide +kernel
theorem dL_some_45 : decode cL_some 45 = .ok (.iload 4, 2) := by decide +kernel
theorem dL_some_47 : decode cL_some 47 = .ok (.iconst 1, 1) := by decide +kernel
theorem dL_some_48 : decode cL_some 48 = .ok (.iadd, 1) := by decide +kernel
theorem dL_some_49 : decode cL_some 49 = .ok (.aload_n 0, 1) := by decide +kernel
theorem dL_some_50 : decode cL_some 50 = .ok (.iconst 3, 1) := by decide +kernel
theorem dL_some_51 : decode cL_some 51 = .ok (.iaload, 1) := by decide +kernel
theorem dL_some_52 : decode cL_some 52 = .ok (.irem, 1) := by decide +kernel
theorem dL_some_53 : decode cL_some 53 = .ok (.istore 4, 2) := by decide +kernel
theorem dL_some_55 : decode cL_some 55 = .ok (.iinc 5 1, 3) := by decide +kernel
theorem dL_some_58 : decode cL_some 58 = .ok (.goto (-38), 3) := by decide +kernel
theorem dL_some_61 : decode cL_some 61 = .ok (.iload 4, 2) := by decide +kernel
theorem dL_some_63 : decode cL_some 63 = .ok (.ireturn, 1) := by decide +kernel
theorem dL_goods_0 : decode cL_goods 0 = .ok (.iload 5, 2) := by decide +kernel
theorem dL_goods_2 : decode cL_goods 2 = .ok (.iconst 2, 1) := by decide +kernel
theorem dL_goods_3 : decode cL_goods 3 = .ok (.if_icmp .ge 194, 3) := by decide +kernel
theorem dL_goods_6 : decode cL_goods 6 = .ok (.iconst 1, 1) := by decide +kernel
theorem dL_goods_7 : decode cL_goods 7 = .ok (.iload 6, 2) := by decide +kernel
theorem dL_goods_9 : decode cL_goods 9 = .ok (.iconst 4, 1) := by decide +kernel
theorem dL_goods_10 : decode cL_goods 10 = .ok (.irem, 1) := by decide +kernel
theorem dL_goods_11 : decode cL_goods 11 = .ok (.iadd, 1) := by decide +kernel
theorem dL_goods_12 : decode cL_goods 12 = .ok (.istore 7, 2) := by decide +kernel
theorem dL_goods_14 : decode cL_goods 14 = .ok (.iconst 1, 1) := by decide +kernel
theorem dL_goods_15 : decode cL_goods 15 = .ok (.iload 6, 2) := by decide +kernel
theorem dL_goods_17 : decode cL_goods 17 = .ok (.iconst 4, 1) := by decide +kernel
theorem dL_goods_18 : decode cL_goods 18 = .ok (.idiv, 1) := by decide +kernel
theorem dL_goods_19 : decode cL_goods 19 = .ok (.iload 6, 2) := by decide +kernel
theorem dL_goods_21 : decode cL_goods 21 = .ok (.iconst 3, 1) := by decide +kernel
theorem dL_goods_22 : decode cL_goods 22 = .ok (.irem, 1) := by decide +kernel
theorem dL_goods_23 : decode cL_goods 23 = .ok (.ifCond .ne 8, 3) := by decide +kernel
theorem dL_goods_26 : decode cL_goods 26 = .ok (.bipush 99, 2) := by decide +kernel
theorem dL_goods_28 : decode cL_goods 28 = .ok (.goto 5, 3) := by decide +kernel
theorem dL_goods_31 : decode cL_goods 31 = .ok (.bipush 25, 2) := by decide +kernel
theorem dL_goods_33 : decode cL_goods 33 = .ok (.irem, 1) := by decide +kernel
theorem dL_goods_34 : decode cL_goods 34 = .ok (.iadd, 1) := by decide +kernel
theorem dL_goods_35 : decode cL_goods 35 = .ok (.istore 8, 2) := by decide +kernel
theorem dL_goods_37 : decode cL_goods 37 = .ok (.iconst 1, 1) := by decide +kernel
theorem dL_goods_38 : decode cL_goods 38 = .ok (.iload 6, 2) := by decide +kernel
theorem dL_goods_40 : decode cL_goods 40 = .ok (.bipush 7, 2) := by decide +kernel
theorem dL_goods_42 : decode cL_goods 42 = .ok (.idiv, 1) := by decide +kernel
theorem dL_goods_43 : decode cL_goods 43 = .ok (.iload 6, 2) := by decide +kernel
theorem dL_goods_45 : decode cL_goods 45 = .ok (.iconst 5, 1) := by decide +kernel
theorem dL_goods_46 : decode cL_goods 46 = .ok (.irem, 1) := by decide +kernel
theorem dL_goods_47 : decode cL_goods 47 = .ok (.ifCond .ne 8, 3) := by decide +kernel
theorem dL_goods_50 : decode cL_goods 50 = .ok (.bipush 99, 2) := by decide +kernel
theorem dL_goods_52 : decode cL_goods 52 = .ok (.goto 5, 3) := by decide +kernel
theorem dL_goods_55 : decode cL_goods 55 = .ok (.bipush 25, 2) := by decide +kernel
theorem dL_goods_57 : decode cL_goods 57 = .ok (.irem, 1) := by decide +kernel
theorem dL_goods_58 : decode cL_goods 58 = .ok (.iadd, 1) := by decide +kernel
theorem dL_goods_59 : decode cL_goods 59 = .ok (.istore 9, 2) := by decide +kernel
theorem dL_goods_61 : decode cL_goods 61 = .ok (.aload_n 1, 1) := by decide +kernel
theorem dL_goods_62 : decode cL_goods 62 = .ok (.iconst 5, 1) := by decide +kernel
theorem dL_goods_63 : decode cL_goods 63 = .ok (.iaload, 1) := by decide +kernel
theorem dL_goods_64 : decode cL_goods 64 = .ok (.iload 6, 2) := by decide +kernel
theorem dL_goods_66 : decode cL_goods 66 = .ok (.bipush 11, 2) := by decide +kernel
theorem dL_goods_68 : decode cL_goods 68 = .ok (.idiv, 1) := by decide +kernel
theorem dL_goods_69 : decode cL_goods 69 = .ok (.bipush 20, 2) := by decide +kernel
theorem dL_goods_71 : decode cL_goods 71 = .ok (.irem, 1) := by decide +kernel
theorem dL_goods_72 : decode cL_goods 72 = .ok (.iadd, 1) := by decide +kernel
theorem dL_goods_73 : decode cL_goods 73 = .ok (.istore 10, 2) := by decide +kernel
theorem dL_goods_75 : decode cL_goods 75 = .ok (.iload 10, 2) := by decide +kernel
theorem dL_goods_77 : decode cL_goods 77 = .ok (.iload 6, 2) := by decide +kernel
theorem dL_goods_79 : decode cL_goods 79 = .ok (.bipush 13, 2) := by decide +kernel
theorem dL_goods_81 : decode cL_goods 81 = .ok (.idiv, 1) := by decide +kernel
theorem dL_goods_82 : decode cL_goods 82 = .ok (.bipush 25, 2) := by decide +kernel
theorem dL_goods_84 : decode cL_goods 84 = .ok (.irem, 1) := by decide +kernel
theorem dL_goods_85 : decode cL_goods 85 = .ok (.iadd, 1) := by decide +kernel
theorem dL_goods_86 : decode cL_goods 86 = .ok (.istore 11, 2) := by decide +kernel
theorem dL_goods_88 : decode cL_goods 88 = .ok (.iload 6, 2) := by decide +kernel
theorem dL_goods_90 : decode cL_goods 90 = .ok (.bipush 17, 2) := by decide +kernel
theorem dL_goods_92 : decode cL_goods 92 = .ok (.idiv, 1) := by decide +kernel
theorem dL_goods_93 : decode cL_goods 93 = .ok (.sipush 200, 3) := by decide +kernel
theorem dL_goods_96 : decode cL_goods 96 = .ok (.irem, 1) := by decide +kernel
theorem dL_goods_97 : decode cL_goods 97 = .ok (.istore 12, 2) := by decide +kernel
theorem dL_goods_99 : decode cL_goods 99 = .ok (.aload_n 1, 1) := by decide +kernel
theorem dL_goods_100 : decode cL_goods 100 = .ok (.iconst 3, 1) := by decide +kernel
theorem dL_goods_101 : decode cL_goods 101 = .ok (.iaload, 1) := by decide +kernel
theorem dL_goods_102 : decode cL_goods 102 = .ok (.bipush 16, 2) := by decide +kernel
theorem dL_goods_104 : decode cL_goods 104 = .ok (.if_icmp .ne 30, 3) := by decide +kernel
theorem dL_goods_107 : decode cL_goods 107 = .ok (.aload_n 0, 1) := by decide +kernel
theorem dL_goods_108 : decode cL_goods 108 = .ok (.iload 7, 2) := by decide +kernel
theorem dL_goods_110 : decode cL_goods 110 = .ok (.iload 8, 2) := by decide +kernel
theorem dL_goods_112 : decode cL_goods 112 = .ok (.iload 9, 2) := by decide +kernel
theorem dL_goods_114 : decode cL_goods 114 = .ok (.iload 10, 2) := by decide +kernel
theorem dL_goods_116 : decode cL_goods 116 = .ok (.iload 11, 2) := by decide +kernel
theorem dL_goods_118 : decode cL_goods 118 = .ok (.iload 12, 2) := by decide +kernel
theorem dL_goods_120 : decode cL_goods 120 = .ok (.invokevirtual 35, 3) := by decide +kernel
theorem dL_goods_123 : decode cL_goods 123 = .ok (.ldc 41, 2) := by decide +kernel
theorem dL_goods_125 : decode cL_goods 125 = .ok (.if_icmp .ne 7, 3) := by decide +kernel
theorem dL_goods_128 : decode cL_goods 128 = .ok (.iconst 1, 1) := by decide +kernel
theorem dL_goods_129 : decode cL_goods 129 = .ok (.goto 4, 3) := by decide +kernel
theorem dL_goods_132 : decode cL_goods 132 = .ok (.iconst 0, 1) := by decide +kernel
theorem dL_goods_133 : decode cL_goods 133 = .ok (.ireturn, 1) := by decide +kernel
theorem dL_goods_134 : decode cL_goods 134 = .ok (.aload_n 1, 1) := by decide +kernel
theorem dL_goods_135 : decode cL_goods 135 = .ok (.aload_n 2, 1) := by decide +kernel
theorem dL_goods_136 : decode cL_goods 136 = .ok (.aload_n 3, 1) := by decide +kernel
theorem dL_goods_137 : decode cL_goods 137 = .ok (.aload 4, 2) := by decide +kernel
theorem dL_goods_139 : decode cL_goods 139 = .ok (.iload 7, 2) := by decide +kernel
theorem dL_goods_141 : decode cL_goods 141 = .ok (.iload 8, 2) := by decide +kernel
theorem dL_goods_143 : decode cL_goods 143 = .ok (.iload 9, 2) := by decide +kernel
theorem dL_goods_145 : decode cL_goods 145 = .ok (.iload 12, 2) := by decide +kernel
theorem dL_goods_147 : decode cL_goods 147 = .ok (.invokestatic 42, 3) := by decide +kernel
theorem dL_goods_150 : decode cL_goods 150 = .ok (.istore 13, 2) := by decide +kernel
theorem dL_goods_152 : decode cL_goods 152 = .ok (.aload_n 3, 1) := by decide +kernel
theorem dL_goods_153 : decode cL_goods 153 = .ok (.iconst 4, 1) := by decide +kernel
theorem dL_goods_154 : decode cL_goods 154 = .ok (.iload 13, 2) := by decide +kernel
theorem dL_goods_156 : decode cL_goods 156 = .ok (.imul, 1) := by decide +kernel
theorem dL_goods_157 : decode cL_goods 157 = .ok (.iload 10, 2) := by decide +kernel
theorem dL_goods_159 : decode cL_goods 159 = .ok (.iastore, 1) := by decide +kernel
theorem dL_goods_160 : decode cL_goods 160 = .ok (.aload_n 3, 1) := by decide +kernel
theorem dL_goods_161 : decode cL_goods 161 = .ok (.iconst 4, 1) := by decide +kernel
theorem dL_goods_162 : decode cL_goods 162 = .ok (.iload 13, 2) := by decide +kernel
theorem dL_goods_164 : decode cL_goods 164 = .ok (.imul, 1) := by decide +kernel
theorem dL_goods_165 : decode cL_goods 165 = .ok (.iconst 1, 1) := by decide +kernel
theorem dL_goods_166 : decode cL_goods 166 = .ok (.iadd, 1) := by decide +kernel
theorem dL_goods_167 : decode cL_goods 167 = .ok (.iload 11, 2) := by decide +kernel
theorem dL_goods_169 : decode cL_goods 169 = .ok (.iastore, 1) := by decide +kernel
theorem dL_goods_170 : decode cL_goods 170 = .ok (.aload_n 0, 1) := by decide +kernel
theorem dL_goods_171 : decode cL_goods 171 = .ok (.iload 7, 2) := by decide +kernel
theorem dL_goods_173 : decode cL_goods 173 = .ok (.iload 8, 2) := by decide +kernel
theorem dL_goods_175 : decode cL_goods 175 = .ok (.iload 9, 2) := by decide +kernel
theorem dL_goods_177 : decode cL_goods 177 = .ok (.iload 10, 2) := by decide +kernel
theorem dL_goods_179 : decode cL_goods 179 = .ok (.iload 11, 2) := by decide +kernel
theorem dL_goods_181 : decode cL_goods 181 = .ok (.iload 12, 2) := by decide +kernel
theorem dL_goods_183 : decode cL_goods 183 = .ok (.invokevirtual 35, 3) := by decide +kernel
theorem dL_goods_186 : decode cL_goods 186 = .ok (.iload 13, 2) := by decide +kernel
theorem dL_goods_188 : decode cL_goods 188 = .ok (.if_icmp .ne 7, 3) := by decide +kernel
theorem dL_goods_191 : decode cL_goods 191 = .ok (.iconst 1, 1) := by decide +kernel
theorem dL_goods_192 : decode cL_goods 192 = .ok (.goto 4, 3) := by decide +kernel
theorem dL_goods_195 : decode cL_goods 195 = .ok (.iconst 0, 1) := by decide +kernel
theorem dL_goods_196 : decode cL_goods 196 = .ok (.ireturn, 1) := by decide +kernel
theorem dL_goods_197 : decode cL_goods 197 = .ok (.aload_n 1, 1) := by decide +kernel
theorem dL_goods_198 : decode cL_goods 198 = .ok (.aload_n 3, 1) := by decide +kernel
theorem dL_goods_199 : decode cL_goods 199 = .ok (.iload 6, 2) := by decide +kernel
theorem dL_goods_201 : decode cL_goods 201 = .ok (.iconst 0, 1) := by decide +kernel
theorem dL_goods_202 : decode cL_goods 202 = .ok (.invokestatic 46, 3) := by decide +kernel
theorem dL_goods_205 : decode cL_goods 205 = .ok (.istore 7, 2) := by decide +kernel
theorem dL_goods_207 : decode cL_goods 207 = .ok (.iload 5, 2) := by decide +kernel
theorem dL_goods_209 : decode cL_goods 209 = .ok (.iconst 2, 1) := by decide +kernel
theorem dL_goods_210 : decode cL_goods 210 = .ok (.if_icmp .ne 305, 3) := by decide +kernel
theorem dL_goods_213 : decode cL_goods 213 = .ok (.aload_n 1, 1) := by decide +kernel
theorem dL_goods_214 : decode cL_goods 214 = .ok (.aload_n 3, 1) := by decide +kernel
theorem dL_goods_215 : decode cL_goods 215 = .ok (.iload 7, 2) := by decide +kernel
theorem dL_goods_217 : decode cL_goods 217 = .ok (.invokestatic 50, 3) := by decide +kernel
theorem dL_goods_220 : decode cL_goods 220 = .ok (.ifCond .ne 22, 3) := by decide +kernel
theorem dL_goods_223 : decode cL_goods 223 = .ok (.aload_n 0, 1) := by decide +kernel
theorem dL_goods_224 : decode cL_goods 224 = .ok (.iload 7, 2) := by decide +kernel
theorem dL_goods_226 : decode cL_goods 226 = .ok (.iconst 1, 1) := by decide +kernel
theorem dL_goods_227 : decode cL_goods 227 = .ok (.iconst 1, 1) := by decide +kernel
theorem dL_goods_228 : decode cL_goods 228 = .ok (.invokevirtual 54, 3) := by decide +kernel
theorem dL_goods_231 : decode cL_goods 231 = .ok (.ldc 58, 2) := by decide +kernel
theorem dL_goods_233 : decode cL_goods 233 = .ok (.if_icmp .ne 7, 3) := by decide +kernel
theorem dL_goods_236 : decode cL_goods 236 = .ok (.iconst 1, 1) := by decide +kernel
theorem dL_goods_237 : decode cL_goods 237 = .ok (.goto 4, 3) := by decide +kernel
theorem dL_goods_240 : decode cL_goods 240 = .ok (.iconst 0, 1) := by decide +kernel
theorem dL_goods_241 : decode cL_goods 241 = .ok (.ireturn, 1) := by decide +kernel
theorem dL_goods_242 : decode cL_goods 242 = .ok (.iconst 1, 1) := by decide +kernel
theorem dL_goods_243 : decode cL_goods 243 = .ok (.iload 6, 2) := by decide +kernel
theorem dL_goods_245 : decode cL_goods 245 = .ok (.bipush 16, 2) := by decide +kernel
theorem dL_goods_247 : decode cL_goods 247 = .ok (.idiv, 1) := by decide +kernel
theorem dL_goods_248 : decode cL_goods 248 = .ok (.bipush 20, 2) := by decide +kernel
theorem dL_goods_250 : decode cL_goods 250 = .ok (.irem, 1) := by decide +kernel
theorem dL_goods_251 : decode cL_goods 251 = .ok (.iadd, 1) := by decide +kernel
theorem dL_goods_252 : decode cL_goods 252 = .ok (.istore 8, 2) := by decide +kernel
theorem dL_goods_254 : decode cL_goods 254 = .ok (.iconst 1, 1) := by decide +kernel
theorem dL_goods_255 : decode cL_goods 255 = .ok (.iload 6, 2) := by decide +kernel
theorem dL_goods_257 : decode cL_goods 257 = .ok (.iconst 5, 1) := by decide +kernel
theorem dL_goods_258 : decode cL_goods 258 = .ok (.idiv, 1) := by decide +kernel
theorem dL_goods_259 : decode cL_goods 259 = .ok (.bipush 20, 2) := by decide +kernel
theorem dL_goods_261 : decode cL_goods 261 = .ok (.irem, 1) := by decide +kernel
theorem dL_goods_262 : decode cL_goods 262 = .ok (.iadd, 1) := by decide +kernel
theorem dL_goods_263 : decode cL_goods 263 = .ok (.istore 9, 2) := by decide +kernel
theorem dL_goods_265 : decode cL_goods 265 = .ok (.iconst 4, 1) := by decide +kernel
theorem dL_goods_266 : decode cL_goods 266 = .ok (.iload 7, 2) := by decide +kernel
theorem dL_goods_268 : decode cL_goods 268 = .ok (.imul, 1) := by decide +kernel
theorem dL_goods_269 : decode cL_goods 269 = .ok (.istore 10, 2) := by decide +kernel
theorem dL_goods_271 : decode cL_goods 271 = .ok (.iload 8, 2) := by decide +kernel
theorem dL_goods_273 : decode cL_goods 273 = .ok (.aload_n 2, 1) := by decide +kernel
theorem dL_goods_274 : decode cL_goods 274 = .ok (.iload 10, 2) := by decide +kernel
theorem dL_goods_276 : decode cL_goods 276 = .ok (.iconst 1, 1) := by decide +kernel
theorem dL_goods_277 : decode cL_goods 277 = .ok (.iadd, 1) := by decide +kernel
theorem dL_goods_278 : decode cL_goods 278 = .ok (.iaload, 1) := by decide +kernel
theorem dL_goods_279 : decode cL_goods 279 = .ok (.if_icmp .ge 14, 3) := by decide +kernel
theorem dL_goods_282 : decode cL_goods 282 = .ok (.iload 9, 2) := by decide +kernel
theorem dL_goods_284 : decode cL_goods 284 = .ok (.aload_n 2, 1) := by decide +kernel
theorem dL_goods_285 : decode cL_goods 285 = .ok (.iload 10, 2) := by decide +kernel
theorem dL_goods_287 : decode cL_goods 287 = .ok (.iconst 2, 1) := by decide +kernel
theorem dL_goods_288 : decode cL_goods 288 = .ok (.iadd, 1) := by decide +kernel
theorem dL_goods_289 : decode cL_goods 289 = .ok (.iaload, 1) := by decide +kernel
theorem dL_goods_290 : decode cL_goods 290 = .ok (.if_icmp .lt 7, 3) := by decide +kernel
theorem dL_goods_293 : decode cL_goods 293 = .ok (.iconst 1, 1) := by decide +kernel
theorem dL_goods_294 : decode cL_goods 294 = .ok (.goto 4, 3) := by decide +kernel
theorem dL_goods_297 : decode cL_goods 297 = .ok (.iconst 0, 1) := by decide +kernel
theorem dL_goods_298 : decode cL_goods 298 = .ok (.istore 11, 2) := by decide +kernel
theorem dL_goods_300 : decode cL_goods 300 = .ok (.iload 11, 2) := by decide +kernel
theorem dL_goods_302 : decode cL_goods 302 = .ok (.ifCond .ne 20, 3) := by decide +kernel
theorem dL_goods_305 : decode cL_goods 305 = .ok (.aload_n 3, 1) := by decide +kernel
theorem dL_goods_306 : decode cL_goods 306 = .ok (.iload 10, 2) := by decide +kernel
theorem dL_goods_308 : decode cL_goods 308 = .ok (.iconst 2, 1) := by decide +kernel
theorem dL_goods_309 : decode cL_goods 309 = .ok (.iadd, 1) := by decide +kernel
theorem dL_goods_310 : decode cL_goods 310 = .ok (.iaload, 1) := by decide +kernel
theorem dL_goods_311 : decode cL_goods 311 = .ok (.ifCond .ne 11, 3) := by decide +kernel
theorem dL_goods_314 : decode cL_goods 314 = .ok (.aload_n 1, 1) := by decide +kernel
theorem dL_goods_315 : decode cL_goods 315 = .ok (.iconst 3, 1) := by decide +kernel
theorem dL_goods_316 : decode cL_goods 316 = .ok (.iaload, 1) := by decide +kernel
theorem dL_goods_317 : decode cL_goods 317 = .ok (.bipush 16, 2) := by decide +kernel
theorem dL_goods_319 : decode cL_goods 319 = .ok (.if_icmp .ne 48, 3) := by decide +kernel
theorem dL_goods_322 : decode cL_goods 322 = .ok (.aload_n 0, 1) := by decide +kernel
theorem dL_goods_323 : decode cL_goods 323 = .ok (.iload 7, 2) := by decide +kernel
theorem dL_goods_325 : decode cL_goods 325 = .ok (.iload 8, 2) := by decide +kernel
theorem dL_goods_327 : decode cL_goods 327 = .ok (.iload 9, 2) := by decide +kernel
theorem dL_goods_329 : decode cL_goods 329 = .ok (.invokevirtual 54, 3) := by decide +kernel
theorem dL_goods_332 : decode cL_goods 332 = .ok (.iload 11, 2) := by decide +kernel
theorem dL_goods_334 : decode cL_goods 334 = .ok (.ifCond .eq 8, 3) := by decide +kernel
theorem dL_goods_337 : decode cL_goods 337 = .ok (.ldc 58, 2) := by decide +kernel
theorem dL_goods_339 : decode cL_goods 339 = .ok (.goto 19, 3) := by decide +kernel
theorem dL_goods_342 : decode cL_goods 342 = .ok (.aload_n 3, 1) := by decide +kernel
theorem dL_goods_343 : decode cL_goods 343 = .ok (.iload 10, 2) := by decide +kernel
theorem dL_goods_345 : decode cL_goods 345 = .ok (.iconst 2, 1) := by decide +kernel
theorem dL_goods_346 : decode cL_goods 346 = .ok (.iadd, 1) := by decide +kernel
theorem dL_goods_347 : decode cL_goods 347 = .ok (.iaload, 1) := by decide +kernel
theorem dL_goods_348 : decode cL_goods 348 = .ok (.ifCond .eq 8, 3) := by decide +kernel
theorem dL_goods_351 : decode cL_goods 351 = .ok (.ldc 59, 2) := by decide +kernel
theorem dL_goods_353 : decode cL_goods 353 = .ok (.goto 5, 3) := by decide +kernel
theorem dL_goods_356 : decode cL_goods 356 = .ok (.ldc 41, 2) := by decide +kernel
theorem dL_goods_358 : decode cL_goods 358 = .ok (.if_icmp .ne 7, 3) := by decide +kernel
theorem dL_goods_361 : decode cL_goods 361 = .ok (.iconst 1, 1) := by decide +kernel
theorem dL_goods_362 : decode cL_goods 362 = .ok (.goto 4, 3) := by decide +kernel
theorem dL_goods_365 : decode cL_goods 365 = .ok (.iconst 0, 1) := by decide +kernel
theorem dL_goods_366 : decode cL_goods 366 = .ok (.ireturn, 1) := by decide +kernel
theorem dL_goods_367 : decode cL_goods 367 = .ok (.iload 8, 2) := by decide +kernel
theorem dL_goods_369 : decode cL_goods 369 = .ok (.aload_n 2, 1) := by decide +kernel
theorem dL_goods_370 : decode cL_goods 370 = .ok (.iload 10, 2) := by decide +kernel
theorem dL_goods_372 : decode cL_goods 372 = .ok (.iconst 3, 1) := by decide +kernel
theorem dL_goods_373 : decode cL_goods 373 = .ok (.iadd, 1) := by decide +kernel
theorem dL_goods_374 : decode cL_goods 374 = .ok (.iaload, 1) := by decide +kernel
theorem dL_goods_375 : decode cL_goods 375 = .ok (.imul, 1) := by decide +kernel
theorem dL_goods_376 : decode cL_goods 376 = .ok (.aload_n 2, 1) := by decide +kernel
theorem dL_goods_377 : decode cL_goods 377 = .ok (.iload 10, 2) := by decide +kernel
theorem dL_goods_379 : decode cL_goods 379 = .ok (.iconst 1, 1) := by decide +kernel
theorem dL_goods_380 : decode cL_goods 380 = .ok (.iadd, 1) := by decide +kernel
theorem dL_goods_381 : decode cL_goods 381 = .ok (.iaload, 1) := by decide +kernel
theorem dL_goods_382 : decode cL_goods 382 = .ok (.idiv, 1) := by decide +kernel
theorem dL_goods_383 : decode cL_goods 383 = .ok (.istore 12, 2) := by decide +kernel
theorem dL_goods_385 : decode cL_goods 385 = .ok (.aload_n 1, 1) := by decide +kernel
theorem dL_goods_386 : decode cL_goods 386 = .ok (.aload_n 2, 1) := by decide +kernel
theorem dL_goods_387 : decode cL_goods 387 = .ok (.aload_n 3, 1) := by decide +kernel
theorem dL_goods_388 : decode cL_goods 388 = .ok (.aload 4, 2) := by decide +kernel
theorem dL_goods_390 : decode cL_goods 390 = .ok (.aload_n 2, 1) := by decide +kernel
theorem dL_goods_391 : decode cL_goods 391 = .ok (.iload 10, 2) := by decide +kernel
theorem dL_goods_393 : decode cL_goods 393 = .ok (.iaload, 1) := by decide +kernel
theorem dL_goods_394 : decode cL_goods 394 = .ok (.iload 8, 2) := by decide +kernel
theorem dL_goods_396 : decode cL_goods 396 = .ok (.iload 9, 2) := by decide +kernel
theorem dL_goods_398 : decode cL_goods 398 = .ok (.iload 12, 2) := by decide +kernel
theorem dL_goods_400 : decode cL_goods 400 = .ok (.invokestatic 42, 3) := by decide +kernel
theorem dL_goods_403 : decode cL_goods 403 = .ok (.istore 13, 2) := by decide +kernel
theorem dL_goods_405 : decode cL_goods 405 = .ok (.aload_n 3, 1) := by decide +kernel
theorem dL_goods_406 : decode cL_goods 406 = .ok (.iconst 4, 1) := by decide +kernel
theorem dL_goods_407 : decode cL_goods 407 = .ok (.iload 13, 2) := by decide +kernel
theorem dL_goods_409 : decode cL_goods 409 = .ok (.imul, 1) := by decide +kernel
theorem dL_goods_410 : decode cL_goods 410 = .ok (.aload_n 3, 1) := by decide +kernel
theorem dL_goods_411 : decode cL_goods 411 = .ok (.iload 10, 2) := by decide +kernel
theorem dL_goods_413 : decode cL_goods 413 = .ok (.iaload, 1) := by decide +kernel
theorem dL_goods_414 : decode cL_goods 414 = .ok (.iastore, 1) := by decide +kernel
theorem dL_goods_415 : decode cL_goods 415 = .ok (.aload_n 3, 1) := by decide +kernel
theorem dL_goods_416 : decode cL_goods 416 = .ok (.iconst 4, 1) := by decide +kernel
theorem dL_goods_417 : decode cL_goods 417 = .ok (.iload 13, 2) := by decide +kernel
theorem dL_goods_419 : decode cL_goods 419 = .ok (.imul, 1) := by decide +kernel
theorem dL_goods_420 : decode cL_goods 420 = .ok (.iconst 1, 1) := by decide +kernel
theorem dL_goods_421 : decode cL_goods 421 = .ok (.iadd, 1) := by decide +kernel
theorem dL_goods_422 : decode cL_goods 422 = .ok (.aload_n 3, 1) := by decide +kernel
theorem dL_goods_423 : decode cL_goods 423 = .ok (.iload 10, 2) := by decide +kernel
theorem dL_goods_425 : decode cL_goods 425 = .ok (.iconst 1, 1) := by decide +kernel
theorem dL_goods_426 : decode cL_goods 426 = .ok (.iadd, 1) := by decide +kernel
theorem dL_goods_427 : decode cL_goods 427 = .ok (.iaload, 1) := by decide +kernel
theorem dL_goods_428 : decode cL_goods 428 = .ok (.iastore, 1) := by decide +kernel
theorem dL_goods_429 : decode cL_goods 429 = .ok (.aload 4, 2) := by decide +kernel
theorem dL_goods_431 : decode cL_goods 431 = .ok (.iconst 4, 1) := by decide +kernel
theorem dL_goods_432 : decode cL_goods 432 = .ok (.iload 13, 2) := by decide +kernel
theorem dL_goods_434 : decode cL_goods 434 = .ok (.imul, 1) := by decide +kernel
theorem dL_goods_435 : decode cL_goods 435 = .ok (.iconst 1, 1) := by decide +kernel
theorem dL_goods_436 : decode cL_goods 436 = .ok (.iadd, 1) := by decide +kernel
theorem dL_goods_437 : decode cL_goods 437 = .ok (.aload 4, 2) := by decide +kernel
theorem dL_goods_439 : decode cL_goods 439 = .ok (.iload 10, 2) := by decide +kernel
theorem dL_goods_441 : decode cL_goods 441 = .ok (.iconst 1, 1) := by decide +kernel
theorem dL_goods_442 : decode cL_goods 442 = .ok (.iadd, 1) := by decide +kernel
theorem dL_goods_443 : decode cL_goods 443 = .ok (.iaload, 1) := by decide +kernel
theorem dL_goods_444 : decode cL_goods 444 = .ok (.iastore, 1) := by decide +kernel
theorem dL_goods_445 : decode cL_goods 445 = .ok (.aload 4, 2) := by decide +kernel
theorem dL_goods_447 : decode cL_goods 447 = .ok (.iconst 4, 1) := by decide +kernel
theorem dL_goods_448 : decode cL_goods 448 = .ok (.iload 13, 2) := by decide +kernel
theorem dL_goods_450 : decode cL_goods 450 = .ok (.imul, 1) := by decide +kernel
theorem dL_goods_451 : decode cL_goods 451 = .ok (.iconst 2, 1) := by decide +kernel
theorem dL_goods_452 : decode cL_goods 452 = .ok (.iadd, 1) := by decide +kernel
theorem dL_goods_453 : decode cL_goods 453 = .ok (.aload 4, 2) := by decide +kernel
theorem dL_goods_455 : decode cL_goods 455 = .ok (.iload 10, 2) := by decide +kernel
theorem dL_goods_457 : decode cL_goods 457 = .ok (.iconst 2, 1) := by decide +kernel
theorem dL_goods_458 : decode cL_goods 458 = .ok (.iadd, 1) := by decide +kernel
theorem dL_goods_459 : decode cL_goods 459 = .ok (.iaload, 1) := by decide +kernel
theorem dL_goods_460 : decode cL_goods 460 = .ok (.iastore, 1) := by decide +kernel
theorem dL_goods_461 : decode cL_goods 461 = .ok (.aload_n 2, 1) := by decide +kernel
theorem dL_goods_462 : decode cL_goods 462 = .ok (.iload 10, 2) := by decide +kernel
theorem dL_goods_464 : decode cL_goods 464 = .ok (.iconst 1, 1) := by decide +kernel
theorem dL_goods_465 : decode cL_goods 465 = .ok (.iadd, 1) := by decide +kernel
theorem dL_goods_466 : decode cL_goods 466 = .ok (.dup2, 1) := by decide +kernel
theorem dL_goods_467 : decode cL_goods 467 = .ok (.iaload, 1) := by decide +kernel
theorem dL_goods_468 : decode cL_goods 468 = .ok (.iload 8, 2) := by decide +kernel
theorem dL_goods_470 : decode cL_goods 470 = .ok (.isub, 1) := by decide +kernel
theorem dL_goods_471 : decode cL_goods 471 = .ok (.iastore, 1) := by decide +kernel
theorem dL_goods_472 : decode cL_goods 472 = .ok (.aload_n 2, 1) := by decide +kernel
theorem dL_goods_473 : decode cL_goods 473 = .ok (.iload 10, 2) := by decide +kernel
theorem dL_goods_475 : decode cL_goods 475 = .ok (.iconst 2, 1) := by decide +kernel
theorem dL_goods_476 : decode cL_goods 476 = .ok (.iadd, 1) := by decide +kernel
theorem dL_goods_477 : decode cL_goods 477 = .ok (.dup2, 1) := by decide +kernel
theorem dL_goods_478 : decode cL_goods 478 = .ok (.iaload, 1) := by decide +kernel
theorem dL_goods_479 : decode cL_goods 479 = .ok (.iload 9, 2) := by decide +kernel
theorem dL_goods_481 : decode cL_goods 481 = .ok (.isub, 1) := by decide +kernel
theorem dL_goods_482 : decode cL_goods 482 = .ok (.iastore, 1) := by decide +kernel
theorem dL_goods_483 : decode cL_goods 483 = .ok (.aload_n 2, 1) := by decide +kernel
theorem dL_goods_484 : decode cL_goods 484 = .ok (.iload 10, 2) := by decide +kernel
theorem dL_goods_486 : decode cL_goods 486 = .ok (.iconst 3, 1) := by decide +kernel
theorem dL_goods_487 : decode cL_goods 487 = .ok (.iadd, 1) := by decide +kernel
theorem dL_goods_488 : decode cL_goods 488 = .ok (.dup2, 1) := by decide +kernel
theorem dL_goods_489 : decode cL_goods 489 = .ok (.iaload, 1) := by decide +kernel
theorem dL_goods_490 : decode cL_goods 490 = .ok (.iload 12, 2) := by decide +kernel
theorem dL_goods_492 : decode cL_goods 492 = .ok (.isub, 1) := by decide +kernel
theorem dL_goods_493 : decode cL_goods 493 = .ok (.iastore, 1) := by decide +kernel
theorem dL_goods_494 : decode cL_goods 494 = .ok (.aload_n 0, 1) := by decide +kernel
theorem dL_goods_495 : decode cL_goods 495 = .ok (.iload 7, 2) := by decide +kernel
theorem dL_goods_497 : decode cL_goods 497 = .ok (.iload 8, 2) := by decide +kernel
theorem dL_goods_499 : decode cL_goods 499 = .ok (.iload 9, 2) := by decide +kernel
theorem dL_goods_501 : decode cL_goods 501 = .ok (.invokevirtual 54, 3) := by decide +kernel
theorem dL_goods_504 : decode cL_goods 504 = .ok (.iload 13, 2) := by decide +kernel
theorem dL_goods_506 : decode cL_goods 506 = .ok (.if_icmp .ne 7, 3) := by decide +kernel
theorem dL_goods_509 : decode cL_goods 509 = .ok (.iconst 1, 1) := by decide +kernel
theorem dL_goods_510 : decode cL_goods 510 = .ok (.goto 4, 3) := by decide +kernel
theorem dL_goods_513 : decode cL_goods 513 = .ok (.iconst 0, 1) := by decide +kernel
theorem dL_goods_514 : decode cL_goods 514 = .ok (.ireturn, 1) := by decide +kernel
theorem dL_goods_515 : decode cL_goods 515 = .ok (.aload_n 1, 1) := by decide +kernel
theorem dL_goods_516 : decode cL_goods 516 = .ok (.aload_n 3, 1) := by decide +kernel
theorem dL_goods_517 : decode cL_goods 517 = .ok (.iload 6, 2) := by decide +kernel
theorem dL_goods_519 : decode cL_goods 519 = .ok (.bipush 16, 2) := by decide +kernel
theorem dL_goods_521 : decode cL_goods 521 = .ok (.idiv, 1) := by decide +kernel
theorem dL_goods_522 : decode cL_goods 522 = .ok (.iconst 0, 1) := by decide +kernel
theorem dL_goods_523 : decode cL_goods 523 = .ok (.invokestatic 46, 3) := by decide +kernel
theorem dL_goods_526 : decode cL_goods 526 = .ok (.istore 8, 2) := by decide +kernel
theorem dL_goods_528 : decode cL_goods 528 = .ok (.iconst 0, 1) := by decide +kernel
theorem dL_goods_529 : decode cL_goods 529 = .ok (.istore 9, 2) := by decide +kernel
theorem dL_goods_531 : decode cL_goods 531 = .ok (.iload 9, 2) := by decide +kernel
theorem dL_goods_533 : decode cL_goods 533 = .ok (.bipush 16, 2) := by decide +kernel
theorem dL_goods_535 : decode cL_goods 535 = .ok (.if_icmp .ge 70, 3) := by decide +kernel
theorem dL_goods_538 : decode cL_goods 538 = .ok (.iload 6, 2) := by decide +kernel
theorem dL_goods_540 : decode cL_goods 540 = .ok (.iconst 4, 1) := by decide +kernel
theorem dL_goods_541 : decode cL_goods 541 = .ok (.irem, 1) := by decide +kernel
theorem dL_goods_542 : decode cL_goods 542 = .ok (.ifCond .le 63, 3) := by decide +kernel
theorem dL_goods_545 : decode cL_goods 545 = .ok (.aload_n 1, 1) := by decide +kernel
theorem dL_goods_546 : decode cL_goods 546 = .ok (.iconst 3, 1) := by decide +kernel
theorem dL_goods_547 : decode cL_goods 547 = .ok (.iaload, 1) := by decide +kernel
theorem dL_goods_548 : decode cL_goods 548 = .ok (.ifCond .le 57, 3) := by decide +kernel
theorem dL_goods_551 : decode cL_goods 551 = .ok (.iload 8, 2) := by decide +kernel
theorem dL_goods_553 : decode cL_goods 553 = .ok (.iload 7, 2) := by decide +kernel
theorem dL_goods_555 : decode cL_goods 555 = .ok (.if_icmp .eq 34, 3) := by decide +kernel
theorem dL_goods_558 : decode cL_goods 558 = .ok (.aload 4, 2) := by decide +kernel
theorem dL_goods_560 : decode cL_goods 560 = .ok (.iconst 4, 1) := by decide +kernel
theorem dL_goods_561 : decode cL_goods 561 = .ok (.iload 8, 2) := by decide +kernel
theorem dL_goods_563 : decode cL_goods 563 = .ok (.imul, 1) := by decide +kernel
theorem dL_goods_564 : decode cL_goods 564 = .ok (.iconst 1, 1) := by decide +kernel
theorem dL_goods_565 : decode cL_goods 565 = .ok (.iadd, 1) := by decide +kernel
theorem dL_goods_566 : decode cL_goods 566 = .ok (.iaload, 1) := by decide +kernel
theorem dL_goods_567 : decode cL_goods 567 = .ok (.aload 4, 2) := by decide +kernel
theorem dL_goods_569 : decode cL_goods 569 = .ok (.iconst 4, 1) := by decide +kernel
theorem dL_goods_570 : decode cL_goods 570 = .ok (.iload 7, 2) := by decide +kernel
theorem dL_goods_572 : decode cL_goods 572 = .ok (.imul, 1) := by decide +kernel
theorem dL_goods_573 : decode cL_goods 573 = .ok (.iconst 1, 1) := by decide +kernel
theorem dL_goods_574 : decode cL_goods 574 = .ok (.iadd, 1) := by decide +kernel
theorem dL_goods_575 : decode cL_goods 575 = .ok (.iaload, 1) := by decide +kernel
theorem dL_goods_576 : decode cL_goods 576 = .ok (.if_icmp .ne 13, 3) := by decide +kernel
theorem dL_goods_579 : decode cL_goods 579 = .ok (.aload_n 1, 1) := by decide +kernel
theorem dL_goods_580 : decode cL_goods 580 = .ok (.aload_n 3, 1) := by decide +kernel
theorem dL_goods_581 : decode cL_goods 581 = .ok (.iload 8, 2) := by decide +kernel
theorem dL_goods_583 : decode cL_goods 583 = .ok (.invokestatic 50, 3) := by decide +kernel
theorem dL_goods_586 : decode cL_goods 586 = .ok (.ifCond .ne 19, 3) := by decide +kernel
theorem dL_goods_589 : decode cL_goods 589 = .ok (.iload 8, 2) := by decide +kernel
theorem dL_goods_591 : decode cL_goods 591 = .ok (.iconst 1, 1) := by decide +kernel
theorem dL_goods_592 : decode cL_goods 592 = .ok (.iadd, 1) := by decide +kernel
theorem dL_goods_593 : decode cL_goods 593 = .ok (.aload_n 1, 1) := by decide +kernel
theorem dL_goods_594 : decode cL_goods 594 = .ok (.iconst 3, 1) := by decide +kernel
theorem dL_goods_595 : decode cL_goods 595 = .ok (.iaload, 1) := by decide +kernel
theorem dL_goods_596 : decode cL_goods 596 = .ok (.irem, 1) := by decide +kernel
theorem dL_goods_597 : decode cL_goods 597 = .ok (.istore 8, 2) := by decide +kernel
theorem dL_goods_599 : decode cL_goods 599 = .ok (.iinc 9 1, 3) := by decide +kernel
theorem dL_goods_602 : decode cL_goods 602 = .ok (.goto (-71), 3) := by decide +kernel
theorem dL_goods_605 : decode cL_goods 605 = .ok (.aload_n 1, 1) := by decide +kernel
theorem dL_goods_606 : decode cL_goods 606 = .ok (.aload_n 3, 1) := by decide +kernel
theorem dL_goods_607 : decode cL_goods 607 = .ok (.iload 7, 2) := by decide +kernel
theorem dL_goods_609 : decode cL_goods 609 = .ok (.invokestatic 50, 3) := by decide +kernel
theorem dL_goods_612 : decode cL_goods 612 = .ok (.ifCond .eq 20, 3) := by decide +kernel
theorem dL_goods_615 : decode cL_goods 615 = .ok (.aload_n 1, 1) := by decide +kernel
theorem dL_goods_616 : decode cL_goods 616 = .ok (.aload_n 3, 1) := by decide +kernel
theorem dL_goods_617 : decode cL_goods 617 = .ok (.iload 8, 2) := by decide +kernel
theorem dL_goods_619 : decode cL_goods 619 = .ok (.invokestatic 50, 3) := by decide +kernel
theorem dL_goods_622 : decode cL_goods 622 = .ok (.ifCond .eq 10, 3) := by decide +kernel
theorem dL_goods_625 : decode cL_goods 625 = .ok (.iload 7, 2) := by decide +kernel
theorem dL_goods_627 : decode cL_goods 627 = .ok (.iload 8, 2) := by decide +kernel
theorem dL_goods_629 : decode cL_goods 629 = .ok (.if_icmp .ne 22, 3) := by decide +kernel
theorem dL_goods_632 : decode cL_goods 632 = .ok (.aload_n 0, 1) := by decide +kernel
theorem dL_goods_633 : decode cL_goods 633 = .ok (.iload 7, 2) := by decide +kernel
theorem dL_goods_635 : decode cL_goods 635 = .ok (.iload 8, 2) := by decide +kernel
theorem dL_goods_637 : decode cL_goods 637 = .ok (.invokevirtual 60, 3) := by decide +kernel
theorem dL_goods_640 : decode cL_goods 640 = .ok (.ldc 58, 2) := by decide +kernel
theorem dL_goods_642 : decode cL_goods 642 = .ok (.if_icmp .ne 7, 3) := by decide +kernel
theorem dL_goods_645 : decode cL_goods 645 = .ok (.iconst 1, 1) := by decide +kernel
theorem dL_goods_646 : decode cL_goods 646 = .ok (.goto 4, 3) := by decide +kernel
theorem dL_goods_649 : decode cL_goods 649 = .ok (.iconst 0, 1) := by decide +kernel
theorem dL_goods_650 : decode cL_goods 650 = .ok (.ireturn, 1) := by decide +kernel
theorem dL_goods_651 : decode cL_goods 651 = .ok (.aload 4, 2) := by decide +kernel
theorem dL_goods_653 : decode cL_goods 653 = .ok (.iconst 4, 1) := by decide +kernel
theorem dL_goods_654 : decode cL_goods 654 = .ok (.iload 7, 2) := by decide +kernel
theorem dL_goods_656 : decode cL_goods 656 = .ok (.imul, 1) := by decide +kernel
theorem dL_goods_657 : decode cL_goods 657 = .ok (.iconst 1, 1) := by decide +kernel
theorem dL_goods_658 : decode cL_goods 658 = .ok (.iadd, 1) := by decide +kernel
theorem dL_goods_659 : decode cL_goods 659 = .ok (.iaload, 1) := by decide +kernel
theorem dL_goods_660 : decode cL_goods 660 = .ok (.aload 4, 2) := by decide +kernel
theorem dL_goods_662 : decode cL_goods 662 = .ok (.iconst 4, 1) := by decide +kernel
theorem dL_goods_663 : decode cL_goods 663 = .ok (.iload 8, 2) := by decide +kernel
theorem dL_goods_665 : decode cL_goods 665 = .ok (.imul, 1) := by decide +kernel
theorem dL_goods_666 : decode cL_goods 666 = .ok (.iconst 1, 1) := by decide +kernel
theorem dL_goods_667 : decode cL_goods 667 = .ok (.iadd, 1) := by decide +kernel
theorem dL_goods_668 : decode cL_goods 668 = .ok (.iaload, 1) := by decide +kernel
theorem dL_goods_669 : decode cL_goods 669 = .ok (.if_icmp .ne 23, 3) := by decide +kernel
theorem dL_goods_672 : decode cL_goods 672 = .ok (.aload_n 3, 1) := by decide +kernel
theorem dL_goods_673 : decode cL_goods 673 = .ok (.iconst 4, 1) := by decide +kernel
theorem dL_goods_674 : decode cL_goods 674 = .ok (.iload 7, 2) := by decide +kernel
theorem dL_goods_676 : decode cL_goods 676 = .ok (.imul, 1) := by decide +kernel
theorem dL_goods_677 : decode cL_goods 677 = .ok (.iconst 2, 1) := by decide +kernel
theorem dL_goods_678 : decode cL_goods 678 = .ok (.iadd, 1) := by decide +kernel
theorem dL_goods_679 : decode cL_goods 679 = .ok (.iaload, 1) := by decide +kernel
theorem dL_goods_680 : decode cL_goods 680 = .ok (.aload_n 3, 1) := by decide +kernel
theorem dL_goods_681 : decode cL_goods 681 = .ok (.iconst 4, 1) := by decide +kernel
theorem dL_goods_682 : decode cL_goods 682 = .ok (.iload 8, 2) := by decide +kernel
theorem dL_goods_684 : decode cL_goods 684 = .ok (.imul, 1) := by decide +kernel
theorem dL_goods_685 : decode cL_goods 685 = .ok (.iconst 2, 1) := by decide +kernel
theorem dL_goods_686 : decode cL_goods 686 = .ok (.iadd, 1) := by decide +kernel
theorem dL_goods_687 : decode cL_goods 687 = .ok (.iaload, 1) := by decide +kernel
theorem dL_goods_688 : decode cL_goods 688 = .ok (.iadd, 1) := by decide +kernel
theorem dL_goods_689 : decode cL_goods 689 = .ok (.ifCond .le 22, 3) := by decide +kernel
theorem dL_goods_692 : decode cL_goods 692 = .ok (.aload_n 0, 1) := by decide +kernel
theorem dL_goods_693 : decode cL_goods 693 = .ok (.iload 7, 2) := by decide +kernel
theorem dL_goods_695 : decode cL_goods 695 = .ok (.iload 8, 2) := by decide +kernel
theorem dL_goods_697 : decode cL_goods 697 = .ok (.invokevirtual 60, 3) := by decide +kernel
theorem dL_goods_700 : decode cL_goods 700 = .ok (.ldc 59, 2) := by decide +kernel
theorem dL_goods_702 : decode cL_goods 702 = .ok (.if_icmp .ne 7, 3) := by decide +kernel
theorem dL_goods_705 : decode cL_goods 705 = .ok (.iconst 1, 1) := by decide +kernel
theorem dL_goods_706 : decode cL_goods 706 = .ok (.goto 4, 3) := by decide +kernel
theorem dL_goods_709 : decode cL_goods 709 = .ok (.iconst 0, 1) := by decide +kernel
theorem dL_goods_710 : decode cL_goods 710 = .ok (.ireturn, 1) := by decide +kernel
theorem dL_goods_711 : decode cL_goods 711 = .ok (.iload 7, 2) := by decide +kernel
theorem dL_goods_713 : decode cL_goods 713 = .ok (.iload 8, 2) := by decide +kernel
theorem dL_goods_715 : decode cL_goods 715 = .ok (.if_icmp .ge 8, 3) := by decide +kernel
theorem dL_goods_718 : decode cL_goods 718 = .ok (.iload 7, 2) := by decide +kernel
theorem dL_goods_720 : decode cL_goods 720 = .ok (.goto 5, 3) := by decide +kernel
theorem dL_goods_723 : decode cL_goods 723 = .ok (.iload 8, 2) := by decide +kernel
theorem dL_goods_725 : decode cL_goods 725 = .ok (.istore 9, 2) := by decide +kernel
theorem dL_goods_727 : decode cL_goods 727 = .ok (.iload 7, 2) := by decide +kernel
theorem dL_goods_729 : decode cL_goods 729 = .ok (.iload 8, 2) := by decide +kernel
theorem dL_goods_731 : decode cL_goods 731 = .ok (.iadd, 1) := by decide +kernel
theorem dL_goods_732 : decode cL_goods 732 = .ok (.iload 9, 2) := by decide +kernel
theorem dL_goods_734 : decode cL_goods 734 = .ok (.isub, 1) := by decide +kernel
theorem dL_goods_735 : decode cL_goods 735 = .ok (.istore 10, 2) := by decide +kernel
theorem dL_goods_737 : decode cL_goods 737 = .ok (.iconst 1, 1) := by decide +kernel
theorem dL_goods_738 : decode cL_goods 738 = .ok (.istore 11, 2) := by decide +kernel
theorem dL_goods_740 : decode cL_goods 740 = .ok (.iload 11, 2) := by decide +kernel
theorem dL_goods_742 : decode cL_goods 742 = .ok (.iconst 4, 1) := by decide +kernel
theorem dL_goods_743 : decode cL_goods 743 = .ok (.if_icmp .ge 30, 3) := by decide +kernel
theorem dL_goods_746 : decode cL_goods 746 = .ok (.aload_n 2, 1) := by decide +kernel
theorem dL_goods_747 : decode cL_goods 747 = .ok (.iconst 4, 1) := by decide +kernel
theorem dL_goods_748 : decode cL_goods 748 = .ok (.iload 9, 2) := by decide +kernel
theorem dL_goods_750 : decode cL_goods 750 = .ok (.imul, 1) := by decide +kernel
theorem dL_goods_751 : decode cL_goods 751 = .ok (.iload 11, 2) := by decide +kernel
theorem dL_goods_753 : decode cL_goods 753 = .ok (.iadd, 1) := by decide +kernel
theorem dL_goods_754 : decode cL_goods 754 = .ok (.dup2, 1) := by decide +kernel
theorem dL_goods_755 : decode cL_goods 755 = .ok (.iaload, 1) := by decide +kernel
theorem dL_goods_756 : decode cL_goods 756 = .ok (.aload_n 2, 1) := by decide +kernel
theorem dL_goods_757 : decode cL_goods 757 = .ok (.iconst 4, 1) := by decide +kernel
theorem dL_goods_758 : decode cL_goods 758 = .ok (.iload 10, 2) := by decide +kernel
theorem dL_goods_760 : decode cL_goods 760 = .ok (.imul, 1) := by decide +kernel
theorem dL_goods_761 : decode cL_goods 761 = .ok (.iload 11, 2) := by decide +kernel
theorem dL_goods_763 : decode cL_goods 763 = .ok (.iadd, 1) := by decide +kernel
theorem dL_goods_764 : decode cL_goods 764 = .ok (.iaload, 1) := by decide +kernel
theorem dL_goods_765 : decode cL_goods 765 = .ok (.iadd, 1) := by decide +kernel
theorem dL_goods_766 : decode cL_goods 766 = .ok (.iastore, 1) := by decide +kernel
theorem dL_goods_767 : decode cL_goods 767 = .ok (.iinc 11 1, 3) := by decide +kernel
theorem dL_goods_770 : decode cL_goods 770 = .ok (.goto (-30), 3) := by decide +kernel
theorem dL_goods_773 : decode cL_goods 773 = .ok (.aload 4, 2) := by decide +kernel
theorem dL_goods_775 : decode cL_goods 775 = .ok (.iconst 4, 1) := by decide +kernel
theorem dL_goods_776 : decode cL_goods 776 = .ok (.iload 9, 2) := by decide +kernel
theorem dL_goods_778 : decode cL_goods 778 = .ok (.imul, 1) := by decide +kernel
theorem dL_goods_779 : decode cL_goods 779 = .ok (.iconst 2, 1) := by decide +kernel
theorem dL_goods_780 : decode cL_goods 780 = .ok (.iadd, 1) := by decide +kernel
theorem dL_goods_781 : decode cL_goods 781 = .ok (.aload 4, 2) := by decide +kernel
theorem dL_goods_783 : decode cL_goods 783 = .ok (.iconst 4, 1) := by decide +kernel
theorem dL_goods_784 : decode cL_goods 784 = .ok (.iload 10, 2) := by decide +kernel
theorem dL_goods_786 : decode cL_goods 786 = .ok (.imul, 1) := by decide +kernel
theorem dL_goods_787 : decode cL_goods 787 = .ok (.iconst 2, 1) := by decide +kernel
theorem dL_goods_788 : decode cL_goods 788 = .ok (.iadd, 1) := by decide +kernel
theorem dL_goods_789 : decode cL_goods 789 = .ok (.iaload, 1) := by decide +kernel
theorem dL_goods_790 : decode cL_goods 790 = .ok (.aload 4, 2) := by decide +kernel
theorem dL_goods_792 : decode cL_goods 792 = .ok (.iconst 4, 1) := by decide +kernel
theorem dL_goods_793 : decode cL_goods 793 = .ok (.iload 9, 2) := by decide +kernel
theorem dL_goods_795 : decode cL_goods 795 = .ok (.imul, 1) := by decide +kernel
theorem dL_goods_796 : decode cL_goods 796 = .ok (.iconst 2, 1) := by decide +kernel
theorem dL_goods_797 : decode cL_goods 797 = .ok (.iadd, 1) := by decide +kernel
theorem dL_goods_798 : decode cL_goods 798 = .ok (.iaload, 1) := by decide +kernel
theorem dL_goods_799 : decode cL_goods 799 = .ok (.if_icmp .ge 15, 3) := by decide +kernel
theorem dL_goods_802 : decode cL_goods 802 = .ok (.aload 4, 2) := by decide +kernel
theorem dL_goods_804 : decode cL_goods 804 = .ok (.iconst 4, 1) := by decide +kernel
theorem dL_goods_805 : decode cL_goods 805 = .ok (.iload 10, 2) := by decide +kernel
theorem dL_goods_807 : decode cL_goods 807 = .ok (.imul, 1) := by decide +kernel
theorem dL_goods_808 : decode cL_goods 808 = .ok (.iconst 2, 1) := by decide +kernel
theorem dL_goods_809 : decode cL_goods 809 = .ok (.iadd, 1) := by decide +kernel
theorem dL_goods_810 : decode cL_goods 810 = .ok (.iaload, 1) := by decide +kernel
theorem dL_goods_811 : decode cL_goods 811 = .ok (.goto 12, 3) := by decide +kernel
theorem dL_goods_814 : decode cL_goods 814 = .ok (.aload 4, 2) := by decide +kernel
theorem dL_goods_816 : decode cL_goods 816 = .ok (.iconst 4, 1) := by decide +kernel
theorem dL_goods_817 : decode cL_goods 817 = .ok (.iload 9, 2) := by decide +kernel
theorem dL_goods_819 : decode cL_goods 819 = .ok (.imul, 1) := by decide +kernel
theorem dL_goods_820 : decode cL_goods 820 = .ok (.iconst 2, 1) := by decide +kernel
theorem dL_goods_821 : decode cL_goods 821 = .ok (.iadd, 1) := by decide +kernel
theorem dL_goods_822 : decode cL_goods 822 = .ok (.iaload, 1) := by decide +kernel
theorem dL_goods_823 : decode cL_goods 823 = .ok (.iastore, 1) := by decide +kernel
theorem dL_goods_824 : decode cL_goods 824 = .ok (.aload_n 3, 1) := by decide +kernel
theorem dL_goods_825 : decode cL_goods 825 = .ok (.iconst 4, 1) := by decide +kernel
theorem dL_goods_826 : decode cL_goods 826 = .ok (.iload 10, 2) := by decide +kernel
theorem dL_goods_828 : decode cL_goods 828 = .ok (.imul, 1) := by decide +kernel
theorem dL_goods_829 : decode cL_goods 829 = .ok (.iconst 2, 1) := by decide +kernel
theorem dL_goods_830 : decode cL_goods 830 = .ok (.iadd, 1) := by decide +kernel
theorem dL_goods_831 : decode cL_goods 831 = .ok (.iconst 5, 1) := by decide +kernel
theorem dL_goods_832 : decode cL_goods 832 = .ok (.iastore, 1) := by decide +kernel
theorem dL_goods_833 : decode cL_goods 833 = .ok (.aload_n 0, 1) := by decide +kernel
theorem dL_goods_834 : decode cL_goods 834 = .ok (.iload 7, 2) := by decide +kernel
theorem dL_goods_836 : decode cL_goods 836 = .ok (.iload 8, 2) := by decide +kernel
theorem dL_goods_838 : decode cL_goods 838 = .ok (.invokevirtual 60, 3) := by decide +kernel
theorem dL_goods_841 : decode cL_goods 841 = .ok (.iload 9, 2) := by decide +kernel
theorem dL_goods_843 : decode cL_goods 843 = .ok (.if_icmp .ne 7, 3) := by decide +kernel
theorem dL_goods_846 : decode cL_goods 846 = .ok (.iconst 1, 1) := by decide +kernel
theorem dL_goods_847 : decode cL_goods 847 = .ok (.goto 4, 3) := by decide +kernel
theorem dL_goods_850 : decode cL_goods 850 = .ok (.iconst 0, 1) := by decide +kernel
theorem dL_goods_851 : decode cL_goods 851 = .ok (.ireturn, 1) := by decide +kernel
theorem dL_acts_0 : decode cL_acts 0 = .ok (.iload 7, 2) := by decide +kernel
theorem dL_acts_2 : decode cL_acts 2 = .ok (.iconst 5, 1) := by decide +kernel
theorem dL_acts_3 : decode cL_acts 3 = .ok (.ishr, 1) := by decide +kernel
theorem dL_acts_4 : decode cL_acts 4 = .ok (.ldc 64, 2) := by decide +kernel
theorem dL_acts_6 : decode cL_acts 6 = .ok (.invokestatic 65, 3) := by decide +kernel
theorem dL_acts_9 : decode cL_acts 9 = .ok (.istore 8, 2) := by decide +kernel
theorem dL_acts_11 : decode cL_acts 11 = .ok (.iload 7, 2) := by decide +kernel
theorem dL_acts_13 : decode cL_acts 13 = .ok (.bipush 26, 2) := by decide +kernel
theorem dL_acts_15 : decode cL_acts 15 = .ok (.invokestatic 65, 3) := by decide +kernel
theorem dL_acts_18 : decode cL_acts 18 = .ok (.istore 9, 2) := by decide +kernel
theorem dL_acts_20 : decode cL_acts 20 = .ok (.iload 9, 2) := by decide +kernel
theorem dL_acts_22 : decode cL_acts 22 = .ok (.bipush 6, 2) := by decide +kernel
theorem dL_acts_24 : decode cL_acts 24 = .ok (.if_icmp .ge 29, 3) := by decide +kernel
theorem dL_acts_27 : decode cL_acts 27 = .ok (.aload_n 0, 1) := by decide +kernel
theorem dL_acts_28 : decode cL_acts 28 = .ok (.aload_n 1, 1) := by decide +kernel
theorem dL_acts_29 : decode cL_acts 29 = .ok (.aload_n 2, 1) := by decide +kernel
theorem dL_acts_30 : decode cL_acts 30 = .ok (.aload_n 3, 1) := by decide +kernel
theorem dL_acts_31 : decode cL_acts 31 = .ok (.aload 4, 2) := by decide +kernel
theorem dL_acts_33 : decode cL_acts 33 = .ok (.iload 9, 2) := by decide +kernel
theorem dL_acts_35 : decode cL_acts 35 = .ok (.iconst 3, 1) := by decide +kernel
theorem dL_acts_36 : decode cL_acts 36 = .ok (.if_icmp .ge 7, 3) := by decide +kernel
theorem dL_acts_39 : decode cL_acts 39 = .ok (.iconst 0, 1) := by decide +kernel
theorem dL_acts_40 : decode cL_acts 40 = .ok (.goto 7, 3) := by decide +kernel
theorem dL_acts_43 : decode cL_acts 43 = .ok (.iload 9, 2) := by decide +kernel
theorem dL_acts_45 : decode cL_acts 45 = .ok (.iconst 2, 1) := by decide +kernel
theorem dL_acts_46 : decode cL_acts 46 = .ok (.isub, 1) := by decide +kernel
theorem dL_acts_47 : decode cL_acts 47 = .ok (.iload 8, 2) := by decide +kernel
theorem dL_acts_49 : decode cL_acts 49 = .ok (.invokestatic 68, 3) := by decide +kernel
theorem dL_acts_52 : decode cL_acts 52 = .ok (.ireturn, 1) := by decide +kernel
theorem dL_acts_53 : decode cL_acts 53 = .ok (.iload 9, 2) := by decide +kernel
theorem dL_acts_55 : decode cL_acts 55 = .ok (.bipush 6, 2) := by decide +kernel
theorem dL_acts_57 : decode cL_acts 57 = .ok (.if_icmp .eq 9, 3) := by decide +kernel
theorem dL_acts_60 : decode cL_acts 60 = .ok (.aload_n 1, 1) := by decide +kernel
theorem dL_acts_61 : decode cL_acts 61 = .ok (.iconst 4, 1) := by decide +kernel
theorem dL_acts_62 : decode cL_acts 62 = .ok (.iaload, 1) := by decide +kernel
theorem dL_acts_63 : decode cL_acts 63 = .ok (.ifCond .ne 155, 3) := by decide +kernel
theorem dL_acts_66 : decode cL_acts 66 = .ok (.iconst 1, 1) := by decide +kernel
theorem dL_acts_67 : decode cL_acts 67 = .ok (.iload 8, 2) := by decide +kernel
theorem dL_acts_69 : decode cL_acts 69 = .ok (.iload 8, 2) := by decide +kernel
theorem dL_acts_71 : decode cL_acts 71 = .ok (.iconst 3, 1) := by decide +kernel
theorem dL_acts_72 : decode cL_acts 72 = .ok (.irem, 1) := by decide +kernel
theorem dL_acts_73 : decode cL_acts 73 = .ok (.ifCond .ne 9, 3) := by decide +kernel
theorem dL_acts_76 : decode cL_acts 76 = .ok (.sipush 200, 3) := by decide +kernel
theorem dL_acts_79 : decode cL_acts 79 = .ok (.goto 5, 3) := by decide +kernel
theorem dL_acts_82 : decode cL_acts 82 = .ok (.bipush 60, 2) := by decide +kernel
theorem dL_acts_84 : decode cL_acts 84 = .ok (.irem, 1) := by decide +kernel
theorem dL_acts_85 : decode cL_acts 85 = .ok (.iadd, 1) := by decide +kernel
theorem dL_acts_86 : decode cL_acts 86 = .ok (.istore 10, 2) := by decide +kernel
theorem dL_acts_88 : decode cL_acts 88 = .ok (.iconst 1, 1) := by decide +kernel
theorem dL_acts_89 : decode cL_acts 89 = .ok (.iload 8, 2) := by decide +kernel
theorem dL_acts_91 : decode cL_acts 91 = .ok (.bipush 7, 2) := by decide +kernel
theorem dL_acts_93 : decode cL_acts 93 = .ok (.idiv, 1) := by decide +kernel
theorem dL_acts_94 : decode cL_acts 94 = .ok (.iload 8, 2) := by decide +kernel
theorem dL_acts_96 : decode cL_acts 96 = .ok (.iconst 5, 1) := by decide +kernel
theorem dL_acts_97 : decode cL_acts 97 = .ok (.irem, 1) := by decide +kernel
theorem dL_acts_98 : decode cL_acts 98 = .ok (.ifCond .ne 9, 3) := by decide +kernel
theorem dL_acts_101 : decode cL_acts 101 = .ok (.sipush 200, 3) := by decide +kernel
theorem dL_acts_104 : decode cL_acts 104 = .ok (.goto 5, 3) := by decide +kernel
theorem dL_acts_107 : decode cL_acts 107 = .ok (.bipush 80, 2) := by decide +kernel
theorem dL_acts_109 : decode cL_acts 109 = .ok (.irem, 1) := by decide +kernel
theorem dL_acts_110 : decode cL_acts 110 = .ok (.iadd, 1) := by decide +kernel
theorem dL_acts_111 : decode cL_acts 111 = .ok (.istore 11, 2) := by decide +kernel
theorem dL_acts_113 : decode cL_acts 113 = .ok (.aload_n 1, 1) := by decide +kernel
theorem dL_acts_114 : decode cL_acts 114 = .ok (.iconst 4, 1) := by decide +kernel
theorem dL_acts_115 : decode cL_acts 115 = .ok (.iaload, 1) := by decide +kernel
theorem dL_acts_116 : decode cL_acts 116 = .ok (.iconst 4, 1) := by decide +kernel
theorem dL_acts_117 : decode cL_acts 117 = .ok (.if_icmp .ne 22, 3) := by decide +kernel
theorem dL_acts_120 : decode cL_acts 120 = .ok (.aload_n 0, 1) := by decide +kernel
theorem dL_acts_121 : decode cL_acts 121 = .ok (.iload 10, 2) := by decide +kernel
theorem dL_acts_123 : decode cL_acts 123 = .ok (.iload 11, 2) := by decide +kernel
theorem dL_acts_125 : decode cL_acts 125 = .ok (.invokevirtual 72, 3) := by decide +kernel
theorem dL_acts_128 : decode cL_acts 128 = .ok (.ldc 41, 2) := by decide +kernel
theorem dL_acts_130 : decode cL_acts 130 = .ok (.if_icmp .ne 7, 3) := by decide +kernel
theorem dL_acts_133 : decode cL_acts 133 = .ok (.iconst 1, 1) := by decide +kernel
theorem dL_acts_134 : decode cL_acts 134 = .ok (.goto 4, 3) := by decide +kernel
theorem dL_acts_137 : decode cL_acts 137 = .ok (.iconst 0, 1) := by decide +kernel
theorem dL_acts_138 : decode cL_acts 138 = .ok (.ireturn, 1) := by decide +kernel
theorem dL_acts_139 : decode cL_acts 139 = .ok (.iconst 0, 1) := by decide +kernel
theorem dL_acts_140 : decode cL_acts 140 = .ok (.istore 12, 2) := by decide +kernel
theorem dL_acts_142 : decode cL_acts 142 = .ok (.iload 12, 2) := by decide +kernel
theorem dL_acts_144 : decode cL_acts 144 = .ok (.bipush 8, 2) := by decide +kernel
theorem dL_acts_146 : decode cL_acts 146 = .ok (.if_icmp .ge 43, 3) := by decide +kernel
theorem dL_acts_149 : decode cL_acts 149 = .ok (.aload 5, 2) := by decide +kernel
theorem dL_acts_151 : decode cL_acts 151 = .ok (.bipush 8, 2) := by decide +kernel
theorem dL_acts_153 : decode cL_acts 153 = .ok (.aload_n 1, 1) := by decide +kernel
theorem dL_acts_154 : decode cL_acts 154 = .ok (.iconst 4, 1) := by decide +kernel
theorem dL_acts_155 : decode cL_acts 155 = .ok (.iaload, 1) := by decide +kernel
theorem dL_acts_156 : decode cL_acts 156 = .ok (.imul, 1) := by decide +kernel
theorem dL_acts_157 : decode cL_acts 157 = .ok (.iload 12, 2) := by decide +kernel
theorem dL_acts_159 : decode cL_acts 159 = .ok (.iadd, 1) := by decide +kernel
theorem dL_acts_160 : decode cL_acts 160 = .ok (.iload 12, 2) := by decide +kernel
theorem dL_acts_162 : decode cL_acts 162 = .ok (.ifCond .ne 8, 3) := by decide +kernel
theorem dL_acts_165 : decode cL_acts 165 = .ok (.iload 10, 2) := by decide +kernel
theorem dL_acts_167 : decode cL_acts 167 = .ok (.goto 15, 3) := by decide +kernel
theorem dL_acts_170 : decode cL_acts 170 = .ok (.iload 12, 2) := by decide +kernel
theorem dL_acts_172 : decode cL_acts 172 = .ok (.iconst 1, 1) := by decide +kernel
theorem dL_acts_173 : decode cL_acts 173 = .ok (.if_icmp .ne 8, 3) := by decide +kernel
theorem dL_acts_176 : decode cL_acts 176 = .ok (.iload 11, 2) := by decide +kernel
theorem dL_acts_178 : decode cL_acts 178 = .ok (.goto 4, 3) := by decide +kernel
theorem dL_acts_181 : decode cL_acts 181 = .ok (.iconst 0, 1) := by decide +kernel
theorem dL_acts_182 : decode cL_acts 182 = .ok (.iastore, 1) := by decide +kernel
theorem dL_acts_183 : decode cL_acts 183 = .ok (.iinc 12 1, 3) := by decide +kernel
theorem dL_acts_186 : decode cL_acts 186 = .ok (.goto (-44), 3) := by decide +kernel
theorem dL_acts_189 : decode cL_acts 189 = .ok (.aload_n 1, 1) := by decide +kernel
theorem dL_acts_190 : decode cL_acts 190 = .ok (.iconst 4, 1) := by decide +kernel
theorem dL_acts_191 : decode cL_acts 191 = .ok (.dup2, 1) := by decide +kernel
theorem dL_acts_192 : decode cL_acts 192 = .ok (.iaload, 1) := by decide +kernel
theorem dL_acts_193 : decode cL_acts 193 = .ok (.iconst 1, 1) := by decide +kernel
theorem dL_acts_194 : decode cL_acts 194 = .ok (.iadd, 1) := by decide +kernel
theorem dL_acts_195 : decode cL_acts 195 = .ok (.iastore, 1) := by decide +kernel
theorem dL_acts_196 : decode cL_acts 196 = .ok (.aload_n 0, 1) := by decide +kernel
theorem dL_acts_197 : decode cL_acts 197 = .ok (.iload 10, 2) := by decide +kernel
theorem dL_acts_199 : decode cL_acts 199 = .ok (.iload 11, 2) := by decide +kernel
theorem dL_acts_201 : decode cL_acts 201 = .ok (.invokevirtual 72, 3) := by decide +kernel
theorem dL_acts_204 : decode cL_acts 204 = .ok (.aload_n 1, 1) := by decide +kernel
theorem dL_acts_205 : decode cL_acts 205 = .ok (.iconst 4, 1) := by decide +kernel
theorem dL_acts_206 : decode cL_acts 206 = .ok (.iaload, 1) := by decide +kernel
theorem dL_acts_207 : decode cL_acts 207 = .ok (.iconst 1, 1) := by decide +kernel
theorem dL_acts_208 : decode cL_acts 208 = .ok (.isub, 1) := by decide +kernel
theorem dL_acts_209 : decode cL_acts 209 = .ok (.if_icmp .ne 7, 3) := by decide +kernel
theorem dL_acts_212 : decode cL_acts 212 = .ok (.iconst 1, 1) := by decide +kernel
theorem dL_acts_213 : decode cL_acts 213 = .ok (.goto 4, 3) := by decide +kernel
theorem dL_acts_216 : decode cL_acts 216 = .ok (.iconst 0, 1) := by decide +kernel
theorem dL_acts_217 : decode cL_acts 217 = .ok (.ireturn, 1) := by decide +kernel
theorem dL_acts_218 : decode cL_acts 218 = .ok (.iload 8, 2) := by decide +kernel
theorem dL_acts_220 : decode cL_acts 220 = .ok (.aload_n 1, 1) := by decide +kernel
theorem dL_acts_221 : decode cL_acts 221 = .ok (.iconst 4, 1) := by decide +kernel
theorem dL_acts_222 : decode cL_acts 222 = .ok (.iaload, 1) := by decide +kernel
theorem dL_acts_223 : decode cL_acts 223 = .ok (.irem, 1) := by decide +kernel
theorem dL_acts_224 : decode cL_acts 224 = .ok (.istore 10, 2) := by decide +kernel
theorem dL_acts_226 : decode cL_acts 226 = .ok (.iload 9, 2) := by decide +kernel
theorem dL_acts_228 : decode cL_acts 228 = .ok (.bipush 10, 2) := by decide +kernel
theorem dL_acts_230 : decode cL_acts 230 = .ok (.if_icmp .ge 121, 3) := by decide +kernel
theorem dL_acts_233 : decode cL_acts 233 = .ok (.aload_n 1, 1) := by decide +kernel
theorem dL_acts_234 : decode cL_acts 234 = .ok (.aload_n 3, 1) := by decide +kernel
theorem dL_acts_235 : decode cL_acts 235 = .ok (.iload 8, 2) := by decide +kernel
theorem dL_acts_237 : decode cL_acts 237 = .ok (.iconst 4, 1) := by decide +kernel
theorem dL_acts_238 : decode cL_acts 238 = .ok (.idiv, 1) := by decide +kernel
theorem dL_acts_239 : decode cL_acts 239 = .ok (.iconst 0, 1) := by decide +kernel
theorem dL_acts_240 : decode cL_acts 240 = .ok (.invokestatic 46, 3) := by decide +kernel
theorem dL_acts_243 : decode cL_acts 243 = .ok (.istore 11, 2) := by decide +kernel
theorem dL_acts_245 : decode cL_acts 245 = .ok (.aload_n 1, 1) := by decide +kernel
theorem dL_acts_246 : decode cL_acts 246 = .ok (.aload_n 3, 1) := by decide +kernel
theorem dL_acts_247 : decode cL_acts 247 = .ok (.iload 11, 2) := by decide +kernel
theorem dL_acts_249 : decode cL_acts 249 = .ok (.invokestatic 50, 3) := by decide +kernel
theorem dL_acts_252 : decode cL_acts 252 = .ok (.ifCond .ne 22, 3) := by decide +kernel
theorem dL_acts_255 : decode cL_acts 255 = .ok (.aload_n 0, 1) := by decide +kernel
theorem dL_acts_256 : decode cL_acts 256 = .ok (.iload 11, 2) := by decide +kernel
theorem dL_acts_258 : decode cL_acts 258 = .ok (.iload 10, 2) := by decide +kernel
theorem dL_acts_260 : decode cL_acts 260 = .ok (.invokevirtual 75, 3) := by decide +kernel
theorem dL_acts_263 : decode cL_acts 263 = .ok (.ldc 58, 2) := by decide +kernel
theorem dL_acts_265 : decode cL_acts 265 = .ok (.if_icmp .ne 7, 3) := by decide +kernel
theorem dL_acts_268 : decode cL_acts 268 = .ok (.iconst 1, 1) := by decide +kernel
theorem dL_acts_269 : decode cL_acts 269 = .ok (.goto 4, 3) := by decide +kernel
theorem dL_acts_272 : decode cL_acts 272 = .ok (.iconst 0, 1) := by decide +kernel
theorem dL_acts_273 : decode cL_acts 273 = .ok (.ireturn, 1) := by decide +kernel
theorem dL_acts_274 : decode cL_acts 274 = .ok (.aload_n 1, 1) := by decide +kernel
theorem dL_acts_275 : decode cL_acts 275 = .ok (.aload_n 2, 1) := by decide +kernel
theorem dL_acts_276 : decode cL_acts 276 = .ok (.aload_n 3, 1) := by decide +kernel
theorem dL_acts_277 : decode cL_acts 277 = .ok (.aload 5, 2) := by decide +kernel
theorem dL_acts_279 : decode cL_acts 279 = .ok (.iload 11, 2) := by decide +kernel
theorem dL_acts_281 : decode cL_acts 281 = .ok (.iload 10, 2) := by decide +kernel
theorem dL_acts_283 : decode cL_acts 283 = .ok (.invokestatic 19, 3) := by decide +kernel
theorem dL_acts_286 : decode cL_acts 286 = .ok (.ifCond .ne 22, 3) := by decide +kernel
theorem dL_acts_289 : decode cL_acts 289 = .ok (.aload_n 0, 1) := by decide +kernel
theorem dL_acts_290 : decode cL_acts 290 = .ok (.iload 11, 2) := by decide +kernel
theorem dL_acts_292 : decode cL_acts 292 = .ok (.iload 10, 2) := by decide +kernel
theorem dL_acts_294 : decode cL_acts 294 = .ok (.invokevirtual 75, 3) := by decide +kernel
theorem dL_acts_297 : decode cL_acts 297 = .ok (.ldc 59, 2) := by decide +kernel
theorem dL_acts_299 : decode cL_acts 299 = .ok (.if_icmp .ne 7, 3) := by decide +kernel
theorem dL_acts_302 : decode cL_acts 302 = .ok (.iconst 1, 1) := by decide +kernel
theorem dL_acts_303 : decode cL_acts 303 = .ok (.goto 4, 3) := by decide +kernel
theorem dL_acts_306 : decode cL_acts 306 = .ok (.iconst 0, 1) := by decide +kernel
theorem dL_acts_307 : decode cL_acts 307 = .ok (.ireturn, 1) := by decide +kernel
theorem dL_acts_308 : decode cL_acts 308 = .ok (.aload_n 3, 1) := by decide +kernel
theorem dL_acts_309 : decode cL_acts 309 = .ok (.iload 11, 2) := by decide +kernel
theorem dL_acts_311 : decode cL_acts 311 = .ok (.iload 10, 2) := by decide +kernel
theorem dL_acts_313 : decode cL_acts 313 = .ok (.invokestatic 23, 3) := by decide +kernel
theorem dL_acts_316 : decode cL_acts 316 = .ok (.aload_n 0, 1) := by decide +kernel
theorem dL_acts_317 : decode cL_acts 317 = .ok (.iload 11, 2) := by decide +kernel
theorem dL_acts_319 : decode cL_acts 319 = .ok (.iload 10, 2) := by decide +kernel
theorem dL_acts_321 : decode cL_acts 321 = .ok (.invokevirtual 75, 3) := by decide +kernel
theorem dL_acts_324 : decode cL_acts 324 = .ok (.aload 5, 2) := by decide +kernel
theorem dL_acts_326 : decode cL_acts 326 = .ok (.bipush 8, 2) := by decide +kernel
theorem dL_acts_328 : decode cL_acts 328 = .ok (.iload 10, 2) := by decide +kernel
theorem dL_acts_330 : decode cL_acts 330 = .ok (.imul, 1) := by decide +kernel
theorem dL_acts_331 : decode cL_acts 331 = .ok (.iaload, 1) := by decide +kernel
theorem dL_acts_332 : decode cL_acts 332 = .ok (.aload_n 1, 1) := by decide +kernel
theorem dL_acts_333 : decode cL_acts 333 = .ok (.aload_n 2, 1) := by decide +kernel
theorem dL_acts_334 : decode cL_acts 334 = .ok (.aload_n 3, 1) := by decide +kernel
theorem dL_acts_335 : decode cL_acts 335 = .ok (.iload 10, 2) := by decide +kernel
theorem dL_acts_337 : decode cL_acts 337 = .ok (.iconst 1, 1) := by decide +kernel
theorem dL_acts_338 : decode cL_acts 338 = .ok (.invokestatic 9, 3) := by decide +kernel
theorem dL_acts_341 : decode cL_acts 341 = .ok (.isub, 1) := by decide +kernel
theorem dL_acts_342 : decode cL_acts 342 = .ok (.if_icmp .ne 7, 3) := by decide +kernel
theorem dL_acts_345 : decode cL_acts 345 = .ok (.iconst 1, 1) := by decide +kernel
theorem dL_acts_346 : decode cL_acts 346 = .ok (.goto 4, 3) := by decide +kernel
theorem dL_acts_349 : decode cL_acts 349 = .ok (.iconst 0, 1) := by decide +kernel
theorem dL_acts_350 : decode cL_acts 350 = .ok (.ireturn, 1) := by decide +kernel
theorem dL_acts_351 : decode cL_acts 351 = .ok (.iload 9, 2) := by decide +kernel
theorem dL_acts_353 : decode cL_acts 353 = .ok (.bipush 10, 2) := by decide +kernel
theorem dL_acts_355 : decode cL_acts 355 = .ok (.if_icmp .ne 101, 3) := by decide +kernel
theorem dL_acts_358 : decode cL_acts 358 = .ok (.aload_n 1, 1) := by decide +kernel
theorem dL_acts_359 : decode cL_acts 359 = .ok (.aload_n 3, 1) := by decide +kernel
theorem dL_acts_360 : decode cL_acts 360 = .ok (.iload 8, 2) := by decide +kernel
theorem dL_acts_362 : decode cL_acts 362 = .ok (.iconst 4, 1) := by decide +kernel
theorem dL_acts_363 : decode cL_acts 363 = .ok (.idiv, 1) := by decide +kernel
theorem dL_acts_364 : decode cL_acts 364 = .ok (.iconst 1, 1) := by decide +kernel
theorem dL_acts_365 : decode cL_acts 365 = .ok (.invokestatic 46, 3) := by decide +kernel
theorem dL_acts_368 : decode cL_acts 368 = .ok (.istore 11, 2) := by decide +kernel
theorem dL_acts_370 : decode cL_acts 370 = .ok (.aload_n 1, 1) := by decide +kernel
theorem dL_acts_371 : decode cL_acts 371 = .ok (.aload_n 3, 1) := by decide +kernel
theorem dL_acts_372 : decode cL_acts 372 = .ok (.iload 11, 2) := by decide +kernel
theorem dL_acts_374 : decode cL_acts 374 = .ok (.invokestatic 50, 3) := by decide +kernel
theorem dL_acts_377 : decode cL_acts 377 = .ok (.ifCond .eq 15, 3) := by decide +kernel
theorem dL_acts_380 : decode cL_acts 380 = .ok (.aload_n 3, 1) := by decide +kernel
theorem dL_acts_381 : decode cL_acts 381 = .ok (.iconst 4, 1) := by decide +kernel
theorem dL_acts_382 : decode cL_acts 382 = .ok (.iload 11, 2) := by decide +kernel
theorem dL_acts_384 : decode cL_acts 384 = .ok (.imul, 1) := by decide +kernel
theorem dL_acts_385 : decode cL_acts 385 = .ok (.iconst 2, 1) := by decide +kernel
theorem dL_acts_386 : decode cL_acts 386 = .ok (.iadd, 1) := by decide +kernel
theorem dL_acts_387 : decode cL_acts 387 = .ok (.iaload, 1) := by decide +kernel
theorem dL_acts_388 : decode cL_acts 388 = .ok (.iconst 1, 1) := by decide +kernel
theorem dL_acts_389 : decode cL_acts 389 = .ok (.if_icmp .eq 35, 3) := by decide +kernel
theorem dL_acts_392 : decode cL_acts 392 = .ok (.aload_n 0, 1) := by decide +kernel
theorem dL_acts_393 : decode cL_acts 393 = .ok (.iload 11, 2) := by decide +kernel
theorem dL_acts_395 : decode cL_acts 395 = .ok (.invokevirtual 77, 3) := by decide +kernel
theorem dL_acts_398 : decode cL_acts 398 = .ok (.aload_n 1, 1) := by decide +kernel
theorem dL_acts_399 : decode cL_acts 399 = .ok (.aload_n 3, 1) := by decide +kernel
theorem dL_acts_400 : decode cL_acts 400 = .ok (.iload 11, 2) := by decide +kernel
theorem dL_acts_402 : decode cL_acts 402 = .ok (.invokestatic 50, 3) := by decide +kernel
theorem dL_acts_405 : decode cL_acts 405 = .ok (.ifCond .eq 8, 3) := by decide +kernel
theorem dL_acts_408 : decode cL_acts 408 = .ok (.ldc 59, 2) := by decide +kernel
theorem dL_acts_410 : decode cL_acts 410 = .ok (.goto 5, 3) := by decide +kernel
theorem dL_acts_413 : decode cL_acts 413 = .ok (.ldc 58, 2) := by decide +kernel
theorem dL_acts_415 : decode cL_acts 415 = .ok (.if_icmp .ne 7, 3) := by decide +kernel
theorem dL_acts_418 : decode cL_acts 418 = .ok (.iconst 1, 1) := by decide +kernel
theorem dL_acts_419 : decode cL_acts 419 = .ok (.goto 4, 3) := by decide +kernel
theorem dL_acts_422 : decode cL_acts 422 = .ok (.iconst 0, 1) := by decide +kernel
theorem dL_acts_423 : decode cL_acts 423 = .ok (.ireturn, 1) := by decide +kernel
theorem dL_acts_424 : decode cL_acts 424 = .ok (.aload_n 3, 1) := by decide +kernel
theorem dL_acts_425 : decode cL_acts 425 = .ok (.iconst 4, 1) := by decide +kernel
theorem dL_acts_426 : decode cL_acts 426 = .ok (.iload 11, 2) := by decide +kernel
theorem dL_acts_428 : decode cL_acts 428 = .ok (.imul, 1) := by decide +kernel
theorem dL_acts_429 : decode cL_acts 429 = .ok (.iconst 2, 1) := by decide +kernel
theorem dL_acts_430 : decode cL_acts 430 = .ok (.iadd, 1) := by decide +kernel
theorem dL_acts_431 : decode cL_acts 431 = .ok (.iconst 0, 1) := by decide +kernel
theorem dL_acts_432 : decode cL_acts 432 = .ok (.iastore, 1) := by decide +kernel
theorem dL_acts_433 : decode cL_acts 433 = .ok (.aload_n 0, 1) := by decide +kernel
theorem dL_acts_434 : decode cL_acts 434 = .ok (.iload 11, 2) := by decide +kernel
theorem dL_acts_436 : decode cL_acts 436 = .ok (.invokevirtual 77, 3) := by decide +kernel
theorem dL_acts_439 : decode cL_acts 439 = .ok (.aload_n 3, 1) := by decide +kernel
theorem dL_acts_440 : decode cL_acts 440 = .ok (.iconst 4, 1) := by decide +kernel
theorem dL_acts_441 : decode cL_acts 441 = .ok (.iload 11, 2) := by decide +kernel
theorem dL_acts_443 : decode cL_acts 443 = .ok (.imul, 1) := by decide +kernel
theorem dL_acts_444 : decode cL_acts 444 = .ok (.iconst 3, 1) := by decide +kernel
theorem dL_acts_445 : decode cL_acts 445 = .ok (.iadd, 1) := by decide +kernel
theorem dL_acts_446 : decode cL_acts 446 = .ok (.iaload, 1) := by decide +kernel
theorem dL_acts_447 : decode cL_acts 447 = .ok (.if_icmp .ne 7, 3) := by decide +kernel
theorem dL_acts_450 : decode cL_acts 450 = .ok (.iconst 1, 1) := by decide +kernel
theorem dL_acts_451 : decode cL_acts 451 = .ok (.goto 4, 3) := by decide +kernel
theorem dL_acts_454 : decode cL_acts 454 = .ok (.iconst 0, 1) := by decide +kernel
theorem dL_acts_455 : decode cL_acts 455 = .ok (.ireturn, 1) := by decide +kernel
theorem dL_acts_456 : decode cL_acts 456 = .ok (.iload 9, 2) := by decide +kernel
theorem dL_acts_458 : decode cL_acts 458 = .ok (.bipush 13, 2) := by decide +kernel
theorem dL_acts_460 : decode cL_acts 460 = .ok (.if_icmp .ge 116, 3) := by decide +kernel
theorem dL_acts_463 : decode cL_acts 463 = .ok (.iconst 1, 1) := by decide +kernel
theorem dL_acts_464 : decode cL_acts 464 = .ok (.iload 8, 2) := by decide +kernel
theorem dL_acts_466 : decode cL_acts 466 = .ok (.iconst 4, 1) := by decide +kernel
theorem dL_acts_467 : decode cL_acts 467 = .ok (.idiv, 1) := by decide +kernel
theorem dL_acts_468 : decode cL_acts 468 = .ok (.iconst 4, 1) := by decide +kernel
theorem dL_acts_469 : decode cL_acts 469 = .ok (.irem, 1) := by decide +kernel
theorem dL_acts_470 : decode cL_acts 470 = .ok (.iadd, 1) := by decide +kernel
theorem dL_acts_471 : decode cL_acts 471 = .ok (.istore 11, 2) := by decide +kernel
theorem dL_acts_473 : decode cL_acts 473 = .ok (.iload 8, 2) := by decide +kernel
theorem dL_acts_475 : decode cL_acts 475 = .ok (.bipush 16, 2) := by decide +kernel
theorem dL_acts_477 : decode cL_acts 477 = .ok (.idiv, 1) := by decide +kernel
theorem dL_acts_478 : decode cL_acts 478 = .ok (.iconst 3, 1) := by decide +kernel
theorem dL_acts_479 : decode cL_acts 479 = .ok (.irem, 1) := by decide +kernel
theorem dL_acts_480 : decode cL_acts 480 = .ok (.istore 12, 2) := by decide +kernel
theorem dL_acts_482 : decode cL_acts 482 = .ok (.aload 5, 2) := by decide +kernel
theorem dL_acts_484 : decode cL_acts 484 = .ok (.bipush 8, 2) := by decide +kernel
theorem dL_acts_486 : decode cL_acts 486 = .ok (.iload 10, 2) := by decide +kernel
theorem dL_acts_488 : decode cL_acts 488 = .ok (.imul, 1) := by decide +kernel
theorem dL_acts_489 : decode cL_acts 489 = .ok (.iconst 2, 1) := by decide +kernel
theorem dL_acts_490 : decode cL_acts 490 = .ok (.iadd, 1) := by decide +kernel
theorem dL_acts_491 : decode cL_acts 491 = .ok (.iaload, 1) := by decide +kernel
theorem dL_acts_492 : decode cL_acts 492 = .ok (.ifCond .le 24, 3) := by decide +kernel
theorem dL_acts_495 : decode cL_acts 495 = .ok (.aload_n 0, 1) := by decide +kernel
theorem dL_acts_496 : decode cL_acts 496 = .ok (.iload 10, 2) := by decide +kernel
theorem dL_acts_498 : decode cL_acts 498 = .ok (.iload 11, 2) := by decide +kernel
theorem dL_acts_500 : decode cL_acts 500 = .ok (.iload 12, 2) := by decide +kernel
theorem dL_acts_502 : decode cL_acts 502 = .ok (.invokevirtual 81, 3) := by decide +kernel
theorem dL_acts_505 : decode cL_acts 505 = .ok (.ldc 59, 2) := by decide +kernel
theorem dL_acts_507 : decode cL_acts 507 = .ok (.if_icmp .ne 7, 3) := by decide +kernel
theorem dL_acts_510 : decode cL_acts 510 = .ok (.iconst 1, 1) := by decide +kernel
theorem dL_acts_511 : decode cL_acts 511 = .ok (.goto 4, 3) := by decide +kernel
theorem dL_acts_514 : decode cL_acts 514 = .ok (.iconst 0, 1) := by decide +kernel
theorem dL_acts_515 : decode cL_acts 515 = .ok (.ireturn, 1) := by decide +kernel
theorem dL_acts_516 : decode cL_acts 516 = .ok (.iconst 0, 1) := by decide +kernel
theorem dL_acts_517 : decode cL_acts 517 = .ok (.istore 13, 2) := by decide +kernel
theorem dL_acts_519 : decode cL_acts 519 = .ok (.aload_n 1, 1) := by decide +kernel
theorem dL_acts_520 : decode cL_acts 520 = .ok (.aload_n 2, 1) := by decide +kernel
theorem dL_acts_521 : decode cL_acts 521 = .ok (.aload_n 3, 1) := by decide +kernel
theorem dL_acts_522 : decode cL_acts 522 = .ok (.aload 5, 2) := by decide +kernel
theorem dL_acts_524 : decode cL_acts 524 = .ok (.iload 10, 2) := by decide +kernel
theorem dL_acts_526 : decode cL_acts 526 = .ok (.iload 11, 2) := by decide +kernel
theorem dL_acts_528 : decode cL_acts 528 = .ok (.iload 12, 2) := by decide +kernel
theorem dL_acts_530 : decode cL_acts 530 = .ok (.invokestatic 84, 3) := by decide +kernel
theorem dL_acts_533 : decode cL_acts 533 = .ok (.istore 14, 2) := by decide +kernel
theorem dL_acts_535 : decode cL_acts 535 = .ok (.iload 14, 2) := by decide +kernel
theorem dL_acts_537 : decode cL_acts 537 = .ok (.ifCond .le 18, 3) := by decide +kernel
theorem dL_acts_540 : decode cL_acts 540 = .ok (.iinc 13 1, 3) := by decide +kernel
theorem dL_acts_543 : decode cL_acts 543 = .ok (.iload 14, 2) := by decide +kernel
theorem dL_acts_545 : decode cL_acts 545 = .ok (.iload 14, 2) := by decide +kernel
theorem dL_acts_547 : decode cL_acts 547 = .ok (.iconst 1, 1) := by decide +kernel
theorem dL_acts_548 : decode cL_acts 548 = .ok (.isub, 1) := by decide +kernel
theorem dL_acts_549 : decode cL_acts 549 = .ok (.iand, 1) := by decide +kernel
theorem dL_acts_550 : decode cL_acts 550 = .ok (.istore 14, 2) := by decide +kernel
theorem dL_acts_552 : decode cL_acts 552 = .ok (.goto (-17), 3) := by decide +kernel
theorem dL_acts_555 : decode cL_acts 555 = .ok (.aload_n 0, 1) := by decide +kernel
theorem dL_acts_556 : decode cL_acts 556 = .ok (.iload 10, 2) := by decide +kernel
theorem dL_acts_558 : decode cL_acts 558 = .ok (.iload 11, 2) := by decide +kernel
theorem dL_acts_560 : decode cL_acts 560 = .ok (.iload 12, 2) := by decide +kernel
theorem dL_acts_562 : decode cL_acts 562 = .ok (.invokevirtual 81, 3) := by decide +kernel
theorem dL_acts_565 : decode cL_acts 565 = .ok (.iload 13, 2) := by decide +kernel
theorem dL_acts_567 : decode cL_acts 567 = .ok (.if_icmp .ne 7, 3) := by decide +kernel
theorem dL_acts_570 : decode cL_acts 570 = .ok (.iconst 1, 1) := by decide +kernel
theorem dL_acts_571 : decode cL_acts 571 = .ok (.goto 4, 3) := by decide +kernel
theorem dL_acts_574 : decode cL_acts 574 = .ok (.iconst 0, 1) := by decide +kernel
theorem dL_acts_575 : decode cL_acts 575 = .ok (.ireturn, 1) := by decide +kernel
theorem dL_acts_576 : decode cL_acts 576 = .ok (.iload 9, 2) := by decide +kernel
theorem dL_acts_578 : decode cL_acts 578 = .ok (.bipush 17, 2) := by decide +kernel
theorem dL_acts_580 : decode cL_acts 580 = .ok (.if_icmp .ge 195, 3) := by decide +kernel
theorem dL_acts_583 : decode cL_acts 583 = .ok (.bipush 8, 2) := by decide +kernel
theorem dL_acts_585 : decode cL_acts 585 = .ok (.iload 10, 2) := by decide +kernel
theorem dL_acts_587 : decode cL_acts 587 = .ok (.imul, 1) := by decide +kernel
theorem dL_acts_588 : decode cL_acts 588 = .ok (.istore 11, 2) := by decide +kernel
theorem dL_acts_590 : decode cL_acts 590 = .ok (.aload 5, 2) := by decide +kernel
theorem dL_acts_592 : decode cL_acts 592 = .ok (.iload 11, 2) := by decide +kernel
theorem dL_acts_594 : decode cL_acts 594 = .ok (.iconst 2, 1) := by decide +kernel
theorem dL_acts_595 : decode cL_acts 595 = .ok (.iadd, 1) := by decide +kernel
theorem dL_acts_596 : decode cL_acts 596 = .ok (.iaload, 1) := by decide +kernel
theorem dL_acts_597 : decode cL_acts 597 = .ok (.ifCond .gt 15, 3) := by decide +kernel
theorem dL_acts_600 : decode cL_acts 600 = .ok (.aload_n 1, 1) := by decide +kernel
theorem dL_acts_601 : decode cL_acts 601 = .ok (.aload_n 2, 1) := by decide +kernel
theorem dL_acts_602 : decode cL_acts 602 = .ok (.aload_n 3, 1) := by decide +kernel
theorem dL_acts_603 : decode cL_acts 603 = .ok (.iload 10, 2) := by decide +kernel
theorem dL_acts_605 : decode cL_acts 605 = .ok (.iconst 0, 1) := by decide +kernel
theorem dL_acts_606 : decode cL_acts 606 = .ok (.invokestatic 9, 3) := by decide +kernel
theorem dL_acts_609 : decode cL_acts 609 = .ok (.ifCond .ne 20, 3) := by decide +kernel
theorem dL_acts_612 : decode cL_acts 612 = .ok (.aload_n 0, 1) := by decide +kernel
theorem dL_acts_613 : decode cL_acts 613 = .ok (.iload 10, 2) := by decide +kernel
theorem dL_acts_615 : decode cL_acts 615 = .ok (.invokevirtual 87, 3) := by decide +kernel
theorem dL_acts_618 : decode cL_acts 618 = .ok (.ldc 59, 2) := by decide +kernel
theorem dL_acts_620 : decode cL_acts 620 = .ok (.if_icmp .ne 7, 3) := by decide +kernel
theorem dL_acts_623 : decode cL_acts 623 = .ok (.iconst 1, 1) := by decide +kernel
theorem dL_acts_624 : decode cL_acts 624 = .ok (.goto 4, 3) := by decide +kernel
theorem dL_acts_627 : decode cL_acts 627 = .ok (.iconst 0, 1) := by decide +kernel
theorem dL_acts_628 : decode cL_acts 628 = .ok (.ireturn, 1) := by decide +kernel
theorem dL_acts_629 : decode cL_acts 629 = .ok (.aload 5, 2) := by decide +kernel
theorem dL_acts_631 : decode cL_acts 631 = .ok (.iload 11, 2) := by decide +kernel
theorem dL_acts_633 : decode cL_acts 633 = .ok (.iconst 3, 1) := by decide +kernel
theorem dL_acts_634 : decode cL_acts 634 = .ok (.iadd, 1) := by decide +kernel
theorem dL_acts_635 : decode cL_acts 635 = .ok (.aload_n 1, 1) := by decide +kernel
theorem dL_acts_636 : decode cL_acts 636 = .ok (.aload_n 2, 1) := by decide +kernel
theorem dL_acts_637 : decode cL_acts 637 = .ok (.aload_n 3, 1) := by decide +kernel
theorem dL_acts_638 : decode cL_acts 638 = .ok (.aload 5, 2) := by decide +kernel
theorem dL_acts_640 : decode cL_acts 640 = .ok (.iload 10, 2) := by decide +kernel
theorem dL_acts_642 : decode cL_acts 642 = .ok (.invokestatic 15, 3) := by decide +kernel
theorem dL_acts_645 : decode cL_acts 645 = .ok (.iastore, 1) := by decide +kernel
theorem dL_acts_646 : decode cL_acts 646 = .ok (.aload 5, 2) := by decide +kernel
theorem dL_acts_648 : decode cL_acts 648 = .ok (.iload 11, 2) := by decide +kernel
theorem dL_acts_650 : decode cL_acts 650 = .ok (.iconst 2, 1) := by decide +kernel
theorem dL_acts_651 : decode cL_acts 651 = .ok (.iadd, 1) := by decide +kernel
theorem dL_acts_652 : decode cL_acts 652 = .ok (.iconst 1, 1) := by decide +kernel
theorem dL_acts_653 : decode cL_acts 653 = .ok (.iastore, 1) := by decide +kernel
theorem dL_acts_654 : decode cL_acts 654 = .ok (.aload 5, 2) := by decide +kernel
theorem dL_acts_656 : decode cL_acts 656 = .ok (.iload 11, 2) := by decide +kernel
theorem dL_acts_658 : decode cL_acts 658 = .ok (.iconst 5, 1) := by decide +kernel
theorem dL_acts_659 : decode cL_acts 659 = .ok (.iadd, 1) := by decide +kernel
theorem dL_acts_660 : decode cL_acts 660 = .ok (.aload 5, 2) := by decide +kernel
theorem dL_acts_662 : decode cL_acts 662 = .ok (.iload 11, 2) := by decide +kernel
theorem dL_acts_664 : decode cL_acts 664 = .ok (.iconst 3, 1) := by decide +kernel
theorem dL_acts_665 : decode cL_acts 665 = .ok (.iadd, 1) := by decide +kernel
theorem dL_acts_666 : decode cL_acts 666 = .ok (.iaload, 1) := by decide +kernel
theorem dL_acts_667 : decode cL_acts 667 = .ok (.aload_n 1, 1) := by decide +kernel
theorem dL_acts_668 : decode cL_acts 668 = .ok (.iconst 0, 1) := by decide +kernel
theorem dL_acts_669 : decode cL_acts 669 = .ok (.iaload, 1) := by decide +kernel
theorem dL_acts_670 : decode cL_acts 670 = .ok (.imul, 1) := by decide +kernel
theorem dL_acts_671 : decode cL_acts 671 = .ok (.iastore, 1) := by decide +kernel
theorem dL_acts_672 : decode cL_acts 672 = .ok (.aload 5, 2) := by decide +kernel
theorem dL_acts_674 : decode cL_acts 674 = .ok (.iload 11, 2) := by decide +kernel
theorem dL_acts_676 : decode cL_acts 676 = .ok (.iconst 4, 1) := by decide +kernel
theorem dL_acts_677 : decode cL_acts 677 = .ok (.iadd, 1) := by decide +kernel
theorem dL_acts_678 : decode cL_acts 678 = .ok (.aload_n 1, 1) := by decide +kernel
theorem dL_acts_679 : decode cL_acts 679 = .ok (.iconst 5, 1) := by decide +kernel
theorem dL_acts_680 : decode cL_acts 680 = .ok (.iaload, 1) := by decide +kernel
theorem dL_acts_681 : decode cL_acts 681 = .ok (.aload 5, 2) := by decide +kernel
theorem dL_acts_683 : decode cL_acts 683 = .ok (.iload 11, 2) := by decide +kernel
theorem dL_acts_685 : decode cL_acts 685 = .ok (.iconst 5, 1) := by decide +kernel
theorem dL_acts_686 : decode cL_acts 686 = .ok (.iadd, 1) := by decide +kernel
theorem dL_acts_687 : decode cL_acts 687 = .ok (.iaload, 1) := by decide +kernel
theorem dL_acts_688 : decode cL_acts 688 = .ok (.iadd, 1) := by decide +kernel
theorem dL_acts_689 : decode cL_acts 689 = .ok (.iastore, 1) := by decide +kernel
theorem dL_acts_690 : decode cL_acts 690 = .ok (.iconst 0, 1) := by decide +kernel
theorem dL_acts_691 : decode cL_acts 691 = .ok (.istore 12, 2) := by decide +kernel
theorem dL_acts_693 : decode cL_acts 693 = .ok (.iload 12, 2) := by decide +kernel
theorem dL_acts_695 : decode cL_acts 695 = .ok (.aload_n 1, 1) := by decide +kernel
theorem dL_acts_696 : decode cL_acts 696 = .ok (.iconst 3, 1) := by decide +kernel
theorem dL_acts_697 : decode cL_acts 697 = .ok (.iaload, 1) := by decide +kernel
theorem dL_acts_698 : decode cL_acts 698 = .ok (.if_icmp .ge 55, 3) := by decide +kernel
theorem dL_acts_701 : decode cL_acts 701 = .ok (.aload_n 3, 1) := by decide +kernel
theorem dL_acts_702 : decode cL_acts 702 = .ok (.iconst 4, 1) := by decide +kernel
theorem dL_acts_703 : decode cL_acts 703 = .ok (.iload 12, 2) := by decide +kernel
theorem dL_acts_705 : decode cL_acts 705 = .ok (.imul, 1) := by decide +kernel
theorem dL_acts_706 : decode cL_acts 706 = .ok (.iconst 2, 1) := by decide +kernel
theorem dL_acts_707 : decode cL_acts 707 = .ok (.iadd, 1) := by decide +kernel
theorem dL_acts_708 : decode cL_acts 708 = .ok (.iaload, 1) := by decide +kernel
theorem dL_acts_709 : decode cL_acts 709 = .ok (.iconst 1, 1) := by decide +kernel
theorem dL_acts_710 : decode cL_acts 710 = .ok (.if_icmp .ne 37, 3) := by decide +kernel
theorem dL_acts_713 : decode cL_acts 713 = .ok (.aload_n 3, 1) := by decide +kernel
theorem dL_acts_714 : decode cL_acts 714 = .ok (.iconst 4, 1) := by decide +kernel
theorem dL_acts_715 : decode cL_acts 715 = .ok (.iload 12, 2) := by decide +kernel
theorem dL_acts_717 : decode cL_acts 717 = .ok (.imul, 1) := by decide +kernel
theorem dL_acts_718 : decode cL_acts 718 = .ok (.iconst 3, 1) := by decide +kernel
theorem dL_acts_719 : decode cL_acts 719 = .ok (.iadd, 1) := by decide +kernel
theorem dL_acts_720 : decode cL_acts 720 = .ok (.iaload, 1) := by decide +kernel
theorem dL_acts_721 : decode cL_acts 721 = .ok (.iload 10, 2) := by decide +kernel
theorem dL_acts_723 : decode cL_acts 723 = .ok (.if_icmp .ne 24, 3) := by decide +kernel
theorem dL_acts_726 : decode cL_acts 726 = .ok (.aload_n 3, 1) := by decide +kernel
theorem dL_acts_727 : decode cL_acts 727 = .ok (.iconst 4, 1) := by decide +kernel
theorem dL_acts_728 : decode cL_acts 728 = .ok (.iload 12, 2) := by decide +kernel
theorem dL_acts_730 : decode cL_acts 730 = .ok (.imul, 1) := by decide +kernel
theorem dL_acts_731 : decode cL_acts 731 = .ok (.iconst 2, 1) := by decide +kernel
theorem dL_acts_732 : decode cL_acts 732 = .ok (.iadd, 1) := by decide +kernel
theorem dL_acts_733 : decode cL_acts 733 = .ok (.iconst 2, 1) := by decide +kernel
theorem dL_acts_734 : decode cL_acts 734 = .ok (.iastore, 1) := by decide +kernel
theorem dL_acts_735 : decode cL_acts 735 = .ok (.aload 4, 2) := by decide +kernel
theorem dL_acts_737 : decode cL_acts 737 = .ok (.iconst 4, 1) := by decide +kernel
theorem dL_acts_738 : decode cL_acts 738 = .ok (.iload 12, 2) := by decide +kernel
theorem dL_acts_740 : decode cL_acts 740 = .ok (.imul, 1) := by decide +kernel
theorem dL_acts_741 : decode cL_acts 741 = .ok (.iconst 3, 1) := by decide +kernel
theorem dL_acts_742 : decode cL_acts 742 = .ok (.iadd, 1) := by decide +kernel
theorem dL_acts_743 : decode cL_acts 743 = .ok (.aload_n 1, 1) := by decide +kernel
theorem dL_acts_744 : decode cL_acts 744 = .ok (.iconst 5, 1) := by decide +kernel
theorem dL_acts_745 : decode cL_acts 745 = .ok (.iaload, 1) := by decide +kernel
theorem dL_acts_746 : decode cL_acts 746 = .ok (.iastore, 1) := by decide +kernel
theorem dL_acts_747 : decode cL_acts 747 = .ok (.iinc 12 1, 3) := by decide +kernel
theorem dL_acts_750 : decode cL_acts 750 = .ok (.goto (-57), 3) := by decide +kernel
theorem dL_acts_753 : decode cL_acts 753 = .ok (.aload_n 0, 1) := by decide +kernel
theorem dL_acts_754 : decode cL_acts 754 = .ok (.iload 10, 2) := by decide +kernel
theorem dL_acts_756 : decode cL_acts 756 = .ok (.invokevirtual 87, 3) := by decide +kernel
theorem dL_acts_759 : decode cL_acts 759 = .ok (.aload 5, 2) := by decide +kernel
theorem dL_acts_761 : decode cL_acts 761 = .ok (.iload 11, 2) := by decide +kernel
theorem dL_acts_763 : decode cL_acts 763 = .ok (.iconst 4, 1) := by decide +kernel
theorem dL_acts_764 : decode cL_acts 764 = .ok (.iadd, 1) := by decide +kernel
theorem dL_acts_765 : decode cL_acts 765 = .ok (.iaload, 1) := by decide +kernel
theorem dL_acts_766 : decode cL_acts 766 = .ok (.if_icmp .ne 7, 3) := by decide +kernel
theorem dL_acts_769 : decode cL_acts 769 = .ok (.iconst 1, 1) := by decide +kernel
theorem dL_acts_770 : decode cL_acts 770 = .ok (.goto 4, 3) := by decide +kernel
theorem dL_acts_773 : decode cL_acts 773 = .ok (.iconst 0, 1) := by decide +kernel
theorem dL_acts_774 : decode cL_acts 774 = .ok (.ireturn, 1) := by decide +kernel
theorem dL_acts_775 : decode cL_acts 775 = .ok (.iload 9, 2) := by decide +kernel
theorem dL_acts_777 : decode cL_acts 777 = .ok (.bipush 20, 2) := by decide +kernel
theorem dL_acts_779 : decode cL_acts 779 = .ok (.if_icmp .ge 205, 3) := by decide +kernel
theorem dL_acts_782 : decode cL_acts 782 = .ok (.iload 8, 2) := by decide +kernel
theorem dL_acts_784 : decode cL_acts 784 = .ok (.iconst 5, 1) := by decide +kernel
theorem dL_acts_785 : decode cL_acts 785 = .ok (.idiv, 1) := by decide +kernel
theorem dL_acts_786 : decode cL_acts 786 = .ok (.iload 8, 2) := by decide +kernel
theorem dL_acts_788 : decode cL_acts 788 = .ok (.iconst 2, 1) := by decide +kernel
theorem dL_acts_789 : decode cL_acts 789 = .ok (.irem, 1) := by decide +kernel
theorem dL_acts_790 : decode cL_acts 790 = .ok (.ifCond .ne 9, 3) := by decide +kernel
theorem dL_acts_793 : decode cL_acts 793 = .ok (.sipush 1000, 3) := by decide +kernel
theorem dL_acts_796 : decode cL_acts 796 = .ok (.goto 4, 3) := by decide +kernel
theorem dL_acts_799 : decode cL_acts 799 = .ok (.iconst 3, 1) := by decide +kernel
theorem dL_acts_800 : decode cL_acts 800 = .ok (.irem, 1) := by decide +kernel
theorem dL_acts_801 : decode cL_acts 801 = .ok (.istore 11, 2) := by decide +kernel
theorem dL_acts_803 : decode cL_acts 803 = .ok (.iload 8, 2) := by decide +kernel
theorem dL_acts_805 : decode cL_acts 805 = .ok (.bipush 9, 2) := by decide +kernel
theorem dL_acts_807 : decode cL_acts 807 = .ok (.idiv, 1) := by decide +kernel
theorem dL_acts_808 : decode cL_acts 808 = .ok (.iload 8, 2) := by decide +kernel
theorem dL_acts_810 : decode cL_acts 810 = .ok (.iconst 4, 1) := by decide +kernel
theorem dL_acts_811 : decode cL_acts 811 = .ok (.irem, 1) := by decide +kernel
theorem dL_acts_812 : decode cL_acts 812 = .ok (.ifCond .ne 8, 3) := by decide +kernel
theorem dL_acts_815 : decode cL_acts 815 = .ok (.bipush 100, 2) := by decide +kernel
theorem dL_acts_817 : decode cL_acts 817 = .ok (.goto 5, 3) := by decide +kernel
theorem dL_acts_820 : decode cL_acts 820 = .ok (.bipush 15, 2) := by decide +kernel
theorem dL_acts_822 : decode cL_acts 822 = .ok (.irem, 1) := by decide +kernel
theorem dL_acts_823 : decode cL_acts 823 = .ok (.istore 12, 2) := by decide +kernel
theorem dL_acts_825 : decode cL_acts 825 = .ok (.iconst 1, 1) := by decide +kernel
theorem dL_acts_826 : decode cL_acts 826 = .ok (.iload 8, 2) := by decide +kernel
theorem dL_acts_828 : decode cL_acts 828 = .ok (.bipush 11, 2) := by decide +kernel
theorem dL_acts_830 : decode cL_acts 830 = .ok (.idiv, 1) := by decide +kernel
theorem dL_acts_831 : decode cL_acts 831 = .ok (.bipush 30, 2) := by decide +kernel
theorem dL_acts_833 : decode cL_acts 833 = .ok (.irem, 1) := by decide +kernel
theorem dL_acts_834 : decode cL_acts 834 = .ok (.iadd, 1) := by decide +kernel
theorem dL_acts_835 : decode cL_acts 835 = .ok (.istore 13, 2) := by decide +kernel
theorem dL_acts_837 : decode cL_acts 837 = .ok (.iconst 1, 1) := by decide +kernel
theorem dL_acts_838 : decode cL_acts 838 = .ok (.iload 8, 2) := by decide +kernel
theorem dL_acts_840 : decode cL_acts 840 = .ok (.bipush 13, 2) := by decide +kernel
theorem dL_acts_842 : decode cL_acts 842 = .ok (.idiv, 1) := by decide +kernel
theorem dL_acts_843 : decode cL_acts 843 = .ok (.bipush 30, 2) := by decide +kernel
theorem dL_acts_845 : decode cL_acts 845 = .ok (.irem, 1) := by decide +kernel
theorem dL_acts_846 : decode cL_acts 846 = .ok (.iadd, 1) := by decide +kernel
theorem dL_acts_847 : decode cL_acts 847 = .ok (.istore 14, 2) := by decide +kernel
theorem dL_acts_849 : decode cL_acts 849 = .ok (.aload_n 1, 1) := by decide +kernel
theorem dL_acts_850 : decode cL_acts 850 = .ok (.bipush 6, 2) := by decide +kernel
theorem dL_acts_852 : decode cL_acts 852 = .ok (.iaload, 1) := by decide +kernel
theorem dL_acts_853 : decode cL_acts 853 = .ok (.bipush 10, 2) := by decide +kernel
theorem dL_acts_855 : decode cL_acts 855 = .ok (.if_icmp .ne 32, 3) := by decide +kernel
theorem dL_acts_858 : decode cL_acts 858 = .ok (.aload_n 0, 1) := by decide +kernel
theorem dL_acts_859 : decode cL_acts 859 = .ok (.iconst 1, 1) := by decide +kernel
theorem dL_acts_860 : decode cL_acts 860 = .ok (.iload 8, 2) := by decide +kernel
theorem dL_acts_862 : decode cL_acts 862 = .ok (.iconst 4, 1) := by decide +kernel
theorem dL_acts_863 : decode cL_acts 863 = .ok (.irem, 1) := by decide +kernel
theorem dL_acts_864 : decode cL_acts 864 = .ok (.iadd, 1) := by decide +kernel
theorem dL_acts_865 : decode cL_acts 865 = .ok (.iload 13, 2) := by decide +kernel
theorem dL_acts_867 : decode cL_acts 867 = .ok (.iload 14, 2) := by decide +kernel
theorem dL_acts_869 : decode cL_acts 869 = .ok (.iload 11, 2) := by decide +kernel
theorem dL_acts_871 : decode cL_acts 871 = .ok (.iload 12, 2) := by decide +kernel
theorem dL_acts_873 : decode cL_acts 873 = .ok (.invokevirtual 90, 3) := by decide +kernel
theorem dL_acts_876 : decode cL_acts 876 = .ok (.ldc 41, 2) := by decide +kernel
theorem dL_acts_878 : decode cL_acts 878 = .ok (.if_icmp .ne 7, 3) := by decide +kernel
theorem dL_acts_881 : decode cL_acts 881 = .ok (.iconst 1, 1) := by decide +kernel
theorem dL_acts_882 : decode cL_acts 882 = .ok (.goto 4, 3) := by decide +kernel
theorem dL_acts_885 : decode cL_acts 885 = .ok (.iconst 0, 1) := by decide +kernel
theorem dL_acts_886 : decode cL_acts 886 = .ok (.ireturn, 1) := by decide +kernel
theorem dL_acts_887 : decode cL_acts 887 = .ok (.iconst 5, 1) := by decide +kernel
theorem dL_acts_888 : decode cL_acts 888 = .ok (.aload_n 1, 1) := by decide +kernel
theorem dL_acts_889 : decode cL_acts 889 = .ok (.bipush 6, 2) := by decide +kernel
theorem dL_acts_891 : decode cL_acts 891 = .ok (.iaload, 1) := by decide +kernel
theorem dL_acts_892 : decode cL_acts 892 = .ok (.imul, 1) := by decide +kernel
theorem dL_acts_893 : decode cL_acts 893 = .ok (.istore 15, 2) := by decide +kernel
theorem dL_acts_895 : decode cL_acts 895 = .ok (.aload 6, 2) := by decide +kernel
theorem dL_acts_897 : decode cL_acts 897 = .ok (.iload 15, 2) := by decide +kernel
theorem dL_acts_899 : decode cL_acts 899 = .ok (.iconst 1, 1) := by decide +kernel
theorem dL_acts_900 : decode cL_acts 900 = .ok (.iload 8, 2) := by decide +kernel
theorem dL_acts_902 : decode cL_acts 902 = .ok (.iconst 4, 1) := by decide +kernel
theorem dL_acts_903 : decode cL_acts 903 = .ok (.irem, 1) := by decide +kernel
theorem dL_acts_904 : decode cL_acts 904 = .ok (.iadd, 1) := by decide +kernel
theorem dL_acts_905 : decode cL_acts 905 = .ok (.iastore, 1) := by decide +kernel
theorem dL_acts_906 : decode cL_acts 906 = .ok (.aload 6, 2) := by decide +kernel
theorem dL_acts_908 : decode cL_acts 908 = .ok (.iload 15, 2) := by decide +kernel
theorem dL_acts_910 : decode cL_acts 910 = .ok (.iconst 1, 1) := by decide +kernel
theorem dL_acts_911 : decode cL_acts 911 = .ok (.iadd, 1) := by decide +kernel
theorem dL_acts_912 : decode cL_acts 912 = .ok (.iload 13, 2) := by decide +kernel
theorem dL_acts_914 : decode cL_acts 914 = .ok (.iastore, 1) := by decide +kernel
theorem dL_acts_915 : decode cL_acts 915 = .ok (.aload 6, 2) := by decide +kernel
theorem dL_acts_917 : decode cL_acts 917 = .ok (.iload 15, 2) := by decide +kernel
theorem dL_acts_919 : decode cL_acts 919 = .ok (.iconst 2, 1) := by decide +kernel
theorem dL_acts_920 : decode cL_acts 920 = .ok (.iadd, 1) := by decide +kernel
theorem dL_acts_921 : decode cL_acts 921 = .ok (.iload 14, 2) := by decide +kernel
theorem dL_acts_923 : decode cL_acts 923 = .ok (.iastore, 1) := by decide +kernel
theorem dL_acts_924 : decode cL_acts 924 = .ok (.aload 6, 2) := by decide +kernel
theorem dL_acts_926 : decode cL_acts 926 = .ok (.iload 15, 2) := by decide +kernel
theorem dL_acts_928 : decode cL_acts 928 = .ok (.iconst 3, 1) := by decide +kernel
theorem dL_acts_929 : decode cL_acts 929 = .ok (.iadd, 1) := by decide +kernel
theorem dL_acts_930 : decode cL_acts 930 = .ok (.iload 11, 2) := by decide +kernel
theorem dL_acts_932 : decode cL_acts 932 = .ok (.iastore, 1) := by decide +kernel
theorem dL_acts_933 : decode cL_acts 933 = .ok (.aload 6, 2) := by decide +kernel
theorem dL_acts_935 : decode cL_acts 935 = .ok (.iload 15, 2) := by decide +kernel
theorem dL_acts_937 : decode cL_acts 937 = .ok (.iconst 4, 1) := by decide +kernel
theorem dL_acts_938 : decode cL_acts 938 = .ok (.iadd, 1) := by decide +kernel
theorem dL_acts_939 : decode cL_acts 939 = .ok (.aload_n 1, 1) := by decide +kernel
theorem dL_acts_940 : decode cL_acts 940 = .ok (.iconst 5, 1) := by decide +kernel
theorem dL_acts_941 : decode cL_acts 941 = .ok (.iaload, 1) := by decide +kernel
theorem dL_acts_942 : decode cL_acts 942 = .ok (.iload 12, 2) := by decide +kernel
theorem dL_acts_944 : decode cL_acts 944 = .ok (.iadd, 1) := by decide +kernel
theorem dL_acts_945 : decode cL_acts 945 = .ok (.iastore, 1) := by decide +kernel
theorem dL_acts_946 : decode cL_acts 946 = .ok (.aload_n 1, 1) := by decide +kernel
theorem dL_acts_947 : decode cL_acts 947 = .ok (.bipush 6, 2) := by decide +kernel
theorem dL_acts_949 : decode cL_acts 949 = .ok (.dup2, 1) := by decide +kernel
theorem dL_acts_950 : decode cL_acts 950 = .ok (.iaload, 1) := by decide +kernel
theorem dL_acts_951 : decode cL_acts 951 = .ok (.iconst 1, 1) := by decide +kernel
theorem dL_acts_952 : decode cL_acts 952 = .ok (.iadd, 1) := by decide +kernel
theorem dL_acts_953 : decode cL_acts 953 = .ok (.iastore, 1) := by decide +kernel
theorem dL_acts_954 : decode cL_acts 954 = .ok (.aload_n 0, 1) := by decide +kernel
theorem dL_acts_955 : decode cL_acts 955 = .ok (.aload 6, 2) := by decide +kernel
theorem dL_acts_957 : decode cL_acts 957 = .ok (.iload 15, 2) := by decide +kernel
theorem dL_acts_959 : decode cL_acts 959 = .ok (.iaload, 1) := by decide +kernel
theorem dL_acts_960 : decode cL_acts 960 = .ok (.iload 13, 2) := by decide +kernel
theorem dL_acts_962 : decode cL_acts 962 = .ok (.iload 14, 2) := by decide +kernel
theorem dL_acts_964 : decode cL_acts 964 = .ok (.iload 11, 2) := by decide +kernel
theorem dL_acts_966 : decode cL_acts 966 = .ok (.iload 12, 2) := by decide +kernel
theorem dL_acts_968 : decode cL_acts 968 = .ok (.invokevirtual 90, 3) := by decide +kernel
theorem dL_acts_971 : decode cL_acts 971 = .ok (.aload_n 1, 1) := by decide +kernel
theorem dL_acts_972 : decode cL_acts 972 = .ok (.bipush 6, 2) := by decide +kernel
theorem dL_acts_974 : decode cL_acts 974 = .ok (.iaload, 1) := by decide +kernel
theorem dL_acts_975 : decode cL_acts 975 = .ok (.if_icmp .ne 7, 3) := by decide +kernel
theorem dL_acts_978 : decode cL_acts 978 = .ok (.iconst 1, 1) := by decide +kernel
theorem dL_acts_979 : decode cL_acts 979 = .ok (.goto 4, 3) := by decide +kernel
theorem dL_acts_982 : decode cL_acts 982 = .ok (.iconst 0, 1) := by decide +kernel
theorem dL_acts_983 : decode cL_acts 983 = .ok (.ireturn, 1) := by decide +kernel
theorem dL_acts_984 : decode cL_acts 984 = .ok (.iload 9, 2) := by decide +kernel
theorem dL_acts_986 : decode cL_acts 986 = .ok (.bipush 25, 2) := by decide +kernel
theorem dL_acts_988 : decode cL_acts 988 = .ok (.if_icmp .ge 76, 3) := by decide +kernel
theorem dL_acts_991 : decode cL_acts 991 = .ok (.iconst 1, 1) := by decide +kernel
theorem dL_acts_992 : decode cL_acts 992 = .ok (.iload 8, 2) := by decide +kernel
theorem dL_acts_994 : decode cL_acts 994 = .ok (.iload 8, 2) := by decide +kernel
theorem dL_acts_996 : decode cL_acts 996 = .ok (.iconst 5, 1) := by decide +kernel
theorem dL_acts_997 : decode cL_acts 997 = .ok (.irem, 1) := by decide +kernel
theorem dL_acts_998 : decode cL_acts 998 = .ok (.ifCond .ne 8, 3) := by decide +kernel
theorem dL_acts_1001 : decode cL_acts 1001 = .ok (.bipush 30, 2) := by decide +kernel
theorem dL_acts_1003 : decode cL_acts 1003 = .ok (.goto 4, 3) := by decide +kernel
theorem dL_acts_1006 : decode cL_acts 1006 = .ok (.iconst 5, 1) := by decide +kernel
theorem dL_acts_1007 : decode cL_acts 1007 = .ok (.irem, 1) := by decide +kernel
theorem dL_acts_1008 : decode cL_acts 1008 = .ok (.iadd, 1) := by decide +kernel
theorem dL_acts_1009 : decode cL_acts 1009 = .ok (.istore 11, 2) := by decide +kernel
theorem dL_acts_1011 : decode cL_acts 1011 = .ok (.iconst 0, 1) := by decide +kernel
theorem dL_acts_1012 : decode cL_acts 1012 = .ok (.istore 12, 2) := by decide +kernel
theorem dL_acts_1014 : decode cL_acts 1014 = .ok (.iconst 0, 1) := by decide +kernel
theorem dL_acts_1015 : decode cL_acts 1015 = .ok (.istore 13, 2) := by decide +kernel
theorem dL_acts_1017 : decode cL_acts 1017 = .ok (.iload 13, 2) := by decide +kernel
theorem dL_acts_1019 : decode cL_acts 1019 = .ok (.iload 11, 2) := by decide +kernel
theorem dL_acts_1021 : decode cL_acts 1021 = .ok (.if_icmp .ge 26, 3) := by decide +kernel
theorem dL_acts_1024 : decode cL_acts 1024 = .ok (.iload 12, 2) := by decide +kernel
theorem dL_acts_1026 : decode cL_acts 1026 = .ok (.aload_n 1, 1) := by decide +kernel
theorem dL_acts_1027 : decode cL_acts 1027 = .ok (.aload_n 2, 1) := by decide +kernel
theorem dL_acts_1028 : decode cL_acts 1028 = .ok (.aload_n 3, 1) := by decide +kernel
theorem dL_acts_1029 : decode cL_acts 1029 = .ok (.aload 4, 2) := by decide +kernel
theorem dL_acts_1031 : decode cL_acts 1031 = .ok (.aload 5, 2) := by decide +kernel
theorem dL_acts_1033 : decode cL_acts 1033 = .ok (.aload 6, 2) := by decide +kernel
theorem dL_acts_1035 : decode cL_acts 1035 = .ok (.invokestatic 94, 3) := by decide +kernel
theorem dL_acts_1038 : decode cL_acts 1038 = .ok (.iadd, 1) := by decide +kernel
theorem dL_acts_1039 : decode cL_acts 1039 = .ok (.istore 12, 2) := by decide +kernel
theorem dL_acts_1041 : decode cL_acts 1041 = .ok (.iinc 13 1, 3) := by decide +kernel
theorem dL_acts_1044 : decode cL_acts 1044 = .ok (.goto (-27), 3) := by decide +kernel
theorem dL_acts_1047 : decode cL_acts 1047 = .ok (.aload_n 0, 1) := by decide +kernel
theorem dL_acts_1048 : decode cL_acts 1048 = .ok (.iload 11, 2) := by decide +kernel
theorem dL_acts_1050 : decode cL_acts 1050 = .ok (.invokevirtual 98, 3) := by decide +kernel
theorem dL_acts_1053 : decode cL_acts 1053 = .ok (.iload 12, 2) := by decide +kernel
theorem dL_acts_1055 : decode cL_acts 1055 = .ok (.if_icmp .ne 7, 3) := by decide +kernel
theorem dL_acts_1058 : decode cL_acts 1058 = .ok (.iconst 1, 1) := by decide +kernel
theorem dL_acts_1059 : decode cL_acts 1059 = .ok (.goto 4, 3) := by decide +kernel
theorem dL_acts_1062 : decode cL_acts 1062 = .ok (.iconst 0, 1) := by decide +kernel
theorem dL_acts_1063 : decode cL_acts 1063 = .ok (.ireturn, 1) := by decide +kernel
theorem dL_acts_1064 : decode cL_acts 1064 = .ok (.iload 8, 2) := by decide +kernel
theorem dL_acts_1066 : decode cL_acts 1066 = .ok (.iconst 3, 1) := by decide +kernel
theorem dL_acts_1067 : decode cL_acts 1067 = .ok (.irem, 1) := by decide +kernel
theorem dL_acts_1068 : decode cL_acts 1068 = .ok (.istore 11, 2) := by decide +kernel
theorem dL_acts_1070 : decode cL_acts 1070 = .ok (.aload_n 1, 1) := by decide +kernel
theorem dL_acts_1071 : decode cL_acts 1071 = .ok (.iload 11, 2) := by decide +kernel
theorem dL_acts_1073 : decode cL_acts 1073 = .ok (.iaload, 1) := by decide +kernel
theorem dL_acts_1074 : decode cL_acts 1074 = .ok (.istore 12, 2) := by decide +kernel
theorem dL_acts_1076 : decode cL_acts 1076 = .ok (.aload_n 1, 1) := by decide +kernel
theorem dL_acts_1077 : decode cL_acts 1077 = .ok (.iload 11, 2) := by decide +kernel
theorem dL_acts_1079 : decode cL_acts 1079 = .ok (.iload 11, 2) := by decide +kernel
theorem dL_acts_1081 : decode cL_acts 1081 = .ok (.ifCond .ne 15, 3) := by decide +kernel
theorem dL_acts_1084 : decode cL_acts 1084 = .ok (.iconst 1, 1) := by decide +kernel
theorem dL_acts_1085 : decode cL_acts 1085 = .ok (.iload 8, 2) := by decide +kernel
theorem dL_acts_1087 : decode cL_acts 1087 = .ok (.iconst 3, 1) := by decide +kernel
theorem dL_acts_1088 : decode cL_acts 1088 = .ok (.idiv, 1) := by decide +kernel
theorem dL_acts_1089 : decode cL_acts 1089 = .ok (.bipush 6, 2) := by decide +kernel
theorem dL_acts_1091 : decode cL_acts 1091 = .ok (.irem, 1) := by decide +kernel
theorem dL_acts_1092 : decode cL_acts 1092 = .ok (.iadd, 1) := by decide +kernel
theorem dL_acts_1093 : decode cL_acts 1093 = .ok (.goto 26, 3) := by decide +kernel
theorem dL_acts_1096 : decode cL_acts 1096 = .ok (.iload 11, 2) := by decide +kernel
theorem dL_acts_1098 : decode cL_acts 1098 = .ok (.iconst 1, 1) := by decide +kernel
theorem dL_acts_1099 : decode cL_acts 1099 = .ok (.if_icmp .ne 13, 3) := by decide +kernel
theorem dL_acts_1102 : decode cL_acts 1102 = .ok (.iload 8, 2) := by decide +kernel
theorem dL_acts_1104 : decode cL_acts 1104 = .ok (.iconst 3, 1) := by decide +kernel
theorem dL_acts_1105 : decode cL_acts 1105 = .ok (.idiv, 1) := by decide +kernel
theorem dL_acts_1106 : decode cL_acts 1106 = .ok (.bipush 20, 2) := by decide +kernel
theorem dL_acts_1108 : decode cL_acts 1108 = .ok (.irem, 1) := by decide +kernel
theorem dL_acts_1109 : decode cL_acts 1109 = .ok (.goto 10, 3) := by decide +kernel
theorem dL_acts_1112 : decode cL_acts 1112 = .ok (.iload 8, 2) := by decide +kernel
theorem dL_acts_1114 : decode cL_acts 1114 = .ok (.iconst 3, 1) := by decide +kernel
theorem dL_acts_1115 : decode cL_acts 1115 = .ok (.idiv, 1) := by decide +kernel
theorem dL_acts_1116 : decode cL_acts 1116 = .ok (.bipush 21, 2) := by decide +kernel
theorem dL_acts_1118 : decode cL_acts 1118 = .ok (.irem, 1) := by decide +kernel
theorem dL_acts_1119 : decode cL_acts 1119 = .ok (.iastore, 1) := by decide +kernel
theorem dL_acts_1120 : decode cL_acts 1120 = .ok (.aload_n 0, 1) := by decide +kernel
theorem dL_acts_1121 : decode cL_acts 1121 = .ok (.iload 11, 2) := by decide +kernel
theorem dL_acts_1123 : decode cL_acts 1123 = .ok (.aload_n 1, 1) := by decide +kernel
theorem dL_acts_1124 : decode cL_acts 1124 = .ok (.iload 11, 2) := by decide +kernel
theorem dL_acts_1126 : decode cL_acts 1126 = .ok (.iaload, 1) := by decide +kernel
theorem dL_acts_1127 : decode cL_acts 1127 = .ok (.invokevirtual 101, 3) := by decide +kernel
theorem dL_acts_1130 : decode cL_acts 1130 = .ok (.iload 12, 2) := by decide +kernel
theorem dL_acts_1132 : decode cL_acts 1132 = .ok (.if_icmp .ne 7, 3) := by decide +kernel
theorem dL_acts_1135 : decode cL_acts 1135 = .ok (.iconst 1, 1) := by decide +kernel
theorem dL_acts_1136 : decode cL_acts 1136 = .ok (.goto 4, 3) := by decide +kernel
theorem dL_acts_1139 : decode cL_acts 1139 = .ok (.iconst 0, 1) := by decide +kernel
theorem dL_acts_1140 : decode cL_acts 1140 = .ok (.ireturn, 1) := by decide +kernel
theorem dL_areGoods_0 : decode cL_areGoods 0 = .ok (.iconst 1, 1) := by decide +kernel
theorem dL_areGoods_1 : decode cL_areGoods 1 = .ok (.istore 5, 2) := by decide +kernel
theorem dL_areGoods_3 : decode cL_areGoods 3 = .ok (.iconst 0, 1) := by decide +kernel
theorem dL_areGoods_4 : decode cL_areGoods 4 = .ok (.istore 6, 2) := by decide +kernel
theorem dL_areGoods_6 : decode cL_areGoods 6 = .ok (.iload 6, 2) := by decide +kernel
theorem dL_areGoods_8 : decode cL_areGoods 8 = .ok (.bipush 16, 2) := by decide +kernel
theorem dL_areGoods_10 : decode cL_areGoods 10 = .ok (.if_icmp .ge 362, 3) := by decide +kernel
theorem dL_areGoods_13 : decode cL_areGoods 13 = .ok (.iload 5, 2) := by decide +kernel
theorem dL_areGoods_15 : decode cL_areGoods 15 = .ok (.ifCond .eq 357, 3) := by decide +kernel
theorem dL_areGoods_18 : decode cL_areGoods 18 = .ok (.iconst 4, 1) := by decide +kernel
theorem dL_areGoods_19 : decode cL_areGoods 19 = .ok (.iload 6, 2) := by decide +kernel
theorem dL_areGoods_21 : decode cL_areGoods 21 = .ok (.imul, 1) := by decide +kernel
theorem dL_areGoods_22 : decode cL_areGoods 22 = .ok (.istore 7, 2) := by decide +kernel
theorem dL_areGoods_24 : decode cL_areGoods 24 = .ok (.aload_n 1, 1) := by decide +kernel
theorem dL_areGoods_25 : decode cL_areGoods 25 = .ok (.aload_n 3, 1) := by decide +kernel
theorem dL_areGoods_26 : decode cL_areGoods 26 = .ok (.iload 6, 2) := by decide +kernel
theorem dL_areGoods_28 : decode cL_areGoods 28 = .ok (.invokestatic 50, 3) := by decide +kernel
theorem dL_areGoods_31 : decode cL_areGoods 31 = .ok (.ifCond .ne 25, 3) := by decide +kernel
theorem dL_areGoods_34 : decode cL_areGoods 34 = .ok (.aload_n 0, 1) := by decide +kernel
theorem dL_areGoods_35 : decode cL_areGoods 35 = .ok (.iload 6, 2) := by decide +kernel
theorem dL_areGoods_37 : decode cL_areGoods 37 = .ok (.iconst 0, 1) := by decide +kernel
theorem dL_areGoods_38 : decode cL_areGoods 38 = .ok (.invokevirtual 104, 3) := by decide +kernel
theorem dL_areGoods_41 : decode cL_areGoods 41 = .ok (.ldc 58, 2) := by decide +kernel
theorem dL_areGoods_43 : decode cL_areGoods 43 = .ok (.if_icmp .ne 7, 3) := by decide +kernel
theorem dL_areGoods_46 : decode cL_areGoods 46 = .ok (.iconst 1, 1) := by decide +kernel
theorem dL_areGoods_47 : decode cL_areGoods 47 = .ok (.goto 4, 3) := by decide +kernel
theorem dL_areGoods_50 : decode cL_areGoods 50 = .ok (.iconst 0, 1) := by decide +kernel
theorem dL_areGoods_51 : decode cL_areGoods 51 = .ok (.istore 5, 2) := by decide +kernel
theorem dL_areGoods_53 : decode cL_areGoods 53 = .ok (.goto 313, 3) := by decide +kernel
theorem dL_areGoods_56 : decode cL_areGoods 56 = .ok (.iconst 0, 1) := by decide +kernel
theorem dL_areGoods_57 : decode cL_areGoods 57 = .ok (.istore 8, 2) := by decide +kernel
theorem dL_areGoods_59 : decode cL_areGoods 59 = .ok (.iconst 0, 1) := by decide +kernel
theorem dL_areGoods_60 : decode cL_areGoods 60 = .ok (.istore 9, 2) := by decide +kernel
theorem dL_areGoods_62 : decode cL_areGoods 62 = .ok (.iload 9, 2) := by decide +kernel
theorem dL_areGoods_64 : decode cL_areGoods 64 = .ok (.aload_n 1, 1) := by decide +kernel
theorem dL_areGoods_65 : decode cL_areGoods 65 = .ok (.iconst 3, 1) := by decide +kernel
theorem dL_areGoods_66 : decode cL_areGoods 66 = .ok (.iaload, 1) := by decide +kernel
theorem dL_areGoods_67 : decode cL_areGoods 67 = .ok (.if_icmp .ge 51, 3) := by decide +kernel
theorem dL_areGoods_70 : decode cL_areGoods 70 = .ok (.iload 8, 2) := by decide +kernel
theorem dL_areGoods_72 : decode cL_areGoods 72 = .ok (.aload_n 1, 1) := by decide +kernel
theorem dL_areGoods_73 : decode cL_areGoods 73 = .ok (.aload_n 3, 1) := by decide +kernel
theorem dL_areGoods_74 : decode cL_areGoods 74 = .ok (.iload 9, 2) := by decide +kernel
theorem dL_areGoods_76 : decode cL_areGoods 76 = .ok (.invokestatic 50, 3) := by decide +kernel
theorem dL_areGoods_79 : decode cL_areGoods 79 = .ok (.ifCond .eq 29, 3) := by decide +kernel
theorem dL_areGoods_82 : decode cL_areGoods 82 = .ok (.aload 4, 2) := by decide +kernel
theorem dL_areGoods_84 : decode cL_areGoods 84 = .ok (.iconst 4, 1) := by decide +kernel
theorem dL_areGoods_85 : decode cL_areGoods 85 = .ok (.iload 9, 2) := by decide +kernel
theorem dL_areGoods_87 : decode cL_areGoods 87 = .ok (.imul, 1) := by decide +kernel
theorem dL_areGoods_88 : decode cL_areGoods 88 = .ok (.iconst 1, 1) := by decide +kernel
theorem dL_areGoods_89 : decode cL_areGoods 89 = .ok (.iadd, 1) := by decide +kernel
theorem dL_areGoods_90 : decode cL_areGoods 90 = .ok (.iaload, 1) := by decide +kernel
theorem dL_areGoods_91 : decode cL_areGoods 91 = .ok (.aload 4, 2) := by decide +kernel
theorem dL_areGoods_93 : decode cL_areGoods 93 = .ok (.iload 7, 2) := by decide +kernel
theorem dL_areGoods_95 : decode cL_areGoods 95 = .ok (.iconst 1, 1) := by decide +kernel
theorem dL_areGoods_96 : decode cL_areGoods 96 = .ok (.iadd, 1) := by decide +kernel
theorem dL_areGoods_97 : decode cL_areGoods 97 = .ok (.iaload, 1) := by decide +kernel
theorem dL_areGoods_98 : decode cL_areGoods 98 = .ok (.if_icmp .ne 10, 3) := by decide +kernel
theorem dL_areGoods_101 : decode cL_areGoods 101 = .ok (.iconst 1, 1) := by decide +kernel
theorem dL_areGoods_102 : decode cL_areGoods 102 = .ok (.iload 9, 2) := by decide +kernel
theorem dL_areGoods_104 : decode cL_areGoods 104 = .ok (.ishl, 1) := by decide +kernel
theorem dL_areGoods_105 : decode cL_areGoods 105 = .ok (.goto 4, 3) := by decide +kernel
theorem dL_areGoods_108 : decode cL_areGoods 108 = .ok (.iconst 0, 1) := by decide +kernel
theorem dL_areGoods_109 : decode cL_areGoods 109 = .ok (.iadd, 1) := by decide +kernel
theorem dL_areGoods_110 : decode cL_areGoods 110 = .ok (.istore 8, 2) := by decide +kernel
theorem dL_areGoods_112 : decode cL_areGoods 112 = .ok (.iinc 9 1, 3) := by decide +kernel
theorem dL_areGoods_115 : decode cL_areGoods 115 = .ok (.goto (-53), 3) := by decide +kernel
theorem dL_areGoods_118 : decode cL_areGoods 118 = .ok (.aload_n 3, 1) := by decide +kernel
theorem dL_areGoods_119 : decode cL_areGoods 119 = .ok (.iload 7, 2) := by decide +kernel
theorem dL_areGoods_121 : decode cL_areGoods 121 = .ok (.iconst 2, 1) := by decide +kernel
theorem dL_areGoods_122 : decode cL_areGoods 122 = .ok (.iadd, 1) := by decide +kernel
theorem dL_areGoods_123 : decode cL_areGoods 123 = .ok (.iaload, 1) := by decide +kernel
theorem dL_areGoods_124 : decode cL_areGoods 124 = .ok (.iconst 2, 1) := by decide +kernel
theorem dL_areGoods_125 : decode cL_areGoods 125 = .ok (.if_icmp .ge 9, 3) := by decide +kernel
theorem dL_areGoods_128 : decode cL_areGoods 128 = .ok (.aload_n 1, 1) := by decide +kernel
theorem dL_areGoods_129 : decode cL_areGoods 129 = .ok (.iconst 5, 1) := by decide +kernel
theorem dL_areGoods_130 : decode cL_areGoods 130 = .ok (.iaload, 1) := by decide +kernel
theorem dL_areGoods_131 : decode cL_areGoods 131 = .ok (.goto 10, 3) := by decide +kernel
theorem dL_areGoods_134 : decode cL_areGoods 134 = .ok (.aload 4, 2) := by decide +kernel
theorem dL_areGoods_136 : decode cL_areGoods 136 = .ok (.iload 7, 2) := by decide +kernel
theorem dL_areGoods_138 : decode cL_areGoods 138 = .ok (.iconst 3, 1) := by decide +kernel
theorem dL_areGoods_139 : decode cL_areGoods 139 = .ok (.iadd, 1) := by decide +kernel
theorem dL_areGoods_140 : decode cL_areGoods 140 = .ok (.iaload, 1) := by decide +kernel
theorem dL_areGoods_141 : decode cL_areGoods 141 = .ok (.aload 4, 2) := by decide +kernel
theorem dL_areGoods_143 : decode cL_areGoods 143 = .ok (.iload 7, 2) := by decide +kernel
theorem dL_areGoods_145 : decode cL_areGoods 145 = .ok (.iconst 2, 1) := by decide +kernel
theorem dL_areGoods_146 : decode cL_areGoods 146 = .ok (.iadd, 1) := by decide +kernel
theorem dL_areGoods_147 : decode cL_areGoods 147 = .ok (.iaload, 1) := by decide +kernel
theorem dL_areGoods_148 : decode cL_areGoods 148 = .ok (.isub, 1) := by decide +kernel
theorem dL_areGoods_149 : decode cL_areGoods 149 = .ok (.istore 9, 2) := by decide +kernel
theorem dL_areGoods_151 : decode cL_areGoods 151 = .ok (.aload_n 0, 1) := by decide +kernel
theorem dL_areGoods_152 : decode cL_areGoods 152 = .ok (.iload 6, 2) := by decide +kernel
theorem dL_areGoods_154 : decode cL_areGoods 154 = .ok (.iconst 0, 1) := by decide +kernel
theorem dL_areGoods_155 : decode cL_areGoods 155 = .ok (.invokevirtual 104, 3) := by decide +kernel
theorem dL_areGoods_158 : decode cL_areGoods 158 = .ok (.aload_n 2, 1) := by decide +kernel
theorem dL_areGoods_159 : decode cL_areGoods 159 = .ok (.iload 7, 2) := by decide +kernel
theorem dL_areGoods_161 : decode cL_areGoods 161 = .ok (.iaload, 1) := by decide +kernel
theorem dL_areGoods_162 : decode cL_areGoods 162 = .ok (.if_icmp .ne 201, 3) := by decide +kernel
theorem dL_areGoods_165 : decode cL_areGoods 165 = .ok (.aload_n 0, 1) := by decide +kernel
theorem dL_areGoods_166 : decode cL_areGoods 166 = .ok (.iload 6, 2) := by decide +kernel
theorem dL_areGoods_168 : decode cL_areGoods 168 = .ok (.iconst 1, 1) := by decide +kernel
theorem dL_areGoods_169 : decode cL_areGoods 169 = .ok (.invokevirtual 104, 3) := by decide +kernel
theorem dL_areGoods_172 : decode cL_areGoods 172 = .ok (.aload_n 2, 1) := by decide +kernel
theorem dL_areGoods_173 : decode cL_areGoods 173 = .ok (.iload 7, 2) := by decide +kernel
theorem dL_areGoods_175 : decode cL_areGoods 175 = .ok (.iconst 1, 1) := by decide +kernel
theorem dL_areGoods_176 : decode cL_areGoods 176 = .ok (.iadd, 1) := by decide +kernel
theorem dL_areGoods_177 : decode cL_areGoods 177 = .ok (.iaload, 1) := by decide +kernel
theorem dL_areGoods_178 : decode cL_areGoods 178 = .ok (.if_icmp .ne 185, 3) := by decide +kernel
theorem dL_areGoods_181 : decode cL_areGoods 181 = .ok (.aload_n 0, 1) := by decide +kernel
theorem dL_areGoods_182 : decode cL_areGoods 182 = .ok (.iload 6, 2) := by decide +kernel
theorem dL_areGoods_184 : decode cL_areGoods 184 = .ok (.iconst 2, 1) := by decide +kernel
theorem dL_areGoods_185 : decode cL_areGoods 185 = .ok (.invokevirtual 104, 3) := by decide +kernel
theorem dL_areGoods_188 : decode cL_areGoods 188 = .ok (.aload_n 2, 1) := by decide +kernel
theorem dL_areGoods_189 : decode cL_areGoods 189 = .ok (.iload 7, 2) := by decide +kernel
theorem dL_areGoods_191 : decode cL_areGoods 191 = .ok (.iconst 2, 1) := by decide +kernel
theorem dL_areGoods_192 : decode cL_areGoods 192 = .ok (.iadd, 1) := by decide +kernel
theorem dL_areGoods_193 : decode cL_areGoods 193 = .ok (.iaload, 1) := by decide +kernel
theorem dL_areGoods_194 : decode cL_areGoods 194 = .ok (.if_icmp .ne 169, 3) := by decide +kernel
theorem dL_areGoods_197 : decode cL_areGoods 197 = .ok (.aload_n 0, 1) := by decide +kernel
theorem dL_areGoods_198 : decode cL_areGoods 198 = .ok (.iload 6, 2) := by decide +kernel
theorem dL_areGoods_200 : decode cL_areGoods 200 = .ok (.iconst 3, 1) := by decide +kernel
theorem dL_areGoods_201 : decode cL_areGoods 201 = .ok (.invokevirtual 104, 3) := by decide +kernel
theorem dL_areGoods_204 : decode cL_areGoods 204 = .ok (.aload_n 3, 1) := by decide +kernel
theorem dL_areGoods_205 : decode cL_areGoods 205 = .ok (.iload 7, 2) := by decide +kernel
theorem dL_areGoods_207 : decode cL_areGoods 207 = .ok (.iaload, 1) := by decide +kernel
theorem dL_areGoods_208 : decode cL_areGoods 208 = .ok (.if_icmp .ne 155, 3) := by decide +kernel
theorem dL_areGoods_211 : decode cL_areGoods 211 = .ok (.aload_n 0, 1) := by decide +kernel
theorem dL_areGoods_212 : decode cL_areGoods 212 = .ok (.iload 6, 2) := by decide +kernel
theorem dL_areGoods_214 : decode cL_areGoods 214 = .ok (.iconst 4, 1) := by decide +kernel
theorem dL_areGoods_215 : decode cL_areGoods 215 = .ok (.invokevirtual 104, 3) := by decide +kernel
theorem dL_areGoods_218 : decode cL_areGoods 218 = .ok (.aload_n 3, 1) := by decide +kernel
theorem dL_areGoods_219 : decode cL_areGoods 219 = .ok (.iload 7, 2) := by decide +kernel
theorem dL_areGoods_221 : decode cL_areGoods 221 = .ok (.iconst 1, 1) := by decide +kernel
theorem dL_areGoods_222 : decode cL_areGoods 222 = .ok (.iadd, 1) := by decide +kernel
theorem dL_areGoods_223 : decode cL_areGoods 223 = .ok (.iaload, 1) := by decide +kernel
theorem dL_areGoods_224 : decode cL_areGoods 224 = .ok (.if_icmp .ne 139, 3) := by decide +kernel
theorem dL_areGoods_227 : decode cL_areGoods 227 = .ok (.aload_n 0, 1) := by decide +kernel
theorem dL_areGoods_228 : decode cL_areGoods 228 = .ok (.iload 6, 2) := by decide +kernel
theorem dL_areGoods_230 : decode cL_areGoods 230 = .ok (.iconst 5, 1) := by decide +kernel
theorem dL_areGoods_231 : decode cL_areGoods 231 = .ok (.invokevirtual 104, 3) := by decide +kernel
theorem dL_areGoods_234 : decode cL_areGoods 234 = .ok (.aload_n 2, 1) := by decide +kernel
theorem dL_areGoods_235 : decode cL_areGoods 235 = .ok (.iload 7, 2) := by decide +kernel
theorem dL_areGoods_237 : decode cL_areGoods 237 = .ok (.iconst 3, 1) := by decide +kernel
theorem dL_areGoods_238 : decode cL_areGoods 238 = .ok (.iadd, 1) := by decide +kernel
theorem dL_areGoods_239 : decode cL_areGoods 239 = .ok (.iaload, 1) := by decide +kernel
theorem dL_areGoods_240 : decode cL_areGoods 240 = .ok (.if_icmp .ne 123, 3) := by decide +kernel
theorem dL_areGoods_243 : decode cL_areGoods 243 = .ok (.aload_n 0, 1) := by decide +kernel
theorem dL_areGoods_244 : decode cL_areGoods 244 = .ok (.iload 6, 2) := by decide +kernel
theorem dL_areGoods_246 : decode cL_areGoods 246 = .ok (.bipush 6, 2) := by decide +kernel
theorem dL_areGoods_248 : decode cL_areGoods 248 = .ok (.invokevirtual 104, 3) := by decide +kernel
theorem dL_areGoods_251 : decode cL_areGoods 251 = .ok (.aload_n 3, 1) := by decide +kernel
theorem dL_areGoods_252 : decode cL_areGoods 252 = .ok (.iload 7, 2) := by decide +kernel
theorem dL_areGoods_254 : decode cL_areGoods 254 = .ok (.iconst 2, 1) := by decide +kernel
theorem dL_areGoods_255 : decode cL_areGoods 255 = .ok (.iadd, 1) := by decide +kernel
theorem dL_areGoods_256 : decode cL_areGoods 256 = .ok (.iaload, 1) := by decide +kernel
theorem dL_areGoods_257 : decode cL_areGoods 257 = .ok (.if_icmp .ne 106, 3) := by decide +kernel
theorem dL_areGoods_260 : decode cL_areGoods 260 = .ok (.aload_n 0, 1) := by decide +kernel
theorem dL_areGoods_261 : decode cL_areGoods 261 = .ok (.iload 6, 2) := by decide +kernel
theorem dL_areGoods_263 : decode cL_areGoods 263 = .ok (.bipush 7, 2) := by decide +kernel
theorem dL_areGoods_265 : decode cL_areGoods 265 = .ok (.invokevirtual 104, 3) := by decide +kernel
theorem dL_areGoods_268 : decode cL_areGoods 268 = .ok (.aload_n 3, 1) := by decide +kernel
theorem dL_areGoods_269 : decode cL_areGoods 269 = .ok (.iload 7, 2) := by decide +kernel
theorem dL_areGoods_271 : decode cL_areGoods 271 = .ok (.iconst 3, 1) := by decide +kernel
theorem dL_areGoods_272 : decode cL_areGoods 272 = .ok (.iadd, 1) := by decide +kernel
theorem dL_areGoods_273 : decode cL_areGoods 273 = .ok (.iaload, 1) := by decide +kernel
theorem dL_areGoods_274 : decode cL_areGoods 274 = .ok (.ifCond .ge 8, 3) := by decide +kernel
theorem dL_areGoods_277 : decode cL_areGoods 277 = .ok (.ldc 107, 2) := by decide +kernel
theorem dL_areGoods_279 : decode cL_areGoods 279 = .ok (.goto 9, 3) := by decide +kernel
theorem dL_areGoods_282 : decode cL_areGoods 282 = .ok (.aload_n 3, 1) := by decide +kernel
theorem dL_areGoods_283 : decode cL_areGoods 283 = .ok (.iload 7, 2) := by decide +kernel
theorem dL_areGoods_285 : decode cL_areGoods 285 = .ok (.iconst 3, 1) := by decide +kernel
theorem dL_areGoods_286 : decode cL_areGoods 286 = .ok (.iadd, 1) := by decide +kernel
theorem dL_areGoods_287 : decode cL_areGoods 287 = .ok (.iaload, 1) := by decide +kernel
theorem dL_areGoods_288 : decode cL_areGoods 288 = .ok (.if_icmp .ne 75, 3) := by decide +kernel
theorem dL_areGoods_291 : decode cL_areGoods 291 = .ok (.aload_n 0, 1) := by decide +kernel
theorem dL_areGoods_292 : decode cL_areGoods 292 = .ok (.iload 6, 2) := by decide +kernel
theorem dL_areGoods_294 : decode cL_areGoods 294 = .ok (.bipush 8, 2) := by decide +kernel
theorem dL_areGoods_296 : decode cL_areGoods 296 = .ok (.invokevirtual 104, 3) := by decide +kernel
theorem dL_areGoods_299 : decode cL_areGoods 299 = .ok (.aload 4, 2) := by decide +kernel
theorem dL_areGoods_301 : decode cL_areGoods 301 = .ok (.iload 7, 2) := by decide +kernel
theorem dL_areGoods_303 : decode cL_areGoods 303 = .ok (.iaload, 1) := by decide +kernel
theorem dL_areGoods_304 : decode cL_areGoods 304 = .ok (.ifCond .ge 8, 3) := by decide +kernel
theorem dL_areGoods_307 : decode cL_areGoods 307 = .ok (.ldc 107, 2) := by decide +kernel
theorem dL_areGoods_309 : decode cL_areGoods 309 = .ok (.goto 8, 3) := by decide +kernel
theorem dL_areGoods_312 : decode cL_areGoods 312 = .ok (.aload 4, 2) := by decide +kernel
theorem dL_areGoods_314 : decode cL_areGoods 314 = .ok (.iload 7, 2) := by decide +kernel
theorem dL_areGoods_316 : decode cL_areGoods 316 = .ok (.iaload, 1) := by decide +kernel
theorem dL_areGoods_317 : decode cL_areGoods 317 = .ok (.if_icmp .ne 46, 3) := by decide +kernel
theorem dL_areGoods_320 : decode cL_areGoods 320 = .ok (.aload_n 0, 1) := by decide +kernel
theorem dL_areGoods_321 : decode cL_areGoods 321 = .ok (.iload 6, 2) := by decide +kernel
theorem dL_areGoods_323 : decode cL_areGoods 323 = .ok (.bipush 9, 2) := by decide +kernel
theorem dL_areGoods_325 : decode cL_areGoods 325 = .ok (.invokevirtual 104, 3) := by decide +kernel
theorem dL_areGoods_328 : decode cL_areGoods 328 = .ok (.iload 8, 2) := by decide +kernel
theorem dL_areGoods_330 : decode cL_areGoods 330 = .ok (.if_icmp .ne 33, 3) := by decide +kernel
theorem dL_areGoods_333 : decode cL_areGoods 333 = .ok (.aload_n 0, 1) := by decide +kernel
theorem dL_areGoods_334 : decode cL_areGoods 334 = .ok (.iload 6, 2) := by decide +kernel
theorem dL_areGoods_336 : decode cL_areGoods 336 = .ok (.bipush 10, 2) := by decide +kernel
theorem dL_areGoods_338 : decode cL_areGoods 338 = .ok (.invokevirtual 104, 3) := by decide +kernel
theorem dL_areGoods_341 : decode cL_areGoods 341 = .ok (.iload 9, 2) := by decide +kernel
theorem dL_areGoods_343 : decode cL_areGoods 343 = .ok (.if_icmp .ne 20, 3) := by decide +kernel
theorem dL_areGoods_346 : decode cL_areGoods 346 = .ok (.aload_n 0, 1) := by decide +kernel
theorem dL_areGoods_347 : decode cL_areGoods 347 = .ok (.iload 6, 2) := by decide +kernel
theorem dL_areGoods_349 : decode cL_areGoods 349 = .ok (.bipush 11, 2) := by decide +kernel
theorem dL_areGoods_351 : decode cL_areGoods 351 = .ok (.invokevirtual 104, 3) := by decide +kernel
theorem dL_areGoods_354 : decode cL_areGoods 354 = .ok (.ldc 58, 2) := by decide +kernel
theorem dL_areGoods_356 : decode cL_areGoods 356 = .ok (.if_icmp .ne 7, 3) := by decide +kernel
theorem dL_areGoods_359 : decode cL_areGoods 359 = .ok (.iconst 1, 1) := by decide +kernel
theorem dL_areGoods_360 : decode cL_areGoods 360 = .ok (.goto 4, 3) := by decide +kernel
theorem dL_areGoods_363 : decode cL_areGoods 363 = .ok (.iconst 0, 1) := by decide +kernel
theorem dL_areGoods_364 : decode cL_areGoods 364 = .ok (.istore 5, 2) := by decide +kernel
theorem dL_areGoods_366 : decode cL_areGoods 366 = .ok (.iinc 6 1, 3) := by decide +kernel
theorem dL_areGoods_369 : decode cL_areGoods 369 = .ok (.goto (-363), 3) := by decide +kernel
theorem dL_areGoods_372 : decode cL_areGoods 372 = .ok (.iload 5, 2) := by decide +kernel
theorem dL_areGoods_374 : decode cL_areGoods 374 = .ok (.ireturn, 1) := by decide +kernel
theorem dL_isSo_0 : decode cL_isSo 0 = .ok (.aload_n 0, 1) := by decide +kernel
theorem dL_isSo_1 : decode cL_isSo 1 = .ok (.aload_n 1, 1) := by decide +kernel
theorem dL_isSo_2 : decode cL_isSo 2 = .ok (.aload_n 2, 1) := by decide +kernel
theorem dL_isSo_3 : decode cL_isSo 3 = .ok (.aload_n 3, 1) := by decide +kernel
theorem dL_isSo_4 : decode cL_isSo 4 = .ok (.aload 4, 2) := by decide +kernel
theorem dL_isSo_6 : decode cL_isSo 6 = .ok (.invokestatic 108, 3) := by decide +kernel
theorem dL_isSo_9 : decode cL_isSo 9 = .ok (.istore 7, 2) := by decide +kernel
theorem dL_isSo_11 : decode cL_isSo 11 = .ok (.iconst 0, 1) := by decide +kernel
theorem dL_isSo_12 : decode cL_isSo 12 = .ok (.istore 8, 2) := by decide +kernel
theorem dL_isSo_14 : decode cL_isSo 14 = .ok (.iload 8, 2) := by decide +kernel
theorem dL_isSo_16 : decode cL_isSo 16 = .ok (.aload_n 1, 1) := by decide +kernel
theorem dL_isSo_17 : decode cL_isSo 17 = .ok (.iconst 4, 1) := by decide +kernel
theorem dL_isSo_18 : decode cL_isSo 18 = .ok (.iaload, 1) := by decide +kernel
theorem dL_isSo_19 : decode cL_isSo 19 = .ok (.if_icmp .ge 299, 3) := by decide +kernel
theorem dL_isSo_22 : decode cL_isSo 22 = .ok (.iload 7, 2) := by decide +kernel
theorem dL_isSo_24 : decode cL_isSo 24 = .ok (.ifCond .eq 294, 3) := by decide +kernel
theorem dL_isSo_27 : decode cL_isSo 27 = .ok (.bipush 8, 2) := by decide +kernel
theorem dL_isSo_29 : decode cL_isSo 29 = .ok (.iload 8, 2) := by decide +kernel
theorem dL_isSo_31 : decode cL_isSo 31 = .ok (.imul, 1) := by decide +kernel
theorem dL_isSo_32 : decode cL_isSo 32 = .ok (.istore 9, 2) := by decide +kernel
theorem dL_isSo_34 : decode cL_isSo 34 = .ok (.aload_n 1, 1) := by decide +kernel
theorem dL_isSo_35 : decode cL_isSo 35 = .ok (.aload_n 2, 1) := by decide +kernel
theorem dL_isSo_36 : decode cL_isSo 36 = .ok (.aload_n 3, 1) := by decide +kernel
theorem dL_isSo_37 : decode cL_isSo 37 = .ok (.aload 5, 2) := by decide +kernel
theorem dL_isSo_39 : decode cL_isSo 39 = .ok (.iload 8, 2) := by decide +kernel
theorem dL_isSo_41 : decode cL_isSo 41 = .ok (.invokestatic 15, 3) := by decide +kernel
theorem dL_isSo_44 : decode cL_isSo 44 = .ok (.istore 10, 2) := by decide +kernel
theorem dL_isSo_46 : decode cL_isSo 46 = .ok (.aload_n 0, 1) := by decide +kernel
theorem dL_isSo_47 : decode cL_isSo 47 = .ok (.iload 8, 2) := by decide +kernel
theorem dL_isSo_49 : decode cL_isSo 49 = .ok (.iconst 0, 1) := by decide +kernel
theorem dL_isSo_50 : decode cL_isSo 50 = .ok (.invokevirtual 112, 3) := by decide +kernel
theorem dL_isSo_53 : decode cL_isSo 53 = .ok (.aload 5, 2) := by decide +kernel
theorem dL_isSo_55 : decode cL_isSo 55 = .ok (.iload 9, 2) := by decide +kernel
theorem dL_isSo_57 : decode cL_isSo 57 = .ok (.iaload, 1) := by decide +kernel
theorem dL_isSo_58 : decode cL_isSo 58 = .ok (.if_icmp .ne 205, 3) := by decide +kernel
theorem dL_isSo_61 : decode cL_isSo 61 = .ok (.aload_n 0, 1) := by decide +kernel
theorem dL_isSo_62 : decode cL_isSo 62 = .ok (.iload 8, 2) := by decide +kernel
theorem dL_isSo_64 : decode cL_isSo 64 = .ok (.iconst 1, 1) := by decide +kernel
theorem dL_isSo_65 : decode cL_isSo 65 = .ok (.invokevirtual 112, 3) := by decide +kernel
theorem dL_isSo_68 : decode cL_isSo 68 = .ok (.aload 5, 2) := by decide +kernel
theorem dL_isSo_70 : decode cL_isSo 70 = .ok (.iload 9, 2) := by decide +kernel
theorem dL_isSo_72 : decode cL_isSo 72 = .ok (.iconst 1, 1) := by decide +kernel
theorem dL_isSo_73 : decode cL_isSo 73 = .ok (.iadd, 1) := by decide +kernel
theorem dL_isSo_74 : decode cL_isSo 74 = .ok (.iaload, 1) := by decide +kernel
theorem dL_isSo_75 : decode cL_isSo 75 = .ok (.if_icmp .ne 188, 3) := by decide +kernel
theorem dL_isSo_78 : decode cL_isSo 78 = .ok (.aload_n 0, 1) := by decide +kernel
theorem dL_isSo_79 : decode cL_isSo 79 = .ok (.iload 8, 2) := by decide +kernel
theorem dL_isSo_81 : decode cL_isSo 81 = .ok (.iconst 2, 1) := by decide +kernel
theorem dL_isSo_82 : decode cL_isSo 82 = .ok (.invokevirtual 112, 3) := by decide +kernel
theorem dL_isSo_85 : decode cL_isSo 85 = .ok (.aload 5, 2) := by decide +kernel
theorem dL_isSo_87 : decode cL_isSo 87 = .ok (.iload 9, 2) := by decide +kernel
theorem dL_isSo_89 : decode cL_isSo 89 = .ok (.iconst 2, 1) := by decide +kernel
theorem dL_isSo_90 : decode cL_isSo 90 = .ok (.iadd, 1) := by decide +kernel
theorem dL_isSo_91 : decode cL_isSo 91 = .ok (.iaload, 1) := by decide +kernel
theorem dL_isSo_92 : decode cL_isSo 92 = .ok (.if_icmp .ne 171, 3) := by decide +kernel
theorem dL_isSo_95 : decode cL_isSo 95 = .ok (.aload_n 0, 1) := by decide +kernel
theorem dL_isSo_96 : decode cL_isSo 96 = .ok (.iload 8, 2) := by decide +kernel
theorem dL_isSo_98 : decode cL_isSo 98 = .ok (.iconst 3, 1) := by decide +kernel
theorem dL_isSo_99 : decode cL_isSo 99 = .ok (.invokevirtual 112, 3) := by decide +kernel
theorem dL_isSo_102 : decode cL_isSo 102 = .ok (.aload_n 1, 1) := by decide +kernel
theorem dL_isSo_103 : decode cL_isSo 103 = .ok (.aload_n 2, 1) := by decide +kernel
theorem dL_isSo_104 : decode cL_isSo 104 = .ok (.aload_n 3, 1) := by decide +kernel
theorem dL_isSo_105 : decode cL_isSo 105 = .ok (.iload 8, 2) := by decide +kernel
theorem dL_isSo_107 : decode cL_isSo 107 = .ok (.iconst 1, 1) := by decide +kernel
theorem dL_isSo_108 : decode cL_isSo 108 = .ok (.invokestatic 9, 3) := by decide +kernel
theorem dL_isSo_111 : decode cL_isSo 111 = .ok (.if_icmp .ne 152, 3) := by decide +kernel
theorem dL_isSo_114 : decode cL_isSo 114 = .ok (.aload_n 0, 1) := by decide +kernel
theorem dL_isSo_115 : decode cL_isSo 115 = .ok (.iload 8, 2) := by decide +kernel
theorem dL_isSo_117 : decode cL_isSo 117 = .ok (.iconst 4, 1) := by decide +kernel
theorem dL_isSo_118 : decode cL_isSo 118 = .ok (.invokevirtual 112, 3) := by decide +kernel
theorem dL_isSo_121 : decode cL_isSo 121 = .ok (.aload_n 1, 1) := by decide +kernel
theorem dL_isSo_122 : decode cL_isSo 122 = .ok (.aload_n 2, 1) := by decide +kernel
theorem dL_isSo_123 : decode cL_isSo 123 = .ok (.aload_n 3, 1) := by decide +kernel
theorem dL_isSo_124 : decode cL_isSo 124 = .ok (.iload 8, 2) := by decide +kernel
theorem dL_isSo_126 : decode cL_isSo 126 = .ok (.iconst 2, 1) := by decide +kernel
theorem dL_isSo_127 : decode cL_isSo 127 = .ok (.invokestatic 9, 3) := by decide +kernel
theorem dL_isSo_130 : decode cL_isSo 130 = .ok (.if_icmp .ne 133, 3) := by decide +kernel
theorem dL_isSo_133 : decode cL_isSo 133 = .ok (.aload_n 0, 1) := by decide +kernel
theorem dL_isSo_134 : decode cL_isSo 134 = .ok (.iload 8, 2) := by decide +kernel
theorem dL_isSo_136 : decode cL_isSo 136 = .ok (.iconst 5, 1) := by decide +kernel
theorem dL_isSo_137 : decode cL_isSo 137 = .ok (.invokevirtual 112, 3) := by decide +kernel
theorem dL_isSo_140 : decode cL_isSo 140 = .ok (.aload_n 1, 1) := by decide +kernel
theorem dL_isSo_141 : decode cL_isSo 141 = .ok (.aload_n 2, 1) := by decide +kernel
theorem dL_isSo_142 : decode cL_isSo 142 = .ok (.aload_n 3, 1) := by decide +kernel
theorem dL_isSo_143 : decode cL_isSo 143 = .ok (.iload 8, 2) := by decide +kernel
theorem dL_isSo_145 : decode cL_isSo 145 = .ok (.iconst 0, 1) := by decide +kernel
theorem dL_isSo_146 : decode cL_isSo 146 = .ok (.invokestatic 9, 3) := by decide +kernel
theorem dL_isSo_149 : decode cL_isSo 149 = .ok (.if_icmp .ne 114, 3) := by decide +kernel
theorem dL_isSo_152 : decode cL_isSo 152 = .ok (.aload_n 0, 1) := by decide +kernel
theorem dL_isSo_153 : decode cL_isSo 153 = .ok (.iload 8, 2) := by decide +kernel
theorem dL_isSo_155 : decode cL_isSo 155 = .ok (.bipush 6, 2) := by decide +kernel
theorem dL_isSo_157 : decode cL_isSo 157 = .ok (.invokevirtual 112, 3) := by decide +kernel
theorem dL_isSo_160 : decode cL_isSo 160 = .ok (.iload 10, 2) := by decide +kernel
theorem dL_isSo_162 : decode cL_isSo 162 = .ok (.ifCond .ge 8, 3) := by decide +kernel
theorem dL_isSo_165 : decode cL_isSo 165 = .ok (.ldc 107, 2) := by decide +kernel
theorem dL_isSo_167 : decode cL_isSo 167 = .ok (.goto 5, 3) := by decide +kernel
theorem dL_isSo_170 : decode cL_isSo 170 = .ok (.iload 10, 2) := by decide +kernel
theorem dL_isSo_172 : decode cL_isSo 172 = .ok (.if_icmp .ne 91, 3) := by decide +kernel
theorem dL_isSo_175 : decode cL_isSo 175 = .ok (.aload_n 0, 1) := by decide +kernel
theorem dL_isSo_176 : decode cL_isSo 176 = .ok (.iload 8, 2) := by decide +kernel
theorem dL_isSo_178 : decode cL_isSo 178 = .ok (.bipush 7, 2) := by decide +kernel
theorem dL_isSo_180 : decode cL_isSo 180 = .ok (.invokevirtual 112, 3) := by decide +kernel
theorem dL_isSo_183 : decode cL_isSo 183 = .ok (.aload 5, 2) := by decide +kernel
theorem dL_isSo_185 : decode cL_isSo 185 = .ok (.iload 9, 2) := by decide +kernel
theorem dL_isSo_187 : decode cL_isSo 187 = .ok (.iconst 2, 1) := by decide +kernel
theorem dL_isSo_188 : decode cL_isSo 188 = .ok (.iadd, 1) := by decide +kernel
theorem dL_isSo_189 : decode cL_isSo 189 = .ok (.iaload, 1) := by decide +kernel
theorem dL_isSo_190 : decode cL_isSo 190 = .ok (.ifCond .ne 8, 3) := by decide +kernel
theorem dL_isSo_193 : decode cL_isSo 193 = .ok (.ldc 107, 2) := by decide +kernel
theorem dL_isSo_195 : decode cL_isSo 195 = .ok (.goto 10, 3) := by decide +kernel
theorem dL_isSo_198 : decode cL_isSo 198 = .ok (.aload 5, 2) := by decide +kernel
theorem dL_isSo_200 : decode cL_isSo 200 = .ok (.iload 9, 2) := by decide +kernel
theorem dL_isSo_202 : decode cL_isSo 202 = .ok (.iconst 4, 1) := by decide +kernel
theorem dL_isSo_203 : decode cL_isSo 203 = .ok (.iadd, 1) := by decide +kernel
theorem dL_isSo_204 : decode cL_isSo 204 = .ok (.iaload, 1) := by decide +kernel
theorem dL_isSo_205 : decode cL_isSo 205 = .ok (.if_icmp .ne 58, 3) := by decide +kernel
theorem dL_isSo_208 : decode cL_isSo 208 = .ok (.aload_n 0, 1) := by decide +kernel
theorem dL_isSo_209 : decode cL_isSo 209 = .ok (.iload 8, 2) := by decide +kernel
theorem dL_isSo_211 : decode cL_isSo 211 = .ok (.bipush 8, 2) := by decide +kernel
theorem dL_isSo_213 : decode cL_isSo 213 = .ok (.invokevirtual 112, 3) := by decide +kernel
theorem dL_isSo_216 : decode cL_isSo 216 = .ok (.aload 5, 2) := by decide +kernel
theorem dL_isSo_218 : decode cL_isSo 218 = .ok (.iload 9, 2) := by decide +kernel
theorem dL_isSo_220 : decode cL_isSo 220 = .ok (.bipush 6, 2) := by decide +kernel
theorem dL_isSo_222 : decode cL_isSo 222 = .ok (.iadd, 1) := by decide +kernel
theorem dL_isSo_223 : decode cL_isSo 223 = .ok (.iaload, 1) := by decide +kernel
theorem dL_isSo_224 : decode cL_isSo 224 = .ok (.if_icmp .ne 39, 3) := by decide +kernel
theorem dL_isSo_227 : decode cL_isSo 227 = .ok (.aload_n 0, 1) := by decide +kernel
theorem dL_isSo_228 : decode cL_isSo 228 = .ok (.iload 8, 2) := by decide +kernel
theorem dL_isSo_230 : decode cL_isSo 230 = .ok (.bipush 9, 2) := by decide +kernel
theorem dL_isSo_232 : decode cL_isSo 232 = .ok (.invokevirtual 112, 3) := by decide +kernel
theorem dL_isSo_235 : decode cL_isSo 235 = .ok (.aload 5, 2) := by decide +kernel
theorem dL_isSo_237 : decode cL_isSo 237 = .ok (.iload 9, 2) := by decide +kernel
theorem dL_isSo_239 : decode cL_isSo 239 = .ok (.bipush 7, 2) := by decide +kernel
theorem dL_isSo_241 : decode cL_isSo 241 = .ok (.iadd, 1) := by decide +kernel
theorem dL_isSo_242 : decode cL_isSo 242 = .ok (.iaload, 1) := by decide +kernel
theorem dL_isSo_243 : decode cL_isSo 243 = .ok (.if_icmp .ne 20, 3) := by decide +kernel
theorem dL_isSo_246 : decode cL_isSo 246 = .ok (.aload_n 0, 1) := by decide +kernel
theorem dL_isSo_247 : decode cL_isSo 247 = .ok (.iload 8, 2) := by decide +kernel
theorem dL_isSo_249 : decode cL_isSo 249 = .ok (.bipush 10, 2) := by decide +kernel
theorem dL_isSo_251 : decode cL_isSo 251 = .ok (.invokevirtual 112, 3) := by decide +kernel
theorem dL_isSo_254 : decode cL_isSo 254 = .ok (.ldc 58, 2) := by decide +kernel
theorem dL_isSo_256 : decode cL_isSo 256 = .ok (.if_icmp .ne 7, 3) := by decide +kernel
theorem dL_isSo_259 : decode cL_isSo 259 = .ok (.iconst 1, 1) := by decide +kernel
theorem dL_isSo_260 : decode cL_isSo 260 = .ok (.goto 4, 3) := by decide +kernel
theorem dL_isSo_263 : decode cL_isSo 263 = .ok (.iconst 0, 1) := by decide +kernel
theorem dL_isSo_264 : decode cL_isSo 264 = .ok (.istore 7, 2) := by decide +kernel
theorem dL_isSo_266 : decode cL_isSo 266 = .ok (.iload 7, 2) := by decide +kernel
theorem dL_isSo_268 : decode cL_isSo 268 = .ok (.ifCond .eq 41, 3) := by decide +kernel
theorem dL_isSo_271 : decode cL_isSo 271 = .ok (.aload_n 0, 1) := by decide +kernel
theorem dL_isSo_272 : decode cL_isSo 272 = .ok (.iload 8, 2) := by decide +kernel
theorem dL_isSo_274 : decode cL_isSo 274 = .ok (.iconst 3, 1) := by decide +kernel
theorem dL_isSo_275 : decode cL_isSo 275 = .ok (.invokevirtual 112, 3) := by decide +kernel
theorem dL_isSo_278 : decode cL_isSo 278 = .ok (.aload_n 0, 1) := by decide +kernel
theorem dL_isSo_279 : decode cL_isSo 279 = .ok (.iload 8, 2) := by decide +kernel
theorem dL_isSo_281 : decode cL_isSo 281 = .ok (.iconst 0, 1) := by decide +kernel
theorem dL_isSo_282 : decode cL_isSo 282 = .ok (.invokevirtual 112, 3) := by decide +kernel
theorem dL_isSo_285 : decode cL_isSo 285 = .ok (.if_icmp .gt 24, 3) := by decide +kernel
theorem dL_isSo_288 : decode cL_isSo 288 = .ok (.aload_n 0, 1) := by decide +kernel
theorem dL_isSo_289 : decode cL_isSo 289 = .ok (.iload 8, 2) := by decide +kernel
theorem dL_isSo_291 : decode cL_isSo 291 = .ok (.iconst 4, 1) := by decide +kernel
theorem dL_isSo_292 : decode cL_isSo 292 = .ok (.invokevirtual 112, 3) := by decide +kernel
theorem dL_isSo_295 : decode cL_isSo 295 = .ok (.aload_n 0, 1) := by decide +kernel
theorem dL_isSo_296 : decode cL_isSo 296 = .ok (.iload 8, 2) := by decide +kernel
theorem dL_isSo_298 : decode cL_isSo 298 = .ok (.iconst 1, 1) := by decide +kernel
theorem dL_isSo_299 : decode cL_isSo 299 = .ok (.invokevirtual 112, 3) := by decide +kernel
theorem dL_isSo_302 : decode cL_isSo 302 = .ok (.if_icmp .gt 7, 3) := by decide +kernel
theorem dL_isSo_305 : decode cL_isSo 305 = .ok (.iconst 1, 1) := by decide +kernel
theorem dL_isSo_306 : decode cL_isSo 306 = .ok (.goto 4, 3) := by decide +kernel
theorem dL_isSo_309 : decode cL_isSo 309 = .ok (.iconst 0, 1) := by decide +kernel
theorem dL_isSo_310 : decode cL_isSo 310 = .ok (.istore 7, 2) := by decide +kernel
theorem dL_isSo_312 : decode cL_isSo 312 = .ok (.iinc 8 1, 3) := by decide +kernel
theorem dL_isSo_315 : decode cL_isSo 315 = .ok (.goto (-301), 3) := by decide +kernel
theorem dL_isSo_318 : decode cL_isSo 318 = .ok (.iconst 0, 1) := by decide +kernel
theorem dL_isSo_319 : decode cL_isSo 319 = .ok (.istore 8, 2) := by decide +kernel
theorem dL_isSo_321 : decode cL_isSo 321 = .ok (.iload 8, 2) := by decide +kernel
theorem dL_isSo_323 : decode cL_isSo 323 = .ok (.bipush 50, 2) := by decide +kernel
theorem dL_isSo_325 : decode cL_isSo 325 = .ok (.if_icmp .ge 57, 3) := by decide +kernel
theorem dL_isSo_328 : decode cL_isSo 328 = .ok (.iload 7, 2) := by decide +kernel
theorem dL_isSo_330 : decode cL_isSo 330 = .ok (.ifCond .eq 52, 3) := by decide +kernel
theorem dL_isSo_333 : decode cL_isSo 333 = .ok (.aload_n 0, 1) := by decide +kernel
theorem dL_isSo_334 : decode cL_isSo 334 = .ok (.iload 8, 2) := by decide +kernel
theorem dL_isSo_336 : decode cL_isSo 336 = .ok (.iconst 5, 1) := by decide +kernel
theorem dL_isSo_337 : decode cL_isSo 337 = .ok (.idiv, 1) := by decide +kernel
theorem dL_isSo_338 : decode cL_isSo 338 = .ok (.iload 8, 2) := by decide +kernel
theorem dL_isSo_340 : decode cL_isSo 340 = .ok (.iconst 5, 1) := by decide +kernel
theorem dL_isSo_341 : decode cL_isSo 341 = .ok (.irem, 1) := by decide +kernel
theorem dL_isSo_342 : decode cL_isSo 342 = .ok (.invokevirtual 115, 3) := by decide +kernel
theorem dL_isSo_345 : decode cL_isSo 345 = .ok (.iload 8, 2) := by decide +kernel
theorem dL_isSo_347 : decode cL_isSo 347 = .ok (.iconst 5, 1) := by decide +kernel
theorem dL_isSo_348 : decode cL_isSo 348 = .ok (.idiv, 1) := by decide +kernel
theorem dL_isSo_349 : decode cL_isSo 349 = .ok (.aload_n 1, 1) := by decide +kernel
theorem dL_isSo_350 : decode cL_isSo 350 = .ok (.bipush 6, 2) := by decide +kernel
theorem dL_isSo_352 : decode cL_isSo 352 = .ok (.iaload, 1) := by decide +kernel
theorem dL_isSo_353 : decode cL_isSo 353 = .ok (.if_icmp .ge 11, 3) := by decide +kernel
theorem dL_isSo_356 : decode cL_isSo 356 = .ok (.aload 6, 2) := by decide +kernel
theorem dL_isSo_358 : decode cL_isSo 358 = .ok (.iload 8, 2) := by decide +kernel
theorem dL_isSo_360 : decode cL_isSo 360 = .ok (.iaload, 1) := by decide +kernel
theorem dL_isSo_361 : decode cL_isSo 361 = .ok (.goto 5, 3) := by decide +kernel
theorem dL_isSo_364 : decode cL_isSo 364 = .ok (.ldc 107, 2) := by decide +kernel
theorem dL_isSo_366 : decode cL_isSo 366 = .ok (.if_icmp .ne 7, 3) := by decide +kernel
theorem dL_isSo_369 : decode cL_isSo 369 = .ok (.iconst 1, 1) := by decide +kernel
theorem dL_isSo_370 : decode cL_isSo 370 = .ok (.goto 4, 3) := by decide +kernel
theorem dL_isSo_373 : decode cL_isSo 373 = .ok (.iconst 0, 1) := by decide +kernel
theorem dL_isSo_374 : decode cL_isSo 374 = .ok (.istore 7, 2) := by decide +kernel
theorem dL_isSo_376 : decode cL_isSo 376 = .ok (.iinc 8 1, 3) := by decide +kernel
theorem dL_isSo_379 : decode cL_isSo 379 = .ok (.goto (-58), 3) := by decide +kernel
theorem dL_isSo_382 : decode cL_isSo 382 = .ok (.iconst 0, 1) := by decide +kernel
theorem dL_isSo_383 : decode cL_isSo 383 = .ok (.istore 8, 2) := by decide +kernel
theorem dL_isSo_385 : decode cL_isSo 385 = .ok (.iconst 0, 1) := by decide +kernel
theorem dL_isSo_386 : decode cL_isSo 386 = .ok (.istore 9, 2) := by decide +kernel
theorem dL_isSo_388 : decode cL_isSo 388 = .ok (.iconst 0, 1) := by decide +kernel
theorem dL_isSo_389 : decode cL_isSo 389 = .ok (.istore 10, 2) := by decide +kernel
theorem dL_isSo_391 : decode cL_isSo 391 = .ok (.iload 10, 2) := by decide +kernel
theorem dL_isSo_393 : decode cL_isSo 393 = .ok (.aload_n 1, 1) := by decide +kernel
theorem dL_isSo_394 : decode cL_isSo 394 = .ok (.iconst 3, 1) := by decide +kernel
theorem dL_isSo_395 : decode cL_isSo 395 = .ok (.iaload, 1) := by decide +kernel
theorem dL_isSo_396 : decode cL_isSo 396 = .ok (.if_icmp .ge 78, 3) := by decide +kernel
theorem dL_isSo_399 : decode cL_isSo 399 = .ok (.iload 8, 2) := by decide +kernel
theorem dL_isSo_401 : decode cL_isSo 401 = .ok (.aload_n 1, 1) := by decide +kernel
theorem dL_isSo_402 : decode cL_isSo 402 = .ok (.aload_n 3, 1) := by decide +kernel
theorem dL_isSo_403 : decode cL_isSo 403 = .ok (.iload 10, 2) := by decide +kernel
theorem dL_isSo_405 : decode cL_isSo 405 = .ok (.invokestatic 50, 3) := by decide +kernel
theorem dL_isSo_408 : decode cL_isSo 408 = .ok (.ifCond .eq 22, 3) := by decide +kernel
theorem dL_isSo_411 : decode cL_isSo 411 = .ok (.aload_n 3, 1) := by decide +kernel
theorem dL_isSo_412 : decode cL_isSo 412 = .ok (.iconst 4, 1) := by decide +kernel
theorem dL_isSo_413 : decode cL_isSo 413 = .ok (.iload 10, 2) := by decide +kernel
theorem dL_isSo_415 : decode cL_isSo 415 = .ok (.imul, 1) := by decide +kernel
theorem dL_isSo_416 : decode cL_isSo 416 = .ok (.iconst 2, 1) := by decide +kernel
theorem dL_isSo_417 : decode cL_isSo 417 = .ok (.iadd, 1) := by decide +kernel
theorem dL_isSo_418 : decode cL_isSo 418 = .ok (.iaload, 1) := by decide +kernel
theorem dL_isSo_419 : decode cL_isSo 419 = .ok (.iconst 2, 1) := by decide +kernel
theorem dL_isSo_420 : decode cL_isSo 420 = .ok (.if_icmp .ge 10, 3) := by decide +kernel
theorem dL_isSo_423 : decode cL_isSo 423 = .ok (.iconst 1, 1) := by decide +kernel
theorem dL_isSo_424 : decode cL_isSo 424 = .ok (.iload 10, 2) := by decide +kernel
theorem dL_isSo_426 : decode cL_isSo 426 = .ok (.ishl, 1) := by decide +kernel
theorem dL_isSo_427 : decode cL_isSo 427 = .ok (.goto 4, 3) := by decide +kernel
theorem dL_isSo_430 : decode cL_isSo 430 = .ok (.iconst 0, 1) := by decide +kernel
theorem dL_isSo_431 : decode cL_isSo 431 = .ok (.iadd, 1) := by decide +kernel
theorem dL_isSo_432 : decode cL_isSo 432 = .ok (.istore 8, 2) := by decide +kernel
theorem dL_isSo_434 : decode cL_isSo 434 = .ok (.iload 9, 2) := by decide +kernel
theorem dL_isSo_436 : decode cL_isSo 436 = .ok (.aload_n 3, 1) := by decide +kernel
theorem dL_isSo_437 : decode cL_isSo 437 = .ok (.iconst 4, 1) := by decide +kernel
theorem dL_isSo_438 : decode cL_isSo 438 = .ok (.iload 10, 2) := by decide +kernel
theorem dL_isSo_440 : decode cL_isSo 440 = .ok (.imul, 1) := by decide +kernel
theorem dL_isSo_441 : decode cL_isSo 441 = .ok (.iconst 2, 1) := by decide +kernel
theorem dL_isSo_442 : decode cL_isSo 442 = .ok (.iadd, 1) := by decide +kernel
theorem dL_isSo_443 : decode cL_isSo 443 = .ok (.iaload, 1) := by decide +kernel
theorem dL_isSo_444 : decode cL_isSo 444 = .ok (.iconst 3, 1) := by decide +kernel
theorem dL_isSo_445 : decode cL_isSo 445 = .ok (.if_icmp .eq 15, 3) := by decide +kernel
theorem dL_isSo_448 : decode cL_isSo 448 = .ok (.aload_n 3, 1) := by decide +kernel
theorem dL_isSo_449 : decode cL_isSo 449 = .ok (.iconst 4, 1) := by decide +kernel
theorem dL_isSo_450 : decode cL_isSo 450 = .ok (.iload 10, 2) := by decide +kernel
theorem dL_isSo_452 : decode cL_isSo 452 = .ok (.imul, 1) := by decide +kernel
theorem dL_isSo_453 : decode cL_isSo 453 = .ok (.iconst 2, 1) := by decide +kernel
theorem dL_isSo_454 : decode cL_isSo 454 = .ok (.iadd, 1) := by decide +kernel
theorem dL_isSo_455 : decode cL_isSo 455 = .ok (.iaload, 1) := by decide +kernel
theorem dL_isSo_456 : decode cL_isSo 456 = .ok (.iconst 4, 1) := by decide +kernel
theorem dL_isSo_457 : decode cL_isSo 457 = .ok (.if_icmp .ne 7, 3) := by decide +kernel
theorem dL_isSo_460 : decode cL_isSo 460 = .ok (.iconst 1, 1) := by decide +kernel
theorem dL_isSo_461 : decode cL_isSo 461 = .ok (.goto 4, 3) := by decide +kernel
theorem dL_isSo_464 : decode cL_isSo 464 = .ok (.iconst 0, 1) := by decide +kernel
theorem dL_isSo_465 : decode cL_isSo 465 = .ok (.iadd, 1) := by decide +kernel
theorem dL_isSo_466 : decode cL_isSo 466 = .ok (.istore 9, 2) := by decide +kernel
theorem dL_isSo_468 : decode cL_isSo 468 = .ok (.iinc 10 1, 3) := by decide +kernel
theorem dL_isSo_471 : decode cL_isSo 471 = .ok (.goto (-80), 3) := by decide +kernel
theorem dL_isSo_474 : decode cL_isSo 474 = .ok (.iload 7, 2) := by decide +kernel
theorem dL_isSo_476 : decode cL_isSo 476 = .ok (.ifCond .eq 155, 3) := by decide +kernel
theorem dL_isSo_479 : decode cL_isSo 479 = .ok (.aload_n 0, 1) := by decide +kernel
theorem dL_isSo_480 : decode cL_isSo 480 = .ok (.iconst 0, 1) := by decide +kernel
theorem dL_isSo_481 : decode cL_isSo 481 = .ok (.invokevirtual 118, 3) := by decide +kernel
theorem dL_isSo_484 : decode cL_isSo 484 = .ok (.aload_n 1, 1) := by decide +kernel
theorem dL_isSo_485 : decode cL_isSo 485 = .ok (.iconst 3, 1) := by decide +kernel
theorem dL_isSo_486 : decode cL_isSo 486 = .ok (.iaload, 1) := by decide +kernel
theorem dL_isSo_487 : decode cL_isSo 487 = .ok (.if_icmp .ne 144, 3) := by decide +kernel
theorem dL_isSo_490 : decode cL_isSo 490 = .ok (.aload_n 0, 1) := by decide +kernel
theorem dL_isSo_491 : decode cL_isSo 491 = .ok (.iconst 1, 1) := by decide +kernel
theorem dL_isSo_492 : decode cL_isSo 492 = .ok (.invokevirtual 118, 3) := by decide +kernel
theorem dL_isSo_495 : decode cL_isSo 495 = .ok (.aload_n 1, 1) := by decide +kernel
theorem dL_isSo_496 : decode cL_isSo 496 = .ok (.iconst 4, 1) := by decide +kernel
theorem dL_isSo_497 : decode cL_isSo 497 = .ok (.iaload, 1) := by decide +kernel
theorem dL_isSo_498 : decode cL_isSo 498 = .ok (.if_icmp .ne 133, 3) := by decide +kernel
theorem dL_isSo_501 : decode cL_isSo 501 = .ok (.aload_n 0, 1) := by decide +kernel
theorem dL_isSo_502 : decode cL_isSo 502 = .ok (.iconst 2, 1) := by decide +kernel
theorem dL_isSo_503 : decode cL_isSo 503 = .ok (.invokevirtual 118, 3) := by decide +kernel
theorem dL_isSo_506 : decode cL_isSo 506 = .ok (.aload_n 1, 1) := by decide +kernel
theorem dL_isSo_507 : decode cL_isSo 507 = .ok (.iconst 5, 1) := by decide +kernel
theorem dL_isSo_508 : decode cL_isSo 508 = .ok (.iaload, 1) := by decide +kernel
theorem dL_isSo_509 : decode cL_isSo 509 = .ok (.if_icmp .ne 122, 3) := by decide +kernel
theorem dL_isSo_512 : decode cL_isSo 512 = .ok (.aload_n 0, 1) := by decide +kernel
theorem dL_isSo_513 : decode cL_isSo 513 = .ok (.iconst 3, 1) := by decide +kernel
theorem dL_isSo_514 : decode cL_isSo 514 = .ok (.invokevirtual 118, 3) := by decide +kernel
theorem dL_isSo_517 : decode cL_isSo 517 = .ok (.iload 8, 2) := by decide +kernel
theorem dL_isSo_519 : decode cL_isSo 519 = .ok (.if_icmp .ne 112, 3) := by decide +kernel
theorem dL_isSo_522 : decode cL_isSo 522 = .ok (.aload_n 0, 1) := by decide +kernel
theorem dL_isSo_523 : decode cL_isSo 523 = .ok (.iconst 4, 1) := by decide +kernel
theorem dL_isSo_524 : decode cL_isSo 524 = .ok (.invokevirtual 118, 3) := by decide +kernel
theorem dL_isSo_527 : decode cL_isSo 527 = .ok (.aload_n 1, 1) := by decide +kernel
theorem dL_isSo_528 : decode cL_isSo 528 = .ok (.bipush 7, 2) := by decide +kernel
theorem dL_isSo_530 : decode cL_isSo 530 = .ok (.iaload, 1) := by decide +kernel
theorem dL_isSo_531 : decode cL_isSo 531 = .ok (.if_icmp .ne 100, 3) := by decide +kernel
theorem dL_isSo_534 : decode cL_isSo 534 = .ok (.aload_n 0, 1) := by decide +kernel
theorem dL_isSo_535 : decode cL_isSo 535 = .ok (.iconst 5, 1) := by decide +kernel
theorem dL_isSo_536 : decode cL_isSo 536 = .ok (.invokevirtual 118, 3) := by decide +kernel
theorem dL_isSo_539 : decode cL_isSo 539 = .ok (.aload_n 1, 1) := by decide +kernel
theorem dL_isSo_540 : decode cL_isSo 540 = .ok (.bipush 8, 2) := by decide +kernel
theorem dL_isSo_542 : decode cL_isSo 542 = .ok (.iaload, 1) := by decide +kernel
theorem dL_isSo_543 : decode cL_isSo 543 = .ok (.if_icmp .ne 88, 3) := by decide +kernel
theorem dL_isSo_546 : decode cL_isSo 546 = .ok (.aload_n 0, 1) := by decide +kernel
theorem dL_isSo_547 : decode cL_isSo 547 = .ok (.iconst 4, 1) := by decide +kernel
theorem dL_isSo_548 : decode cL_isSo 548 = .ok (.invokevirtual 118, 3) := by decide +kernel
theorem dL_isSo_551 : decode cL_isSo 551 = .ok (.aload_n 0, 1) := by decide +kernel
theorem dL_isSo_552 : decode cL_isSo 552 = .ok (.iconst 5, 1) := by decide +kernel
theorem dL_isSo_553 : decode cL_isSo 553 = .ok (.invokevirtual 118, 3) := by decide +kernel
theorem dL_isSo_556 : decode cL_isSo 556 = .ok (.iadd, 1) := by decide +kernel
theorem dL_isSo_557 : decode cL_isSo 557 = .ok (.iload 9, 2) := by decide +kernel
theorem dL_isSo_559 : decode cL_isSo 559 = .ok (.if_icmp .ne 72, 3) := by decide +kernel
theorem dL_isSo_562 : decode cL_isSo 562 = .ok (.aload_n 0, 1) := by decide +kernel
theorem dL_isSo_563 : decode cL_isSo 563 = .ok (.bipush 6, 2) := by decide +kernel
theorem dL_isSo_565 : decode cL_isSo 565 = .ok (.invokevirtual 118, 3) := by decide +kernel
theorem dL_isSo_568 : decode cL_isSo 568 = .ok (.aload_n 1, 1) := by decide +kernel
theorem dL_isSo_569 : decode cL_isSo 569 = .ok (.bipush 9, 2) := by decide +kernel
theorem dL_isSo_571 : decode cL_isSo 571 = .ok (.iaload, 1) := by decide +kernel
theorem dL_isSo_572 : decode cL_isSo 572 = .ok (.if_icmp .ne 59, 3) := by decide +kernel
theorem dL_isSo_575 : decode cL_isSo 575 = .ok (.aload_n 0, 1) := by decide +kernel
theorem dL_isSo_576 : decode cL_isSo 576 = .ok (.bipush 7, 2) := by decide +kernel
theorem dL_isSo_578 : decode cL_isSo 578 = .ok (.invokevirtual 118, 3) := by decide +kernel
theorem dL_isSo_581 : decode cL_isSo 581 = .ok (.aload_n 1, 1) := by decide +kernel
theorem dL_isSo_582 : decode cL_isSo 582 = .ok (.bipush 10, 2) := by decide +kernel
theorem dL_isSo_584 : decode cL_isSo 584 = .ok (.iaload, 1) := by decide +kernel
theorem dL_isSo_585 : decode cL_isSo 585 = .ok (.if_icmp .ne 46, 3) := by decide +kernel
theorem dL_isSo_588 : decode cL_isSo 588 = .ok (.aload_n 0, 1) := by decide +kernel
theorem dL_isSo_589 : decode cL_isSo 589 = .ok (.bipush 8, 2) := by decide +kernel
theorem dL_isSo_591 : decode cL_isSo 591 = .ok (.invokevirtual 118, 3) := by decide +kernel
theorem dL_isSo_594 : decode cL_isSo 594 = .ok (.aload_n 1, 1) := by decide +kernel
theorem dL_isSo_595 : decode cL_isSo 595 = .ok (.bipush 11, 2) := by decide +kernel
theorem dL_isSo_597 : decode cL_isSo 597 = .ok (.iaload, 1) := by decide +kernel
theorem dL_isSo_598 : decode cL_isSo 598 = .ok (.if_icmp .ne 33, 3) := by decide +kernel
theorem dL_isSo_601 : decode cL_isSo 601 = .ok (.aload_n 0, 1) := by decide +kernel
theorem dL_isSo_602 : decode cL_isSo 602 = .ok (.bipush 9, 2) := by decide +kernel
theorem dL_isSo_604 : decode cL_isSo 604 = .ok (.invokevirtual 118, 3) := by decide +kernel
theorem dL_isSo_607 : decode cL_isSo 607 = .ok (.aload_n 1, 1) := by decide +kernel
theorem dL_isSo_608 : decode cL_isSo 608 = .ok (.bipush 12, 2) := by decide +kernel
theorem dL_isSo_610 : decode cL_isSo 610 = .ok (.iaload, 1) := by decide +kernel
theorem dL_isSo_611 : decode cL_isSo 611 = .ok (.if_icmp .ne 20, 3) := by decide +kernel
theorem dL_isSo_614 : decode cL_isSo 614 = .ok (.aload_n 0, 1) := by decide +kernel
theorem dL_isSo_615 : decode cL_isSo 615 = .ok (.bipush 10, 2) := by decide +kernel
theorem dL_isSo_617 : decode cL_isSo 617 = .ok (.invokevirtual 118, 3) := by decide +kernel
theorem dL_isSo_620 : decode cL_isSo 620 = .ok (.aload_n 1, 1) := by decide +kernel
theorem dL_isSo_621 : decode cL_isSo 621 = .ok (.bipush 6, 2) := by decide +kernel
theorem dL_isSo_623 : decode cL_isSo 623 = .ok (.iaload, 1) := by decide +kernel
theorem dL_isSo_624 : decode cL_isSo 624 = .ok (.if_icmp .ne 7, 3) := by decide +kernel
theorem dL_isSo_627 : decode cL_isSo 627 = .ok (.iconst 1, 1) := by decide +kernel
theorem dL_isSo_628 : decode cL_isSo 628 = .ok (.goto 4, 3) := by decide +kernel
theorem dL_isSo_631 : decode cL_isSo 631 = .ok (.iconst 0, 1) := by decide +kernel
theorem dL_isSo_632 : decode cL_isSo 632 = .ok (.istore 7, 2) := by decide +kernel
theorem dL_isSo_634 : decode cL_isSo 634 = .ok (.iload 7, 2) := by decide +kernel
theorem dL_isSo_636 : decode cL_isSo 636 = .ok (.ifCond .eq 65, 3) := by decide +kernel
theorem dL_isSo_639 : decode cL_isSo 639 = .ok (.aload_n 0, 1) := by decide +kernel
theorem dL_isSo_640 : decode cL_isSo 640 = .ok (.bipush 12, 2) := by decide +kernel
theorem dL_isSo_642 : decode cL_isSo 642 = .ok (.invokevirtual 118, 3) := by decide +kernel
theorem dL_isSo_645 : decode cL_isSo 645 = .ok (.ifCond .ne 56, 3) := by decide +kernel
theorem dL_isSo_648 : decode cL_isSo 648 = .ok (.aload_n 0, 1) := by decide +kernel
theorem dL_isSo_649 : decode cL_isSo 649 = .ok (.bipush 20, 2) := by decide +kernel
theorem dL_isSo_651 : decode cL_isSo 651 = .ok (.invokevirtual 118, 3) := by decide +kernel
theorem dL_isSo_654 : decode cL_isSo 654 = .ok (.aload_n 1, 1) := by decide +kernel
theorem dL_isSo_655 : decode cL_isSo 655 = .ok (.iconst 0, 1) := by decide +kernel
theorem dL_isSo_656 : decode cL_isSo 656 = .ok (.iaload, 1) := by decide +kernel
theorem dL_isSo_657 : decode cL_isSo 657 = .ok (.if_icmp .ne 44, 3) := by decide +kernel
theorem dL_isSo_660 : decode cL_isSo 660 = .ok (.aload_n 0, 1) := by decide +kernel
theorem dL_isSo_661 : decode cL_isSo 661 = .ok (.bipush 21, 2) := by decide +kernel
theorem dL_isSo_663 : decode cL_isSo 663 = .ok (.invokevirtual 118, 3) := by decide +kernel
theorem dL_isSo_666 : decode cL_isSo 666 = .ok (.aload_n 1, 1) := by decide +kernel
theorem dL_isSo_667 : decode cL_isSo 667 = .ok (.iconst 1, 1) := by decide +kernel
theorem dL_isSo_668 : decode cL_isSo 668 = .ok (.iaload, 1) := by decide +kernel
theorem dL_isSo_669 : decode cL_isSo 669 = .ok (.if_icmp .ne 32, 3) := by decide +kernel
theorem dL_isSo_672 : decode cL_isSo 672 = .ok (.aload_n 0, 1) := by decide +kernel
theorem dL_isSo_673 : decode cL_isSo 673 = .ok (.bipush 22, 2) := by decide +kernel
theorem dL_isSo_675 : decode cL_isSo 675 = .ok (.invokevirtual 118, 3) := by decide +kernel
theorem dL_isSo_678 : decode cL_isSo 678 = .ok (.aload_n 1, 1) := by decide +kernel
theorem dL_isSo_679 : decode cL_isSo 679 = .ok (.iconst 2, 1) := by decide +kernel
theorem dL_isSo_680 : decode cL_isSo 680 = .ok (.iaload, 1) := by decide +kernel
theorem dL_isSo_681 : decode cL_isSo 681 = .ok (.if_icmp .ne 20, 3) := by decide +kernel
theorem dL_isSo_684 : decode cL_isSo 684 = .ok (.aload_n 0, 1) := by decide +kernel
theorem dL_isSo_685 : decode cL_isSo 685 = .ok (.aload_n 1, 1) := by decide +kernel
theorem dL_isSo_686 : decode cL_isSo 686 = .ok (.iconst 4, 1) := by decide +kernel
theorem dL_isSo_687 : decode cL_isSo 687 = .ok (.iaload, 1) := by decide +kernel
theorem dL_isSo_688 : decode cL_isSo 688 = .ok (.iconst 0, 1) := by decide +kernel
theorem dL_isSo_689 : decode cL_isSo 689 = .ok (.invokevirtual 112, 3) := by decide +kernel
theorem dL_isSo_692 : decode cL_isSo 692 = .ok (.ldc 58, 2) := by decide +kernel
theorem dL_isSo_694 : decode cL_isSo 694 = .ok (.if_icmp .ne 7, 3) := by decide +kernel
theorem dL_isSo_697 : decode cL_isSo 697 = .ok (.iconst 1, 1) := by decide +kernel
theorem dL_isSo_698 : decode cL_isSo 698 = .ok (.goto 4, 3) := by decide +kernel
theorem dL_isSo_701 : decode cL_isSo 701 = .ok (.iconst 0, 1) := by decide +kernel
theorem dL_isSo_702 : decode cL_isSo 702 = .ok (.ireturn, 1) := by decide +kernel
theorem dL_law_0 : decode cL_law 0 = .ok (.new 36, 3) := by decide +kernel
theorem dL_law_3 : decode cL_law 3 = .ok (.dup, 1) := by decide +kernel
theorem dL_law_4 : decode cL_law 4 = .ok (.invokespecial 121, 3) := by decide +kernel
theorem dL_law_7 : decode cL_law 7 = .ok (.astore_n 1, 1) := by decide +kernel
theorem dL_law_8 : decode cL_law 8 = .ok (.bipush 13, 2) := by decide +kernel
theorem dL_law_10 : decode cL_law 10 = .ok (.newarray .int, 2) := by decide +kernel
theorem dL_law_12 : decode cL_law 12 = .ok (.astore_n 2, 1) := by decide +kernel
theorem dL_law_13 : decode cL_law 13 = .ok (.bipush 64, 2) := by decide +kernel
theorem dL_law_15 : decode cL_law 15 = .ok (.newarray .int, 2) := by decide +kernel
theorem dL_law_17 : decode cL_law 17 = .ok (.astore_n 3, 1) := by decide +kernel
theorem dL_law_18 : decode cL_law 18 = .ok (.bipush 64, 2) := by decide +kernel
theorem dL_law_20 : decode cL_law 20 = .ok (.newarray .int, 2) := by decide +kernel
theorem dL_law_22 : decode cL_law 22 = .ok (.astore 4, 2) := by decide +kernel
theorem dL_law_24 : decode cL_law 24 = .ok (.bipush 64, 2) := by decide +kernel
theorem dL_law_26 : decode cL_law 26 = .ok (.newarray .int, 2) := by decide +kernel
theorem dL_law_28 : decode cL_law 28 = .ok (.astore 5, 2) := by decide +kernel
theorem dL_law_30 : decode cL_law 30 = .ok (.bipush 32, 2) := by decide +kernel
theorem dL_law_32 : decode cL_law 32 = .ok (.newarray .int, 2) := by decide +kernel
theorem dL_law_34 : decode cL_law 34 = .ok (.astore 6, 2) := by decide +kernel
theorem dL_law_36 : decode cL_law 36 = .ok (.bipush 50, 2) := by decide +kernel
theorem dL_law_38 : decode cL_law 38 = .ok (.newarray .int, 2) := by decide +kernel
theorem dL_law_40 : decode cL_law 40 = .ok (.astore 7, 2) := by decide +kernel
theorem dL_law_42 : decode cL_law 42 = .ok (.aload_n 2, 1) := by decide +kernel
theorem dL_law_43 : decode cL_law 43 = .ok (.iconst 0, 1) := by decide +kernel
theorem dL_law_44 : decode cL_law 44 = .ok (.iconst 3, 1) := by decide +kernel
theorem dL_law_45 : decode cL_law 45 = .ok (.iastore, 1) := by decide +kernel
theorem dL_law_46 : decode cL_law 46 = .ok (.aload_n 2, 1) := by decide +kernel
theorem dL_law_47 : decode cL_law 47 = .ok (.iconst 1, 1) := by decide +kernel
theorem dL_law_48 : decode cL_law 48 = .ok (.bipush 8, 2) := by decide +kernel
theorem dL_law_50 : decode cL_law 50 = .ok (.iastore, 1) := by decide +kernel
theorem dL_law_51 : decode cL_law 51 = .ok (.aload_n 2, 1) := by decide +kernel
theorem dL_law_52 : decode cL_law 52 = .ok (.iconst 2, 1) := by decide +kernel
theorem dL_law_53 : decode cL_law 53 = .ok (.iconst 1, 1) := by decide +kernel
theorem dL_law_54 : decode cL_law 54 = .ok (.iastore, 1) := by decide +kernel
theorem dL_law_55 : decode cL_law 55 = .ok (.aload_n 1, 1) := by decide +kernel
theorem dL_law_56 : decode cL_law 56 = .ok (.aload_n 2, 1) := by decide +kernel
theorem dL_law_57 : decode cL_law 57 = .ok (.aload_n 3, 1) := by decide +kernel
theorem dL_law_58 : decode cL_law 58 = .ok (.aload 4, 2) := by decide +kernel
theorem dL_law_60 : decode cL_law 60 = .ok (.aload 5, 2) := by decide +kernel
theorem dL_law_62 : decode cL_law 62 = .ok (.aload 6, 2) := by decide +kernel
theorem dL_law_64 : decode cL_law 64 = .ok (.aload 7, 2) := by decide +kernel
theorem dL_law_66 : decode cL_law 66 = .ok (.invokestatic 122, 3) := by decide +kernel
theorem dL_law_69 : decode cL_law 69 = .ok (.istore 8, 2) := by decide +kernel
theorem dL_law_71 : decode cL_law 71 = .ok (.iconst 0, 1) := by decide +kernel
theorem dL_law_72 : decode cL_law 72 = .ok (.istore 9, 2) := by decide +kernel
theorem dL_law_74 : decode cL_law 74 = .ok (.iload 9, 2) := by decide +kernel
theorem dL_law_76 : decode cL_law 76 = .ok (.iconst 5, 1) := by decide +kernel
theorem dL_law_77 : decode cL_law 77 = .ok (.if_icmp .ge 62, 3) := by decide +kernel
theorem dL_law_80 : decode cL_law 80 = .ok (.iload 8, 2) := by decide +kernel
theorem dL_law_82 : decode cL_law 82 = .ok (.ifCond .eq 57, 3) := by decide +kernel
theorem dL_law_85 : decode cL_law 85 = .ok (.aload_n 1, 1) := by decide +kernel
theorem dL_law_86 : decode cL_law 86 = .ok (.aload_n 2, 1) := by decide +kernel
theorem dL_law_87 : decode cL_law 87 = .ok (.aload_n 3, 1) := by decide +kernel
theorem dL_law_88 : decode cL_law 88 = .ok (.aload 4, 2) := by decide +kernel
theorem dL_law_90 : decode cL_law 90 = .ok (.aload 5, 2) := by decide +kernel
theorem dL_law_92 : decode cL_law 92 = .ok (.aload 6, 2) := by decide +kernel
theorem dL_law_94 : decode cL_law 94 = .ok (.aload 7, 2) := by decide +kernel
theorem dL_law_96 : decode cL_law 96 = .ok (.aload_n 0, 1) := by decide +kernel
theorem dL_law_97 : decode cL_law 97 = .ok (.iconst 1, 1) := by decide +kernel
theorem dL_law_98 : decode cL_law 98 = .ok (.iload 9, 2) := by decide +kernel
theorem dL_law_100 : decode cL_law 100 = .ok (.iadd, 1) := by decide +kernel
theorem dL_law_101 : decode cL_law 101 = .ok (.invokestatic 126, 3) := by decide +kernel
theorem dL_law_104 : decode cL_law 104 = .ok (.ldc 8, 2) := by decide +kernel
theorem dL_law_106 : decode cL_law 106 = .ok (.iand, 1) := by decide +kernel
theorem dL_law_107 : decode cL_law 107 = .ok (.sipush 832, 3) := by decide +kernel
theorem dL_law_110 : decode cL_law 110 = .ok (.idiv, 1) := by decide +kernel
theorem dL_law_111 : decode cL_law 111 = .ok (.sipush 832, 3) := by decide +kernel
theorem dL_law_114 : decode cL_law 114 = .ok (.imul, 1) := by decide +kernel
theorem dL_law_115 : decode cL_law 115 = .ok (.iload 9, 2) := by decide +kernel
theorem dL_law_117 : decode cL_law 117 = .ok (.iconst 2, 1) := by decide +kernel
theorem dL_law_118 : decode cL_law 118 = .ok (.if_icmp .ge 8, 3) := by decide +kernel
theorem dL_law_121 : decode cL_law 121 = .ok (.bipush 6, 2) := by decide +kernel
theorem dL_law_123 : decode cL_law 123 = .ok (.goto 4, 3) := by decide +kernel
theorem dL_law_126 : decode cL_law 126 = .ok (.iconst 0, 1) := by decide +kernel
theorem dL_law_127 : decode cL_law 127 = .ok (.iadd, 1) := by decide +kernel
theorem dL_law_128 : decode cL_law 128 = .ok (.invokestatic 130, 3) := by decide +kernel
theorem dL_law_131 : decode cL_law 131 = .ok (.istore 8, 2) := by decide +kernel
theorem dL_law_133 : decode cL_law 133 = .ok (.iinc 9 1, 3) := by decide +kernel
theorem dL_law_136 : decode cL_law 136 = .ok (.goto (-62), 3) := by decide +kernel
theorem dL_law_139 : decode cL_law 139 = .ok (.bipush 12, 2) := by decide +kernel
theorem dL_law_141 : decode cL_law 141 = .ok (.aload_n 0, 1) := by decide +kernel
theorem dL_law_142 : decode cL_law 142 = .ok (.iconst 0, 1) := by decide +kernel
theorem dL_law_143 : decode cL_law 143 = .ok (.invokestatic 126, 3) := by decide +kernel
theorem dL_law_146 : decode cL_law 146 = .ok (.bipush 48, 2) := by decide +kernel
theorem dL_law_148 : decode cL_law 148 = .ok (.invokestatic 65, 3) := by decide +kernel
theorem dL_law_151 : decode cL_law 151 = .ok (.iadd, 1) := by decide +kernel
theorem dL_law_152 : decode cL_law 152 = .ok (.istore 9, 2) := by decide +kernel
theorem dL_law_154 : decode cL_law 154 = .ok (.iconst 0, 1) := by decide +kernel
theorem dL_law_155 : decode cL_law 155 = .ok (.istore 10, 2) := by decide +kernel
theorem dL_law_157 : decode cL_law 157 = .ok (.iload 10, 2) := by decide +kernel
theorem dL_law_159 : decode cL_law 159 = .ok (.iload 9, 2) := by decide +kernel
theorem dL_law_161 : decode cL_law 161 = .ok (.if_icmp .ge 71, 3) := by decide +kernel
theorem dL_law_164 : decode cL_law 164 = .ok (.iload 8, 2) := by decide +kernel
theorem dL_law_166 : decode cL_law 166 = .ok (.ifCond .eq 66, 3) := by decide +kernel
theorem dL_law_169 : decode cL_law 169 = .ok (.aload_n 1, 1) := by decide +kernel
theorem dL_law_170 : decode cL_law 170 = .ok (.aload_n 2, 1) := by decide +kernel
theorem dL_law_171 : decode cL_law 171 = .ok (.aload_n 3, 1) := by decide +kernel
theorem dL_law_172 : decode cL_law 172 = .ok (.aload 4, 2) := by decide +kernel
theorem dL_law_174 : decode cL_law 174 = .ok (.aload 5, 2) := by decide +kernel
theorem dL_law_176 : decode cL_law 176 = .ok (.aload 6, 2) := by decide +kernel
theorem dL_law_178 : decode cL_law 178 = .ok (.aload 7, 2) := by decide +kernel
theorem dL_law_180 : decode cL_law 180 = .ok (.aload_n 0, 1) := by decide +kernel
theorem dL_law_181 : decode cL_law 181 = .ok (.bipush 6, 2) := by decide +kernel
theorem dL_law_183 : decode cL_law 183 = .ok (.iload 10, 2) := by decide +kernel
theorem dL_law_185 : decode cL_law 185 = .ok (.iadd, 1) := by decide +kernel
theorem dL_law_186 : decode cL_law 186 = .ok (.invokestatic 126, 3) := by decide +kernel
theorem dL_law_189 : decode cL_law 189 = .ok (.sipush 7919, 3) := by decide +kernel
theorem dL_law_192 : decode cL_law 192 = .ok (.iload 10, 2) := by decide +kernel
theorem dL_law_194 : decode cL_law 194 = .ok (.imul, 1) := by decide +kernel
theorem dL_law_195 : decode cL_law 195 = .ok (.ixor, 1) := by decide +kernel
theorem dL_law_196 : decode cL_law 196 = .ok (.invokestatic 130, 3) := by decide +kernel
theorem dL_law_199 : decode cL_law 199 = .ok (.ifCond .eq 24, 3) := by decide +kernel
theorem dL_law_202 : decode cL_law 202 = .ok (.aload_n 1, 1) := by decide +kernel
theorem dL_law_203 : decode cL_law 203 = .ok (.aload_n 2, 1) := by decide +kernel
theorem dL_law_204 : decode cL_law 204 = .ok (.aload_n 3, 1) := by decide +kernel
theorem dL_law_205 : decode cL_law 205 = .ok (.aload 4, 2) := by decide +kernel
theorem dL_law_207 : decode cL_law 207 = .ok (.aload 5, 2) := by decide +kernel
theorem dL_law_209 : decode cL_law 209 = .ok (.aload 6, 2) := by decide +kernel
theorem dL_law_211 : decode cL_law 211 = .ok (.aload 7, 2) := by decide +kernel
theorem dL_law_213 : decode cL_law 213 = .ok (.invokestatic 122, 3) := by decide +kernel
theorem dL_law_216 : decode cL_law 216 = .ok (.ifCond .eq 7, 3) := by decide +kernel
theorem dL_law_219 : decode cL_law 219 = .ok (.iconst 1, 1) := by decide +kernel
theorem dL_law_220 : decode cL_law 220 = .ok (.goto 4, 3) := by decide +kernel
theorem dL_law_223 : decode cL_law 223 = .ok (.iconst 0, 1) := by decide +kernel
theorem dL_law_224 : decode cL_law 224 = .ok (.istore 8, 2) := by decide +kernel
theorem dL_law_226 : decode cL_law 226 = .ok (.iinc 10 1, 3) := by decide +kernel
theorem dL_law_229 : decode cL_law 229 = .ok (.goto (-72), 3) := by decide +kernel
theorem dL_law_232 : decode cL_law 232 = .ok (.iload 8, 2) := by decide +kernel
theorem dL_law_234 : decode cL_law 234 = .ok (.ifCond .eq 51, 3) := by decide +kernel
theorem dL_law_237 : decode cL_law 237 = .ok (.aload_n 1, 1) := by decide +kernel
theorem dL_law_238 : decode cL_law 238 = .ok (.bipush 13, 2) := by decide +kernel
theorem dL_law_240 : decode cL_law 240 = .ok (.invokevirtual 118, 3) := by decide +kernel
theorem dL_law_243 : decode cL_law 243 = .ok (.ldc 58, 2) := by decide +kernel
theorem dL_law_245 : decode cL_law 245 = .ok (.if_icmp .ne 40, 3) := by decide +kernel
theorem dL_law_248 : decode cL_law 248 = .ok (.aload_n 1, 1) := by decide +kernel
theorem dL_law_249 : decode cL_law 249 = .ok (.bipush 23, 2) := by decide +kernel
theorem dL_law_251 : decode cL_law 251 = .ok (.invokevirtual 118, 3) := by decide +kernel
theorem dL_law_254 : decode cL_law 254 = .ok (.ldc 58, 2) := by decide +kernel
theorem dL_law_256 : decode cL_law 256 = .ok (.if_icmp .ne 29, 3) := by decide +kernel
theorem dL_law_259 : decode cL_law 259 = .ok (.aload_n 1, 1) := by decide +kernel
theorem dL_law_260 : decode cL_law 260 = .ok (.iconst (-1), 1) := by decide +kernel
theorem dL_law_261 : decode cL_law 261 = .ok (.iconst 0, 1) := by decide +kernel
theorem dL_law_262 : decode cL_law 262 = .ok (.invokevirtual 115, 3) := by decide +kernel
theorem dL_law_265 : decode cL_law 265 = .ok (.ldc 58, 2) := by decide +kernel
theorem dL_law_267 : decode cL_law 267 = .ok (.if_icmp .ne 18, 3) := by decide +kernel
theorem dL_law_270 : decode cL_law 270 = .ok (.aload_n 1, 1) := by decide +kernel
theorem dL_law_271 : decode cL_law 271 = .ok (.iconst 0, 1) := by decide +kernel
theorem dL_law_272 : decode cL_law 272 = .ok (.iconst 5, 1) := by decide +kernel
theorem dL_law_273 : decode cL_law 273 = .ok (.invokevirtual 115, 3) := by decide +kernel
theorem dL_law_276 : decode cL_law 276 = .ok (.ldc 58, 2) := by decide +kernel
theorem dL_law_278 : decode cL_law 278 = .ok (.if_icmp .ne 7, 3) := by decide +kernel
theorem dL_law_281 : decode cL_law 281 = .ok (.iconst 1, 1) := by decide +kernel
theorem dL_law_282 : decode cL_law 282 = .ok (.goto 4, 3) := by decide +kernel
theorem dL_law_285 : decode cL_law 285 = .ok (.iconst 0, 1) := by decide +kernel
theorem dL_law_286 : decode cL_law 286 = .ok (.ireturn, 1) := by decide +kernel
theorem dJ6_bitCount_0f7a4_0 : decode cJ6_bitCount_0f7a4 0 = .ok (.iload_n 0, 1) := by decide +kernel
theorem dJ6_bitCount_0f7a4_1 : decode cJ6_bitCount_0f7a4 1 = .ok (.iload_n 0, 1) := by decide +kernel
theorem dJ6_bitCount_0f7a4_2 : decode cJ6_bitCount_0f7a4 2 = .ok (.iconst 1, 1) := by decide +kernel
theorem dJ6_bitCount_0f7a4_3 : decode cJ6_bitCount_0f7a4 3 = .ok (.iushr, 1) := by decide +kernel
theorem dJ6_bitCount_0f7a4_4 : decode cJ6_bitCount_0f7a4 4 = .ok (.ldc_w 265, 3) := by decide +kernel
theorem dJ6_bitCount_0f7a4_7 : decode cJ6_bitCount_0f7a4 7 = .ok (.iand, 1) := by decide +kernel
theorem dJ6_bitCount_0f7a4_8 : decode cJ6_bitCount_0f7a4 8 = .ok (.isub, 1) := by decide +kernel
theorem dJ6_bitCount_0f7a4_9 : decode cJ6_bitCount_0f7a4 9 = .ok (.istore_n 0, 1) := by decide +kernel
theorem dJ6_bitCount_0f7a4_10 : decode cJ6_bitCount_0f7a4 10 = .ok (.iload_n 0, 1) := by decide +kernel
theorem dJ6_bitCount_0f7a4_11 : decode cJ6_bitCount_0f7a4 11 = .ok (.ldc_w 266, 3) := by decide +kernel
theorem dJ6_bitCount_0f7a4_14 : decode cJ6_bitCount_0f7a4 14 = .ok (.iand, 1) := by decide +kernel
theorem dJ6_bitCount_0f7a4_15 : decode cJ6_bitCount_0f7a4 15 = .ok (.iload_n 0, 1) := by decide +kernel
theorem dJ6_bitCount_0f7a4_16 : decode cJ6_bitCount_0f7a4 16 = .ok (.iconst 2, 1) := by decide +kernel
theorem dJ6_bitCount_0f7a4_17 : decode cJ6_bitCount_0f7a4 17 = .ok (.iushr, 1) := by decide +kernel
theorem dJ6_bitCount_0f7a4_18 : decode cJ6_bitCount_0f7a4 18 = .ok (.ldc_w 266, 3) := by decide +kernel
theorem dJ6_bitCount_0f7a4_21 : decode cJ6_bitCount_0f7a4 21 = .ok (.iand, 1) := by decide +kernel
theorem dJ6_bitCount_0f7a4_22 : decode cJ6_bitCount_0f7a4 22 = .ok (.iadd, 1) := by decide +kernel
theorem dJ6_bitCount_0f7a4_23 : decode cJ6_bitCount_0f7a4 23 = .ok (.istore_n 0, 1) := by decide +kernel
theorem dJ6_bitCount_0f7a4_24 : decode cJ6_bitCount_0f7a4 24 = .ok (.iload_n 0, 1) := by decide +kernel
theorem dJ6_bitCount_0f7a4_25 : decode cJ6_bitCount_0f7a4 25 = .ok (.iload_n 0, 1) := by decide +kernel
theorem dJ6_bitCount_0f7a4_26 : decode cJ6_bitCount_0f7a4 26 = .ok (.iconst 4, 1) := by decide +kernel
theorem dJ6_bitCount_0f7a4_27 : decode cJ6_bitCount_0f7a4 27 = .ok (.iushr, 1) := by decide +kernel
theorem dJ6_bitCount_0f7a4_28 : decode cJ6_bitCount_0f7a4 28 = .ok (.iadd, 1) := by decide +kernel
theorem dJ6_bitCount_0f7a4_29 : decode cJ6_bitCount_0f7a4 29 = .ok (.ldc_w 267, 3) := by decide +kernel
theorem dJ6_bitCount_0f7a4_32 : decode cJ6_bitCount_0f7a4 32 = .ok (.iand, 1) := by decide +kernel
theorem dJ6_bitCount_0f7a4_33 : decode cJ6_bitCount_0f7a4 33 = .ok (.istore_n 0, 1) := by decide +kernel
theorem dJ6_bitCount_0f7a4_34 : decode cJ6_bitCount_0f7a4 34 = .ok (.iload_n 0, 1) := by decide +kernel
theorem dJ6_bitCount_0f7a4_35 : decode cJ6_bitCount_0f7a4 35 = .ok (.iload_n 0, 1) := by decide +kernel
theorem dJ6_bitCount_0f7a4_36 : decode cJ6_bitCount_0f7a4 36 = .ok (.bipush 8, 2) := by decide +kernel
theorem dJ6_bitCount_0f7a4_38 : decode cJ6_bitCount_0f7a4 38 = .ok (.iushr, 1) := by decide +kernel
theorem dJ6_bitCount_0f7a4_39 : decode cJ6_bitCount_0f7a4 39 = .ok (.iadd, 1) := by decide +kernel
theorem dJ6_bitCount_0f7a4_40 : decode cJ6_bitCount_0f7a4 40 = .ok (.istore_n 0, 1) := by decide +kernel
theorem dJ6_bitCount_0f7a4_41 : decode cJ6_bitCount_0f7a4 41 = .ok (.iload_n 0, 1) := by decide +kernel
theorem dJ6_bitCount_0f7a4_42 : decode cJ6_bitCount_0f7a4 42 = .ok (.iload_n 0, 1) := by decide +kernel
theorem dJ6_bitCount_0f7a4_43 : decode cJ6_bitCount_0f7a4 43 = .ok (.bipush 16, 2) := by decide +kernel
theorem dJ6_bitCount_0f7a4_45 : decode cJ6_bitCount_0f7a4 45 = .ok (.iushr, 1) := by decide +kernel
theorem dJ6_bitCount_0f7a4_46 : decode cJ6_bitCount_0f7a4 46 = .ok (.iadd, 1) := by decide +kernel
theorem dJ6_bitCount_0f7a4_47 : decode cJ6_bitCount_0f7a4 47 = .ok (.istore_n 0, 1) := by decide +kernel
theorem dJ6_bitCount_0f7a4_48 : decode cJ6_bitCount_0f7a4 48 = .ok (.iload_n 0, 1) := by decide +kernel
theorem dJ6_bitCount_0f7a4_49 : decode cJ6_bitCount_0f7a4 49 = .ok (.bipush 63, 2) := by decide +kernel
theorem dJ6_bitCount_0f7a4_51 : decode cJ6_bitCount_0f7a4 51 = .ok (.iand, 1) := by decide +kernel
theorem dJ6_bitCount_0f7a4_52 : decode cJ6_bitCount_0f7a4 52 = .ok (.ireturn, 1) := by decide +kernel
theorem dJ9_max_7cf53_0 : decode cJ9_max_7cf53 0 = .ok (.iload_n 0, 1) := by decide +kernel
theorem dJ9_max_7cf53_1 : decode cJ9_max_7cf53 1 = .ok (.iload_n 1, 1) := by decide +kernel
theorem dJ9_max_7cf53_2 : decode cJ9_max_7cf53 2 = .ok (.if_icmp .lt 7, 3) := by decide +kernel
theorem dJ9_max_7cf53_5 : decode cJ9_max_7cf53 5 = .ok (.iload_n 0, 1) := by decide +kernel
theorem dJ9_max_7cf53_6 : decode cJ9_max_7cf53 6 = .ok (.goto 4, 3) := by decide +kernel
theorem dJ9_max_7cf53_9 : decode cJ9_max_7cf53 9 = .ok (.iload_n 1, 1) := by decide +kernel
theorem dJ9_max_7cf53_10 : decode cJ9_max_7cf53 10 = .ok (.ireturn, 1) := by decide +kernel
theorem dJ9_min_7cf53_0 : decode cJ9_min_7cf53 0 = .ok (.iload_n 0, 1) := by decide +kernel
theorem dJ9_min_7cf53_1 : decode cJ9_min_7cf53 1 = .ok (.iload_n 1, 1) := by decide +kernel
theorem dJ9_min_7cf53_2 : decode cJ9_min_7cf53 2 = .ok (.if_icmp .gt 7, 3) := by decide +kernel
theorem dJ9_min_7cf53_5 : decode cJ9_min_7cf53 5 = .ok (.iload_n 0, 1) := by decide +kernel
theorem dJ9_min_7cf53_6 : decode cJ9_min_7cf53 6 = .ok (.goto 4, 3) := by decide +kernel
theorem dJ9_min_7cf53_9 : decode cJ9_min_7cf53 9 = .ok (.iload_n 1, 1) := by decide +kernel
theorem dJ9_min_7cf53_10 : decode cJ9_min_7cf53 10 = .ok (.ireturn, 1) := by decide +kernel
