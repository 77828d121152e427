/-! decode rows of WorkPlans$Plan -/
theorem d_P_init_0 : decode prog_3_method_1_code 0 = .ok (.aload_n 0, 1) := by decide +kernel
theorem d_P_init_1 : decode prog_3_method_1_code 1 = .ok (.invokespecial 3, 3) := by decide +kernel
theorem d_P_init_4 : decode prog_3_method_1_code 4 = .ok (.aload_n 0, 1) := by decide +kernel
theorem d_P_init_5 : decode prog_3_method_1_code 5 = .ok (.bipush 6, 2) := by decide +kernel
theorem d_P_init_7 : decode prog_3_method_1_code 7 = .ok (.newarray .int, 2) := by decide +kernel
theorem d_P_init_9 : decode prog_3_method_1_code 9 = .ok (.putfield 9, 3) := by decide +kernel
theorem d_P_init_12 : decode prog_3_method_1_code 12 = .ok (.aload_n 0, 1) := by decide +kernel
theorem d_P_init_13 : decode prog_3_method_1_code 13 = .ok (.bipush 24, 2) := by decide +kernel
theorem d_P_init_15 : decode prog_3_method_1_code 15 = .ok (.newarray .int, 2) := by decide +kernel
theorem d_P_init_17 : decode prog_3_method_1_code 17 = .ok (.putfield 15, 3) := by decide +kernel
theorem d_P_init_20 : decode prog_3_method_1_code 20 = .ok (.aload_n 0, 1) := by decide +kernel
theorem d_P_init_21 : decode prog_3_method_1_code 21 = .ok (.bipush 24, 2) := by decide +kernel
theorem d_P_init_23 : decode prog_3_method_1_code 23 = .ok (.newarray .int, 2) := by decide +kernel
theorem d_P_init_25 : decode prog_3_method_1_code 25 = .ok (.putfield 18, 3) := by decide +kernel
theorem d_P_init_28 : decode prog_3_method_1_code 28 = .ok (.aload_n 0, 1) := by decide +kernel
theorem d_P_init_29 : decode prog_3_method_1_code 29 = .ok (.iconst 0, 1) := by decide +kernel
theorem d_P_init_30 : decode prog_3_method_1_code 30 = .ok (.putfield 21, 3) := by decide +kernel
theorem d_P_init_33 : decode prog_3_method_1_code 33 = .ok (.aload_n 0, 1) := by decide +kernel
theorem d_P_init_34 : decode prog_3_method_1_code 34 = .ok (.iconst 0, 1) := by decide +kernel
theorem d_P_init_35 : decode prog_3_method_1_code 35 = .ok (.putfield 25, 3) := by decide +kernel
theorem d_P_init_38 : decode prog_3_method_1_code 38 = .ok (.aload_n 0, 1) := by decide +kernel
theorem d_P_init_39 : decode prog_3_method_1_code 39 = .ok (.lconst 0, 1) := by decide +kernel
theorem d_P_init_40 : decode prog_3_method_1_code 40 = .ok (.putfield 28, 3) := by decide +kernel
theorem d_P_init_43 : decode prog_3_method_1_code 43 = .ok (.aload_n 0, 1) := by decide +kernel
theorem d_P_init_44 : decode prog_3_method_1_code 44 = .ok (.lconst 0, 1) := by decide +kernel
theorem d_P_init_45 : decode prog_3_method_1_code 45 = .ok (.putfield 32, 3) := by decide +kernel
theorem d_P_init_48 : decode prog_3_method_1_code 48 = .ok (.aload_n 0, 1) := by decide +kernel
theorem d_P_init_49 : decode prog_3_method_1_code 49 = .ok (.iconst 0, 1) := by decide +kernel
theorem d_P_init_50 : decode prog_3_method_1_code 50 = .ok (.putfield 35, 3) := by decide +kernel
theorem d_P_init_53 : decode prog_3_method_1_code 53 = .ok (.aload_n 0, 1) := by decide +kernel
theorem d_P_init_54 : decode prog_3_method_1_code 54 = .ok (.iconst 0, 1) := by decide +kernel
theorem d_P_init_55 : decode prog_3_method_1_code 55 = .ok (.putfield 38, 3) := by decide +kernel
theorem d_P_init_58 : decode prog_3_method_1_code 58 = .ok (.aload_n 0, 1) := by decide +kernel
theorem d_P_init_59 : decode prog_3_method_1_code 59 = .ok (.aload_n 1, 1) := by decide +kernel
theorem d_P_init_60 : decode prog_3_method_1_code 60 = .ok (.putfield 41, 3) := by decide +kernel
theorem d_P_init_63 : decode prog_3_method_1_code 63 = .ok (.return_, 1) := by decide +kernel
theorem d_P_take_0 : decode prog_3_method_4_code 0 = .ok (.aload_n 0, 1) := by decide +kernel
theorem d_P_take_1 : decode prog_3_method_4_code 1 = .ok (.aload_n 2, 1) := by decide +kernel
theorem d_P_take_2 : decode prog_3_method_4_code 2 = .ok (.aload_n 1, 1) := by decide +kernel
theorem d_P_take_3 : decode prog_3_method_4_code 3 = .ok (.aload_n 0, 1) := by decide +kernel
theorem d_P_take_4 : decode prog_3_method_4_code 4 = .ok (.getfield 41, 3) := by decide +kernel
theorem d_P_take_7 : decode prog_3_method_4_code 7 = .ok (.getfield 45, 3) := by decide +kernel
theorem d_P_take_10 : decode prog_3_method_4_code 10 = .ok (.invokevirtual 48, 3) := by decide +kernel
theorem d_P_take_13 : decode prog_3_method_4_code 13 = .ok (.putfield 28, 3) := by decide +kernel
theorem d_P_take_16 : decode prog_3_method_4_code 16 = .ok (.aload_n 0, 1) := by decide +kernel
theorem d_P_take_17 : decode prog_3_method_4_code 17 = .ok (.iconst 0, 1) := by decide +kernel
theorem d_P_take_18 : decode prog_3_method_4_code 18 = .ok (.putfield 38, 3) := by decide +kernel
theorem d_P_take_21 : decode prog_3_method_4_code 21 = .ok (.iconst 0, 1) := by decide +kernel
theorem d_P_take_22 : decode prog_3_method_4_code 22 = .ok (.istore_n 3, 1) := by decide +kernel
theorem d_P_take_23 : decode prog_3_method_4_code 23 = .ok (.iload_n 3, 1) := by decide +kernel
theorem d_P_take_24 : decode prog_3_method_4_code 24 = .ok (.aload_n 0, 1) := by decide +kernel
theorem d_P_take_25 : decode prog_3_method_4_code 25 = .ok (.getfield 41, 3) := by decide +kernel
theorem d_P_take_28 : decode prog_3_method_4_code 28 = .ok (.getfield 54, 3) := by decide +kernel
theorem d_P_take_31 : decode prog_3_method_4_code 31 = .ok (.if_icmp .ge 81, 3) := by decide +kernel
theorem d_P_take_34 : decode prog_3_method_4_code 34 = .ok (.aload_n 0, 1) := by decide +kernel
theorem d_P_take_35 : decode prog_3_method_4_code 35 = .ok (.iload_n 3, 1) := by decide +kernel
theorem d_P_take_36 : decode prog_3_method_4_code 36 = .ok (.invokevirtual 55, 3) := by decide +kernel
theorem d_P_take_39 : decode prog_3_method_4_code 39 = .ok (.ifCond .eq 33, 3) := by decide +kernel
theorem d_P_take_42 : decode prog_3_method_4_code 42 = .ok (.aload_n 0, 1) := by decide +kernel
theorem d_P_take_43 : decode prog_3_method_4_code 43 = .ok (.getfield 15, 3) := by decide +kernel
theorem d_P_take_46 : decode prog_3_method_4_code 46 = .ok (.iload_n 3, 1) := by decide +kernel
theorem d_P_take_47 : decode prog_3_method_4_code 47 = .ok (.iaload, 1) := by decide +kernel
theorem d_P_take_48 : decode prog_3_method_4_code 48 = .ok (.aload_n 2, 1) := by decide +kernel
theorem d_P_take_49 : decode prog_3_method_4_code 49 = .ok (.getfield 59, 3) := by decide +kernel
theorem d_P_take_52 : decode prog_3_method_4_code 52 = .ok (.iload_n 3, 1) := by decide +kernel
theorem d_P_take_53 : decode prog_3_method_4_code 53 = .ok (.iaload, 1) := by decide +kernel
theorem d_P_take_54 : decode prog_3_method_4_code 54 = .ok (.if_icmp .ne 18, 3) := by decide +kernel
theorem d_P_take_57 : decode prog_3_method_4_code 57 = .ok (.aload_n 0, 1) := by decide +kernel
theorem d_P_take_58 : decode prog_3_method_4_code 58 = .ok (.getfield 18, 3) := by decide +kernel
theorem d_P_take_61 : decode prog_3_method_4_code 61 = .ok (.iload_n 3, 1) := by decide +kernel
theorem d_P_take_62 : decode prog_3_method_4_code 62 = .ok (.iaload, 1) := by decide +kernel
theorem d_P_take_63 : decode prog_3_method_4_code 63 = .ok (.aload_n 2, 1) := by decide +kernel
theorem d_P_take_64 : decode prog_3_method_4_code 64 = .ok (.getfield 60, 3) := by decide +kernel
theorem d_P_take_67 : decode prog_3_method_4_code 67 = .ok (.iload_n 3, 1) := by decide +kernel
theorem d_P_take_68 : decode prog_3_method_4_code 68 = .ok (.iaload, 1) := by decide +kernel
theorem d_P_take_69 : decode prog_3_method_4_code 69 = .ok (.if_icmp .eq 13, 3) := by decide +kernel
theorem d_P_take_72 : decode prog_3_method_4_code 72 = .ok (.aload_n 0, 1) := by decide +kernel
theorem d_P_take_73 : decode prog_3_method_4_code 73 = .ok (.dup, 1) := by decide +kernel
theorem d_P_take_74 : decode prog_3_method_4_code 74 = .ok (.getfield 38, 3) := by decide +kernel
theorem d_P_take_77 : decode prog_3_method_4_code 77 = .ok (.iconst 1, 1) := by decide +kernel
theorem d_P_take_78 : decode prog_3_method_4_code 78 = .ok (.iadd, 1) := by decide +kernel
theorem d_P_take_79 : decode prog_3_method_4_code 79 = .ok (.putfield 38, 3) := by decide +kernel
theorem d_P_take_82 : decode prog_3_method_4_code 82 = .ok (.aload_n 0, 1) := by decide +kernel
theorem d_P_take_83 : decode prog_3_method_4_code 83 = .ok (.getfield 15, 3) := by decide +kernel
theorem d_P_take_86 : decode prog_3_method_4_code 86 = .ok (.iload_n 3, 1) := by decide +kernel
theorem d_P_take_87 : decode prog_3_method_4_code 87 = .ok (.aload_n 2, 1) := by decide +kernel
theorem d_P_take_88 : decode prog_3_method_4_code 88 = .ok (.getfield 59, 3) := by decide +kernel
theorem d_P_take_91 : decode prog_3_method_4_code 91 = .ok (.iload_n 3, 1) := by decide +kernel
theorem d_P_take_92 : decode prog_3_method_4_code 92 = .ok (.iaload, 1) := by decide +kernel
theorem d_P_take_93 : decode prog_3_method_4_code 93 = .ok (.iastore, 1) := by decide +kernel
theorem d_P_take_94 : decode prog_3_method_4_code 94 = .ok (.aload_n 0, 1) := by decide +kernel
theorem d_P_take_95 : decode prog_3_method_4_code 95 = .ok (.getfield 18, 3) := by decide +kernel
theorem d_P_take_98 : decode prog_3_method_4_code 98 = .ok (.iload_n 3, 1) := by decide +kernel
theorem d_P_take_99 : decode prog_3_method_4_code 99 = .ok (.aload_n 2, 1) := by decide +kernel
theorem d_P_take_100 : decode prog_3_method_4_code 100 = .ok (.getfield 60, 3) := by decide +kernel
theorem d_P_take_103 : decode prog_3_method_4_code 103 = .ok (.iload_n 3, 1) := by decide +kernel
theorem d_P_take_104 : decode prog_3_method_4_code 104 = .ok (.iaload, 1) := by decide +kernel
theorem d_P_take_105 : decode prog_3_method_4_code 105 = .ok (.iastore, 1) := by decide +kernel
theorem d_P_take_106 : decode prog_3_method_4_code 106 = .ok (.iinc 3 1, 3) := by decide +kernel
theorem d_P_take_109 : decode prog_3_method_4_code 109 = .ok (.goto (-86), 3) := by decide +kernel
theorem d_P_take_112 : decode prog_3_method_4_code 112 = .ok (.aload_n 1, 1) := by decide +kernel
theorem d_P_take_113 : decode prog_3_method_4_code 113 = .ok (.iconst 0, 1) := by decide +kernel
theorem d_P_take_114 : decode prog_3_method_4_code 114 = .ok (.aload_n 0, 1) := by decide +kernel
theorem d_P_take_115 : decode prog_3_method_4_code 115 = .ok (.getfield 9, 3) := by decide +kernel
theorem d_P_take_118 : decode prog_3_method_4_code 118 = .ok (.iconst 0, 1) := by decide +kernel
theorem d_P_take_119 : decode prog_3_method_4_code 119 = .ok (.bipush 6, 2) := by decide +kernel
theorem d_P_take_121 : decode prog_3_method_4_code 121 = .ok (.invokestatic 61, 3) := by decide +kernel
theorem d_P_take_124 : decode prog_3_method_4_code 124 = .ok (.aload_n 0, 1) := by decide +kernel
theorem d_P_take_125 : decode prog_3_method_4_code 125 = .ok (.aload_n 0, 1) := by decide +kernel
theorem d_P_take_126 : decode prog_3_method_4_code 126 = .ok (.getfield 41, 3) := by decide +kernel
theorem d_P_take_129 : decode prog_3_method_4_code 129 = .ok (.getfield 45, 3) := by decide +kernel
theorem d_P_take_132 : decode prog_3_method_4_code 132 = .ok (.putfield 21, 3) := by decide +kernel
theorem d_P_take_135 : decode prog_3_method_4_code 135 = .ok (.aload_n 0, 1) := by decide +kernel
theorem d_P_take_136 : decode prog_3_method_4_code 136 = .ok (.aload_n 0, 1) := by decide +kernel
theorem d_P_take_137 : decode prog_3_method_4_code 137 = .ok (.getfield 41, 3) := by decide +kernel
theorem d_P_take_140 : decode prog_3_method_4_code 140 = .ok (.getfield 54, 3) := by decide +kernel
theorem d_P_take_143 : decode prog_3_method_4_code 143 = .ok (.putfield 25, 3) := by decide +kernel
theorem d_P_take_146 : decode prog_3_method_4_code 146 = .ok (.return_, 1) := by decide +kernel
theorem d_P_has_0 : decode prog_3_method_3_code 0 = .ok (.iload_n 1, 1) := by decide +kernel
theorem d_P_has_1 : decode prog_3_method_3_code 1 = .ok (.ifCond .lt 15, 3) := by decide +kernel
theorem d_P_has_4 : decode prog_3_method_3_code 4 = .ok (.iload_n 1, 1) := by decide +kernel
theorem d_P_has_5 : decode prog_3_method_3_code 5 = .ok (.aload_n 0, 1) := by decide +kernel
theorem d_P_has_6 : decode prog_3_method_3_code 6 = .ok (.getfield 25, 3) := by decide +kernel
theorem d_P_has_9 : decode prog_3_method_3_code 9 = .ok (.if_icmp .ge 7, 3) := by decide +kernel
theorem d_P_has_12 : decode prog_3_method_3_code 12 = .ok (.iconst 1, 1) := by decide +kernel
theorem d_P_has_13 : decode prog_3_method_3_code 13 = .ok (.goto 4, 3) := by decide +kernel
theorem d_P_has_16 : decode prog_3_method_3_code 16 = .ok (.iconst 0, 1) := by decide +kernel
theorem d_P_has_17 : decode prog_3_method_3_code 17 = .ok (.ireturn, 1) := by decide +kernel
theorem d_P_exists_0 : decode prog_3_method_2_code 0 = .ok (.aload_n 0, 1) := by decide +kernel
theorem d_P_exists_1 : decode prog_3_method_2_code 1 = .ok (.getfield 21, 3) := by decide +kernel
theorem d_P_exists_4 : decode prog_3_method_2_code 4 = .ok (.ifCond .le 7, 3) := by decide +kernel
theorem d_P_exists_7 : decode prog_3_method_2_code 7 = .ok (.iconst 1, 1) := by decide +kernel
theorem d_P_exists_8 : decode prog_3_method_2_code 8 = .ok (.goto 4, 3) := by decide +kernel
theorem d_P_exists_11 : decode prog_3_method_2_code 11 = .ok (.iconst 0, 1) := by decide +kernel
theorem d_P_exists_12 : decode prog_3_method_2_code 12 = .ok (.ireturn, 1) := by decide +kernel
theorem d_P_changeIfLess_0 : decode prog_3_method_5_code 0 = .ok (.aload_n 0, 1) := by decide +kernel
theorem d_P_changeIfLess_1 : decode prog_3_method_5_code 1 = .ok (.iload_n 1, 1) := by decide +kernel
theorem d_P_changeIfLess_2 : decode prog_3_method_5_code 2 = .ok (.iload_n 2, 1) := by decide +kernel
theorem d_P_changeIfLess_3 : decode prog_3_method_5_code 3 = .ok (.invokevirtual 67, 3) := by decide +kernel
theorem d_P_changeIfLess_6 : decode prog_3_method_5_code 6 = .ok (.aload_n 3, 1) := by decide +kernel
theorem d_P_changeIfLess_7 : decode prog_3_method_5_code 7 = .ok (.aload_n 0, 1) := by decide +kernel
theorem d_P_changeIfLess_8 : decode prog_3_method_5_code 8 = .ok (.getfield 9, 3) := by decide +kernel
theorem d_P_changeIfLess_11 : decode prog_3_method_5_code 11 = .ok (.aload_n 0, 1) := by decide +kernel
theorem d_P_changeIfLess_12 : decode prog_3_method_5_code 12 = .ok (.getfield 21, 3) := by decide +kernel
theorem d_P_changeIfLess_15 : decode prog_3_method_5_code 15 = .ok (.invokevirtual 48, 3) := by decide +kernel
theorem d_P_changeIfLess_18 : decode prog_3_method_5_code 18 = .ok (.lstore 4, 2) := by decide +kernel
theorem d_P_changeIfLess_20 : decode prog_3_method_5_code 20 = .ok (.lload 4, 2) := by decide +kernel
theorem d_P_changeIfLess_22 : decode prog_3_method_5_code 22 = .ok (.aload_n 0, 1) := by decide +kernel
theorem d_P_changeIfLess_23 : decode prog_3_method_5_code 23 = .ok (.getfield 28, 3) := by decide +kernel
theorem d_P_changeIfLess_26 : decode prog_3_method_5_code 26 = .ok (.lcmp, 1) := by decide +kernel
theorem d_P_changeIfLess_27 : decode prog_3_method_5_code 27 = .ok (.ifCond .ge 11, 3) := by decide +kernel
theorem d_P_changeIfLess_30 : decode prog_3_method_5_code 30 = .ok (.aload_n 0, 1) := by decide +kernel
theorem d_P_changeIfLess_31 : decode prog_3_method_5_code 31 = .ok (.lload 4, 2) := by decide +kernel
theorem d_P_changeIfLess_33 : decode prog_3_method_5_code 33 = .ok (.putfield 28, 3) := by decide +kernel
theorem d_P_changeIfLess_36 : decode prog_3_method_5_code 36 = .ok (.iconst 1, 1) := by decide +kernel
theorem d_P_changeIfLess_37 : decode prog_3_method_5_code 37 = .ok (.ireturn, 1) := by decide +kernel
theorem d_P_changeIfLess_38 : decode prog_3_method_5_code 38 = .ok (.aload_n 0, 1) := by decide +kernel
theorem d_P_changeIfLess_39 : decode prog_3_method_5_code 39 = .ok (.iload_n 1, 1) := by decide +kernel
theorem d_P_changeIfLess_40 : decode prog_3_method_5_code 40 = .ok (.iload_n 2, 1) := by decide +kernel
theorem d_P_changeIfLess_41 : decode prog_3_method_5_code 41 = .ok (.invokevirtual 67, 3) := by decide +kernel
theorem d_P_changeIfLess_44 : decode prog_3_method_5_code 44 = .ok (.iconst 0, 1) := by decide +kernel
theorem d_P_changeIfLess_45 : decode prog_3_method_5_code 45 = .ok (.ireturn, 1) := by decide +kernel
theorem d_P_swap_0 : decode prog_3_method_9_code 0 = .ok (.aload_n 0, 1) := by decide +kernel
theorem d_P_swap_1 : decode prog_3_method_9_code 1 = .ok (.getfield 9, 3) := by decide +kernel
theorem d_P_swap_4 : decode prog_3_method_9_code 4 = .ok (.iload_n 1, 1) := by decide +kernel
theorem d_P_swap_5 : decode prog_3_method_9_code 5 = .ok (.iaload, 1) := by decide +kernel
theorem d_P_swap_6 : decode prog_3_method_9_code 6 = .ok (.istore_n 3, 1) := by decide +kernel
theorem d_P_swap_7 : decode prog_3_method_9_code 7 = .ok (.aload_n 0, 1) := by decide +kernel
theorem d_P_swap_8 : decode prog_3_method_9_code 8 = .ok (.getfield 9, 3) := by decide +kernel
theorem d_P_swap_11 : decode prog_3_method_9_code 11 = .ok (.iload_n 1, 1) := by decide +kernel
theorem d_P_swap_12 : decode prog_3_method_9_code 12 = .ok (.aload_n 0, 1) := by decide +kernel
theorem d_P_swap_13 : decode prog_3_method_9_code 13 = .ok (.getfield 9, 3) := by decide +kernel
theorem d_P_swap_16 : decode prog_3_method_9_code 16 = .ok (.iload_n 2, 1) := by decide +kernel
theorem d_P_swap_17 : decode prog_3_method_9_code 17 = .ok (.iaload, 1) := by decide +kernel
theorem d_P_swap_18 : decode prog_3_method_9_code 18 = .ok (.iastore, 1) := by decide +kernel
theorem d_P_swap_19 : decode prog_3_method_9_code 19 = .ok (.aload_n 0, 1) := by decide +kernel
theorem d_P_swap_20 : decode prog_3_method_9_code 20 = .ok (.getfield 9, 3) := by decide +kernel
theorem d_P_swap_23 : decode prog_3_method_9_code 23 = .ok (.iload_n 2, 1) := by decide +kernel
theorem d_P_swap_24 : decode prog_3_method_9_code 24 = .ok (.iload_n 3, 1) := by decide +kernel
theorem d_P_swap_25 : decode prog_3_method_9_code 25 = .ok (.iastore, 1) := by decide +kernel
theorem d_P_swap_26 : decode prog_3_method_9_code 26 = .ok (.return_, 1) := by decide +kernel
theorem d_P_layAllBut_0 : decode prog_3_method_6_code 0 = .ok (.aload_n 2, 1) := by decide +kernel
theorem d_P_layAllBut_1 : decode prog_3_method_6_code 1 = .ok (.invokevirtual 71, 3) := by decide +kernel
theorem d_P_layAllBut_4 : decode prog_3_method_6_code 4 = .ok (.iconst 0, 1) := by decide +kernel
theorem d_P_layAllBut_5 : decode prog_3_method_6_code 5 = .ok (.istore_n 3, 1) := by decide +kernel
theorem d_P_layAllBut_6 : decode prog_3_method_6_code 6 = .ok (.iload_n 3, 1) := by decide +kernel
theorem d_P_layAllBut_7 : decode prog_3_method_6_code 7 = .ok (.aload_n 0, 1) := by decide +kernel
theorem d_P_layAllBut_8 : decode prog_3_method_6_code 8 = .ok (.getfield 21, 3) := by decide +kernel
theorem d_P_layAllBut_11 : decode prog_3_method_6_code 11 = .ok (.if_icmp .ge 73, 3) := by decide +kernel
theorem d_P_layAllBut_14 : decode prog_3_method_6_code 14 = .ok (.iconst 0, 1) := by decide +kernel
theorem d_P_layAllBut_15 : decode prog_3_method_6_code 15 = .ok (.istore 4, 2) := by decide +kernel
theorem d_P_layAllBut_17 : decode prog_3_method_6_code 17 = .ok (.iload_n 3, 1) := by decide +kernel
theorem d_P_layAllBut_18 : decode prog_3_method_6_code 18 = .ok (.iload_n 1, 1) := by decide +kernel
theorem d_P_layAllBut_19 : decode prog_3_method_6_code 19 = .ok (.if_icmp .eq 59, 3) := by decide +kernel
theorem d_P_layAllBut_22 : decode prog_3_method_6_code 22 = .ok (.iload 4, 2) := by decide +kernel
theorem d_P_layAllBut_24 : decode prog_3_method_6_code 24 = .ok (.aload_n 0, 1) := by decide +kernel
theorem d_P_layAllBut_25 : decode prog_3_method_6_code 25 = .ok (.getfield 41, 3) := by decide +kernel
theorem d_P_layAllBut_28 : decode prog_3_method_6_code 28 = .ok (.getfield 74, 3) := by decide +kernel
theorem d_P_layAllBut_31 : decode prog_3_method_6_code 31 = .ok (.iload_n 3, 1) := by decide +kernel
theorem d_P_layAllBut_32 : decode prog_3_method_6_code 32 = .ok (.iaload, 1) := by decide +kernel
theorem d_P_layAllBut_33 : decode prog_3_method_6_code 33 = .ok (.if_icmp .ge 45, 3) := by decide +kernel
theorem d_P_layAllBut_36 : decode prog_3_method_6_code 36 = .ok (.aload_n 0, 1) := by decide +kernel
theorem d_P_layAllBut_37 : decode prog_3_method_6_code 37 = .ok (.getfield 41, 3) := by decide +kernel
theorem d_P_layAllBut_40 : decode prog_3_method_6_code 40 = .ok (.getfield 77, 3) := by decide +kernel
theorem d_P_layAllBut_43 : decode prog_3_method_6_code 43 = .ok (.iload_n 3, 1) := by decide +kernel
theorem d_P_layAllBut_44 : decode prog_3_method_6_code 44 = .ok (.iconst 4, 1) := by decide +kernel
theorem d_P_layAllBut_45 : decode prog_3_method_6_code 45 = .ok (.imul, 1) := by decide +kernel
theorem d_P_layAllBut_46 : decode prog_3_method_6_code 46 = .ok (.iload 4, 2) := by decide +kernel
theorem d_P_layAllBut_48 : decode prog_3_method_6_code 48 = .ok (.iadd, 1) := by decide +kernel
theorem d_P_layAllBut_49 : decode prog_3_method_6_code 49 = .ok (.iaload, 1) := by decide +kernel
theorem d_P_layAllBut_50 : decode prog_3_method_6_code 50 = .ok (.istore 5, 2) := by decide +kernel
theorem d_P_layAllBut_52 : decode prog_3_method_6_code 52 = .ok (.aload_n 2, 1) := by decide +kernel
theorem d_P_layAllBut_53 : decode prog_3_method_6_code 53 = .ok (.iload 5, 2) := by decide +kernel
theorem d_P_layAllBut_55 : decode prog_3_method_6_code 55 = .ok (.aload_n 0, 1) := by decide +kernel
theorem d_P_layAllBut_56 : decode prog_3_method_6_code 56 = .ok (.getfield 18, 3) := by decide +kernel
theorem d_P_layAllBut_59 : decode prog_3_method_6_code 59 = .ok (.iload 5, 2) := by decide +kernel
theorem d_P_layAllBut_61 : decode prog_3_method_6_code 61 = .ok (.iaload, 1) := by decide +kernel
theorem d_P_layAllBut_62 : decode prog_3_method_6_code 62 = .ok (.aload_n 0, 1) := by decide +kernel
theorem d_P_layAllBut_63 : decode prog_3_method_6_code 63 = .ok (.getfield 15, 3) := by decide +kernel
theorem d_P_layAllBut_66 : decode prog_3_method_6_code 66 = .ok (.iload 5, 2) := by decide +kernel
theorem d_P_layAllBut_68 : decode prog_3_method_6_code 68 = .ok (.iaload, 1) := by decide +kernel
theorem d_P_layAllBut_69 : decode prog_3_method_6_code 69 = .ok (.invokevirtual 80, 3) := by decide +kernel
theorem d_P_layAllBut_72 : decode prog_3_method_6_code 72 = .ok (.iinc 4 1, 3) := by decide +kernel
theorem d_P_layAllBut_75 : decode prog_3_method_6_code 75 = .ok (.goto (-58), 3) := by decide +kernel
theorem d_P_layAllBut_78 : decode prog_3_method_6_code 78 = .ok (.iinc 3 1, 3) := by decide +kernel
theorem d_P_layAllBut_81 : decode prog_3_method_6_code 81 = .ok (.goto (-75), 3) := by decide +kernel
theorem d_P_layAllBut_84 : decode prog_3_method_6_code 84 = .ok (.return_, 1) := by decide +kernel
theorem d_P_breaks_0 : decode prog_3_method_7_code 0 = .ok (.iload_n 1, 1) := by decide +kernel
theorem d_P_breaks_1 : decode prog_3_method_7_code 1 = .ok (.tableswitch 63 1 4 #[31, 45, 51, 57], 31) := by decide +kernel
theorem d_P_breaks_32 : decode prog_3_method_7_code 32 = .ok (.aload_n 0, 1) := by decide +kernel
theorem d_P_breaks_33 : decode prog_3_method_7_code 33 = .ok (.iload_n 2, 1) := by decide +kernel
theorem d_P_breaks_34 : decode prog_3_method_7_code 34 = .ok (.invokevirtual 55, 3) := by decide +kernel
theorem d_P_breaks_37 : decode prog_3_method_7_code 37 = .ok (.ifCond .ne 7, 3) := by decide +kernel
theorem d_P_breaks_40 : decode prog_3_method_7_code 40 = .ok (.iconst 1, 1) := by decide +kernel
theorem d_P_breaks_41 : decode prog_3_method_7_code 41 = .ok (.goto 4, 3) := by decide +kernel
theorem d_P_breaks_44 : decode prog_3_method_7_code 44 = .ok (.iconst 0, 1) := by decide +kernel
theorem d_P_breaks_45 : decode prog_3_method_7_code 45 = .ok (.ireturn, 1) := by decide +kernel
theorem d_P_breaks_46 : decode prog_3_method_7_code 46 = .ok (.aload_n 0, 1) := by decide +kernel
theorem d_P_breaks_47 : decode prog_3_method_7_code 47 = .ok (.iload_n 2, 1) := by decide +kernel
theorem d_P_breaks_48 : decode prog_3_method_7_code 48 = .ok (.invokevirtual 84, 3) := by decide +kernel
theorem d_P_breaks_51 : decode prog_3_method_7_code 51 = .ok (.ireturn, 1) := by decide +kernel
theorem d_P_breaks_52 : decode prog_3_method_7_code 52 = .ok (.aload_n 0, 1) := by decide +kernel
theorem d_P_breaks_53 : decode prog_3_method_7_code 53 = .ok (.iload_n 2, 1) := by decide +kernel
theorem d_P_breaks_54 : decode prog_3_method_7_code 54 = .ok (.invokevirtual 87, 3) := by decide +kernel
theorem d_P_breaks_57 : decode prog_3_method_7_code 57 = .ok (.ireturn, 1) := by decide +kernel
theorem d_P_breaks_58 : decode prog_3_method_7_code 58 = .ok (.aload_n 0, 1) := by decide +kernel
theorem d_P_breaks_59 : decode prog_3_method_7_code 59 = .ok (.iload_n 2, 1) := by decide +kernel
theorem d_P_breaks_60 : decode prog_3_method_7_code 60 = .ok (.invokevirtual 90, 3) := by decide +kernel
theorem d_P_breaks_63 : decode prog_3_method_7_code 63 = .ok (.ireturn, 1) := by decide +kernel
theorem d_P_breaks_64 : decode prog_3_method_7_code 64 = .ok (.iconst 0, 1) := by decide +kernel
theorem d_P_breaks_65 : decode prog_3_method_7_code 65 = .ok (.ireturn, 1) := by decide +kernel
theorem d_P_beginsTooEarly_0 : decode prog_3_method_11_code 0 = .ok (.aload_n 0, 1) := by decide +kernel
theorem d_P_beginsTooEarly_1 : decode prog_3_method_11_code 1 = .ok (.getfield 41, 3) := by decide +kernel
theorem d_P_beginsTooEarly_4 : decode prog_3_method_11_code 4 = .ok (.getfield 103, 3) := by decide +kernel
theorem d_P_beginsTooEarly_7 : decode prog_3_method_11_code 7 = .ok (.iload_n 1, 1) := by decide +kernel
theorem d_P_beginsTooEarly_8 : decode prog_3_method_11_code 8 = .ok (.iaload, 1) := by decide +kernel
theorem d_P_beginsTooEarly_9 : decode prog_3_method_11_code 9 = .ok (.istore_n 2, 1) := by decide +kernel
theorem d_P_beginsTooEarly_10 : decode prog_3_method_11_code 10 = .ok (.iload_n 2, 1) := by decide +kernel
theorem d_P_beginsTooEarly_11 : decode prog_3_method_11_code 11 = .ok (.iconst (-1), 1) := by decide +kernel
theorem d_P_beginsTooEarly_12 : decode prog_3_method_11_code 12 = .ok (.if_icmp .eq 31, 3) := by decide +kernel
theorem d_P_beginsTooEarly_15 : decode prog_3_method_11_code 15 = .ok (.aload_n 0, 1) := by decide +kernel
theorem d_P_beginsTooEarly_16 : decode prog_3_method_11_code 16 = .ok (.getfield 15, 3) := by decide +kernel
theorem d_P_beginsTooEarly_19 : decode prog_3_method_11_code 19 = .ok (.iload_n 1, 1) := by decide +kernel
theorem d_P_beginsTooEarly_20 : decode prog_3_method_11_code 20 = .ok (.iaload, 1) := by decide +kernel
theorem d_P_beginsTooEarly_21 : decode prog_3_method_11_code 21 = .ok (.aload_n 0, 1) := by decide +kernel
theorem d_P_beginsTooEarly_22 : decode prog_3_method_11_code 22 = .ok (.iload_n 2, 1) := by decide +kernel
theorem d_P_beginsTooEarly_23 : decode prog_3_method_11_code 23 = .ok (.invokevirtual 97, 3) := by decide +kernel
theorem d_P_beginsTooEarly_26 : decode prog_3_method_11_code 26 = .ok (.aload_n 0, 1) := by decide +kernel
theorem d_P_beginsTooEarly_27 : decode prog_3_method_11_code 27 = .ok (.getfield 41, 3) := by decide +kernel
theorem d_P_beginsTooEarly_30 : decode prog_3_method_11_code 30 = .ok (.getfield 106, 3) := by decide +kernel
theorem d_P_beginsTooEarly_33 : decode prog_3_method_11_code 33 = .ok (.iload_n 2, 1) := by decide +kernel
theorem d_P_beginsTooEarly_34 : decode prog_3_method_11_code 34 = .ok (.iaload, 1) := by decide +kernel
theorem d_P_beginsTooEarly_35 : decode prog_3_method_11_code 35 = .ok (.iadd, 1) := by decide +kernel
theorem d_P_beginsTooEarly_36 : decode prog_3_method_11_code 36 = .ok (.if_icmp .ge 7, 3) := by decide +kernel
theorem d_P_beginsTooEarly_39 : decode prog_3_method_11_code 39 = .ok (.iconst 1, 1) := by decide +kernel
theorem d_P_beginsTooEarly_40 : decode prog_3_method_11_code 40 = .ok (.goto 4, 3) := by decide +kernel
theorem d_P_beginsTooEarly_43 : decode prog_3_method_11_code 43 = .ok (.iconst 0, 1) := by decide +kernel
theorem d_P_beginsTooEarly_44 : decode prog_3_method_11_code 44 = .ok (.ireturn, 1) := by decide +kernel
theorem d_P_stepEnd_0 : decode prog_3_method_10_code 0 = .ok (.aload_n 0, 1) := by decide +kernel
theorem d_P_stepEnd_1 : decode prog_3_method_10_code 1 = .ok (.getfield 15, 3) := by decide +kernel
theorem d_P_stepEnd_4 : decode prog_3_method_10_code 4 = .ok (.iload_n 1, 1) := by decide +kernel
theorem d_P_stepEnd_5 : decode prog_3_method_10_code 5 = .ok (.iaload, 1) := by decide +kernel
theorem d_P_stepEnd_6 : decode prog_3_method_10_code 6 = .ok (.aload_n 0, 1) := by decide +kernel
theorem d_P_stepEnd_7 : decode prog_3_method_10_code 7 = .ok (.getfield 41, 3) := by decide +kernel
theorem d_P_stepEnd_10 : decode prog_3_method_10_code 10 = .ok (.getfield 100, 3) := by decide +kernel
theorem d_P_stepEnd_13 : decode prog_3_method_10_code 13 = .ok (.iload_n 1, 1) := by decide +kernel
theorem d_P_stepEnd_14 : decode prog_3_method_10_code 14 = .ok (.iaload, 1) := by decide +kernel
theorem d_P_stepEnd_15 : decode prog_3_method_10_code 15 = .ok (.iadd, 1) := by decide +kernel
theorem d_P_stepEnd_16 : decode prog_3_method_10_code 16 = .ok (.ireturn, 1) := by decide +kernel
theorem d_P_sharesWithStep_0 : decode prog_3_method_12_code 0 = .ok (.iconst 0, 1) := by decide +kernel
theorem d_P_sharesWithStep_1 : decode prog_3_method_12_code 1 = .ok (.istore_n 2, 1) := by decide +kernel
theorem d_P_sharesWithStep_2 : decode prog_3_method_12_code 2 = .ok (.iload_n 2, 1) := by decide +kernel
theorem d_P_sharesWithStep_3 : decode prog_3_method_12_code 3 = .ok (.iload_n 1, 1) := by decide +kernel
theorem d_P_sharesWithStep_4 : decode prog_3_method_12_code 4 = .ok (.if_icmp .ge 54, 3) := by decide +kernel
theorem d_P_sharesWithStep_7 : decode prog_3_method_12_code 7 = .ok (.aload_n 0, 1) := by decide +kernel
theorem d_P_sharesWithStep_8 : decode prog_3_method_12_code 8 = .ok (.getfield 18, 3) := by decide +kernel
theorem d_P_sharesWithStep_11 : decode prog_3_method_12_code 11 = .ok (.iload_n 2, 1) := by decide +kernel
theorem d_P_sharesWithStep_12 : decode prog_3_method_12_code 12 = .ok (.iaload, 1) := by decide +kernel
theorem d_P_sharesWithStep_13 : decode prog_3_method_12_code 13 = .ok (.aload_n 0, 1) := by decide +kernel
theorem d_P_sharesWithStep_14 : decode prog_3_method_12_code 14 = .ok (.getfield 18, 3) := by decide +kernel
theorem d_P_sharesWithStep_17 : decode prog_3_method_12_code 17 = .ok (.iload_n 1, 1) := by decide +kernel
theorem d_P_sharesWithStep_18 : decode prog_3_method_12_code 18 = .ok (.iaload, 1) := by decide +kernel
theorem d_P_sharesWithStep_19 : decode prog_3_method_12_code 19 = .ok (.if_icmp .ne 33, 3) := by decide +kernel
theorem d_P_sharesWithStep_22 : decode prog_3_method_12_code 22 = .ok (.aload_n 0, 1) := by decide +kernel
theorem d_P_sharesWithStep_23 : decode prog_3_method_12_code 23 = .ok (.getfield 15, 3) := by decide +kernel
theorem d_P_sharesWithStep_26 : decode prog_3_method_12_code 26 = .ok (.iload_n 1, 1) := by decide +kernel
theorem d_P_sharesWithStep_27 : decode prog_3_method_12_code 27 = .ok (.iaload, 1) := by decide +kernel
theorem d_P_sharesWithStep_28 : decode prog_3_method_12_code 28 = .ok (.aload_n 0, 1) := by decide +kernel
theorem d_P_sharesWithStep_29 : decode prog_3_method_12_code 29 = .ok (.iload_n 1, 1) := by decide +kernel
theorem d_P_sharesWithStep_30 : decode prog_3_method_12_code 30 = .ok (.invokevirtual 97, 3) := by decide +kernel
theorem d_P_sharesWithStep_33 : decode prog_3_method_12_code 33 = .ok (.aload_n 0, 1) := by decide +kernel
theorem d_P_sharesWithStep_34 : decode prog_3_method_12_code 34 = .ok (.getfield 15, 3) := by decide +kernel
theorem d_P_sharesWithStep_37 : decode prog_3_method_12_code 37 = .ok (.iload_n 2, 1) := by decide +kernel
theorem d_P_sharesWithStep_38 : decode prog_3_method_12_code 38 = .ok (.iaload, 1) := by decide +kernel
theorem d_P_sharesWithStep_39 : decode prog_3_method_12_code 39 = .ok (.aload_n 0, 1) := by decide +kernel
theorem d_P_sharesWithStep_40 : decode prog_3_method_12_code 40 = .ok (.iload_n 2, 1) := by decide +kernel
theorem d_P_sharesWithStep_41 : decode prog_3_method_12_code 41 = .ok (.invokevirtual 97, 3) := by decide +kernel
theorem d_P_sharesWithStep_44 : decode prog_3_method_12_code 44 = .ok (.invokestatic 109, 3) := by decide +kernel
theorem d_P_sharesWithStep_47 : decode prog_3_method_12_code 47 = .ok (.ifCond .eq 5, 3) := by decide +kernel
theorem d_P_sharesWithStep_50 : decode prog_3_method_12_code 50 = .ok (.iconst 1, 1) := by decide +kernel
theorem d_P_sharesWithStep_51 : decode prog_3_method_12_code 51 = .ok (.ireturn, 1) := by decide +kernel
theorem d_P_sharesWithStep_52 : decode prog_3_method_12_code 52 = .ok (.iinc 2 1, 3) := by decide +kernel
theorem d_P_sharesWithStep_55 : decode prog_3_method_12_code 55 = .ok (.goto (-53), 3) := by decide +kernel
theorem d_P_sharesWithStep_58 : decode prog_3_method_12_code 58 = .ok (.iconst 0, 1) := by decide +kernel
theorem d_P_sharesWithStep_59 : decode prog_3_method_12_code 59 = .ok (.ireturn, 1) := by decide +kernel
theorem d_P_sharesWithSpan_0 : decode prog_3_method_13_code 0 = .ok (.aload_n 0, 1) := by decide +kernel
theorem d_P_sharesWithSpan_1 : decode prog_3_method_13_code 1 = .ok (.getfield 18, 3) := by decide +kernel
theorem d_P_sharesWithSpan_4 : decode prog_3_method_13_code 4 = .ok (.iload_n 1, 1) := by decide +kernel
theorem d_P_sharesWithSpan_5 : decode prog_3_method_13_code 5 = .ok (.iaload, 1) := by decide +kernel
theorem d_P_sharesWithSpan_6 : decode prog_3_method_13_code 6 = .ok (.istore_n 2, 1) := by decide +kernel
theorem d_P_sharesWithSpan_7 : decode prog_3_method_13_code 7 = .ok (.iload_n 2, 1) := by decide +kernel
theorem d_P_sharesWithSpan_8 : decode prog_3_method_13_code 8 = .ok (.iconst (-1), 1) := by decide +kernel
theorem d_P_sharesWithSpan_9 : decode prog_3_method_13_code 9 = .ok (.if_icmp .ne 5, 3) := by decide +kernel
theorem d_P_sharesWithSpan_12 : decode prog_3_method_13_code 12 = .ok (.iconst 0, 1) := by decide +kernel
theorem d_P_sharesWithSpan_13 : decode prog_3_method_13_code 13 = .ok (.ireturn, 1) := by decide +kernel
theorem d_P_sharesWithSpan_14 : decode prog_3_method_13_code 14 = .ok (.iconst 0, 1) := by decide +kernel
theorem d_P_sharesWithSpan_15 : decode prog_3_method_13_code 15 = .ok (.istore_n 3, 1) := by decide +kernel
theorem d_P_sharesWithSpan_16 : decode prog_3_method_13_code 16 = .ok (.iload_n 3, 1) := by decide +kernel
theorem d_P_sharesWithSpan_17 : decode prog_3_method_13_code 17 = .ok (.aload_n 0, 1) := by decide +kernel
theorem d_P_sharesWithSpan_18 : decode prog_3_method_13_code 18 = .ok (.getfield 41, 3) := by decide +kernel
theorem d_P_sharesWithSpan_21 : decode prog_3_method_13_code 21 = .ok (.getfield 113, 3) := by decide +kernel
theorem d_P_sharesWithSpan_24 : decode prog_3_method_13_code 24 = .ok (.iload_n 2, 1) := by decide +kernel
theorem d_P_sharesWithSpan_25 : decode prog_3_method_13_code 25 = .ok (.iaload, 1) := by decide +kernel
theorem d_P_sharesWithSpan_26 : decode prog_3_method_13_code 26 = .ok (.if_icmp .ge 56, 3) := by decide +kernel
theorem d_P_sharesWithSpan_29 : decode prog_3_method_13_code 29 = .ok (.iload_n 2, 1) := by decide +kernel
theorem d_P_sharesWithSpan_30 : decode prog_3_method_13_code 30 = .ok (.bipush 8, 2) := by decide +kernel
theorem d_P_sharesWithSpan_32 : decode prog_3_method_13_code 32 = .ok (.imul, 1) := by decide +kernel
theorem d_P_sharesWithSpan_33 : decode prog_3_method_13_code 33 = .ok (.iload_n 3, 1) := by decide +kernel
theorem d_P_sharesWithSpan_34 : decode prog_3_method_13_code 34 = .ok (.iadd, 1) := by decide +kernel
theorem d_P_sharesWithSpan_35 : decode prog_3_method_13_code 35 = .ok (.istore 4, 2) := by decide +kernel
theorem d_P_sharesWithSpan_37 : decode prog_3_method_13_code 37 = .ok (.aload_n 0, 1) := by decide +kernel
theorem d_P_sharesWithSpan_38 : decode prog_3_method_13_code 38 = .ok (.getfield 15, 3) := by decide +kernel
theorem d_P_sharesWithSpan_41 : decode prog_3_method_13_code 41 = .ok (.iload_n 1, 1) := by decide +kernel
theorem d_P_sharesWithSpan_42 : decode prog_3_method_13_code 42 = .ok (.iaload, 1) := by decide +kernel
theorem d_P_sharesWithSpan_43 : decode prog_3_method_13_code 43 = .ok (.aload_n 0, 1) := by decide +kernel
theorem d_P_sharesWithSpan_44 : decode prog_3_method_13_code 44 = .ok (.iload_n 1, 1) := by decide +kernel
theorem d_P_sharesWithSpan_45 : decode prog_3_method_13_code 45 = .ok (.invokevirtual 97, 3) := by decide +kernel
theorem d_P_sharesWithSpan_48 : decode prog_3_method_13_code 48 = .ok (.aload_n 0, 1) := by decide +kernel
theorem d_P_sharesWithSpan_49 : decode prog_3_method_13_code 49 = .ok (.getfield 41, 3) := by decide +kernel
theorem d_P_sharesWithSpan_52 : decode prog_3_method_13_code 52 = .ok (.getfield 116, 3) := by decide +kernel
theorem d_P_sharesWithSpan_55 : decode prog_3_method_13_code 55 = .ok (.iload 4, 2) := by decide +kernel
theorem d_P_sharesWithSpan_57 : decode prog_3_method_13_code 57 = .ok (.iaload, 1) := by decide +kernel
theorem d_P_sharesWithSpan_58 : decode prog_3_method_13_code 58 = .ok (.aload_n 0, 1) := by decide +kernel
theorem d_P_sharesWithSpan_59 : decode prog_3_method_13_code 59 = .ok (.getfield 41, 3) := by decide +kernel
theorem d_P_sharesWithSpan_62 : decode prog_3_method_13_code 62 = .ok (.getfield 119, 3) := by decide +kernel
theorem d_P_sharesWithSpan_65 : decode prog_3_method_13_code 65 = .ok (.iload 4, 2) := by decide +kernel
theorem d_P_sharesWithSpan_67 : decode prog_3_method_13_code 67 = .ok (.iaload, 1) := by decide +kernel
theorem d_P_sharesWithSpan_68 : decode prog_3_method_13_code 68 = .ok (.invokestatic 109, 3) := by decide +kernel
theorem d_P_sharesWithSpan_71 : decode prog_3_method_13_code 71 = .ok (.ifCond .eq 5, 3) := by decide +kernel
theorem d_P_sharesWithSpan_74 : decode prog_3_method_13_code 74 = .ok (.iconst 1, 1) := by decide +kernel
theorem d_P_sharesWithSpan_75 : decode prog_3_method_13_code 75 = .ok (.ireturn, 1) := by decide +kernel
theorem d_P_sharesWithSpan_76 : decode prog_3_method_13_code 76 = .ok (.iinc 3 1, 3) := by decide +kernel
theorem d_P_sharesWithSpan_79 : decode prog_3_method_13_code 79 = .ok (.goto (-63), 3) := by decide +kernel
theorem d_P_sharesWithSpan_82 : decode prog_3_method_13_code 82 = .ok (.iconst 0, 1) := by decide +kernel
theorem d_P_sharesWithSpan_83 : decode prog_3_method_13_code 83 = .ok (.ireturn, 1) := by decide +kernel
theorem d_P_endOf_0 : decode prog_3_method_8_code 0 = .ok (.aload_n 0, 1) := by decide +kernel
theorem d_P_endOf_1 : decode prog_3_method_8_code 1 = .ok (.getfield 41, 3) := by decide +kernel
theorem d_P_endOf_4 : decode prog_3_method_8_code 4 = .ok (.iload_n 1, 1) := by decide +kernel
theorem d_P_endOf_5 : decode prog_3_method_8_code 5 = .ok (.invokevirtual 93, 3) := by decide +kernel
theorem d_P_endOf_8 : decode prog_3_method_8_code 8 = .ok (.istore_n 2, 1) := by decide +kernel
theorem d_P_endOf_9 : decode prog_3_method_8_code 9 = .ok (.aload_n 0, 1) := by decide +kernel
theorem d_P_endOf_10 : decode prog_3_method_8_code 10 = .ok (.iload_n 2, 1) := by decide +kernel
theorem d_P_endOf_11 : decode prog_3_method_8_code 11 = .ok (.invokevirtual 55, 3) := by decide +kernel
theorem d_P_endOf_14 : decode prog_3_method_8_code 14 = .ok (.ifCond .eq 11, 3) := by decide +kernel
theorem d_P_endOf_17 : decode prog_3_method_8_code 17 = .ok (.aload_n 0, 1) := by decide +kernel
theorem d_P_endOf_18 : decode prog_3_method_8_code 18 = .ok (.iload_n 2, 1) := by decide +kernel
theorem d_P_endOf_19 : decode prog_3_method_8_code 19 = .ok (.invokevirtual 97, 3) := by decide +kernel
theorem d_P_endOf_22 : decode prog_3_method_8_code 22 = .ok (.goto 4, 3) := by decide +kernel
theorem d_P_endOf_25 : decode prog_3_method_8_code 25 = .ok (.iconst 0, 1) := by decide +kernel
theorem d_P_endOf_26 : decode prog_3_method_8_code 26 = .ok (.ireturn, 1) := by decide +kernel
