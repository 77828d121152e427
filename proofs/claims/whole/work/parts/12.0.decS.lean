/-! decode rows of WorkPlans$Shop -/
theorem d_S_init_0 : decode prog_5_method_1_code 0 = .ok (.aload_n 0, 1) := by decide +kernel
theorem d_S_init_1 : decode prog_5_method_1_code 1 = .ok (.invokespecial 3, 3) := by decide +kernel
theorem d_S_init_4 : decode prog_5_method_1_code 4 = .ok (.aload_n 0, 1) := by decide +kernel
theorem d_S_init_5 : decode prog_5_method_1_code 5 = .ok (.iconst 0, 1) := by decide +kernel
theorem d_S_init_6 : decode prog_5_method_1_code 6 = .ok (.putfield 9, 3) := by decide +kernel
theorem d_S_init_9 : decode prog_5_method_1_code 9 = .ok (.aload_n 0, 1) := by decide +kernel
theorem d_S_init_10 : decode prog_5_method_1_code 10 = .ok (.bipush 6, 2) := by decide +kernel
theorem d_S_init_12 : decode prog_5_method_1_code 12 = .ok (.newarray .int, 2) := by decide +kernel
theorem d_S_init_14 : decode prog_5_method_1_code 14 = .ok (.putfield 15, 3) := by decide +kernel
theorem d_S_init_17 : decode prog_5_method_1_code 17 = .ok (.aload_n 0, 1) := by decide +kernel
theorem d_S_init_18 : decode prog_5_method_1_code 18 = .ok (.bipush 6, 2) := by decide +kernel
theorem d_S_init_20 : decode prog_5_method_1_code 20 = .ok (.newarray .int, 2) := by decide +kernel
theorem d_S_init_22 : decode prog_5_method_1_code 22 = .ok (.putfield 19, 3) := by decide +kernel
theorem d_S_init_25 : decode prog_5_method_1_code 25 = .ok (.aload_n 0, 1) := by decide +kernel
theorem d_S_init_26 : decode prog_5_method_1_code 26 = .ok (.bipush 48, 2) := by decide +kernel
theorem d_S_init_28 : decode prog_5_method_1_code 28 = .ok (.newarray .int, 2) := by decide +kernel
theorem d_S_init_30 : decode prog_5_method_1_code 30 = .ok (.putfield 22, 3) := by decide +kernel
theorem d_S_init_33 : decode prog_5_method_1_code 33 = .ok (.aload_n 0, 1) := by decide +kernel
theorem d_S_init_34 : decode prog_5_method_1_code 34 = .ok (.bipush 48, 2) := by decide +kernel
theorem d_S_init_36 : decode prog_5_method_1_code 36 = .ok (.newarray .int, 2) := by decide +kernel
theorem d_S_init_38 : decode prog_5_method_1_code 38 = .ok (.putfield 25, 3) := by decide +kernel
theorem d_S_init_41 : decode prog_5_method_1_code 41 = .ok (.aload_n 0, 1) := by decide +kernel
theorem d_S_init_42 : decode prog_5_method_1_code 42 = .ok (.iconst 0, 1) := by decide +kernel
theorem d_S_init_43 : decode prog_5_method_1_code 43 = .ok (.putfield 28, 3) := by decide +kernel
theorem d_S_init_46 : decode prog_5_method_1_code 46 = .ok (.aload_n 0, 1) := by decide +kernel
theorem d_S_init_47 : decode prog_5_method_1_code 47 = .ok (.bipush 6, 2) := by decide +kernel
theorem d_S_init_49 : decode prog_5_method_1_code 49 = .ok (.newarray .int, 2) := by decide +kernel
theorem d_S_init_51 : decode prog_5_method_1_code 51 = .ok (.putfield 31, 3) := by decide +kernel
theorem d_S_init_54 : decode prog_5_method_1_code 54 = .ok (.aload_n 0, 1) := by decide +kernel
theorem d_S_init_55 : decode prog_5_method_1_code 55 = .ok (.bipush 6, 2) := by decide +kernel
theorem d_S_init_57 : decode prog_5_method_1_code 57 = .ok (.newarray .int, 2) := by decide +kernel
theorem d_S_init_59 : decode prog_5_method_1_code 59 = .ok (.putfield 34, 3) := by decide +kernel
theorem d_S_init_62 : decode prog_5_method_1_code 62 = .ok (.aload_n 0, 1) := by decide +kernel
theorem d_S_init_63 : decode prog_5_method_1_code 63 = .ok (.bipush 6, 2) := by decide +kernel
theorem d_S_init_65 : decode prog_5_method_1_code 65 = .ok (.newarray .int, 2) := by decide +kernel
theorem d_S_init_67 : decode prog_5_method_1_code 67 = .ok (.putfield 37, 3) := by decide +kernel
theorem d_S_init_70 : decode prog_5_method_1_code 70 = .ok (.aload_n 0, 1) := by decide +kernel
theorem d_S_init_71 : decode prog_5_method_1_code 71 = .ok (.bipush 24, 2) := by decide +kernel
theorem d_S_init_73 : decode prog_5_method_1_code 73 = .ok (.newarray .int, 2) := by decide +kernel
theorem d_S_init_75 : decode prog_5_method_1_code 75 = .ok (.putfield 40, 3) := by decide +kernel
theorem d_S_init_78 : decode prog_5_method_1_code 78 = .ok (.aload_n 0, 1) := by decide +kernel
theorem d_S_init_79 : decode prog_5_method_1_code 79 = .ok (.iconst 0, 1) := by decide +kernel
theorem d_S_init_80 : decode prog_5_method_1_code 80 = .ok (.putfield 43, 3) := by decide +kernel
theorem d_S_init_83 : decode prog_5_method_1_code 83 = .ok (.aload_n 0, 1) := by decide +kernel
theorem d_S_init_84 : decode prog_5_method_1_code 84 = .ok (.bipush 24, 2) := by decide +kernel
theorem d_S_init_86 : decode prog_5_method_1_code 86 = .ok (.newarray .int, 2) := by decide +kernel
theorem d_S_init_88 : decode prog_5_method_1_code 88 = .ok (.putfield 46, 3) := by decide +kernel
theorem d_S_init_91 : decode prog_5_method_1_code 91 = .ok (.aload_n 0, 1) := by decide +kernel
theorem d_S_init_92 : decode prog_5_method_1_code 92 = .ok (.bipush 24, 2) := by decide +kernel
theorem d_S_init_94 : decode prog_5_method_1_code 94 = .ok (.newarray .int, 2) := by decide +kernel
theorem d_S_init_96 : decode prog_5_method_1_code 96 = .ok (.putfield 49, 3) := by decide +kernel
theorem d_S_init_99 : decode prog_5_method_1_code 99 = .ok (.aload_n 0, 1) := by decide +kernel
theorem d_S_init_100 : decode prog_5_method_1_code 100 = .ok (.bipush 24, 2) := by decide +kernel
theorem d_S_init_102 : decode prog_5_method_1_code 102 = .ok (.newarray .int, 2) := by decide +kernel
theorem d_S_init_104 : decode prog_5_method_1_code 104 = .ok (.putfield 52, 3) := by decide +kernel
theorem d_S_init_107 : decode prog_5_method_1_code 107 = .ok (.aload_n 0, 1) := by decide +kernel
theorem d_S_init_108 : decode prog_5_method_1_code 108 = .ok (.bipush 24, 2) := by decide +kernel
theorem d_S_init_110 : decode prog_5_method_1_code 110 = .ok (.newarray .int, 2) := by decide +kernel
theorem d_S_init_112 : decode prog_5_method_1_code 112 = .ok (.putfield 55, 3) := by decide +kernel
theorem d_S_init_115 : decode prog_5_method_1_code 115 = .ok (.return_, 1) := by decide +kernel
theorem d_S_addMachine_0 : decode prog_5_method_2_code 0 = .ok (.aload_n 0, 1) := by decide +kernel
theorem d_S_addMachine_1 : decode prog_5_method_2_code 1 = .ok (.getfield 9, 3) := by decide +kernel
theorem d_S_addMachine_4 : decode prog_5_method_2_code 4 = .ok (.istore_n 2, 1) := by decide +kernel
theorem d_S_addMachine_5 : decode prog_5_method_2_code 5 = .ok (.aload_n 0, 1) := by decide +kernel
theorem d_S_addMachine_6 : decode prog_5_method_2_code 6 = .ok (.getfield 15, 3) := by decide +kernel
theorem d_S_addMachine_9 : decode prog_5_method_2_code 9 = .ok (.iload_n 2, 1) := by decide +kernel
theorem d_S_addMachine_10 : decode prog_5_method_2_code 10 = .ok (.iload_n 1, 1) := by decide +kernel
theorem d_S_addMachine_11 : decode prog_5_method_2_code 11 = .ok (.iastore, 1) := by decide +kernel
theorem d_S_addMachine_12 : decode prog_5_method_2_code 12 = .ok (.aload_n 0, 1) := by decide +kernel
theorem d_S_addMachine_13 : decode prog_5_method_2_code 13 = .ok (.dup, 1) := by decide +kernel
theorem d_S_addMachine_14 : decode prog_5_method_2_code 14 = .ok (.getfield 9, 3) := by decide +kernel
theorem d_S_addMachine_17 : decode prog_5_method_2_code 17 = .ok (.iconst 1, 1) := by decide +kernel
theorem d_S_addMachine_18 : decode prog_5_method_2_code 18 = .ok (.iadd, 1) := by decide +kernel
theorem d_S_addMachine_19 : decode prog_5_method_2_code 19 = .ok (.putfield 9, 3) := by decide +kernel
theorem d_S_addMachine_22 : decode prog_5_method_2_code 22 = .ok (.iload_n 2, 1) := by decide +kernel
theorem d_S_addMachine_23 : decode prog_5_method_2_code 23 = .ok (.ireturn, 1) := by decide +kernel
theorem d_S_addSpan_0 : decode prog_5_method_3_code 0 = .ok (.iload_n 1, 1) := by decide +kernel
theorem d_S_addSpan_1 : decode prog_5_method_3_code 1 = .ok (.bipush 8, 2) := by decide +kernel
theorem d_S_addSpan_3 : decode prog_5_method_3_code 3 = .ok (.imul, 1) := by decide +kernel
theorem d_S_addSpan_4 : decode prog_5_method_3_code 4 = .ok (.aload_n 0, 1) := by decide +kernel
theorem d_S_addSpan_5 : decode prog_5_method_3_code 5 = .ok (.getfield 19, 3) := by decide +kernel
theorem d_S_addSpan_8 : decode prog_5_method_3_code 8 = .ok (.iload_n 1, 1) := by decide +kernel
theorem d_S_addSpan_9 : decode prog_5_method_3_code 9 = .ok (.iaload, 1) := by decide +kernel
theorem d_S_addSpan_10 : decode prog_5_method_3_code 10 = .ok (.iadd, 1) := by decide +kernel
theorem d_S_addSpan_11 : decode prog_5_method_3_code 11 = .ok (.istore 4, 2) := by decide +kernel
theorem d_S_addSpan_13 : decode prog_5_method_3_code 13 = .ok (.aload_n 0, 1) := by decide +kernel
theorem d_S_addSpan_14 : decode prog_5_method_3_code 14 = .ok (.getfield 22, 3) := by decide +kernel
theorem d_S_addSpan_17 : decode prog_5_method_3_code 17 = .ok (.iload 4, 2) := by decide +kernel
theorem d_S_addSpan_19 : decode prog_5_method_3_code 19 = .ok (.iload_n 2, 1) := by decide +kernel
theorem d_S_addSpan_20 : decode prog_5_method_3_code 20 = .ok (.iastore, 1) := by decide +kernel
theorem d_S_addSpan_21 : decode prog_5_method_3_code 21 = .ok (.aload_n 0, 1) := by decide +kernel
theorem d_S_addSpan_22 : decode prog_5_method_3_code 22 = .ok (.getfield 25, 3) := by decide +kernel
theorem d_S_addSpan_25 : decode prog_5_method_3_code 25 = .ok (.iload 4, 2) := by decide +kernel
theorem d_S_addSpan_27 : decode prog_5_method_3_code 27 = .ok (.iload_n 3, 1) := by decide +kernel
theorem d_S_addSpan_28 : decode prog_5_method_3_code 28 = .ok (.iastore, 1) := by decide +kernel
theorem d_S_addSpan_29 : decode prog_5_method_3_code 29 = .ok (.aload_n 0, 1) := by decide +kernel
theorem d_S_addSpan_30 : decode prog_5_method_3_code 30 = .ok (.getfield 19, 3) := by decide +kernel
theorem d_S_addSpan_33 : decode prog_5_method_3_code 33 = .ok (.iload_n 1, 1) := by decide +kernel
theorem d_S_addSpan_34 : decode prog_5_method_3_code 34 = .ok (.dup2, 1) := by decide +kernel
theorem d_S_addSpan_35 : decode prog_5_method_3_code 35 = .ok (.iaload, 1) := by decide +kernel
theorem d_S_addSpan_36 : decode prog_5_method_3_code 36 = .ok (.iconst 1, 1) := by decide +kernel
theorem d_S_addSpan_37 : decode prog_5_method_3_code 37 = .ok (.iadd, 1) := by decide +kernel
theorem d_S_addSpan_38 : decode prog_5_method_3_code 38 = .ok (.iastore, 1) := by decide +kernel
theorem d_S_addSpan_39 : decode prog_5_method_3_code 39 = .ok (.aload_n 0, 1) := by decide +kernel
theorem d_S_addSpan_40 : decode prog_5_method_3_code 40 = .ok (.getfield 19, 3) := by decide +kernel
theorem d_S_addSpan_43 : decode prog_5_method_3_code 43 = .ok (.iload_n 1, 1) := by decide +kernel
theorem d_S_addSpan_44 : decode prog_5_method_3_code 44 = .ok (.iaload, 1) := by decide +kernel
theorem d_S_addSpan_45 : decode prog_5_method_3_code 45 = .ok (.ireturn, 1) := by decide +kernel
theorem d_S_addJob_0 : decode prog_5_method_4_code 0 = .ok (.aload_n 0, 1) := by decide +kernel
theorem d_S_addJob_1 : decode prog_5_method_4_code 1 = .ok (.getfield 28, 3) := by decide +kernel
theorem d_S_addJob_4 : decode prog_5_method_4_code 4 = .ok (.istore_n 3, 1) := by decide +kernel
theorem d_S_addJob_5 : decode prog_5_method_4_code 5 = .ok (.aload_n 0, 1) := by decide +kernel
theorem d_S_addJob_6 : decode prog_5_method_4_code 6 = .ok (.getfield 31, 3) := by decide +kernel
theorem d_S_addJob_9 : decode prog_5_method_4_code 9 = .ok (.iload_n 3, 1) := by decide +kernel
theorem d_S_addJob_10 : decode prog_5_method_4_code 10 = .ok (.iload_n 1, 1) := by decide +kernel
theorem d_S_addJob_11 : decode prog_5_method_4_code 11 = .ok (.iastore, 1) := by decide +kernel
theorem d_S_addJob_12 : decode prog_5_method_4_code 12 = .ok (.aload_n 0, 1) := by decide +kernel
theorem d_S_addJob_13 : decode prog_5_method_4_code 13 = .ok (.getfield 34, 3) := by decide +kernel
theorem d_S_addJob_16 : decode prog_5_method_4_code 16 = .ok (.iload_n 3, 1) := by decide +kernel
theorem d_S_addJob_17 : decode prog_5_method_4_code 17 = .ok (.iload_n 2, 1) := by decide +kernel
theorem d_S_addJob_18 : decode prog_5_method_4_code 18 = .ok (.iastore, 1) := by decide +kernel
theorem d_S_addJob_19 : decode prog_5_method_4_code 19 = .ok (.aload_n 0, 1) := by decide +kernel
theorem d_S_addJob_20 : decode prog_5_method_4_code 20 = .ok (.dup, 1) := by decide +kernel
theorem d_S_addJob_21 : decode prog_5_method_4_code 21 = .ok (.getfield 28, 3) := by decide +kernel
theorem d_S_addJob_24 : decode prog_5_method_4_code 24 = .ok (.iconst 1, 1) := by decide +kernel
theorem d_S_addJob_25 : decode prog_5_method_4_code 25 = .ok (.iadd, 1) := by decide +kernel
theorem d_S_addJob_26 : decode prog_5_method_4_code 26 = .ok (.putfield 28, 3) := by decide +kernel
theorem d_S_addJob_29 : decode prog_5_method_4_code 29 = .ok (.iload_n 3, 1) := by decide +kernel
theorem d_S_addJob_30 : decode prog_5_method_4_code 30 = .ok (.ireturn, 1) := by decide +kernel
theorem d_S_addStep_0 : decode prog_5_method_5_code 0 = .ok (.aload_n 0, 1) := by decide +kernel
theorem d_S_addStep_1 : decode prog_5_method_5_code 1 = .ok (.getfield 43, 3) := by decide +kernel
theorem d_S_addStep_4 : decode prog_5_method_5_code 4 = .ok (.istore 5, 2) := by decide +kernel
theorem d_S_addStep_6 : decode prog_5_method_5_code 6 = .ok (.aload_n 0, 1) := by decide +kernel
theorem d_S_addStep_7 : decode prog_5_method_5_code 7 = .ok (.getfield 46, 3) := by decide +kernel
theorem d_S_addStep_10 : decode prog_5_method_5_code 10 = .ok (.iload 5, 2) := by decide +kernel
theorem d_S_addStep_12 : decode prog_5_method_5_code 12 = .ok (.iload_n 2, 1) := by decide +kernel
theorem d_S_addStep_13 : decode prog_5_method_5_code 13 = .ok (.iastore, 1) := by decide +kernel
theorem d_S_addStep_14 : decode prog_5_method_5_code 14 = .ok (.aload_n 0, 1) := by decide +kernel
theorem d_S_addStep_15 : decode prog_5_method_5_code 15 = .ok (.getfield 49, 3) := by decide +kernel
theorem d_S_addStep_18 : decode prog_5_method_5_code 18 = .ok (.iload 5, 2) := by decide +kernel
theorem d_S_addStep_20 : decode prog_5_method_5_code 20 = .ok (.iload_n 3, 1) := by decide +kernel
theorem d_S_addStep_21 : decode prog_5_method_5_code 21 = .ok (.iastore, 1) := by decide +kernel
theorem d_S_addStep_22 : decode prog_5_method_5_code 22 = .ok (.aload_n 0, 1) := by decide +kernel
theorem d_S_addStep_23 : decode prog_5_method_5_code 23 = .ok (.getfield 52, 3) := by decide +kernel
theorem d_S_addStep_26 : decode prog_5_method_5_code 26 = .ok (.iload 5, 2) := by decide +kernel
theorem d_S_addStep_28 : decode prog_5_method_5_code 28 = .ok (.iload 4, 2) := by decide +kernel
theorem d_S_addStep_30 : decode prog_5_method_5_code 30 = .ok (.iastore, 1) := by decide +kernel
theorem d_S_addStep_31 : decode prog_5_method_5_code 31 = .ok (.aload_n 0, 1) := by decide +kernel
theorem d_S_addStep_32 : decode prog_5_method_5_code 32 = .ok (.getfield 55, 3) := by decide +kernel
theorem d_S_addStep_35 : decode prog_5_method_5_code 35 = .ok (.iload 5, 2) := by decide +kernel
theorem d_S_addStep_37 : decode prog_5_method_5_code 37 = .ok (.aload_n 0, 1) := by decide +kernel
theorem d_S_addStep_38 : decode prog_5_method_5_code 38 = .ok (.iload_n 1, 1) := by decide +kernel
theorem d_S_addStep_39 : decode prog_5_method_5_code 39 = .ok (.invokevirtual 58, 3) := by decide +kernel
theorem d_S_addStep_42 : decode prog_5_method_5_code 42 = .ok (.iastore, 1) := by decide +kernel
theorem d_S_addStep_43 : decode prog_5_method_5_code 43 = .ok (.aload_n 0, 1) := by decide +kernel
theorem d_S_addStep_44 : decode prog_5_method_5_code 44 = .ok (.getfield 40, 3) := by decide +kernel
theorem d_S_addStep_47 : decode prog_5_method_5_code 47 = .ok (.iload_n 1, 1) := by decide +kernel
theorem d_S_addStep_48 : decode prog_5_method_5_code 48 = .ok (.iconst 4, 1) := by decide +kernel
theorem d_S_addStep_49 : decode prog_5_method_5_code 49 = .ok (.imul, 1) := by decide +kernel
theorem d_S_addStep_50 : decode prog_5_method_5_code 50 = .ok (.aload_n 0, 1) := by decide +kernel
theorem d_S_addStep_51 : decode prog_5_method_5_code 51 = .ok (.getfield 37, 3) := by decide +kernel
theorem d_S_addStep_54 : decode prog_5_method_5_code 54 = .ok (.iload_n 1, 1) := by decide +kernel
theorem d_S_addStep_55 : decode prog_5_method_5_code 55 = .ok (.iaload, 1) := by decide +kernel
theorem d_S_addStep_56 : decode prog_5_method_5_code 56 = .ok (.iadd, 1) := by decide +kernel
theorem d_S_addStep_57 : decode prog_5_method_5_code 57 = .ok (.iload 5, 2) := by decide +kernel
theorem d_S_addStep_59 : decode prog_5_method_5_code 59 = .ok (.iastore, 1) := by decide +kernel
theorem d_S_addStep_60 : decode prog_5_method_5_code 60 = .ok (.aload_n 0, 1) := by decide +kernel
theorem d_S_addStep_61 : decode prog_5_method_5_code 61 = .ok (.getfield 37, 3) := by decide +kernel
theorem d_S_addStep_64 : decode prog_5_method_5_code 64 = .ok (.iload_n 1, 1) := by decide +kernel
theorem d_S_addStep_65 : decode prog_5_method_5_code 65 = .ok (.dup2, 1) := by decide +kernel
theorem d_S_addStep_66 : decode prog_5_method_5_code 66 = .ok (.iaload, 1) := by decide +kernel
theorem d_S_addStep_67 : decode prog_5_method_5_code 67 = .ok (.iconst 1, 1) := by decide +kernel
theorem d_S_addStep_68 : decode prog_5_method_5_code 68 = .ok (.iadd, 1) := by decide +kernel
theorem d_S_addStep_69 : decode prog_5_method_5_code 69 = .ok (.iastore, 1) := by decide +kernel
theorem d_S_addStep_70 : decode prog_5_method_5_code 70 = .ok (.aload_n 0, 1) := by decide +kernel
theorem d_S_addStep_71 : decode prog_5_method_5_code 71 = .ok (.dup, 1) := by decide +kernel
theorem d_S_addStep_72 : decode prog_5_method_5_code 72 = .ok (.getfield 43, 3) := by decide +kernel
theorem d_S_addStep_75 : decode prog_5_method_5_code 75 = .ok (.iconst 1, 1) := by decide +kernel
theorem d_S_addStep_76 : decode prog_5_method_5_code 76 = .ok (.iadd, 1) := by decide +kernel
theorem d_S_addStep_77 : decode prog_5_method_5_code 77 = .ok (.putfield 43, 3) := by decide +kernel
theorem d_S_addStep_80 : decode prog_5_method_5_code 80 = .ok (.iload 5, 2) := by decide +kernel
theorem d_S_addStep_82 : decode prog_5_method_5_code 82 = .ok (.ireturn, 1) := by decide +kernel
theorem d_S_lastStep_0 : decode prog_5_method_6_code 0 = .ok (.aload_n 0, 1) := by decide +kernel
theorem d_S_lastStep_1 : decode prog_5_method_6_code 1 = .ok (.getfield 37, 3) := by decide +kernel
theorem d_S_lastStep_4 : decode prog_5_method_6_code 4 = .ok (.iload_n 1, 1) := by decide +kernel
theorem d_S_lastStep_5 : decode prog_5_method_6_code 5 = .ok (.iaload, 1) := by decide +kernel
theorem d_S_lastStep_6 : decode prog_5_method_6_code 6 = .ok (.ifCond .le 23, 3) := by decide +kernel
theorem d_S_lastStep_9 : decode prog_5_method_6_code 9 = .ok (.aload_n 0, 1) := by decide +kernel
theorem d_S_lastStep_10 : decode prog_5_method_6_code 10 = .ok (.getfield 40, 3) := by decide +kernel
theorem d_S_lastStep_13 : decode prog_5_method_6_code 13 = .ok (.iload_n 1, 1) := by decide +kernel
theorem d_S_lastStep_14 : decode prog_5_method_6_code 14 = .ok (.iconst 4, 1) := by decide +kernel
theorem d_S_lastStep_15 : decode prog_5_method_6_code 15 = .ok (.imul, 1) := by decide +kernel
theorem d_S_lastStep_16 : decode prog_5_method_6_code 16 = .ok (.aload_n 0, 1) := by decide +kernel
theorem d_S_lastStep_17 : decode prog_5_method_6_code 17 = .ok (.getfield 37, 3) := by decide +kernel
theorem d_S_lastStep_20 : decode prog_5_method_6_code 20 = .ok (.iload_n 1, 1) := by decide +kernel
theorem d_S_lastStep_21 : decode prog_5_method_6_code 21 = .ok (.iaload, 1) := by decide +kernel
theorem d_S_lastStep_22 : decode prog_5_method_6_code 22 = .ok (.iadd, 1) := by decide +kernel
theorem d_S_lastStep_23 : decode prog_5_method_6_code 23 = .ok (.iconst 1, 1) := by decide +kernel
theorem d_S_lastStep_24 : decode prog_5_method_6_code 24 = .ok (.isub, 1) := by decide +kernel
theorem d_S_lastStep_25 : decode prog_5_method_6_code 25 = .ok (.iaload, 1) := by decide +kernel
theorem d_S_lastStep_26 : decode prog_5_method_6_code 26 = .ok (.goto 4, 3) := by decide +kernel
theorem d_S_lastStep_29 : decode prog_5_method_6_code 29 = .ok (.iconst (-1), 1) := by decide +kernel
theorem d_S_lastStep_30 : decode prog_5_method_6_code 30 = .ok (.ireturn, 1) := by decide +kernel
theorem d_S_allFit_0 : decode prog_5_method_8_code 0 = .ok (.iconst 0, 1) := by decide +kernel
theorem d_S_allFit_1 : decode prog_5_method_8_code 1 = .ok (.istore_n 1, 1) := by decide +kernel
theorem d_S_allFit_2 : decode prog_5_method_8_code 2 = .ok (.iload_n 1, 1) := by decide +kernel
theorem d_S_allFit_3 : decode prog_5_method_8_code 3 = .ok (.aload_n 0, 1) := by decide +kernel
theorem d_S_allFit_4 : decode prog_5_method_8_code 4 = .ok (.getfield 28, 3) := by decide +kernel
theorem d_S_allFit_7 : decode prog_5_method_8_code 7 = .ok (.if_icmp .ge 19, 3) := by decide +kernel
theorem d_S_allFit_10 : decode prog_5_method_8_code 10 = .ok (.aload_n 0, 1) := by decide +kernel
theorem d_S_allFit_11 : decode prog_5_method_8_code 11 = .ok (.iload_n 1, 1) := by decide +kernel
theorem d_S_allFit_12 : decode prog_5_method_8_code 12 = .ok (.invokevirtual 66, 3) := by decide +kernel
theorem d_S_allFit_15 : decode prog_5_method_8_code 15 = .ok (.ifCond .ne 5, 3) := by decide +kernel
theorem d_S_allFit_18 : decode prog_5_method_8_code 18 = .ok (.iconst 0, 1) := by decide +kernel
theorem d_S_allFit_19 : decode prog_5_method_8_code 19 = .ok (.ireturn, 1) := by decide +kernel
theorem d_S_allFit_20 : decode prog_5_method_8_code 20 = .ok (.iinc 1 1, 3) := by decide +kernel
theorem d_S_allFit_23 : decode prog_5_method_8_code 23 = .ok (.goto (-21), 3) := by decide +kernel
theorem d_S_allFit_26 : decode prog_5_method_8_code 26 = .ok (.iconst 1, 1) := by decide +kernel
theorem d_S_allFit_27 : decode prog_5_method_8_code 27 = .ok (.ireturn, 1) := by decide +kernel
theorem d_S_fits_0 : decode prog_5_method_7_code 0 = .ok (.iconst 0, 1) := by decide +kernel
theorem d_S_fits_1 : decode prog_5_method_7_code 1 = .ok (.istore_n 2, 1) := by decide +kernel
theorem d_S_fits_2 : decode prog_5_method_7_code 2 = .ok (.iload_n 2, 1) := by decide +kernel
theorem d_S_fits_3 : decode prog_5_method_7_code 3 = .ok (.aload_n 0, 1) := by decide +kernel
theorem d_S_fits_4 : decode prog_5_method_7_code 4 = .ok (.getfield 37, 3) := by decide +kernel
theorem d_S_fits_7 : decode prog_5_method_7_code 7 = .ok (.iload_n 1, 1) := by decide +kernel
theorem d_S_fits_8 : decode prog_5_method_7_code 8 = .ok (.iaload, 1) := by decide +kernel
theorem d_S_fits_9 : decode prog_5_method_7_code 9 = .ok (.if_icmp .ge 33, 3) := by decide +kernel
theorem d_S_fits_12 : decode prog_5_method_7_code 12 = .ok (.aload_n 0, 1) := by decide +kernel
theorem d_S_fits_13 : decode prog_5_method_7_code 13 = .ok (.aload_n 0, 1) := by decide +kernel
theorem d_S_fits_14 : decode prog_5_method_7_code 14 = .ok (.getfield 46, 3) := by decide +kernel
theorem d_S_fits_17 : decode prog_5_method_7_code 17 = .ok (.aload_n 0, 1) := by decide +kernel
theorem d_S_fits_18 : decode prog_5_method_7_code 18 = .ok (.getfield 40, 3) := by decide +kernel
theorem d_S_fits_21 : decode prog_5_method_7_code 21 = .ok (.iload_n 1, 1) := by decide +kernel
theorem d_S_fits_22 : decode prog_5_method_7_code 22 = .ok (.iconst 4, 1) := by decide +kernel
theorem d_S_fits_23 : decode prog_5_method_7_code 23 = .ok (.imul, 1) := by decide +kernel
theorem d_S_fits_24 : decode prog_5_method_7_code 24 = .ok (.iload_n 2, 1) := by decide +kernel
theorem d_S_fits_25 : decode prog_5_method_7_code 25 = .ok (.iadd, 1) := by decide +kernel
theorem d_S_fits_26 : decode prog_5_method_7_code 26 = .ok (.iaload, 1) := by decide +kernel
theorem d_S_fits_27 : decode prog_5_method_7_code 27 = .ok (.iaload, 1) := by decide +kernel
theorem d_S_fits_28 : decode prog_5_method_7_code 28 = .ok (.invokevirtual 62, 3) := by decide +kernel
theorem d_S_fits_31 : decode prog_5_method_7_code 31 = .ok (.ifCond .ne 5, 3) := by decide +kernel
theorem d_S_fits_34 : decode prog_5_method_7_code 34 = .ok (.iconst 0, 1) := by decide +kernel
theorem d_S_fits_35 : decode prog_5_method_7_code 35 = .ok (.ireturn, 1) := by decide +kernel
theorem d_S_fits_36 : decode prog_5_method_7_code 36 = .ok (.iinc 2 1, 3) := by decide +kernel
theorem d_S_fits_39 : decode prog_5_method_7_code 39 = .ok (.goto (-37), 3) := by decide +kernel
theorem d_S_fits_42 : decode prog_5_method_7_code 42 = .ok (.iconst 1, 1) := by decide +kernel
theorem d_S_fits_43 : decode prog_5_method_7_code 43 = .ok (.ireturn, 1) := by decide +kernel
theorem d_S_hasMachine_0 : decode prog_5_method_10_code 0 = .ok (.iconst 0, 1) := by decide +kernel
theorem d_S_hasMachine_1 : decode prog_5_method_10_code 1 = .ok (.istore_n 2, 1) := by decide +kernel
theorem d_S_hasMachine_2 : decode prog_5_method_10_code 2 = .ok (.iload_n 2, 1) := by decide +kernel
theorem d_S_hasMachine_3 : decode prog_5_method_10_code 3 = .ok (.aload_n 0, 1) := by decide +kernel
theorem d_S_hasMachine_4 : decode prog_5_method_10_code 4 = .ok (.getfield 9, 3) := by decide +kernel
theorem d_S_hasMachine_7 : decode prog_5_method_10_code 7 = .ok (.if_icmp .ge 21, 3) := by decide +kernel
theorem d_S_hasMachine_10 : decode prog_5_method_10_code 10 = .ok (.aload_n 0, 1) := by decide +kernel
theorem d_S_hasMachine_11 : decode prog_5_method_10_code 11 = .ok (.getfield 15, 3) := by decide +kernel
theorem d_S_hasMachine_14 : decode prog_5_method_10_code 14 = .ok (.iload_n 2, 1) := by decide +kernel
theorem d_S_hasMachine_15 : decode prog_5_method_10_code 15 = .ok (.iaload, 1) := by decide +kernel
theorem d_S_hasMachine_16 : decode prog_5_method_10_code 16 = .ok (.iload_n 1, 1) := by decide +kernel
theorem d_S_hasMachine_17 : decode prog_5_method_10_code 17 = .ok (.if_icmp .ne 5, 3) := by decide +kernel
theorem d_S_hasMachine_20 : decode prog_5_method_10_code 20 = .ok (.iconst 1, 1) := by decide +kernel
theorem d_S_hasMachine_21 : decode prog_5_method_10_code 21 = .ok (.ireturn, 1) := by decide +kernel
theorem d_S_hasMachine_22 : decode prog_5_method_10_code 22 = .ok (.iinc 2 1, 3) := by decide +kernel
theorem d_S_hasMachine_25 : decode prog_5_method_10_code 25 = .ok (.goto (-23), 3) := by decide +kernel
theorem d_S_hasMachine_28 : decode prog_5_method_10_code 28 = .ok (.iconst 0, 1) := by decide +kernel
theorem d_S_hasMachine_29 : decode prog_5_method_10_code 29 = .ok (.ireturn, 1) := by decide +kernel
theorem d_S_costOf_0 : decode prog_5_method_9_code 0 = .ok (.iload_n 2, 1) := by decide +kernel
theorem d_S_costOf_1 : decode prog_5_method_9_code 1 = .ok (.i2l, 1) := by decide +kernel
theorem d_S_costOf_2 : decode prog_5_method_9_code 2 = .ok (.aload_n 0, 1) := by decide +kernel
theorem d_S_costOf_3 : decode prog_5_method_9_code 3 = .ok (.getfield 31, 3) := by decide +kernel
theorem d_S_costOf_6 : decode prog_5_method_9_code 6 = .ok (.iload_n 1, 1) := by decide +kernel
theorem d_S_costOf_7 : decode prog_5_method_9_code 7 = .ok (.iaload, 1) := by decide +kernel
theorem d_S_costOf_8 : decode prog_5_method_9_code 8 = .ok (.i2l, 1) := by decide +kernel
theorem d_S_costOf_9 : decode prog_5_method_9_code 9 = .ok (.lsub, 1) := by decide +kernel
theorem d_S_costOf_10 : decode prog_5_method_9_code 10 = .ok (.lstore_n 3, 1) := by decide +kernel
theorem d_S_costOf_11 : decode prog_5_method_9_code 11 = .ok (.lload_n 3, 1) := by decide +kernel
theorem d_S_costOf_12 : decode prog_5_method_9_code 12 = .ok (.lconst 0, 1) := by decide +kernel
theorem d_S_costOf_13 : decode prog_5_method_9_code 13 = .ok (.lcmp, 1) := by decide +kernel
theorem d_S_costOf_14 : decode prog_5_method_9_code 14 = .ok (.ifCond .le 15, 3) := by decide +kernel
theorem d_S_costOf_17 : decode prog_5_method_9_code 17 = .ok (.lload_n 3, 1) := by decide +kernel
theorem d_S_costOf_18 : decode prog_5_method_9_code 18 = .ok (.aload_n 0, 1) := by decide +kernel
theorem d_S_costOf_19 : decode prog_5_method_9_code 19 = .ok (.getfield 34, 3) := by decide +kernel
theorem d_S_costOf_22 : decode prog_5_method_9_code 22 = .ok (.iload_n 1, 1) := by decide +kernel
theorem d_S_costOf_23 : decode prog_5_method_9_code 23 = .ok (.iaload, 1) := by decide +kernel
theorem d_S_costOf_24 : decode prog_5_method_9_code 24 = .ok (.i2l, 1) := by decide +kernel
theorem d_S_costOf_25 : decode prog_5_method_9_code 25 = .ok (.lmul, 1) := by decide +kernel
theorem d_S_costOf_26 : decode prog_5_method_9_code 26 = .ok (.goto 4, 3) := by decide +kernel
theorem d_S_costOf_29 : decode prog_5_method_9_code 29 = .ok (.lconst 0, 1) := by decide +kernel
theorem d_S_costOf_30 : decode prog_5_method_9_code 30 = .ok (.lreturn, 1) := by decide +kernel
