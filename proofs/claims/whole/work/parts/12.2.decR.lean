/-! decode rows of WorkPlans$Search -/
theorem d_R_init_0 : decode prog_4_method_1_code 0 = .ok (.aload_n 0, 1) := by decide +kernel
theorem d_R_init_1 : decode prog_4_method_1_code 1 = .ok (.invokespecial 3, 3) := by decide +kernel
theorem d_R_init_4 : decode prog_4_method_1_code 4 = .ok (.aload_n 0, 1) := by decide +kernel
theorem d_R_init_5 : decode prog_4_method_1_code 5 = .ok (.bipush 6, 2) := by decide +kernel
theorem d_R_init_7 : decode prog_4_method_1_code 7 = .ok (.newarray .long, 2) := by decide +kernel
theorem d_R_init_9 : decode prog_4_method_1_code 9 = .ok (.putfield 9, 3) := by decide +kernel
theorem d_R_init_12 : decode prog_4_method_1_code 12 = .ok (.aload_n 0, 1) := by decide +kernel
theorem d_R_init_13 : decode prog_4_method_1_code 13 = .ok (.bipush 6, 2) := by decide +kernel
theorem d_R_init_15 : decode prog_4_method_1_code 15 = .ok (.newarray .int, 2) := by decide +kernel
theorem d_R_init_17 : decode prog_4_method_1_code 17 = .ok (.putfield 15, 3) := by decide +kernel
theorem d_R_init_20 : decode prog_4_method_1_code 20 = .ok (.aload_n 0, 1) := by decide +kernel
theorem d_R_init_21 : decode prog_4_method_1_code 21 = .ok (.bipush 6, 2) := by decide +kernel
theorem d_R_init_23 : decode prog_4_method_1_code 23 = .ok (.newarray .boolean, 2) := by decide +kernel
theorem d_R_init_25 : decode prog_4_method_1_code 25 = .ok (.putfield 19, 3) := by decide +kernel
theorem d_R_init_28 : decode prog_4_method_1_code 28 = .ok (.aload_n 0, 1) := by decide +kernel
theorem d_R_init_29 : decode prog_4_method_1_code 29 = .ok (.bipush 6, 2) := by decide +kernel
theorem d_R_init_31 : decode prog_4_method_1_code 31 = .ok (.newarray .int, 2) := by decide +kernel
theorem d_R_init_33 : decode prog_4_method_1_code 33 = .ok (.putfield 23, 3) := by decide +kernel
theorem d_R_init_36 : decode prog_4_method_1_code 36 = .ok (.aload_n 0, 1) := by decide +kernel
theorem d_R_init_37 : decode prog_4_method_1_code 37 = .ok (.lconst 0, 1) := by decide +kernel
theorem d_R_init_38 : decode prog_4_method_1_code 38 = .ok (.putfield 26, 3) := by decide +kernel
theorem d_R_init_41 : decode prog_4_method_1_code 41 = .ok (.aload_n 0, 1) := by decide +kernel
theorem d_R_init_42 : decode prog_4_method_1_code 42 = .ok (.iconst 0, 1) := by decide +kernel
theorem d_R_init_43 : decode prog_4_method_1_code 43 = .ok (.putfield 30, 3) := by decide +kernel
theorem d_R_init_46 : decode prog_4_method_1_code 46 = .ok (.aload_n 0, 1) := by decide +kernel
theorem d_R_init_47 : decode prog_4_method_1_code 47 = .ok (.lconst 0, 1) := by decide +kernel
theorem d_R_init_48 : decode prog_4_method_1_code 48 = .ok (.putfield 34, 3) := by decide +kernel
theorem d_R_init_51 : decode prog_4_method_1_code 51 = .ok (.aload_n 0, 1) := by decide +kernel
theorem d_R_init_52 : decode prog_4_method_1_code 52 = .ok (.iconst 0, 1) := by decide +kernel
theorem d_R_init_53 : decode prog_4_method_1_code 53 = .ok (.putfield 37, 3) := by decide +kernel
theorem d_R_init_56 : decode prog_4_method_1_code 56 = .ok (.aload_n 0, 1) := by decide +kernel
theorem d_R_init_57 : decode prog_4_method_1_code 57 = .ok (.aload_n 1, 1) := by decide +kernel
theorem d_R_init_58 : decode prog_4_method_1_code 58 = .ok (.putfield 40, 3) := by decide +kernel
theorem d_R_init_61 : decode prog_4_method_1_code 61 = .ok (.aload_n 0, 1) := by decide +kernel
theorem d_R_init_62 : decode prog_4_method_1_code 62 = .ok (.aload_n 2, 1) := by decide +kernel
theorem d_R_init_63 : decode prog_4_method_1_code 63 = .ok (.putfield 44, 3) := by decide +kernel
theorem d_R_init_66 : decode prog_4_method_1_code 66 = .ok (.return_, 1) := by decide +kernel
theorem d_R_findBest_0 : decode prog_4_method_2_code 0 = .ok (.aload_n 0, 1) := by decide +kernel
theorem d_R_findBest_1 : decode prog_4_method_2_code 1 = .ok (.iload_n 1, 1) := by decide +kernel
theorem d_R_findBest_2 : decode prog_4_method_2_code 2 = .ok (.putfield 30, 3) := by decide +kernel
theorem d_R_findBest_5 : decode prog_4_method_2_code 5 = .ok (.aload_n 0, 1) := by decide +kernel
theorem d_R_findBest_6 : decode prog_4_method_2_code 6 = .ok (.iconst 0, 1) := by decide +kernel
theorem d_R_findBest_7 : decode prog_4_method_2_code 7 = .ok (.putfield 37, 3) := by decide +kernel
theorem d_R_findBest_10 : decode prog_4_method_2_code 10 = .ok (.aload_n 0, 1) := by decide +kernel
theorem d_R_findBest_11 : decode prog_4_method_2_code 11 = .ok (.lconst 0, 1) := by decide +kernel
theorem d_R_findBest_12 : decode prog_4_method_2_code 12 = .ok (.putfield 34, 3) := by decide +kernel
theorem d_R_findBest_15 : decode prog_4_method_2_code 15 = .ok (.iconst 0, 1) := by decide +kernel
theorem d_R_findBest_16 : decode prog_4_method_2_code 16 = .ok (.istore_n 2, 1) := by decide +kernel
theorem d_R_findBest_17 : decode prog_4_method_2_code 17 = .ok (.iload_n 2, 1) := by decide +kernel
theorem d_R_findBest_18 : decode prog_4_method_2_code 18 = .ok (.aload_n 0, 1) := by decide +kernel
theorem d_R_findBest_19 : decode prog_4_method_2_code 19 = .ok (.getfield 40, 3) := by decide +kernel
theorem d_R_findBest_22 : decode prog_4_method_2_code 22 = .ok (.getfield 48, 3) := by decide +kernel
theorem d_R_findBest_25 : decode prog_4_method_2_code 25 = .ok (.if_icmp .ge 38, 3) := by decide +kernel
theorem d_R_findBest_28 : decode prog_4_method_2_code 28 = .ok (.aload_n 0, 1) := by decide +kernel
theorem d_R_findBest_29 : decode prog_4_method_2_code 29 = .ok (.getfield 9, 3) := by decide +kernel
theorem d_R_findBest_32 : decode prog_4_method_2_code 32 = .ok (.iload_n 2, 1) := by decide +kernel
theorem d_R_findBest_33 : decode prog_4_method_2_code 33 = .ok (.aload_n 0, 1) := by decide +kernel
theorem d_R_findBest_34 : decode prog_4_method_2_code 34 = .ok (.getfield 44, 3) := by decide +kernel
theorem d_R_findBest_37 : decode prog_4_method_2_code 37 = .ok (.iload_n 2, 1) := by decide +kernel
theorem d_R_findBest_38 : decode prog_4_method_2_code 38 = .ok (.invokevirtual 53, 3) := by decide +kernel
theorem d_R_findBest_41 : decode prog_4_method_2_code 41 = .ok (.lastore, 1) := by decide +kernel
theorem d_R_findBest_42 : decode prog_4_method_2_code 42 = .ok (.aload_n 0, 1) := by decide +kernel
theorem d_R_findBest_43 : decode prog_4_method_2_code 43 = .ok (.dup, 1) := by decide +kernel
theorem d_R_findBest_44 : decode prog_4_method_2_code 44 = .ok (.getfield 34, 3) := by decide +kernel
theorem d_R_findBest_47 : decode prog_4_method_2_code 47 = .ok (.aload_n 0, 1) := by decide +kernel
theorem d_R_findBest_48 : decode prog_4_method_2_code 48 = .ok (.getfield 9, 3) := by decide +kernel
theorem d_R_findBest_51 : decode prog_4_method_2_code 51 = .ok (.iload_n 2, 1) := by decide +kernel
theorem d_R_findBest_52 : decode prog_4_method_2_code 52 = .ok (.laload, 1) := by decide +kernel
theorem d_R_findBest_53 : decode prog_4_method_2_code 53 = .ok (.ladd, 1) := by decide +kernel
theorem d_R_findBest_54 : decode prog_4_method_2_code 54 = .ok (.putfield 34, 3) := by decide +kernel
theorem d_R_findBest_57 : decode prog_4_method_2_code 57 = .ok (.iinc 2 1, 3) := by decide +kernel
theorem d_R_findBest_60 : decode prog_4_method_2_code 60 = .ok (.goto (-43), 3) := by decide +kernel
theorem d_R_findBest_63 : decode prog_4_method_2_code 63 = .ok (.aload_n 0, 1) := by decide +kernel
theorem d_R_findBest_64 : decode prog_4_method_2_code 64 = .ok (.invokevirtual 59, 3) := by decide +kernel
theorem d_R_findBest_67 : decode prog_4_method_2_code 67 = .ok (.aload_n 0, 1) := by decide +kernel
theorem d_R_findBest_68 : decode prog_4_method_2_code 68 = .ok (.aload_n 0, 1) := by decide +kernel
theorem d_R_findBest_69 : decode prog_4_method_2_code 69 = .ok (.getfield 44, 3) := by decide +kernel
theorem d_R_findBest_72 : decode prog_4_method_2_code 72 = .ok (.aload_n 0, 1) := by decide +kernel
theorem d_R_findBest_73 : decode prog_4_method_2_code 73 = .ok (.getfield 23, 3) := by decide +kernel
theorem d_R_findBest_76 : decode prog_4_method_2_code 76 = .ok (.aload_n 0, 1) := by decide +kernel
theorem d_R_findBest_77 : decode prog_4_method_2_code 77 = .ok (.getfield 40, 3) := by decide +kernel
theorem d_R_findBest_80 : decode prog_4_method_2_code 80 = .ok (.getfield 48, 3) := by decide +kernel
theorem d_R_findBest_83 : decode prog_4_method_2_code 83 = .ok (.invokevirtual 62, 3) := by decide +kernel
theorem d_R_findBest_86 : decode prog_4_method_2_code 86 = .ok (.putfield 26, 3) := by decide +kernel
theorem d_R_findBest_89 : decode prog_4_method_2_code 89 = .ok (.aload_n 0, 1) := by decide +kernel
theorem d_R_findBest_90 : decode prog_4_method_2_code 90 = .ok (.getfield 44, 3) := by decide +kernel
theorem d_R_findBest_93 : decode prog_4_method_2_code 93 = .ok (.invokevirtual 66, 3) := by decide +kernel
theorem d_R_findBest_96 : decode prog_4_method_2_code 96 = .ok (.aload_n 0, 1) := by decide +kernel
theorem d_R_findBest_97 : decode prog_4_method_2_code 97 = .ok (.iconst 0, 1) := by decide +kernel
theorem d_R_findBest_98 : decode prog_4_method_2_code 98 = .ok (.lconst 0, 1) := by decide +kernel
theorem d_R_findBest_99 : decode prog_4_method_2_code 99 = .ok (.aload_n 0, 1) := by decide +kernel
theorem d_R_findBest_100 : decode prog_4_method_2_code 100 = .ok (.getfield 34, 3) := by decide +kernel
theorem d_R_findBest_103 : decode prog_4_method_2_code 103 = .ok (.invokevirtual 69, 3) := by decide +kernel
theorem d_R_findBest_106 : decode prog_4_method_2_code 106 = .ok (.ireturn, 1) := by decide +kernel
theorem d_R_orderByDue_0 : decode prog_4_method_3_code 0 = .ok (.iconst 0, 1) := by decide +kernel
theorem d_R_orderByDue_1 : decode prog_4_method_3_code 1 = .ok (.istore_n 1, 1) := by decide +kernel
theorem d_R_orderByDue_2 : decode prog_4_method_3_code 2 = .ok (.iload_n 1, 1) := by decide +kernel
theorem d_R_orderByDue_3 : decode prog_4_method_3_code 3 = .ok (.aload_n 0, 1) := by decide +kernel
theorem d_R_orderByDue_4 : decode prog_4_method_3_code 4 = .ok (.getfield 40, 3) := by decide +kernel
theorem d_R_orderByDue_7 : decode prog_4_method_3_code 7 = .ok (.getfield 48, 3) := by decide +kernel
theorem d_R_orderByDue_10 : decode prog_4_method_3_code 10 = .ok (.if_icmp .ge 70, 3) := by decide +kernel
theorem d_R_orderByDue_13 : decode prog_4_method_3_code 13 = .ok (.iload_n 1, 1) := by decide +kernel
theorem d_R_orderByDue_14 : decode prog_4_method_3_code 14 = .ok (.istore_n 2, 1) := by decide +kernel
theorem d_R_orderByDue_15 : decode prog_4_method_3_code 15 = .ok (.iload_n 2, 1) := by decide +kernel
theorem d_R_orderByDue_16 : decode prog_4_method_3_code 16 = .ok (.ifCond .le 51, 3) := by decide +kernel
theorem d_R_orderByDue_19 : decode prog_4_method_3_code 19 = .ok (.aload_n 0, 1) := by decide +kernel
theorem d_R_orderByDue_20 : decode prog_4_method_3_code 20 = .ok (.getfield 40, 3) := by decide +kernel
theorem d_R_orderByDue_23 : decode prog_4_method_3_code 23 = .ok (.getfield 73, 3) := by decide +kernel
theorem d_R_orderByDue_26 : decode prog_4_method_3_code 26 = .ok (.aload_n 0, 1) := by decide +kernel
theorem d_R_orderByDue_27 : decode prog_4_method_3_code 27 = .ok (.getfield 23, 3) := by decide +kernel
theorem d_R_orderByDue_30 : decode prog_4_method_3_code 30 = .ok (.iload_n 2, 1) := by decide +kernel
theorem d_R_orderByDue_31 : decode prog_4_method_3_code 31 = .ok (.iconst 1, 1) := by decide +kernel
theorem d_R_orderByDue_32 : decode prog_4_method_3_code 32 = .ok (.isub, 1) := by decide +kernel
theorem d_R_orderByDue_33 : decode prog_4_method_3_code 33 = .ok (.iaload, 1) := by decide +kernel
theorem d_R_orderByDue_34 : decode prog_4_method_3_code 34 = .ok (.iaload, 1) := by decide +kernel
theorem d_R_orderByDue_35 : decode prog_4_method_3_code 35 = .ok (.aload_n 0, 1) := by decide +kernel
theorem d_R_orderByDue_36 : decode prog_4_method_3_code 36 = .ok (.getfield 40, 3) := by decide +kernel
theorem d_R_orderByDue_39 : decode prog_4_method_3_code 39 = .ok (.getfield 73, 3) := by decide +kernel
theorem d_R_orderByDue_42 : decode prog_4_method_3_code 42 = .ok (.iload_n 1, 1) := by decide +kernel
theorem d_R_orderByDue_43 : decode prog_4_method_3_code 43 = .ok (.iaload, 1) := by decide +kernel
theorem d_R_orderByDue_44 : decode prog_4_method_3_code 44 = .ok (.if_icmp .le 23, 3) := by decide +kernel
theorem d_R_orderByDue_47 : decode prog_4_method_3_code 47 = .ok (.aload_n 0, 1) := by decide +kernel
theorem d_R_orderByDue_48 : decode prog_4_method_3_code 48 = .ok (.getfield 23, 3) := by decide +kernel
theorem d_R_orderByDue_51 : decode prog_4_method_3_code 51 = .ok (.iload_n 2, 1) := by decide +kernel
theorem d_R_orderByDue_52 : decode prog_4_method_3_code 52 = .ok (.aload_n 0, 1) := by decide +kernel
theorem d_R_orderByDue_53 : decode prog_4_method_3_code 53 = .ok (.getfield 23, 3) := by decide +kernel
theorem d_R_orderByDue_56 : decode prog_4_method_3_code 56 = .ok (.iload_n 2, 1) := by decide +kernel
theorem d_R_orderByDue_57 : decode prog_4_method_3_code 57 = .ok (.iconst 1, 1) := by decide +kernel
theorem d_R_orderByDue_58 : decode prog_4_method_3_code 58 = .ok (.isub, 1) := by decide +kernel
theorem d_R_orderByDue_59 : decode prog_4_method_3_code 59 = .ok (.iaload, 1) := by decide +kernel
theorem d_R_orderByDue_60 : decode prog_4_method_3_code 60 = .ok (.iastore, 1) := by decide +kernel
theorem d_R_orderByDue_61 : decode prog_4_method_3_code 61 = .ok (.iinc 2 (-1), 3) := by decide +kernel
theorem d_R_orderByDue_64 : decode prog_4_method_3_code 64 = .ok (.goto (-49), 3) := by decide +kernel
theorem d_R_orderByDue_67 : decode prog_4_method_3_code 67 = .ok (.aload_n 0, 1) := by decide +kernel
theorem d_R_orderByDue_68 : decode prog_4_method_3_code 68 = .ok (.getfield 23, 3) := by decide +kernel
theorem d_R_orderByDue_71 : decode prog_4_method_3_code 71 = .ok (.iload_n 2, 1) := by decide +kernel
theorem d_R_orderByDue_72 : decode prog_4_method_3_code 72 = .ok (.iload_n 1, 1) := by decide +kernel
theorem d_R_orderByDue_73 : decode prog_4_method_3_code 73 = .ok (.iastore, 1) := by decide +kernel
theorem d_R_orderByDue_74 : decode prog_4_method_3_code 74 = .ok (.iinc 1 1, 3) := by decide +kernel
theorem d_R_orderByDue_77 : decode prog_4_method_3_code 77 = .ok (.goto (-75), 3) := by decide +kernel
theorem d_R_orderByDue_80 : decode prog_4_method_3_code 80 = .ok (.return_, 1) := by decide +kernel
theorem d_R_goOn_0 : decode prog_4_method_4_code 0 = .ok (.iconst 0, 1) := by decide +kernel
theorem d_R_goOn_1 : decode prog_4_method_4_code 1 = .ok (.istore 6, 2) := by decide +kernel
theorem d_R_goOn_3 : decode prog_4_method_4_code 3 = .ok (.iload 6, 2) := by decide +kernel
theorem d_R_goOn_5 : decode prog_4_method_4_code 5 = .ok (.aload_n 0, 1) := by decide +kernel
theorem d_R_goOn_6 : decode prog_4_method_4_code 6 = .ok (.getfield 40, 3) := by decide +kernel
theorem d_R_goOn_9 : decode prog_4_method_4_code 9 = .ok (.getfield 48, 3) := by decide +kernel
theorem d_R_goOn_12 : decode prog_4_method_4_code 12 = .ok (.if_icmp .ge 117, 3) := by decide +kernel
theorem d_R_goOn_15 : decode prog_4_method_4_code 15 = .ok (.iload_n 1, 1) := by decide +kernel
theorem d_R_goOn_16 : decode prog_4_method_4_code 16 = .ok (.aload_n 0, 1) := by decide +kernel
theorem d_R_goOn_17 : decode prog_4_method_4_code 17 = .ok (.getfield 40, 3) := by decide +kernel
theorem d_R_goOn_20 : decode prog_4_method_4_code 20 = .ok (.getfield 48, 3) := by decide +kernel
theorem d_R_goOn_23 : decode prog_4_method_4_code 23 = .ok (.if_icmp .ge 106, 3) := by decide +kernel
theorem d_R_goOn_26 : decode prog_4_method_4_code 26 = .ok (.aload_n 0, 1) := by decide +kernel
theorem d_R_goOn_27 : decode prog_4_method_4_code 27 = .ok (.getfield 19, 3) := by decide +kernel
theorem d_R_goOn_30 : decode prog_4_method_4_code 30 = .ok (.iload 6, 2) := by decide +kernel
theorem d_R_goOn_32 : decode prog_4_method_4_code 32 = .ok (.baload, 1) := by decide +kernel
theorem d_R_goOn_33 : decode prog_4_method_4_code 33 = .ok (.ifCond .eq 6, 3) := by decide +kernel
theorem d_R_goOn_36 : decode prog_4_method_4_code 36 = .ok (.goto 87, 3) := by decide +kernel
theorem d_R_goOn_39 : decode prog_4_method_4_code 39 = .ok (.aload_n 0, 1) := by decide +kernel
theorem d_R_goOn_40 : decode prog_4_method_4_code 40 = .ok (.getfield 37, 3) := by decide +kernel
theorem d_R_goOn_43 : decode prog_4_method_4_code 43 = .ok (.aload_n 0, 1) := by decide +kernel
theorem d_R_goOn_44 : decode prog_4_method_4_code 44 = .ok (.getfield 30, 3) := by decide +kernel
theorem d_R_goOn_47 : decode prog_4_method_4_code 47 = .ok (.if_icmp .lt 5, 3) := by decide +kernel
theorem d_R_goOn_50 : decode prog_4_method_4_code 50 = .ok (.iconst 0, 1) := by decide +kernel
theorem d_R_goOn_51 : decode prog_4_method_4_code 51 = .ok (.ireturn, 1) := by decide +kernel
theorem d_R_goOn_52 : decode prog_4_method_4_code 52 = .ok (.aload_n 0, 1) := by decide +kernel
theorem d_R_goOn_53 : decode prog_4_method_4_code 53 = .ok (.dup, 1) := by decide +kernel
theorem d_R_goOn_54 : decode prog_4_method_4_code 54 = .ok (.getfield 37, 3) := by decide +kernel
theorem d_R_goOn_57 : decode prog_4_method_4_code 57 = .ok (.iconst 1, 1) := by decide +kernel
theorem d_R_goOn_58 : decode prog_4_method_4_code 58 = .ok (.iadd, 1) := by decide +kernel
theorem d_R_goOn_59 : decode prog_4_method_4_code 59 = .ok (.putfield 37, 3) := by decide +kernel
theorem d_R_goOn_62 : decode prog_4_method_4_code 62 = .ok (.aload_n 0, 1) := by decide +kernel
theorem d_R_goOn_63 : decode prog_4_method_4_code 63 = .ok (.getfield 15, 3) := by decide +kernel
theorem d_R_goOn_66 : decode prog_4_method_4_code 66 = .ok (.iload_n 1, 1) := by decide +kernel
theorem d_R_goOn_67 : decode prog_4_method_4_code 67 = .ok (.iload 6, 2) := by decide +kernel
theorem d_R_goOn_69 : decode prog_4_method_4_code 69 = .ok (.iastore, 1) := by decide +kernel
theorem d_R_goOn_70 : decode prog_4_method_4_code 70 = .ok (.lload_n 2, 1) := by decide +kernel
theorem d_R_goOn_71 : decode prog_4_method_4_code 71 = .ok (.aload_n 0, 1) := by decide +kernel
theorem d_R_goOn_72 : decode prog_4_method_4_code 72 = .ok (.getfield 40, 3) := by decide +kernel
theorem d_R_goOn_75 : decode prog_4_method_4_code 75 = .ok (.iload 6, 2) := by decide +kernel
theorem d_R_goOn_77 : decode prog_4_method_4_code 77 = .ok (.aload_n 0, 1) := by decide +kernel
theorem d_R_goOn_78 : decode prog_4_method_4_code 78 = .ok (.getfield 44, 3) := by decide +kernel
theorem d_R_goOn_81 : decode prog_4_method_4_code 81 = .ok (.iload 6, 2) := by decide +kernel
theorem d_R_goOn_83 : decode prog_4_method_4_code 83 = .ok (.invokevirtual 76, 3) := by decide +kernel
theorem d_R_goOn_86 : decode prog_4_method_4_code 86 = .ok (.invokevirtual 80, 3) := by decide +kernel
theorem d_R_goOn_89 : decode prog_4_method_4_code 89 = .ok (.ladd, 1) := by decide +kernel
theorem d_R_goOn_90 : decode prog_4_method_4_code 90 = .ok (.lstore 7, 2) := by decide +kernel
theorem d_R_goOn_92 : decode prog_4_method_4_code 92 = .ok (.aload_n 0, 1) := by decide +kernel
theorem d_R_goOn_93 : decode prog_4_method_4_code 93 = .ok (.iload_n 1, 1) := by decide +kernel
theorem d_R_goOn_94 : decode prog_4_method_4_code 94 = .ok (.lload 7, 2) := by decide +kernel
theorem d_R_goOn_96 : decode prog_4_method_4_code 96 = .ok (.lload 4, 2) := by decide +kernel
theorem d_R_goOn_98 : decode prog_4_method_4_code 98 = .ok (.aload_n 0, 1) := by decide +kernel
theorem d_R_goOn_99 : decode prog_4_method_4_code 99 = .ok (.getfield 9, 3) := by decide +kernel
theorem d_R_goOn_102 : decode prog_4_method_4_code 102 = .ok (.iload 6, 2) := by decide +kernel
theorem d_R_goOn_104 : decode prog_4_method_4_code 104 = .ok (.laload, 1) := by decide +kernel
theorem d_R_goOn_105 : decode prog_4_method_4_code 105 = .ok (.lsub, 1) := by decide +kernel
theorem d_R_goOn_106 : decode prog_4_method_4_code 106 = .ok (.invokevirtual 84, 3) := by decide +kernel
theorem d_R_goOn_109 : decode prog_4_method_4_code 109 = .ok (.ifCond .ne 5, 3) := by decide +kernel
theorem d_R_goOn_112 : decode prog_4_method_4_code 112 = .ok (.iconst 0, 1) := by decide +kernel
theorem d_R_goOn_113 : decode prog_4_method_4_code 113 = .ok (.ireturn, 1) := by decide +kernel
theorem d_R_goOn_114 : decode prog_4_method_4_code 114 = .ok (.aload_n 0, 1) := by decide +kernel
theorem d_R_goOn_115 : decode prog_4_method_4_code 115 = .ok (.getfield 44, 3) := by decide +kernel
theorem d_R_goOn_118 : decode prog_4_method_4_code 118 = .ok (.iload 6, 2) := by decide +kernel
theorem d_R_goOn_120 : decode prog_4_method_4_code 120 = .ok (.invokevirtual 87, 3) := by decide +kernel
theorem d_R_goOn_123 : decode prog_4_method_4_code 123 = .ok (.iinc 6 1, 3) := by decide +kernel
theorem d_R_goOn_126 : decode prog_4_method_4_code 126 = .ok (.goto (-123), 3) := by decide +kernel
theorem d_R_goOn_129 : decode prog_4_method_4_code 129 = .ok (.iconst 1, 1) := by decide +kernel
theorem d_R_goOn_130 : decode prog_4_method_4_code 130 = .ok (.ireturn, 1) := by decide +kernel
theorem d_R_follow_0 : decode prog_4_method_5_code 0 = .ok (.lload_n 2, 1) := by decide +kernel
theorem d_R_follow_1 : decode prog_4_method_5_code 1 = .ok (.lload 4, 2) := by decide +kernel
theorem d_R_follow_3 : decode prog_4_method_5_code 3 = .ok (.ladd, 1) := by decide +kernel
theorem d_R_follow_4 : decode prog_4_method_5_code 4 = .ok (.aload_n 0, 1) := by decide +kernel
theorem d_R_follow_5 : decode prog_4_method_5_code 5 = .ok (.getfield 26, 3) := by decide +kernel
theorem d_R_follow_8 : decode prog_4_method_5_code 8 = .ok (.lcmp, 1) := by decide +kernel
theorem d_R_follow_9 : decode prog_4_method_5_code 9 = .ok (.ifCond .lt 5, 3) := by decide +kernel
theorem d_R_follow_12 : decode prog_4_method_5_code 12 = .ok (.iconst 1, 1) := by decide +kernel
theorem d_R_follow_13 : decode prog_4_method_5_code 13 = .ok (.ireturn, 1) := by decide +kernel
theorem d_R_follow_14 : decode prog_4_method_5_code 14 = .ok (.iload_n 1, 1) := by decide +kernel
theorem d_R_follow_15 : decode prog_4_method_5_code 15 = .ok (.iconst 1, 1) := by decide +kernel
theorem d_R_follow_16 : decode prog_4_method_5_code 16 = .ok (.iadd, 1) := by decide +kernel
theorem d_R_follow_17 : decode prog_4_method_5_code 17 = .ok (.aload_n 0, 1) := by decide +kernel
theorem d_R_follow_18 : decode prog_4_method_5_code 18 = .ok (.getfield 40, 3) := by decide +kernel
theorem d_R_follow_21 : decode prog_4_method_5_code 21 = .ok (.getfield 48, 3) := by decide +kernel
theorem d_R_follow_24 : decode prog_4_method_5_code 24 = .ok (.if_icmp .lt 25, 3) := by decide +kernel
theorem d_R_follow_27 : decode prog_4_method_5_code 27 = .ok (.aload_n 0, 1) := by decide +kernel
theorem d_R_follow_28 : decode prog_4_method_5_code 28 = .ok (.lload_n 2, 1) := by decide +kernel
theorem d_R_follow_29 : decode prog_4_method_5_code 29 = .ok (.putfield 26, 3) := by decide +kernel
theorem d_R_follow_32 : decode prog_4_method_5_code 32 = .ok (.aload_n 0, 1) := by decide +kernel
theorem d_R_follow_33 : decode prog_4_method_5_code 33 = .ok (.getfield 15, 3) := by decide +kernel
theorem d_R_follow_36 : decode prog_4_method_5_code 36 = .ok (.iconst 0, 1) := by decide +kernel
theorem d_R_follow_37 : decode prog_4_method_5_code 37 = .ok (.aload_n 0, 1) := by decide +kernel
theorem d_R_follow_38 : decode prog_4_method_5_code 38 = .ok (.getfield 23, 3) := by decide +kernel
theorem d_R_follow_41 : decode prog_4_method_5_code 41 = .ok (.iconst 0, 1) := by decide +kernel
theorem d_R_follow_42 : decode prog_4_method_5_code 42 = .ok (.bipush 6, 2) := by decide +kernel
theorem d_R_follow_44 : decode prog_4_method_5_code 44 = .ok (.invokestatic 91, 3) := by decide +kernel
theorem d_R_follow_47 : decode prog_4_method_5_code 47 = .ok (.iconst 1, 1) := by decide +kernel
theorem d_R_follow_48 : decode prog_4_method_5_code 48 = .ok (.ireturn, 1) := by decide +kernel
theorem d_R_follow_49 : decode prog_4_method_5_code 49 = .ok (.aload_n 0, 1) := by decide +kernel
theorem d_R_follow_50 : decode prog_4_method_5_code 50 = .ok (.getfield 15, 3) := by decide +kernel
theorem d_R_follow_53 : decode prog_4_method_5_code 53 = .ok (.iload_n 1, 1) := by decide +kernel
theorem d_R_follow_54 : decode prog_4_method_5_code 54 = .ok (.iaload, 1) := by decide +kernel
theorem d_R_follow_55 : decode prog_4_method_5_code 55 = .ok (.istore 6, 2) := by decide +kernel
theorem d_R_follow_57 : decode prog_4_method_5_code 57 = .ok (.aload_n 0, 1) := by decide +kernel
theorem d_R_follow_58 : decode prog_4_method_5_code 58 = .ok (.getfield 19, 3) := by decide +kernel
theorem d_R_follow_61 : decode prog_4_method_5_code 61 = .ok (.iload 6, 2) := by decide +kernel
theorem d_R_follow_63 : decode prog_4_method_5_code 63 = .ok (.iconst 1, 1) := by decide +kernel
theorem d_R_follow_64 : decode prog_4_method_5_code 64 = .ok (.bastore, 1) := by decide +kernel
theorem d_R_follow_65 : decode prog_4_method_5_code 65 = .ok (.aload_n 0, 1) := by decide +kernel
theorem d_R_follow_66 : decode prog_4_method_5_code 66 = .ok (.iload_n 1, 1) := by decide +kernel
theorem d_R_follow_67 : decode prog_4_method_5_code 67 = .ok (.iconst 1, 1) := by decide +kernel
theorem d_R_follow_68 : decode prog_4_method_5_code 68 = .ok (.iadd, 1) := by decide +kernel
theorem d_R_follow_69 : decode prog_4_method_5_code 69 = .ok (.lload_n 2, 1) := by decide +kernel
theorem d_R_follow_70 : decode prog_4_method_5_code 70 = .ok (.lload 4, 2) := by decide +kernel
theorem d_R_follow_72 : decode prog_4_method_5_code 72 = .ok (.invokevirtual 69, 3) := by decide +kernel
theorem d_R_follow_75 : decode prog_4_method_5_code 75 = .ok (.istore 7, 2) := by decide +kernel
theorem d_R_follow_77 : decode prog_4_method_5_code 77 = .ok (.aload_n 0, 1) := by decide +kernel
theorem d_R_follow_78 : decode prog_4_method_5_code 78 = .ok (.getfield 19, 3) := by decide +kernel
theorem d_R_follow_81 : decode prog_4_method_5_code 81 = .ok (.iload 6, 2) := by decide +kernel
theorem d_R_follow_83 : decode prog_4_method_5_code 83 = .ok (.iconst 0, 1) := by decide +kernel
theorem d_R_follow_84 : decode prog_4_method_5_code 84 = .ok (.bastore, 1) := by decide +kernel
theorem d_R_follow_85 : decode prog_4_method_5_code 85 = .ok (.iload 7, 2) := by decide +kernel
theorem d_R_follow_87 : decode prog_4_method_5_code 87 = .ok (.ireturn, 1) := by decide +kernel
