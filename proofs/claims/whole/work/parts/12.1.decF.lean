/-! decode rows of WorkPlans$Floor -/
theorem d_F_init_0 : decode prog_2_method_1_code 0 = .ok (.aload_n 0, 1) := by decide +kernel
theorem d_F_init_1 : decode prog_2_method_1_code 1 = .ok (.invokespecial 3, 3) := by decide +kernel
theorem d_F_init_4 : decode prog_2_method_1_code 4 = .ok (.aload_n 0, 1) := by decide +kernel
theorem d_F_init_5 : decode prog_2_method_1_code 5 = .ok (.bipush 24, 2) := by decide +kernel
theorem d_F_init_7 : decode prog_2_method_1_code 7 = .ok (.newarray .int, 2) := by decide +kernel
theorem d_F_init_9 : decode prog_2_method_1_code 9 = .ok (.putfield 9, 3) := by decide +kernel
theorem d_F_init_12 : decode prog_2_method_1_code 12 = .ok (.aload_n 0, 1) := by decide +kernel
theorem d_F_init_13 : decode prog_2_method_1_code 13 = .ok (.bipush 24, 2) := by decide +kernel
theorem d_F_init_15 : decode prog_2_method_1_code 15 = .ok (.newarray .int, 2) := by decide +kernel
theorem d_F_init_17 : decode prog_2_method_1_code 17 = .ok (.putfield 15, 3) := by decide +kernel
theorem d_F_init_20 : decode prog_2_method_1_code 20 = .ok (.aload_n 0, 1) := by decide +kernel
theorem d_F_init_21 : decode prog_2_method_1_code 21 = .ok (.bipush 6, 2) := by decide +kernel
theorem d_F_init_23 : decode prog_2_method_1_code 23 = .ok (.newarray .int, 2) := by decide +kernel
theorem d_F_init_25 : decode prog_2_method_1_code 25 = .ok (.putfield 18, 3) := by decide +kernel
theorem d_F_init_28 : decode prog_2_method_1_code 28 = .ok (.aload_n 0, 1) := by decide +kernel
theorem d_F_init_29 : decode prog_2_method_1_code 29 = .ok (.sipush 192, 3) := by decide +kernel
theorem d_F_init_32 : decode prog_2_method_1_code 32 = .ok (.newarray .int, 2) := by decide +kernel
theorem d_F_init_34 : decode prog_2_method_1_code 34 = .ok (.putfield 21, 3) := by decide +kernel
theorem d_F_init_37 : decode prog_2_method_1_code 37 = .ok (.aload_n 0, 1) := by decide +kernel
theorem d_F_init_38 : decode prog_2_method_1_code 38 = .ok (.sipush 192, 3) := by decide +kernel
theorem d_F_init_41 : decode prog_2_method_1_code 41 = .ok (.newarray .int, 2) := by decide +kernel
theorem d_F_init_43 : decode prog_2_method_1_code 43 = .ok (.putfield 24, 3) := by decide +kernel
theorem d_F_init_46 : decode prog_2_method_1_code 46 = .ok (.aload_n 0, 1) := by decide +kernel
theorem d_F_init_47 : decode prog_2_method_1_code 47 = .ok (.aload_n 1, 1) := by decide +kernel
theorem d_F_init_48 : decode prog_2_method_1_code 48 = .ok (.putfield 27, 3) := by decide +kernel
theorem d_F_init_51 : decode prog_2_method_1_code 51 = .ok (.return_, 1) := by decide +kernel
theorem d_F_costAlone_0 : decode prog_2_method_7_code 0 = .ok (.aload_n 0, 1) := by decide +kernel
theorem d_F_costAlone_1 : decode prog_2_method_7_code 1 = .ok (.invokevirtual 66, 3) := by decide +kernel
theorem d_F_costAlone_4 : decode prog_2_method_7_code 4 = .ok (.aload_n 0, 1) := by decide +kernel
theorem d_F_costAlone_5 : decode prog_2_method_7_code 5 = .ok (.getfield 27, 3) := by decide +kernel
theorem d_F_costAlone_8 : decode prog_2_method_7_code 8 = .ok (.iload_n 1, 1) := by decide +kernel
theorem d_F_costAlone_9 : decode prog_2_method_7_code 9 = .ok (.aload_n 0, 1) := by decide +kernel
theorem d_F_costAlone_10 : decode prog_2_method_7_code 10 = .ok (.iload_n 1, 1) := by decide +kernel
theorem d_F_costAlone_11 : decode prog_2_method_7_code 11 = .ok (.invokevirtual 69, 3) := by decide +kernel
theorem d_F_costAlone_14 : decode prog_2_method_7_code 14 = .ok (.invokevirtual 73, 3) := by decide +kernel
theorem d_F_costAlone_17 : decode prog_2_method_7_code 17 = .ok (.lreturn, 1) := by decide +kernel
theorem d_F_clear_0 : decode prog_2_method_2_code 0 = .ok (.iconst 0, 1) := by decide +kernel
theorem d_F_clear_1 : decode prog_2_method_2_code 1 = .ok (.istore_n 1, 1) := by decide +kernel
theorem d_F_clear_2 : decode prog_2_method_2_code 2 = .ok (.iload_n 1, 1) := by decide +kernel
theorem d_F_clear_3 : decode prog_2_method_2_code 3 = .ok (.aload_n 0, 1) := by decide +kernel
theorem d_F_clear_4 : decode prog_2_method_2_code 4 = .ok (.getfield 27, 3) := by decide +kernel
theorem d_F_clear_7 : decode prog_2_method_2_code 7 = .ok (.getfield 31, 3) := by decide +kernel
theorem d_F_clear_10 : decode prog_2_method_2_code 10 = .ok (.if_icmp .ge 67, 3) := by decide +kernel
theorem d_F_clear_13 : decode prog_2_method_2_code 13 = .ok (.aload_n 0, 1) := by decide +kernel
theorem d_F_clear_14 : decode prog_2_method_2_code 14 = .ok (.getfield 18, 3) := by decide +kernel
theorem d_F_clear_17 : decode prog_2_method_2_code 17 = .ok (.iload_n 1, 1) := by decide +kernel
theorem d_F_clear_18 : decode prog_2_method_2_code 18 = .ok (.iconst 0, 1) := by decide +kernel
theorem d_F_clear_19 : decode prog_2_method_2_code 19 = .ok (.iastore, 1) := by decide +kernel
theorem d_F_clear_20 : decode prog_2_method_2_code 20 = .ok (.iconst 0, 1) := by decide +kernel
theorem d_F_clear_21 : decode prog_2_method_2_code 21 = .ok (.istore_n 2, 1) := by decide +kernel
theorem d_F_clear_22 : decode prog_2_method_2_code 22 = .ok (.iload_n 2, 1) := by decide +kernel
theorem d_F_clear_23 : decode prog_2_method_2_code 23 = .ok (.aload_n 0, 1) := by decide +kernel
theorem d_F_clear_24 : decode prog_2_method_2_code 24 = .ok (.getfield 27, 3) := by decide +kernel
theorem d_F_clear_27 : decode prog_2_method_2_code 27 = .ok (.getfield 37, 3) := by decide +kernel
theorem d_F_clear_30 : decode prog_2_method_2_code 30 = .ok (.iload_n 1, 1) := by decide +kernel
theorem d_F_clear_31 : decode prog_2_method_2_code 31 = .ok (.iaload, 1) := by decide +kernel
theorem d_F_clear_32 : decode prog_2_method_2_code 32 = .ok (.if_icmp .ge 39, 3) := by decide +kernel
theorem d_F_clear_35 : decode prog_2_method_2_code 35 = .ok (.iload_n 1, 1) := by decide +kernel
theorem d_F_clear_36 : decode prog_2_method_2_code 36 = .ok (.bipush 8, 2) := by decide +kernel
theorem d_F_clear_38 : decode prog_2_method_2_code 38 = .ok (.imul, 1) := by decide +kernel
theorem d_F_clear_39 : decode prog_2_method_2_code 39 = .ok (.iload_n 2, 1) := by decide +kernel
theorem d_F_clear_40 : decode prog_2_method_2_code 40 = .ok (.iadd, 1) := by decide +kernel
theorem d_F_clear_41 : decode prog_2_method_2_code 41 = .ok (.istore_n 3, 1) := by decide +kernel
theorem d_F_clear_42 : decode prog_2_method_2_code 42 = .ok (.aload_n 0, 1) := by decide +kernel
theorem d_F_clear_43 : decode prog_2_method_2_code 43 = .ok (.iload_n 1, 1) := by decide +kernel
theorem d_F_clear_44 : decode prog_2_method_2_code 44 = .ok (.aload_n 0, 1) := by decide +kernel
theorem d_F_clear_45 : decode prog_2_method_2_code 45 = .ok (.getfield 27, 3) := by decide +kernel
theorem d_F_clear_48 : decode prog_2_method_2_code 48 = .ok (.getfield 40, 3) := by decide +kernel
theorem d_F_clear_51 : decode prog_2_method_2_code 51 = .ok (.iload_n 3, 1) := by decide +kernel
theorem d_F_clear_52 : decode prog_2_method_2_code 52 = .ok (.iaload, 1) := by decide +kernel
theorem d_F_clear_53 : decode prog_2_method_2_code 53 = .ok (.aload_n 0, 1) := by decide +kernel
theorem d_F_clear_54 : decode prog_2_method_2_code 54 = .ok (.getfield 27, 3) := by decide +kernel
theorem d_F_clear_57 : decode prog_2_method_2_code 57 = .ok (.getfield 43, 3) := by decide +kernel
theorem d_F_clear_60 : decode prog_2_method_2_code 60 = .ok (.iload_n 3, 1) := by decide +kernel
theorem d_F_clear_61 : decode prog_2_method_2_code 61 = .ok (.iaload, 1) := by decide +kernel
theorem d_F_clear_62 : decode prog_2_method_2_code 62 = .ok (.invokevirtual 46, 3) := by decide +kernel
theorem d_F_clear_65 : decode prog_2_method_2_code 65 = .ok (.iinc 2 1, 3) := by decide +kernel
theorem d_F_clear_68 : decode prog_2_method_2_code 68 = .ok (.goto (-46), 3) := by decide +kernel
theorem d_F_clear_71 : decode prog_2_method_2_code 71 = .ok (.iinc 1 1, 3) := by decide +kernel
theorem d_F_clear_74 : decode prog_2_method_2_code 74 = .ok (.goto (-72), 3) := by decide +kernel
theorem d_F_clear_77 : decode prog_2_method_2_code 77 = .ok (.return_, 1) := by decide +kernel
theorem d_F_addBusy_0 : decode prog_2_method_12_code 0 = .ok (.aload_n 0, 1) := by decide +kernel
theorem d_F_addBusy_1 : decode prog_2_method_12_code 1 = .ok (.getfield 18, 3) := by decide +kernel
theorem d_F_addBusy_4 : decode prog_2_method_12_code 4 = .ok (.iload_n 1, 1) := by decide +kernel
theorem d_F_addBusy_5 : decode prog_2_method_12_code 5 = .ok (.iaload, 1) := by decide +kernel
theorem d_F_addBusy_6 : decode prog_2_method_12_code 6 = .ok (.bipush 32, 2) := by decide +kernel
theorem d_F_addBusy_8 : decode prog_2_method_12_code 8 = .ok (.if_icmp .ge 42, 3) := by decide +kernel
theorem d_F_addBusy_11 : decode prog_2_method_12_code 11 = .ok (.iload_n 1, 1) := by decide +kernel
theorem d_F_addBusy_12 : decode prog_2_method_12_code 12 = .ok (.bipush 32, 2) := by decide +kernel
theorem d_F_addBusy_14 : decode prog_2_method_12_code 14 = .ok (.imul, 1) := by decide +kernel
theorem d_F_addBusy_15 : decode prog_2_method_12_code 15 = .ok (.aload_n 0, 1) := by decide +kernel
theorem d_F_addBusy_16 : decode prog_2_method_12_code 16 = .ok (.getfield 18, 3) := by decide +kernel
theorem d_F_addBusy_19 : decode prog_2_method_12_code 19 = .ok (.iload_n 1, 1) := by decide +kernel
theorem d_F_addBusy_20 : decode prog_2_method_12_code 20 = .ok (.iaload, 1) := by decide +kernel
theorem d_F_addBusy_21 : decode prog_2_method_12_code 21 = .ok (.iadd, 1) := by decide +kernel
theorem d_F_addBusy_22 : decode prog_2_method_12_code 22 = .ok (.istore 4, 2) := by decide +kernel
theorem d_F_addBusy_24 : decode prog_2_method_12_code 24 = .ok (.aload_n 0, 1) := by decide +kernel
theorem d_F_addBusy_25 : decode prog_2_method_12_code 25 = .ok (.getfield 21, 3) := by decide +kernel
theorem d_F_addBusy_28 : decode prog_2_method_12_code 28 = .ok (.iload 4, 2) := by decide +kernel
theorem d_F_addBusy_30 : decode prog_2_method_12_code 30 = .ok (.iload_n 2, 1) := by decide +kernel
theorem d_F_addBusy_31 : decode prog_2_method_12_code 31 = .ok (.iastore, 1) := by decide +kernel
theorem d_F_addBusy_32 : decode prog_2_method_12_code 32 = .ok (.aload_n 0, 1) := by decide +kernel
theorem d_F_addBusy_33 : decode prog_2_method_12_code 33 = .ok (.getfield 24, 3) := by decide +kernel
theorem d_F_addBusy_36 : decode prog_2_method_12_code 36 = .ok (.iload 4, 2) := by decide +kernel
theorem d_F_addBusy_38 : decode prog_2_method_12_code 38 = .ok (.iload_n 3, 1) := by decide +kernel
theorem d_F_addBusy_39 : decode prog_2_method_12_code 39 = .ok (.iastore, 1) := by decide +kernel
theorem d_F_addBusy_40 : decode prog_2_method_12_code 40 = .ok (.aload_n 0, 1) := by decide +kernel
theorem d_F_addBusy_41 : decode prog_2_method_12_code 41 = .ok (.getfield 18, 3) := by decide +kernel
theorem d_F_addBusy_44 : decode prog_2_method_12_code 44 = .ok (.iload_n 1, 1) := by decide +kernel
theorem d_F_addBusy_45 : decode prog_2_method_12_code 45 = .ok (.dup2, 1) := by decide +kernel
theorem d_F_addBusy_46 : decode prog_2_method_12_code 46 = .ok (.iaload, 1) := by decide +kernel
theorem d_F_addBusy_47 : decode prog_2_method_12_code 47 = .ok (.iconst 1, 1) := by decide +kernel
theorem d_F_addBusy_48 : decode prog_2_method_12_code 48 = .ok (.iadd, 1) := by decide +kernel
theorem d_F_addBusy_49 : decode prog_2_method_12_code 49 = .ok (.iastore, 1) := by decide +kernel
theorem d_F_addBusy_50 : decode prog_2_method_12_code 50 = .ok (.return_, 1) := by decide +kernel
theorem d_F_place_0 : decode prog_2_method_3_code 0 = .ok (.iconst 0, 1) := by decide +kernel
theorem d_F_place_1 : decode prog_2_method_3_code 1 = .ok (.istore_n 2, 1) := by decide +kernel
theorem d_F_place_2 : decode prog_2_method_3_code 2 = .ok (.iconst 0, 1) := by decide +kernel
theorem d_F_place_3 : decode prog_2_method_3_code 3 = .ok (.istore_n 3, 1) := by decide +kernel
theorem d_F_place_4 : decode prog_2_method_3_code 4 = .ok (.iconst 0, 1) := by decide +kernel
theorem d_F_place_5 : decode prog_2_method_3_code 5 = .ok (.istore 4, 2) := by decide +kernel
theorem d_F_place_7 : decode prog_2_method_3_code 7 = .ok (.iload 4, 2) := by decide +kernel
theorem d_F_place_9 : decode prog_2_method_3_code 9 = .ok (.aload_n 0, 1) := by decide +kernel
theorem d_F_place_10 : decode prog_2_method_3_code 10 = .ok (.getfield 27, 3) := by decide +kernel
theorem d_F_place_13 : decode prog_2_method_3_code 13 = .ok (.getfield 50, 3) := by decide +kernel
theorem d_F_place_16 : decode prog_2_method_3_code 16 = .ok (.iload_n 1, 1) := by decide +kernel
theorem d_F_place_17 : decode prog_2_method_3_code 17 = .ok (.iaload, 1) := by decide +kernel
theorem d_F_place_18 : decode prog_2_method_3_code 18 = .ok (.if_icmp .ge 57, 3) := by decide +kernel
theorem d_F_place_21 : decode prog_2_method_3_code 21 = .ok (.aload_n 0, 1) := by decide +kernel
theorem d_F_place_22 : decode prog_2_method_3_code 22 = .ok (.getfield 27, 3) := by decide +kernel
theorem d_F_place_25 : decode prog_2_method_3_code 25 = .ok (.getfield 53, 3) := by decide +kernel
theorem d_F_place_28 : decode prog_2_method_3_code 28 = .ok (.iload_n 1, 1) := by decide +kernel
theorem d_F_place_29 : decode prog_2_method_3_code 29 = .ok (.iconst 4, 1) := by decide +kernel
theorem d_F_place_30 : decode prog_2_method_3_code 30 = .ok (.imul, 1) := by decide +kernel
theorem d_F_place_31 : decode prog_2_method_3_code 31 = .ok (.iload 4, 2) := by decide +kernel
theorem d_F_place_33 : decode prog_2_method_3_code 33 = .ok (.iadd, 1) := by decide +kernel
theorem d_F_place_34 : decode prog_2_method_3_code 34 = .ok (.iaload, 1) := by decide +kernel
theorem d_F_place_35 : decode prog_2_method_3_code 35 = .ok (.istore 5, 2) := by decide +kernel
theorem d_F_place_37 : decode prog_2_method_3_code 37 = .ok (.aload_n 0, 1) := by decide +kernel
theorem d_F_place_38 : decode prog_2_method_3_code 38 = .ok (.iload 5, 2) := by decide +kernel
theorem d_F_place_40 : decode prog_2_method_3_code 40 = .ok (.iload_n 3, 1) := by decide +kernel
theorem d_F_place_41 : decode prog_2_method_3_code 41 = .ok (.invokevirtual 56, 3) := by decide +kernel
theorem d_F_place_44 : decode prog_2_method_3_code 44 = .ok (.aload_n 0, 1) := by decide +kernel
theorem d_F_place_45 : decode prog_2_method_3_code 45 = .ok (.getfield 27, 3) := by decide +kernel
theorem d_F_place_48 : decode prog_2_method_3_code 48 = .ok (.getfield 60, 3) := by decide +kernel
theorem d_F_place_51 : decode prog_2_method_3_code 51 = .ok (.iload 5, 2) := by decide +kernel
theorem d_F_place_53 : decode prog_2_method_3_code 53 = .ok (.iaload, 1) := by decide +kernel
theorem d_F_place_54 : decode prog_2_method_3_code 54 = .ok (.iadd, 1) := by decide +kernel
theorem d_F_place_55 : decode prog_2_method_3_code 55 = .ok (.istore_n 2, 1) := by decide +kernel
theorem d_F_place_56 : decode prog_2_method_3_code 56 = .ok (.iload_n 2, 1) := by decide +kernel
theorem d_F_place_57 : decode prog_2_method_3_code 57 = .ok (.aload_n 0, 1) := by decide +kernel
theorem d_F_place_58 : decode prog_2_method_3_code 58 = .ok (.getfield 27, 3) := by decide +kernel
theorem d_F_place_61 : decode prog_2_method_3_code 61 = .ok (.getfield 63, 3) := by decide +kernel
theorem d_F_place_64 : decode prog_2_method_3_code 64 = .ok (.iload 5, 2) := by decide +kernel
theorem d_F_place_66 : decode prog_2_method_3_code 66 = .ok (.iaload, 1) := by decide +kernel
theorem d_F_place_67 : decode prog_2_method_3_code 67 = .ok (.iadd, 1) := by decide +kernel
theorem d_F_place_68 : decode prog_2_method_3_code 68 = .ok (.istore_n 3, 1) := by decide +kernel
theorem d_F_place_69 : decode prog_2_method_3_code 69 = .ok (.iinc 4 1, 3) := by decide +kernel
theorem d_F_place_72 : decode prog_2_method_3_code 72 = .ok (.goto (-65), 3) := by decide +kernel
theorem d_F_place_75 : decode prog_2_method_3_code 75 = .ok (.iload_n 2, 1) := by decide +kernel
theorem d_F_place_76 : decode prog_2_method_3_code 76 = .ok (.ireturn, 1) := by decide +kernel
theorem d_F_placeStep_0 : decode prog_2_method_10_code 0 = .ok (.iload_n 2, 1) := by decide +kernel
theorem d_F_placeStep_1 : decode prog_2_method_10_code 1 = .ok (.istore_n 3, 1) := by decide +kernel
theorem d_F_placeStep_2 : decode prog_2_method_10_code 2 = .ok (.iconst (-1), 1) := by decide +kernel
theorem d_F_placeStep_3 : decode prog_2_method_10_code 3 = .ok (.istore 4, 2) := by decide +kernel
theorem d_F_placeStep_5 : decode prog_2_method_10_code 5 = .ok (.iconst 0, 1) := by decide +kernel
theorem d_F_placeStep_6 : decode prog_2_method_10_code 6 = .ok (.istore 5, 2) := by decide +kernel
theorem d_F_placeStep_8 : decode prog_2_method_10_code 8 = .ok (.iload 5, 2) := by decide +kernel
theorem d_F_placeStep_10 : decode prog_2_method_10_code 10 = .ok (.aload_n 0, 1) := by decide +kernel
theorem d_F_placeStep_11 : decode prog_2_method_10_code 11 = .ok (.getfield 27, 3) := by decide +kernel
theorem d_F_placeStep_14 : decode prog_2_method_10_code 14 = .ok (.getfield 31, 3) := by decide +kernel
theorem d_F_placeStep_17 : decode prog_2_method_10_code 17 = .ok (.if_icmp .ge 68, 3) := by decide +kernel
theorem d_F_placeStep_20 : decode prog_2_method_10_code 20 = .ok (.aload_n 0, 1) := by decide +kernel
theorem d_F_placeStep_21 : decode prog_2_method_10_code 21 = .ok (.getfield 27, 3) := by decide +kernel
theorem d_F_placeStep_24 : decode prog_2_method_10_code 24 = .ok (.getfield 84, 3) := by decide +kernel
theorem d_F_placeStep_27 : decode prog_2_method_10_code 27 = .ok (.iload 5, 2) := by decide +kernel
theorem d_F_placeStep_29 : decode prog_2_method_10_code 29 = .ok (.iaload, 1) := by decide +kernel
theorem d_F_placeStep_30 : decode prog_2_method_10_code 30 = .ok (.aload_n 0, 1) := by decide +kernel
theorem d_F_placeStep_31 : decode prog_2_method_10_code 31 = .ok (.getfield 27, 3) := by decide +kernel
theorem d_F_placeStep_34 : decode prog_2_method_10_code 34 = .ok (.getfield 87, 3) := by decide +kernel
theorem d_F_placeStep_37 : decode prog_2_method_10_code 37 = .ok (.iload_n 1, 1) := by decide +kernel
theorem d_F_placeStep_38 : decode prog_2_method_10_code 38 = .ok (.iaload, 1) := by decide +kernel
theorem d_F_placeStep_39 : decode prog_2_method_10_code 39 = .ok (.if_icmp .ne 40, 3) := by decide +kernel
theorem d_F_placeStep_42 : decode prog_2_method_10_code 42 = .ok (.aload_n 0, 1) := by decide +kernel
theorem d_F_placeStep_43 : decode prog_2_method_10_code 43 = .ok (.iload 5, 2) := by decide +kernel
theorem d_F_placeStep_45 : decode prog_2_method_10_code 45 = .ok (.iload_n 2, 1) := by decide +kernel
theorem d_F_placeStep_46 : decode prog_2_method_10_code 46 = .ok (.aload_n 0, 1) := by decide +kernel
theorem d_F_placeStep_47 : decode prog_2_method_10_code 47 = .ok (.getfield 27, 3) := by decide +kernel
theorem d_F_placeStep_50 : decode prog_2_method_10_code 50 = .ok (.getfield 60, 3) := by decide +kernel
theorem d_F_placeStep_53 : decode prog_2_method_10_code 53 = .ok (.iload_n 1, 1) := by decide +kernel
theorem d_F_placeStep_54 : decode prog_2_method_10_code 54 = .ok (.iaload, 1) := by decide +kernel
theorem d_F_placeStep_55 : decode prog_2_method_10_code 55 = .ok (.invokevirtual 90, 3) := by decide +kernel
theorem d_F_placeStep_58 : decode prog_2_method_10_code 58 = .ok (.istore 6, 2) := by decide +kernel
theorem d_F_placeStep_60 : decode prog_2_method_10_code 60 = .ok (.iload 4, 2) := by decide +kernel
theorem d_F_placeStep_62 : decode prog_2_method_10_code 62 = .ok (.iconst (-1), 1) := by decide +kernel
theorem d_F_placeStep_63 : decode prog_2_method_10_code 63 = .ok (.if_icmp .eq 9, 3) := by decide +kernel
theorem d_F_placeStep_66 : decode prog_2_method_10_code 66 = .ok (.iload 6, 2) := by decide +kernel
theorem d_F_placeStep_68 : decode prog_2_method_10_code 68 = .ok (.iload_n 3, 1) := by decide +kernel
theorem d_F_placeStep_69 : decode prog_2_method_10_code 69 = .ok (.if_icmp .ge 10, 3) := by decide +kernel
theorem d_F_placeStep_72 : decode prog_2_method_10_code 72 = .ok (.iload 6, 2) := by decide +kernel
theorem d_F_placeStep_74 : decode prog_2_method_10_code 74 = .ok (.istore_n 3, 1) := by decide +kernel
theorem d_F_placeStep_75 : decode prog_2_method_10_code 75 = .ok (.iload 5, 2) := by decide +kernel
theorem d_F_placeStep_77 : decode prog_2_method_10_code 77 = .ok (.istore 4, 2) := by decide +kernel
theorem d_F_placeStep_79 : decode prog_2_method_10_code 79 = .ok (.iinc 5 1, 3) := by decide +kernel
theorem d_F_placeStep_82 : decode prog_2_method_10_code 82 = .ok (.goto (-74), 3) := by decide +kernel
theorem d_F_placeStep_85 : decode prog_2_method_10_code 85 = .ok (.aload_n 0, 1) := by decide +kernel
theorem d_F_placeStep_86 : decode prog_2_method_10_code 86 = .ok (.iload_n 1, 1) := by decide +kernel
theorem d_F_placeStep_87 : decode prog_2_method_10_code 87 = .ok (.iload 4, 2) := by decide +kernel
theorem d_F_placeStep_89 : decode prog_2_method_10_code 89 = .ok (.iload_n 3, 1) := by decide +kernel
theorem d_F_placeStep_90 : decode prog_2_method_10_code 90 = .ok (.invokevirtual 94, 3) := by decide +kernel
theorem d_F_placeStep_93 : decode prog_2_method_10_code 93 = .ok (.iload_n 3, 1) := by decide +kernel
theorem d_F_placeStep_94 : decode prog_2_method_10_code 94 = .ok (.ireturn, 1) := by decide +kernel
theorem d_F_firstBegin_0 : decode prog_2_method_11_code 0 = .ok (.iload_n 2, 1) := by decide +kernel
theorem d_F_firstBegin_1 : decode prog_2_method_11_code 1 = .ok (.istore 4, 2) := by decide +kernel
theorem d_F_firstBegin_3 : decode prog_2_method_11_code 3 = .ok (.iload_n 1, 1) := by decide +kernel
theorem d_F_firstBegin_4 : decode prog_2_method_11_code 4 = .ok (.bipush 32, 2) := by decide +kernel
theorem d_F_firstBegin_6 : decode prog_2_method_11_code 6 = .ok (.imul, 1) := by decide +kernel
theorem d_F_firstBegin_7 : decode prog_2_method_11_code 7 = .ok (.istore 5, 2) := by decide +kernel
theorem d_F_firstBegin_9 : decode prog_2_method_11_code 9 = .ok (.iconst 1, 1) := by decide +kernel
theorem d_F_firstBegin_10 : decode prog_2_method_11_code 10 = .ok (.istore 6, 2) := by decide +kernel
theorem d_F_firstBegin_12 : decode prog_2_method_11_code 12 = .ok (.iconst 0, 1) := by decide +kernel
theorem d_F_firstBegin_13 : decode prog_2_method_11_code 13 = .ok (.istore 7, 2) := by decide +kernel
theorem d_F_firstBegin_15 : decode prog_2_method_11_code 15 = .ok (.iload 7, 2) := by decide +kernel
theorem d_F_firstBegin_17 : decode prog_2_method_11_code 17 = .ok (.bipush 32, 2) := by decide +kernel
theorem d_F_firstBegin_19 : decode prog_2_method_11_code 19 = .ok (.if_icmp .gt 79, 3) := by decide +kernel
theorem d_F_firstBegin_22 : decode prog_2_method_11_code 22 = .ok (.iload 6, 2) := by decide +kernel
theorem d_F_firstBegin_24 : decode prog_2_method_11_code 24 = .ok (.ifCond .eq 74, 3) := by decide +kernel
theorem d_F_firstBegin_27 : decode prog_2_method_11_code 27 = .ok (.iconst 0, 1) := by decide +kernel
theorem d_F_firstBegin_28 : decode prog_2_method_11_code 28 = .ok (.istore 6, 2) := by decide +kernel
theorem d_F_firstBegin_30 : decode prog_2_method_11_code 30 = .ok (.iload 5, 2) := by decide +kernel
theorem d_F_firstBegin_32 : decode prog_2_method_11_code 32 = .ok (.istore 8, 2) := by decide +kernel
theorem d_F_firstBegin_34 : decode prog_2_method_11_code 34 = .ok (.iload 8, 2) := by decide +kernel
theorem d_F_firstBegin_36 : decode prog_2_method_11_code 36 = .ok (.iload 5, 2) := by decide +kernel
theorem d_F_firstBegin_38 : decode prog_2_method_11_code 38 = .ok (.aload_n 0, 1) := by decide +kernel
theorem d_F_firstBegin_39 : decode prog_2_method_11_code 39 = .ok (.getfield 18, 3) := by decide +kernel
theorem d_F_firstBegin_42 : decode prog_2_method_11_code 42 = .ok (.iload_n 1, 1) := by decide +kernel
theorem d_F_firstBegin_43 : decode prog_2_method_11_code 43 = .ok (.iaload, 1) := by decide +kernel
theorem d_F_firstBegin_44 : decode prog_2_method_11_code 44 = .ok (.iadd, 1) := by decide +kernel
theorem d_F_firstBegin_45 : decode prog_2_method_11_code 45 = .ok (.if_icmp .ge 47, 3) := by decide +kernel
theorem d_F_firstBegin_48 : decode prog_2_method_11_code 48 = .ok (.iload 4, 2) := by decide +kernel
theorem d_F_firstBegin_50 : decode prog_2_method_11_code 50 = .ok (.iload 4, 2) := by decide +kernel
theorem d_F_firstBegin_52 : decode prog_2_method_11_code 52 = .ok (.iload_n 3, 1) := by decide +kernel
theorem d_F_firstBegin_53 : decode prog_2_method_11_code 53 = .ok (.iadd, 1) := by decide +kernel
theorem d_F_firstBegin_54 : decode prog_2_method_11_code 54 = .ok (.aload_n 0, 1) := by decide +kernel
theorem d_F_firstBegin_55 : decode prog_2_method_11_code 55 = .ok (.getfield 21, 3) := by decide +kernel
theorem d_F_firstBegin_58 : decode prog_2_method_11_code 58 = .ok (.iload 8, 2) := by decide +kernel
theorem d_F_firstBegin_60 : decode prog_2_method_11_code 60 = .ok (.iaload, 1) := by decide +kernel
theorem d_F_firstBegin_61 : decode prog_2_method_11_code 61 = .ok (.aload_n 0, 1) := by decide +kernel
theorem d_F_firstBegin_62 : decode prog_2_method_11_code 62 = .ok (.getfield 24, 3) := by decide +kernel
theorem d_F_firstBegin_65 : decode prog_2_method_11_code 65 = .ok (.iload 8, 2) := by decide +kernel
theorem d_F_firstBegin_67 : decode prog_2_method_11_code 67 = .ok (.iaload, 1) := by decide +kernel
theorem d_F_firstBegin_68 : decode prog_2_method_11_code 68 = .ok (.invokestatic 97, 3) := by decide +kernel
theorem d_F_firstBegin_71 : decode prog_2_method_11_code 71 = .ok (.ifCond .eq 15, 3) := by decide +kernel
theorem d_F_firstBegin_74 : decode prog_2_method_11_code 74 = .ok (.aload_n 0, 1) := by decide +kernel
theorem d_F_firstBegin_75 : decode prog_2_method_11_code 75 = .ok (.getfield 24, 3) := by decide +kernel
theorem d_F_firstBegin_78 : decode prog_2_method_11_code 78 = .ok (.iload 8, 2) := by decide +kernel
theorem d_F_firstBegin_80 : decode prog_2_method_11_code 80 = .ok (.iaload, 1) := by decide +kernel
theorem d_F_firstBegin_81 : decode prog_2_method_11_code 81 = .ok (.istore 4, 2) := by decide +kernel
theorem d_F_firstBegin_83 : decode prog_2_method_11_code 83 = .ok (.iconst 1, 1) := by decide +kernel
theorem d_F_firstBegin_84 : decode prog_2_method_11_code 84 = .ok (.istore 6, 2) := by decide +kernel
theorem d_F_firstBegin_86 : decode prog_2_method_11_code 86 = .ok (.iinc 8 1, 3) := by decide +kernel
theorem d_F_firstBegin_89 : decode prog_2_method_11_code 89 = .ok (.goto (-55), 3) := by decide +kernel
theorem d_F_firstBegin_92 : decode prog_2_method_11_code 92 = .ok (.iinc 7 1, 3) := by decide +kernel
theorem d_F_firstBegin_95 : decode prog_2_method_11_code 95 = .ok (.goto (-80), 3) := by decide +kernel
theorem d_F_firstBegin_98 : decode prog_2_method_11_code 98 = .ok (.iload 4, 2) := by decide +kernel
theorem d_F_firstBegin_100 : decode prog_2_method_11_code 100 = .ok (.ireturn, 1) := by decide +kernel
theorem d_F_put_0 : decode prog_2_method_5_code 0 = .ok (.aload_n 0, 1) := by decide +kernel
theorem d_F_put_1 : decode prog_2_method_5_code 1 = .ok (.getfield 9, 3) := by decide +kernel
theorem d_F_put_4 : decode prog_2_method_5_code 4 = .ok (.iload_n 1, 1) := by decide +kernel
theorem d_F_put_5 : decode prog_2_method_5_code 5 = .ok (.iload_n 3, 1) := by decide +kernel
theorem d_F_put_6 : decode prog_2_method_5_code 6 = .ok (.iastore, 1) := by decide +kernel
theorem d_F_put_7 : decode prog_2_method_5_code 7 = .ok (.aload_n 0, 1) := by decide +kernel
theorem d_F_put_8 : decode prog_2_method_5_code 8 = .ok (.getfield 15, 3) := by decide +kernel
theorem d_F_put_11 : decode prog_2_method_5_code 11 = .ok (.iload_n 1, 1) := by decide +kernel
theorem d_F_put_12 : decode prog_2_method_5_code 12 = .ok (.iload_n 2, 1) := by decide +kernel
theorem d_F_put_13 : decode prog_2_method_5_code 13 = .ok (.iastore, 1) := by decide +kernel
theorem d_F_put_14 : decode prog_2_method_5_code 14 = .ok (.iload_n 2, 1) := by decide +kernel
theorem d_F_put_15 : decode prog_2_method_5_code 15 = .ok (.iconst (-1), 1) := by decide +kernel
theorem d_F_put_16 : decode prog_2_method_5_code 16 = .ok (.if_icmp .eq 20, 3) := by decide +kernel
theorem d_F_put_19 : decode prog_2_method_5_code 19 = .ok (.aload_n 0, 1) := by decide +kernel
theorem d_F_put_20 : decode prog_2_method_5_code 20 = .ok (.iload_n 2, 1) := by decide +kernel
theorem d_F_put_21 : decode prog_2_method_5_code 21 = .ok (.iload_n 3, 1) := by decide +kernel
theorem d_F_put_22 : decode prog_2_method_5_code 22 = .ok (.iload_n 3, 1) := by decide +kernel
theorem d_F_put_23 : decode prog_2_method_5_code 23 = .ok (.aload_n 0, 1) := by decide +kernel
theorem d_F_put_24 : decode prog_2_method_5_code 24 = .ok (.getfield 27, 3) := by decide +kernel
theorem d_F_put_27 : decode prog_2_method_5_code 27 = .ok (.getfield 60, 3) := by decide +kernel
theorem d_F_put_30 : decode prog_2_method_5_code 30 = .ok (.iload_n 1, 1) := by decide +kernel
theorem d_F_put_31 : decode prog_2_method_5_code 31 = .ok (.iaload, 1) := by decide +kernel
theorem d_F_put_32 : decode prog_2_method_5_code 32 = .ok (.iadd, 1) := by decide +kernel
theorem d_F_put_33 : decode prog_2_method_5_code 33 = .ok (.invokevirtual 46, 3) := by decide +kernel
theorem d_F_put_36 : decode prog_2_method_5_code 36 = .ok (.return_, 1) := by decide +kernel
theorem d_F_costInOrder_0 : decode prog_2_method_6_code 0 = .ok (.aload_n 0, 1) := by decide +kernel
theorem d_F_costInOrder_1 : decode prog_2_method_6_code 1 = .ok (.invokevirtual 66, 3) := by decide +kernel
theorem d_F_costInOrder_4 : decode prog_2_method_6_code 4 = .ok (.lconst 0, 1) := by decide +kernel
theorem d_F_costInOrder_5 : decode prog_2_method_6_code 5 = .ok (.lstore_n 3, 1) := by decide +kernel
theorem d_F_costInOrder_6 : decode prog_2_method_6_code 6 = .ok (.iconst 0, 1) := by decide +kernel
theorem d_F_costInOrder_7 : decode prog_2_method_6_code 7 = .ok (.istore 5, 2) := by decide +kernel
theorem d_F_costInOrder_9 : decode prog_2_method_6_code 9 = .ok (.iload 5, 2) := by decide +kernel
theorem d_F_costInOrder_11 : decode prog_2_method_6_code 11 = .ok (.iload_n 2, 1) := by decide +kernel
theorem d_F_costInOrder_12 : decode prog_2_method_6_code 12 = .ok (.if_icmp .ge 31, 3) := by decide +kernel
theorem d_F_costInOrder_15 : decode prog_2_method_6_code 15 = .ok (.lload_n 3, 1) := by decide +kernel
theorem d_F_costInOrder_16 : decode prog_2_method_6_code 16 = .ok (.aload_n 0, 1) := by decide +kernel
theorem d_F_costInOrder_17 : decode prog_2_method_6_code 17 = .ok (.getfield 27, 3) := by decide +kernel
theorem d_F_costInOrder_20 : decode prog_2_method_6_code 20 = .ok (.aload_n 1, 1) := by decide +kernel
theorem d_F_costInOrder_21 : decode prog_2_method_6_code 21 = .ok (.iload 5, 2) := by decide +kernel
theorem d_F_costInOrder_23 : decode prog_2_method_6_code 23 = .ok (.iaload, 1) := by decide +kernel
theorem d_F_costInOrder_24 : decode prog_2_method_6_code 24 = .ok (.aload_n 0, 1) := by decide +kernel
theorem d_F_costInOrder_25 : decode prog_2_method_6_code 25 = .ok (.aload_n 1, 1) := by decide +kernel
theorem d_F_costInOrder_26 : decode prog_2_method_6_code 26 = .ok (.iload 5, 2) := by decide +kernel
theorem d_F_costInOrder_28 : decode prog_2_method_6_code 28 = .ok (.iaload, 1) := by decide +kernel
theorem d_F_costInOrder_29 : decode prog_2_method_6_code 29 = .ok (.invokevirtual 69, 3) := by decide +kernel
theorem d_F_costInOrder_32 : decode prog_2_method_6_code 32 = .ok (.invokevirtual 73, 3) := by decide +kernel
theorem d_F_costInOrder_35 : decode prog_2_method_6_code 35 = .ok (.ladd, 1) := by decide +kernel
theorem d_F_costInOrder_36 : decode prog_2_method_6_code 36 = .ok (.lstore_n 3, 1) := by decide +kernel
theorem d_F_costInOrder_37 : decode prog_2_method_6_code 37 = .ok (.iinc 5 1, 3) := by decide +kernel
theorem d_F_costInOrder_40 : decode prog_2_method_6_code 40 = .ok (.goto (-31), 3) := by decide +kernel
theorem d_F_costInOrder_43 : decode prog_2_method_6_code 43 = .ok (.lload_n 3, 1) := by decide +kernel
theorem d_F_costInOrder_44 : decode prog_2_method_6_code 44 = .ok (.lreturn, 1) := by decide +kernel
theorem d_F_lift_0 : decode prog_2_method_4_code 0 = .ok (.iconst 0, 1) := by decide +kernel
theorem d_F_lift_1 : decode prog_2_method_4_code 1 = .ok (.istore_n 2, 1) := by decide +kernel
theorem d_F_lift_2 : decode prog_2_method_4_code 2 = .ok (.iload_n 2, 1) := by decide +kernel
theorem d_F_lift_3 : decode prog_2_method_4_code 3 = .ok (.aload_n 0, 1) := by decide +kernel
theorem d_F_lift_4 : decode prog_2_method_4_code 4 = .ok (.getfield 27, 3) := by decide +kernel
theorem d_F_lift_7 : decode prog_2_method_4_code 7 = .ok (.getfield 50, 3) := by decide +kernel
theorem d_F_lift_10 : decode prog_2_method_4_code 10 = .ok (.iload_n 1, 1) := by decide +kernel
theorem d_F_lift_11 : decode prog_2_method_4_code 11 = .ok (.iaload, 1) := by decide +kernel
theorem d_F_lift_12 : decode prog_2_method_4_code 12 = .ok (.if_icmp .ge 52, 3) := by decide +kernel
theorem d_F_lift_15 : decode prog_2_method_4_code 15 = .ok (.aload_n 0, 1) := by decide +kernel
theorem d_F_lift_16 : decode prog_2_method_4_code 16 = .ok (.getfield 15, 3) := by decide +kernel
theorem d_F_lift_19 : decode prog_2_method_4_code 19 = .ok (.aload_n 0, 1) := by decide +kernel
theorem d_F_lift_20 : decode prog_2_method_4_code 20 = .ok (.getfield 27, 3) := by decide +kernel
theorem d_F_lift_23 : decode prog_2_method_4_code 23 = .ok (.getfield 53, 3) := by decide +kernel
theorem d_F_lift_26 : decode prog_2_method_4_code 26 = .ok (.iload_n 1, 1) := by decide +kernel
theorem d_F_lift_27 : decode prog_2_method_4_code 27 = .ok (.iconst 4, 1) := by decide +kernel
theorem d_F_lift_28 : decode prog_2_method_4_code 28 = .ok (.imul, 1) := by decide +kernel
theorem d_F_lift_29 : decode prog_2_method_4_code 29 = .ok (.iload_n 2, 1) := by decide +kernel
theorem d_F_lift_30 : decode prog_2_method_4_code 30 = .ok (.iadd, 1) := by decide +kernel
theorem d_F_lift_31 : decode prog_2_method_4_code 31 = .ok (.iaload, 1) := by decide +kernel
theorem d_F_lift_32 : decode prog_2_method_4_code 32 = .ok (.iaload, 1) := by decide +kernel
theorem d_F_lift_33 : decode prog_2_method_4_code 33 = .ok (.istore_n 3, 1) := by decide +kernel
theorem d_F_lift_34 : decode prog_2_method_4_code 34 = .ok (.iload_n 3, 1) := by decide +kernel
theorem d_F_lift_35 : decode prog_2_method_4_code 35 = .ok (.iconst (-1), 1) := by decide +kernel
theorem d_F_lift_36 : decode prog_2_method_4_code 36 = .ok (.if_icmp .eq 22, 3) := by decide +kernel
theorem d_F_lift_39 : decode prog_2_method_4_code 39 = .ok (.aload_n 0, 1) := by decide +kernel
theorem d_F_lift_40 : decode prog_2_method_4_code 40 = .ok (.getfield 18, 3) := by decide +kernel
theorem d_F_lift_43 : decode prog_2_method_4_code 43 = .ok (.iload_n 3, 1) := by decide +kernel
theorem d_F_lift_44 : decode prog_2_method_4_code 44 = .ok (.iaload, 1) := by decide +kernel
theorem d_F_lift_45 : decode prog_2_method_4_code 45 = .ok (.ifCond .le 13, 3) := by decide +kernel
theorem d_F_lift_48 : decode prog_2_method_4_code 48 = .ok (.aload_n 0, 1) := by decide +kernel
theorem d_F_lift_49 : decode prog_2_method_4_code 49 = .ok (.getfield 18, 3) := by decide +kernel
theorem d_F_lift_52 : decode prog_2_method_4_code 52 = .ok (.iload_n 3, 1) := by decide +kernel
theorem d_F_lift_53 : decode prog_2_method_4_code 53 = .ok (.dup2, 1) := by decide +kernel
theorem d_F_lift_54 : decode prog_2_method_4_code 54 = .ok (.iaload, 1) := by decide +kernel
theorem d_F_lift_55 : decode prog_2_method_4_code 55 = .ok (.iconst 1, 1) := by decide +kernel
theorem d_F_lift_56 : decode prog_2_method_4_code 56 = .ok (.isub, 1) := by decide +kernel
theorem d_F_lift_57 : decode prog_2_method_4_code 57 = .ok (.iastore, 1) := by decide +kernel
theorem d_F_lift_58 : decode prog_2_method_4_code 58 = .ok (.iinc 2 1, 3) := by decide +kernel
theorem d_F_lift_61 : decode prog_2_method_4_code 61 = .ok (.goto (-59), 3) := by decide +kernel
theorem d_F_lift_64 : decode prog_2_method_4_code 64 = .ok (.return_, 1) := by decide +kernel
theorem d_F_doClash_0 : decode prog_2_method_8_code 0 = .ok (.aload_n 0, 1) := by decide +kernel
theorem d_F_doClash_1 : decode prog_2_method_8_code 1 = .ok (.iload_n 1, 1) := by decide +kernel
theorem d_F_doClash_2 : decode prog_2_method_8_code 2 = .ok (.invokevirtual 77, 3) := by decide +kernel
theorem d_F_doClash_5 : decode prog_2_method_8_code 5 = .ok (.lconst 0, 1) := by decide +kernel
theorem d_F_doClash_6 : decode prog_2_method_8_code 6 = .ok (.lcmp, 1) := by decide +kernel
theorem d_F_doClash_7 : decode prog_2_method_8_code 7 = .ok (.ifCond .ne 39, 3) := by decide +kernel
theorem d_F_doClash_10 : decode prog_2_method_8_code 10 = .ok (.aload_n 0, 1) := by decide +kernel
theorem d_F_doClash_11 : decode prog_2_method_8_code 11 = .ok (.iload_n 2, 1) := by decide +kernel
theorem d_F_doClash_12 : decode prog_2_method_8_code 12 = .ok (.invokevirtual 77, 3) := by decide +kernel
theorem d_F_doClash_15 : decode prog_2_method_8_code 15 = .ok (.lconst 0, 1) := by decide +kernel
theorem d_F_doClash_16 : decode prog_2_method_8_code 16 = .ok (.lcmp, 1) := by decide +kernel
theorem d_F_doClash_17 : decode prog_2_method_8_code 17 = .ok (.ifCond .ne 29, 3) := by decide +kernel
theorem d_F_doClash_20 : decode prog_2_method_8_code 20 = .ok (.aload_n 0, 1) := by decide +kernel
theorem d_F_doClash_21 : decode prog_2_method_8_code 21 = .ok (.iload_n 1, 1) := by decide +kernel
theorem d_F_doClash_22 : decode prog_2_method_8_code 22 = .ok (.iload_n 2, 1) := by decide +kernel
theorem d_F_doClash_23 : decode prog_2_method_8_code 23 = .ok (.invokevirtual 81, 3) := by decide +kernel
theorem d_F_doClash_26 : decode prog_2_method_8_code 26 = .ok (.lconst 0, 1) := by decide +kernel
theorem d_F_doClash_27 : decode prog_2_method_8_code 27 = .ok (.lcmp, 1) := by decide +kernel
theorem d_F_doClash_28 : decode prog_2_method_8_code 28 = .ok (.ifCond .le 18, 3) := by decide +kernel
theorem d_F_doClash_31 : decode prog_2_method_8_code 31 = .ok (.aload_n 0, 1) := by decide +kernel
theorem d_F_doClash_32 : decode prog_2_method_8_code 32 = .ok (.iload_n 2, 1) := by decide +kernel
theorem d_F_doClash_33 : decode prog_2_method_8_code 33 = .ok (.iload_n 1, 1) := by decide +kernel
theorem d_F_doClash_34 : decode prog_2_method_8_code 34 = .ok (.invokevirtual 81, 3) := by decide +kernel
theorem d_F_doClash_37 : decode prog_2_method_8_code 37 = .ok (.lconst 0, 1) := by decide +kernel
theorem d_F_doClash_38 : decode prog_2_method_8_code 38 = .ok (.lcmp, 1) := by decide +kernel
theorem d_F_doClash_39 : decode prog_2_method_8_code 39 = .ok (.ifCond .le 7, 3) := by decide +kernel
theorem d_F_doClash_42 : decode prog_2_method_8_code 42 = .ok (.iconst 1, 1) := by decide +kernel
theorem d_F_doClash_43 : decode prog_2_method_8_code 43 = .ok (.goto 4, 3) := by decide +kernel
theorem d_F_doClash_46 : decode prog_2_method_8_code 46 = .ok (.iconst 0, 1) := by decide +kernel
theorem d_F_doClash_47 : decode prog_2_method_8_code 47 = .ok (.ireturn, 1) := by decide +kernel
theorem d_F_costOfTwo_0 : decode prog_2_method_9_code 0 = .ok (.aload_n 0, 1) := by decide +kernel
theorem d_F_costOfTwo_1 : decode prog_2_method_9_code 1 = .ok (.invokevirtual 66, 3) := by decide +kernel
theorem d_F_costOfTwo_4 : decode prog_2_method_9_code 4 = .ok (.aload_n 0, 1) := by decide +kernel
theorem d_F_costOfTwo_5 : decode prog_2_method_9_code 5 = .ok (.getfield 27, 3) := by decide +kernel
theorem d_F_costOfTwo_8 : decode prog_2_method_9_code 8 = .ok (.iload_n 1, 1) := by decide +kernel
theorem d_F_costOfTwo_9 : decode prog_2_method_9_code 9 = .ok (.aload_n 0, 1) := by decide +kernel
theorem d_F_costOfTwo_10 : decode prog_2_method_9_code 10 = .ok (.iload_n 1, 1) := by decide +kernel
theorem d_F_costOfTwo_11 : decode prog_2_method_9_code 11 = .ok (.invokevirtual 69, 3) := by decide +kernel
theorem d_F_costOfTwo_14 : decode prog_2_method_9_code 14 = .ok (.invokevirtual 73, 3) := by decide +kernel
theorem d_F_costOfTwo_17 : decode prog_2_method_9_code 17 = .ok (.lstore_n 3, 1) := by decide +kernel
theorem d_F_costOfTwo_18 : decode prog_2_method_9_code 18 = .ok (.lload_n 3, 1) := by decide +kernel
theorem d_F_costOfTwo_19 : decode prog_2_method_9_code 19 = .ok (.aload_n 0, 1) := by decide +kernel
theorem d_F_costOfTwo_20 : decode prog_2_method_9_code 20 = .ok (.getfield 27, 3) := by decide +kernel
theorem d_F_costOfTwo_23 : decode prog_2_method_9_code 23 = .ok (.iload_n 2, 1) := by decide +kernel
theorem d_F_costOfTwo_24 : decode prog_2_method_9_code 24 = .ok (.aload_n 0, 1) := by decide +kernel
theorem d_F_costOfTwo_25 : decode prog_2_method_9_code 25 = .ok (.iload_n 2, 1) := by decide +kernel
theorem d_F_costOfTwo_26 : decode prog_2_method_9_code 26 = .ok (.invokevirtual 69, 3) := by decide +kernel
theorem d_F_costOfTwo_29 : decode prog_2_method_9_code 29 = .ok (.invokevirtual 73, 3) := by decide +kernel
theorem d_F_costOfTwo_32 : decode prog_2_method_9_code 32 = .ok (.ladd, 1) := by decide +kernel
theorem d_F_costOfTwo_33 : decode prog_2_method_9_code 33 = .ok (.lreturn, 1) := by decide +kernel
