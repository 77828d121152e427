/-! decode rows of WorkPlans -/
theorem d_X_init_0 : decode prog_1_method_1_code 0 = .ok (.aload_n 0, 1) := by decide +kernel
theorem d_X_init_1 : decode prog_1_method_1_code 1 = .ok (.invokespecial 3, 3) := by decide +kernel
theorem d_X_init_4 : decode prog_1_method_1_code 4 = .ok (.aload_n 0, 1) := by decide +kernel
theorem d_X_init_5 : decode prog_1_method_1_code 5 = .ok (.new 9, 3) := by decide +kernel
theorem d_X_init_8 : decode prog_1_method_1_code 8 = .ok (.dup, 1) := by decide +kernel
theorem d_X_init_9 : decode prog_1_method_1_code 9 = .ok (.invokespecial 11, 3) := by decide +kernel
theorem d_X_init_12 : decode prog_1_method_1_code 12 = .ok (.putfield 12, 3) := by decide +kernel
theorem d_X_init_15 : decode prog_1_method_1_code 15 = .ok (.aload_n 0, 1) := by decide +kernel
theorem d_X_init_16 : decode prog_1_method_1_code 16 = .ok (.new 16, 3) := by decide +kernel
theorem d_X_init_19 : decode prog_1_method_1_code 19 = .ok (.dup, 1) := by decide +kernel
theorem d_X_init_20 : decode prog_1_method_1_code 20 = .ok (.aload_n 0, 1) := by decide +kernel
theorem d_X_init_21 : decode prog_1_method_1_code 21 = .ok (.getfield 12, 3) := by decide +kernel
theorem d_X_init_24 : decode prog_1_method_1_code 24 = .ok (.invokespecial 18, 3) := by decide +kernel
theorem d_X_init_27 : decode prog_1_method_1_code 27 = .ok (.putfield 21, 3) := by decide +kernel
theorem d_X_init_30 : decode prog_1_method_1_code 30 = .ok (.aload_n 0, 1) := by decide +kernel
theorem d_X_init_31 : decode prog_1_method_1_code 31 = .ok (.new 25, 3) := by decide +kernel
theorem d_X_init_34 : decode prog_1_method_1_code 34 = .ok (.dup, 1) := by decide +kernel
theorem d_X_init_35 : decode prog_1_method_1_code 35 = .ok (.aload_n 0, 1) := by decide +kernel
theorem d_X_init_36 : decode prog_1_method_1_code 36 = .ok (.getfield 12, 3) := by decide +kernel
theorem d_X_init_39 : decode prog_1_method_1_code 39 = .ok (.aload_n 0, 1) := by decide +kernel
theorem d_X_init_40 : decode prog_1_method_1_code 40 = .ok (.getfield 21, 3) := by decide +kernel
theorem d_X_init_43 : decode prog_1_method_1_code 43 = .ok (.invokespecial 27, 3) := by decide +kernel
theorem d_X_init_46 : decode prog_1_method_1_code 46 = .ok (.putfield 30, 3) := by decide +kernel
theorem d_X_init_49 : decode prog_1_method_1_code 49 = .ok (.aload_n 0, 1) := by decide +kernel
theorem d_X_init_50 : decode prog_1_method_1_code 50 = .ok (.new 34, 3) := by decide +kernel
theorem d_X_init_53 : decode prog_1_method_1_code 53 = .ok (.dup, 1) := by decide +kernel
theorem d_X_init_54 : decode prog_1_method_1_code 54 = .ok (.aload_n 0, 1) := by decide +kernel
theorem d_X_init_55 : decode prog_1_method_1_code 55 = .ok (.getfield 12, 3) := by decide +kernel
theorem d_X_init_58 : decode prog_1_method_1_code 58 = .ok (.invokespecial 36, 3) := by decide +kernel
theorem d_X_init_61 : decode prog_1_method_1_code 61 = .ok (.putfield 37, 3) := by decide +kernel
theorem d_X_init_64 : decode prog_1_method_1_code 64 = .ok (.aload_n 0, 1) := by decide +kernel
theorem d_X_init_65 : decode prog_1_method_1_code 65 = .ok (.iload_n 1, 1) := by decide +kernel
theorem d_X_init_66 : decode prog_1_method_1_code 66 = .ok (.i2l, 1) := by decide +kernel
theorem d_X_init_67 : decode prog_1_method_1_code 67 = .ok (.putfield 41, 3) := by decide +kernel
theorem d_X_init_70 : decode prog_1_method_1_code 70 = .ok (.aload_n 0, 1) := by decide +kernel
theorem d_X_init_71 : decode prog_1_method_1_code 71 = .ok (.iconst 0, 1) := by decide +kernel
theorem d_X_init_72 : decode prog_1_method_1_code 72 = .ok (.putfield 45, 3) := by decide +kernel
theorem d_X_init_75 : decode prog_1_method_1_code 75 = .ok (.return_, 1) := by decide +kernel
theorem d_X_machine_0 : decode prog_1_method_2_code 0 = .ok (.iload_n 1, 1) := by decide +kernel
theorem d_X_machine_1 : decode prog_1_method_2_code 1 = .ok (.iconst 0, 1) := by decide +kernel
theorem d_X_machine_2 : decode prog_1_method_2_code 2 = .ok (.iconst 3, 1) := by decide +kernel
theorem d_X_machine_3 : decode prog_1_method_2_code 3 = .ok (.invokestatic 49, 3) := by decide +kernel
theorem d_X_machine_6 : decode prog_1_method_2_code 6 = .ok (.ifCond .ne 13, 3) := by decide +kernel
theorem d_X_machine_9 : decode prog_1_method_2_code 9 = .ok (.new 53, 3) := by decide +kernel
theorem d_X_machine_12 : decode prog_1_method_2_code 12 = .ok (.dup, 1) := by decide +kernel
theorem d_X_machine_13 : decode prog_1_method_2_code 13 = .ok (.ldc 55, 2) := by decide +kernel
theorem d_X_machine_15 : decode prog_1_method_2_code 15 = .ok (.invokespecial 57, 3) := by decide +kernel
theorem d_X_machine_18 : decode prog_1_method_2_code 18 = .ok (.athrow, 1) := by decide +kernel
theorem d_X_machine_19 : decode prog_1_method_2_code 19 = .ok (.aload_n 0, 1) := by decide +kernel
theorem d_X_machine_20 : decode prog_1_method_2_code 20 = .ok (.getfield 12, 3) := by decide +kernel
theorem d_X_machine_23 : decode prog_1_method_2_code 23 = .ok (.getfield 60, 3) := by decide +kernel
theorem d_X_machine_26 : decode prog_1_method_2_code 26 = .ok (.bipush 6, 2) := by decide +kernel
theorem d_X_machine_28 : decode prog_1_method_2_code 28 = .ok (.if_icmp .lt 13, 3) := by decide +kernel
theorem d_X_machine_31 : decode prog_1_method_2_code 31 = .ok (.new 64, 3) := by decide +kernel
theorem d_X_machine_34 : decode prog_1_method_2_code 34 = .ok (.dup, 1) := by decide +kernel
theorem d_X_machine_35 : decode prog_1_method_2_code 35 = .ok (.ldc 66, 2) := by decide +kernel
theorem d_X_machine_37 : decode prog_1_method_2_code 37 = .ok (.invokespecial 68, 3) := by decide +kernel
theorem d_X_machine_40 : decode prog_1_method_2_code 40 = .ok (.athrow, 1) := by decide +kernel
theorem d_X_machine_41 : decode prog_1_method_2_code 41 = .ok (.aload_n 0, 1) := by decide +kernel
theorem d_X_machine_42 : decode prog_1_method_2_code 42 = .ok (.iconst 1, 1) := by decide +kernel
theorem d_X_machine_43 : decode prog_1_method_2_code 43 = .ok (.putfield 45, 3) := by decide +kernel
theorem d_X_machine_46 : decode prog_1_method_2_code 46 = .ok (.aload_n 0, 1) := by decide +kernel
theorem d_X_machine_47 : decode prog_1_method_2_code 47 = .ok (.getfield 12, 3) := by decide +kernel
theorem d_X_machine_50 : decode prog_1_method_2_code 50 = .ok (.iload_n 1, 1) := by decide +kernel
theorem d_X_machine_51 : decode prog_1_method_2_code 51 = .ok (.invokevirtual 69, 3) := by decide +kernel
theorem d_X_machine_54 : decode prog_1_method_2_code 54 = .ok (.ireturn, 1) := by decide +kernel
theorem d_X_isWithin_0 : decode prog_1_method_16_code 0 = .ok (.iload_n 0, 1) := by decide +kernel
theorem d_X_isWithin_1 : decode prog_1_method_16_code 1 = .ok (.iload_n 1, 1) := by decide +kernel
theorem d_X_isWithin_2 : decode prog_1_method_16_code 2 = .ok (.if_icmp .lt 12, 3) := by decide +kernel
theorem d_X_isWithin_5 : decode prog_1_method_16_code 5 = .ok (.iload_n 0, 1) := by decide +kernel
theorem d_X_isWithin_6 : decode prog_1_method_16_code 6 = .ok (.iload_n 2, 1) := by decide +kernel
theorem d_X_isWithin_7 : decode prog_1_method_16_code 7 = .ok (.if_icmp .gt 7, 3) := by decide +kernel
theorem d_X_isWithin_10 : decode prog_1_method_16_code 10 = .ok (.iconst 1, 1) := by decide +kernel
theorem d_X_isWithin_11 : decode prog_1_method_16_code 11 = .ok (.goto 4, 3) := by decide +kernel
theorem d_X_isWithin_14 : decode prog_1_method_16_code 14 = .ok (.iconst 0, 1) := by decide +kernel
theorem d_X_isWithin_15 : decode prog_1_method_16_code 15 = .ok (.ireturn, 1) := by decide +kernel
theorem d_X_out_0 : decode prog_1_method_3_code 0 = .ok (.iload_n 1, 1) := by decide +kernel
theorem d_X_out_1 : decode prog_1_method_3_code 1 = .ok (.iconst 0, 1) := by decide +kernel
theorem d_X_out_2 : decode prog_1_method_3_code 2 = .ok (.aload_n 0, 1) := by decide +kernel
theorem d_X_out_3 : decode prog_1_method_3_code 3 = .ok (.getfield 12, 3) := by decide +kernel
theorem d_X_out_6 : decode prog_1_method_3_code 6 = .ok (.getfield 60, 3) := by decide +kernel
theorem d_X_out_9 : decode prog_1_method_3_code 9 = .ok (.iconst 1, 1) := by decide +kernel
theorem d_X_out_10 : decode prog_1_method_3_code 10 = .ok (.isub, 1) := by decide +kernel
theorem d_X_out_11 : decode prog_1_method_3_code 11 = .ok (.invokestatic 49, 3) := by decide +kernel
theorem d_X_out_14 : decode prog_1_method_3_code 14 = .ok (.ifCond .ne 13, 3) := by decide +kernel
theorem d_X_out_17 : decode prog_1_method_3_code 17 = .ok (.new 73, 3) := by decide +kernel
theorem d_X_out_20 : decode prog_1_method_3_code 20 = .ok (.dup, 1) := by decide +kernel
theorem d_X_out_21 : decode prog_1_method_3_code 21 = .ok (.ldc 75, 2) := by decide +kernel
theorem d_X_out_23 : decode prog_1_method_3_code 23 = .ok (.invokespecial 77, 3) := by decide +kernel
theorem d_X_out_26 : decode prog_1_method_3_code 26 = .ok (.athrow, 1) := by decide +kernel
theorem d_X_out_27 : decode prog_1_method_3_code 27 = .ok (.iload_n 2, 1) := by decide +kernel
theorem d_X_out_28 : decode prog_1_method_3_code 28 = .ok (.iconst 0, 1) := by decide +kernel
theorem d_X_out_29 : decode prog_1_method_3_code 29 = .ok (.sipush 1000, 3) := by decide +kernel
theorem d_X_out_32 : decode prog_1_method_3_code 32 = .ok (.invokestatic 49, 3) := by decide +kernel
theorem d_X_out_35 : decode prog_1_method_3_code 35 = .ok (.ifCond .eq 15, 3) := by decide +kernel
theorem d_X_out_38 : decode prog_1_method_3_code 38 = .ok (.iload_n 3, 1) := by decide +kernel
theorem d_X_out_39 : decode prog_1_method_3_code 39 = .ok (.iload_n 2, 1) := by decide +kernel
theorem d_X_out_40 : decode prog_1_method_3_code 40 = .ok (.if_icmp .le 10, 3) := by decide +kernel
theorem d_X_out_43 : decode prog_1_method_3_code 43 = .ok (.iload_n 3, 1) := by decide +kernel
theorem d_X_out_44 : decode prog_1_method_3_code 44 = .ok (.sipush 2000, 3) := by decide +kernel
theorem d_X_out_47 : decode prog_1_method_3_code 47 = .ok (.if_icmp .le 13, 3) := by decide +kernel
theorem d_X_out_50 : decode prog_1_method_3_code 50 = .ok (.new 53, 3) := by decide +kernel
theorem d_X_out_53 : decode prog_1_method_3_code 53 = .ok (.dup, 1) := by decide +kernel
theorem d_X_out_54 : decode prog_1_method_3_code 54 = .ok (.ldc 78, 2) := by decide +kernel
theorem d_X_out_56 : decode prog_1_method_3_code 56 = .ok (.invokespecial 57, 3) := by decide +kernel
theorem d_X_out_59 : decode prog_1_method_3_code 59 = .ok (.athrow, 1) := by decide +kernel
theorem d_X_out_60 : decode prog_1_method_3_code 60 = .ok (.aload_n 0, 1) := by decide +kernel
theorem d_X_out_61 : decode prog_1_method_3_code 61 = .ok (.getfield 12, 3) := by decide +kernel
theorem d_X_out_64 : decode prog_1_method_3_code 64 = .ok (.getfield 80, 3) := by decide +kernel
theorem d_X_out_67 : decode prog_1_method_3_code 67 = .ok (.iload_n 1, 1) := by decide +kernel
theorem d_X_out_68 : decode prog_1_method_3_code 68 = .ok (.iaload, 1) := by decide +kernel
theorem d_X_out_69 : decode prog_1_method_3_code 69 = .ok (.bipush 8, 2) := by decide +kernel
theorem d_X_out_71 : decode prog_1_method_3_code 71 = .ok (.if_icmp .lt 13, 3) := by decide +kernel
theorem d_X_out_74 : decode prog_1_method_3_code 74 = .ok (.new 64, 3) := by decide +kernel
theorem d_X_out_77 : decode prog_1_method_3_code 77 = .ok (.dup, 1) := by decide +kernel
theorem d_X_out_78 : decode prog_1_method_3_code 78 = .ok (.ldc 84, 2) := by decide +kernel
theorem d_X_out_80 : decode prog_1_method_3_code 80 = .ok (.invokespecial 68, 3) := by decide +kernel
theorem d_X_out_83 : decode prog_1_method_3_code 83 = .ok (.athrow, 1) := by decide +kernel
theorem d_X_out_84 : decode prog_1_method_3_code 84 = .ok (.aload_n 0, 1) := by decide +kernel
theorem d_X_out_85 : decode prog_1_method_3_code 85 = .ok (.iconst 1, 1) := by decide +kernel
theorem d_X_out_86 : decode prog_1_method_3_code 86 = .ok (.putfield 45, 3) := by decide +kernel
theorem d_X_out_89 : decode prog_1_method_3_code 89 = .ok (.aload_n 0, 1) := by decide +kernel
theorem d_X_out_90 : decode prog_1_method_3_code 90 = .ok (.getfield 12, 3) := by decide +kernel
theorem d_X_out_93 : decode prog_1_method_3_code 93 = .ok (.iload_n 1, 1) := by decide +kernel
theorem d_X_out_94 : decode prog_1_method_3_code 94 = .ok (.iload_n 2, 1) := by decide +kernel
theorem d_X_out_95 : decode prog_1_method_3_code 95 = .ok (.iload_n 3, 1) := by decide +kernel
theorem d_X_out_96 : decode prog_1_method_3_code 96 = .ok (.invokevirtual 86, 3) := by decide +kernel
theorem d_X_out_99 : decode prog_1_method_3_code 99 = .ok (.ireturn, 1) := by decide +kernel
theorem d_X_job_0 : decode prog_1_method_4_code 0 = .ok (.iload_n 1, 1) := by decide +kernel
theorem d_X_job_1 : decode prog_1_method_4_code 1 = .ok (.iconst 0, 1) := by decide +kernel
theorem d_X_job_2 : decode prog_1_method_4_code 2 = .ok (.sipush 10000, 3) := by decide +kernel
theorem d_X_job_5 : decode prog_1_method_4_code 5 = .ok (.invokestatic 49, 3) := by decide +kernel
theorem d_X_job_8 : decode prog_1_method_4_code 8 = .ok (.ifCond .eq 13, 3) := by decide +kernel
theorem d_X_job_11 : decode prog_1_method_4_code 11 = .ok (.iload_n 2, 1) := by decide +kernel
theorem d_X_job_12 : decode prog_1_method_4_code 12 = .ok (.iconst 0, 1) := by decide +kernel
theorem d_X_job_13 : decode prog_1_method_4_code 13 = .ok (.bipush 100, 2) := by decide +kernel
theorem d_X_job_15 : decode prog_1_method_4_code 15 = .ok (.invokestatic 49, 3) := by decide +kernel
theorem d_X_job_18 : decode prog_1_method_4_code 18 = .ok (.ifCond .ne 13, 3) := by decide +kernel
theorem d_X_job_21 : decode prog_1_method_4_code 21 = .ok (.new 53, 3) := by decide +kernel
theorem d_X_job_24 : decode prog_1_method_4_code 24 = .ok (.dup, 1) := by decide +kernel
theorem d_X_job_25 : decode prog_1_method_4_code 25 = .ok (.ldc 90, 2) := by decide +kernel
theorem d_X_job_27 : decode prog_1_method_4_code 27 = .ok (.invokespecial 57, 3) := by decide +kernel
theorem d_X_job_30 : decode prog_1_method_4_code 30 = .ok (.athrow, 1) := by decide +kernel
theorem d_X_job_31 : decode prog_1_method_4_code 31 = .ok (.aload_n 0, 1) := by decide +kernel
theorem d_X_job_32 : decode prog_1_method_4_code 32 = .ok (.getfield 12, 3) := by decide +kernel
theorem d_X_job_35 : decode prog_1_method_4_code 35 = .ok (.getfield 92, 3) := by decide +kernel
theorem d_X_job_38 : decode prog_1_method_4_code 38 = .ok (.bipush 6, 2) := by decide +kernel
theorem d_X_job_40 : decode prog_1_method_4_code 40 = .ok (.if_icmp .lt 13, 3) := by decide +kernel
theorem d_X_job_43 : decode prog_1_method_4_code 43 = .ok (.new 64, 3) := by decide +kernel
theorem d_X_job_46 : decode prog_1_method_4_code 46 = .ok (.dup, 1) := by decide +kernel
theorem d_X_job_47 : decode prog_1_method_4_code 47 = .ok (.ldc 95, 2) := by decide +kernel
theorem d_X_job_49 : decode prog_1_method_4_code 49 = .ok (.invokespecial 68, 3) := by decide +kernel
theorem d_X_job_52 : decode prog_1_method_4_code 52 = .ok (.athrow, 1) := by decide +kernel
theorem d_X_job_53 : decode prog_1_method_4_code 53 = .ok (.aload_n 0, 1) := by decide +kernel
theorem d_X_job_54 : decode prog_1_method_4_code 54 = .ok (.iconst 1, 1) := by decide +kernel
theorem d_X_job_55 : decode prog_1_method_4_code 55 = .ok (.putfield 45, 3) := by decide +kernel
theorem d_X_job_58 : decode prog_1_method_4_code 58 = .ok (.aload_n 0, 1) := by decide +kernel
theorem d_X_job_59 : decode prog_1_method_4_code 59 = .ok (.getfield 12, 3) := by decide +kernel
theorem d_X_job_62 : decode prog_1_method_4_code 62 = .ok (.iload_n 1, 1) := by decide +kernel
theorem d_X_job_63 : decode prog_1_method_4_code 63 = .ok (.iload_n 2, 1) := by decide +kernel
theorem d_X_job_64 : decode prog_1_method_4_code 64 = .ok (.invokevirtual 97, 3) := by decide +kernel
theorem d_X_job_67 : decode prog_1_method_4_code 67 = .ok (.ireturn, 1) := by decide +kernel
theorem d_X_due_0 : decode prog_1_method_5_code 0 = .ok (.aload_n 0, 1) := by decide +kernel
theorem d_X_due_1 : decode prog_1_method_5_code 1 = .ok (.iload_n 1, 1) := by decide +kernel
theorem d_X_due_2 : decode prog_1_method_5_code 2 = .ok (.invokevirtual 101, 3) := by decide +kernel
theorem d_X_due_5 : decode prog_1_method_5_code 5 = .ok (.iload_n 2, 1) := by decide +kernel
theorem d_X_due_6 : decode prog_1_method_5_code 6 = .ok (.iconst 0, 1) := by decide +kernel
theorem d_X_due_7 : decode prog_1_method_5_code 7 = .ok (.sipush 10000, 3) := by decide +kernel
theorem d_X_due_10 : decode prog_1_method_5_code 10 = .ok (.invokestatic 49, 3) := by decide +kernel
theorem d_X_due_13 : decode prog_1_method_5_code 13 = .ok (.ifCond .ne 13, 3) := by decide +kernel
theorem d_X_due_16 : decode prog_1_method_5_code 16 = .ok (.new 53, 3) := by decide +kernel
theorem d_X_due_19 : decode prog_1_method_5_code 19 = .ok (.dup, 1) := by decide +kernel
theorem d_X_due_20 : decode prog_1_method_5_code 20 = .ok (.ldc 105, 2) := by decide +kernel
theorem d_X_due_22 : decode prog_1_method_5_code 22 = .ok (.invokespecial 57, 3) := by decide +kernel
theorem d_X_due_25 : decode prog_1_method_5_code 25 = .ok (.athrow, 1) := by decide +kernel
theorem d_X_due_26 : decode prog_1_method_5_code 26 = .ok (.aload_n 0, 1) := by decide +kernel
theorem d_X_due_27 : decode prog_1_method_5_code 27 = .ok (.iconst 1, 1) := by decide +kernel
theorem d_X_due_28 : decode prog_1_method_5_code 28 = .ok (.putfield 45, 3) := by decide +kernel
theorem d_X_due_31 : decode prog_1_method_5_code 31 = .ok (.aload_n 0, 1) := by decide +kernel
theorem d_X_due_32 : decode prog_1_method_5_code 32 = .ok (.getfield 12, 3) := by decide +kernel
theorem d_X_due_35 : decode prog_1_method_5_code 35 = .ok (.getfield 107, 3) := by decide +kernel
theorem d_X_due_38 : decode prog_1_method_5_code 38 = .ok (.iload_n 1, 1) := by decide +kernel
theorem d_X_due_39 : decode prog_1_method_5_code 39 = .ok (.iload_n 2, 1) := by decide +kernel
theorem d_X_due_40 : decode prog_1_method_5_code 40 = .ok (.iastore, 1) := by decide +kernel
theorem d_X_due_41 : decode prog_1_method_5_code 41 = .ok (.return_, 1) := by decide +kernel
theorem d_X_demandJob_0 : decode prog_1_method_18_code 0 = .ok (.iload_n 1, 1) := by decide +kernel
theorem d_X_demandJob_1 : decode prog_1_method_18_code 1 = .ok (.iconst 0, 1) := by decide +kernel
theorem d_X_demandJob_2 : decode prog_1_method_18_code 2 = .ok (.aload_n 0, 1) := by decide +kernel
theorem d_X_demandJob_3 : decode prog_1_method_18_code 3 = .ok (.getfield 12, 3) := by decide +kernel
theorem d_X_demandJob_6 : decode prog_1_method_18_code 6 = .ok (.getfield 92, 3) := by decide +kernel
theorem d_X_demandJob_9 : decode prog_1_method_18_code 9 = .ok (.iconst 1, 1) := by decide +kernel
theorem d_X_demandJob_10 : decode prog_1_method_18_code 10 = .ok (.isub, 1) := by decide +kernel
theorem d_X_demandJob_11 : decode prog_1_method_18_code 11 = .ok (.invokestatic 49, 3) := by decide +kernel
theorem d_X_demandJob_14 : decode prog_1_method_18_code 14 = .ok (.ifCond .ne 13, 3) := by decide +kernel
theorem d_X_demandJob_17 : decode prog_1_method_18_code 17 = .ok (.new 73, 3) := by decide +kernel
theorem d_X_demandJob_20 : decode prog_1_method_18_code 20 = .ok (.dup, 1) := by decide +kernel
theorem d_X_demandJob_21 : decode prog_1_method_18_code 21 = .ok (.ldc 221, 2) := by decide +kernel
theorem d_X_demandJob_23 : decode prog_1_method_18_code 23 = .ok (.invokespecial 77, 3) := by decide +kernel
theorem d_X_demandJob_26 : decode prog_1_method_18_code 26 = .ok (.athrow, 1) := by decide +kernel
theorem d_X_demandJob_27 : decode prog_1_method_18_code 27 = .ok (.return_, 1) := by decide +kernel
theorem d_X_step_0 : decode prog_1_method_6_code 0 = .ok (.aload_n 0, 1) := by decide +kernel
theorem d_X_step_1 : decode prog_1_method_6_code 1 = .ok (.iload_n 1, 1) := by decide +kernel
theorem d_X_step_2 : decode prog_1_method_6_code 2 = .ok (.invokevirtual 101, 3) := by decide +kernel
theorem d_X_step_5 : decode prog_1_method_6_code 5 = .ok (.iload_n 2, 1) := by decide +kernel
theorem d_X_step_6 : decode prog_1_method_6_code 6 = .ok (.iconst 0, 1) := by decide +kernel
theorem d_X_step_7 : decode prog_1_method_6_code 7 = .ok (.iconst 3, 1) := by decide +kernel
theorem d_X_step_8 : decode prog_1_method_6_code 8 = .ok (.invokestatic 49, 3) := by decide +kernel
theorem d_X_step_11 : decode prog_1_method_6_code 11 = .ok (.ifCond .eq 24, 3) := by decide +kernel
theorem d_X_step_14 : decode prog_1_method_6_code 14 = .ok (.iload_n 3, 1) := by decide +kernel
theorem d_X_step_15 : decode prog_1_method_6_code 15 = .ok (.iconst 1, 1) := by decide +kernel
theorem d_X_step_16 : decode prog_1_method_6_code 16 = .ok (.bipush 100, 2) := by decide +kernel
theorem d_X_step_18 : decode prog_1_method_6_code 18 = .ok (.invokestatic 49, 3) := by decide +kernel
theorem d_X_step_21 : decode prog_1_method_6_code 21 = .ok (.ifCond .eq 14, 3) := by decide +kernel
theorem d_X_step_24 : decode prog_1_method_6_code 24 = .ok (.iload 4, 2) := by decide +kernel
theorem d_X_step_26 : decode prog_1_method_6_code 26 = .ok (.iconst 0, 1) := by decide +kernel
theorem d_X_step_27 : decode prog_1_method_6_code 27 = .ok (.bipush 100, 2) := by decide +kernel
theorem d_X_step_29 : decode prog_1_method_6_code 29 = .ok (.invokestatic 49, 3) := by decide +kernel
theorem d_X_step_32 : decode prog_1_method_6_code 32 = .ok (.ifCond .ne 13, 3) := by decide +kernel
theorem d_X_step_35 : decode prog_1_method_6_code 35 = .ok (.new 53, 3) := by decide +kernel
theorem d_X_step_38 : decode prog_1_method_6_code 38 = .ok (.dup, 1) := by decide +kernel
theorem d_X_step_39 : decode prog_1_method_6_code 39 = .ok (.ldc 110, 2) := by decide +kernel
theorem d_X_step_41 : decode prog_1_method_6_code 41 = .ok (.invokespecial 57, 3) := by decide +kernel
theorem d_X_step_44 : decode prog_1_method_6_code 44 = .ok (.athrow, 1) := by decide +kernel
theorem d_X_step_45 : decode prog_1_method_6_code 45 = .ok (.aload_n 0, 1) := by decide +kernel
theorem d_X_step_46 : decode prog_1_method_6_code 46 = .ok (.getfield 12, 3) := by decide +kernel
theorem d_X_step_49 : decode prog_1_method_6_code 49 = .ok (.getfield 112, 3) := by decide +kernel
theorem d_X_step_52 : decode prog_1_method_6_code 52 = .ok (.iload_n 1, 1) := by decide +kernel
theorem d_X_step_53 : decode prog_1_method_6_code 53 = .ok (.iaload, 1) := by decide +kernel
theorem d_X_step_54 : decode prog_1_method_6_code 54 = .ok (.iconst 4, 1) := by decide +kernel
theorem d_X_step_55 : decode prog_1_method_6_code 55 = .ok (.if_icmp .ge 15, 3) := by decide +kernel
theorem d_X_step_58 : decode prog_1_method_6_code 58 = .ok (.aload_n 0, 1) := by decide +kernel
theorem d_X_step_59 : decode prog_1_method_6_code 59 = .ok (.getfield 12, 3) := by decide +kernel
theorem d_X_step_62 : decode prog_1_method_6_code 62 = .ok (.getfield 115, 3) := by decide +kernel
theorem d_X_step_65 : decode prog_1_method_6_code 65 = .ok (.bipush 24, 2) := by decide +kernel
theorem d_X_step_67 : decode prog_1_method_6_code 67 = .ok (.if_icmp .lt 13, 3) := by decide +kernel
theorem d_X_step_70 : decode prog_1_method_6_code 70 = .ok (.new 64, 3) := by decide +kernel
theorem d_X_step_73 : decode prog_1_method_6_code 73 = .ok (.dup, 1) := by decide +kernel
theorem d_X_step_74 : decode prog_1_method_6_code 74 = .ok (.ldc 118, 2) := by decide +kernel
theorem d_X_step_76 : decode prog_1_method_6_code 76 = .ok (.invokespecial 68, 3) := by decide +kernel
theorem d_X_step_79 : decode prog_1_method_6_code 79 = .ok (.athrow, 1) := by decide +kernel
theorem d_X_step_80 : decode prog_1_method_6_code 80 = .ok (.aload_n 0, 1) := by decide +kernel
theorem d_X_step_81 : decode prog_1_method_6_code 81 = .ok (.iconst 1, 1) := by decide +kernel
theorem d_X_step_82 : decode prog_1_method_6_code 82 = .ok (.putfield 45, 3) := by decide +kernel
theorem d_X_step_85 : decode prog_1_method_6_code 85 = .ok (.aload_n 0, 1) := by decide +kernel
theorem d_X_step_86 : decode prog_1_method_6_code 86 = .ok (.getfield 12, 3) := by decide +kernel
theorem d_X_step_89 : decode prog_1_method_6_code 89 = .ok (.iload_n 1, 1) := by decide +kernel
theorem d_X_step_90 : decode prog_1_method_6_code 90 = .ok (.iload_n 2, 1) := by decide +kernel
theorem d_X_step_91 : decode prog_1_method_6_code 91 = .ok (.iload_n 3, 1) := by decide +kernel
theorem d_X_step_92 : decode prog_1_method_6_code 92 = .ok (.iload 4, 2) := by decide +kernel
theorem d_X_step_94 : decode prog_1_method_6_code 94 = .ok (.invokevirtual 120, 3) := by decide +kernel
theorem d_X_step_97 : decode prog_1_method_6_code 97 = .ok (.ireturn, 1) := by decide +kernel
theorem d_X_run_0 : decode prog_1_method_7_code 0 = .ok (.iload_n 1, 1) := by decide +kernel
theorem d_X_run_1 : decode prog_1_method_7_code 1 = .ok (.iconst 1, 1) := by decide +kernel
theorem d_X_run_2 : decode prog_1_method_7_code 2 = .ok (.sipush 2000, 3) := by decide +kernel
theorem d_X_run_5 : decode prog_1_method_7_code 5 = .ok (.invokestatic 49, 3) := by decide +kernel
theorem d_X_run_8 : decode prog_1_method_7_code 8 = .ok (.ifCond .ne 13, 3) := by decide +kernel
theorem d_X_run_11 : decode prog_1_method_7_code 11 = .ok (.new 53, 3) := by decide +kernel
theorem d_X_run_14 : decode prog_1_method_7_code 14 = .ok (.dup, 1) := by decide +kernel
theorem d_X_run_15 : decode prog_1_method_7_code 15 = .ok (.ldc 124, 2) := by decide +kernel
theorem d_X_run_17 : decode prog_1_method_7_code 17 = .ok (.invokespecial 57, 3) := by decide +kernel
theorem d_X_run_20 : decode prog_1_method_7_code 20 = .ok (.athrow, 1) := by decide +kernel
theorem d_X_run_21 : decode prog_1_method_7_code 21 = .ok (.aload_n 0, 1) := by decide +kernel
theorem d_X_run_22 : decode prog_1_method_7_code 22 = .ok (.getfield 12, 3) := by decide +kernel
theorem d_X_run_25 : decode prog_1_method_7_code 25 = .ok (.getfield 92, 3) := by decide +kernel
theorem d_X_run_28 : decode prog_1_method_7_code 28 = .ok (.ifCond .eq 13, 3) := by decide +kernel
theorem d_X_run_31 : decode prog_1_method_7_code 31 = .ok (.aload_n 0, 1) := by decide +kernel
theorem d_X_run_32 : decode prog_1_method_7_code 32 = .ok (.getfield 12, 3) := by decide +kernel
theorem d_X_run_35 : decode prog_1_method_7_code 35 = .ok (.invokevirtual 126, 3) := by decide +kernel
theorem d_X_run_38 : decode prog_1_method_7_code 38 = .ok (.ifCond .ne 13, 3) := by decide +kernel
theorem d_X_run_41 : decode prog_1_method_7_code 41 = .ok (.new 64, 3) := by decide +kernel
theorem d_X_run_44 : decode prog_1_method_7_code 44 = .ok (.dup, 1) := by decide +kernel
theorem d_X_run_45 : decode prog_1_method_7_code 45 = .ok (.ldc 130, 2) := by decide +kernel
theorem d_X_run_47 : decode prog_1_method_7_code 47 = .ok (.invokespecial 68, 3) := by decide +kernel
theorem d_X_run_50 : decode prog_1_method_7_code 50 = .ok (.athrow, 1) := by decide +kernel
theorem d_X_run_51 : decode prog_1_method_7_code 51 = .ok (.aload_n 0, 1) := by decide +kernel
theorem d_X_run_52 : decode prog_1_method_7_code 52 = .ok (.getfield 30, 3) := by decide +kernel
theorem d_X_run_55 : decode prog_1_method_7_code 55 = .ok (.iload_n 1, 1) := by decide +kernel
theorem d_X_run_56 : decode prog_1_method_7_code 56 = .ok (.invokevirtual 132, 3) := by decide +kernel
theorem d_X_run_59 : decode prog_1_method_7_code 59 = .ok (.istore_n 2, 1) := by decide +kernel
theorem d_X_run_60 : decode prog_1_method_7_code 60 = .ok (.aload_n 0, 1) := by decide +kernel
theorem d_X_run_61 : decode prog_1_method_7_code 61 = .ok (.getfield 37, 3) := by decide +kernel
theorem d_X_run_64 : decode prog_1_method_7_code 64 = .ok (.aload_n 0, 1) := by decide +kernel
theorem d_X_run_65 : decode prog_1_method_7_code 65 = .ok (.getfield 30, 3) := by decide +kernel
theorem d_X_run_68 : decode prog_1_method_7_code 68 = .ok (.getfield 136, 3) := by decide +kernel
theorem d_X_run_71 : decode prog_1_method_7_code 71 = .ok (.aload_n 0, 1) := by decide +kernel
theorem d_X_run_72 : decode prog_1_method_7_code 72 = .ok (.getfield 21, 3) := by decide +kernel
theorem d_X_run_75 : decode prog_1_method_7_code 75 = .ok (.invokevirtual 139, 3) := by decide +kernel
theorem d_X_run_78 : decode prog_1_method_7_code 78 = .ok (.aload_n 0, 1) := by decide +kernel
theorem d_X_run_79 : decode prog_1_method_7_code 79 = .ok (.getfield 37, 3) := by decide +kernel
theorem d_X_run_82 : decode prog_1_method_7_code 82 = .ok (.aload_n 0, 1) := by decide +kernel
theorem d_X_run_83 : decode prog_1_method_7_code 83 = .ok (.getfield 30, 3) := by decide +kernel
theorem d_X_run_86 : decode prog_1_method_7_code 86 = .ok (.getfield 143, 3) := by decide +kernel
theorem d_X_run_89 : decode prog_1_method_7_code 89 = .ok (.putfield 146, 3) := by decide +kernel
theorem d_X_run_92 : decode prog_1_method_7_code 92 = .ok (.aload_n 0, 1) := by decide +kernel
theorem d_X_run_93 : decode prog_1_method_7_code 93 = .ok (.getfield 37, 3) := by decide +kernel
theorem d_X_run_96 : decode prog_1_method_7_code 96 = .ok (.aload_n 0, 1) := by decide +kernel
theorem d_X_run_97 : decode prog_1_method_7_code 97 = .ok (.getfield 30, 3) := by decide +kernel
theorem d_X_run_100 : decode prog_1_method_7_code 100 = .ok (.getfield 147, 3) := by decide +kernel
theorem d_X_run_103 : decode prog_1_method_7_code 103 = .ok (.putfield 150, 3) := by decide +kernel
theorem d_X_run_106 : decode prog_1_method_7_code 106 = .ok (.aload_n 0, 1) := by decide +kernel
theorem d_X_run_107 : decode prog_1_method_7_code 107 = .ok (.iconst 0, 1) := by decide +kernel
theorem d_X_run_108 : decode prog_1_method_7_code 108 = .ok (.putfield 45, 3) := by decide +kernel
theorem d_X_run_111 : decode prog_1_method_7_code 111 = .ok (.iload_n 2, 1) := by decide +kernel
theorem d_X_run_112 : decode prog_1_method_7_code 112 = .ok (.ifCond .eq 7, 3) := by decide +kernel
theorem d_X_run_115 : decode prog_1_method_7_code 115 = .ok (.iconst 0, 1) := by decide +kernel
theorem d_X_run_116 : decode prog_1_method_7_code 116 = .ok (.goto 4, 3) := by decide +kernel
theorem d_X_run_119 : decode prog_1_method_7_code 119 = .ok (.iconst 1, 1) := by decide +kernel
theorem d_X_run_120 : decode prog_1_method_7_code 120 = .ok (.ireturn, 1) := by decide +kernel
theorem d_X_shareAnHour_0 : decode prog_1_method_17_code 0 = .ok (.iload_n 0, 1) := by decide +kernel
theorem d_X_shareAnHour_1 : decode prog_1_method_17_code 1 = .ok (.iload_n 3, 1) := by decide +kernel
theorem d_X_shareAnHour_2 : decode prog_1_method_17_code 2 = .ok (.if_icmp .ge 12, 3) := by decide +kernel
theorem d_X_shareAnHour_5 : decode prog_1_method_17_code 5 = .ok (.iload_n 2, 1) := by decide +kernel
theorem d_X_shareAnHour_6 : decode prog_1_method_17_code 6 = .ok (.iload_n 1, 1) := by decide +kernel
theorem d_X_shareAnHour_7 : decode prog_1_method_17_code 7 = .ok (.if_icmp .ge 7, 3) := by decide +kernel
theorem d_X_shareAnHour_10 : decode prog_1_method_17_code 10 = .ok (.iconst 1, 1) := by decide +kernel
theorem d_X_shareAnHour_11 : decode prog_1_method_17_code 11 = .ok (.goto 4, 3) := by decide +kernel
theorem d_X_shareAnHour_14 : decode prog_1_method_17_code 14 = .ok (.iconst 0, 1) := by decide +kernel
theorem d_X_shareAnHour_15 : decode prog_1_method_17_code 15 = .ok (.ireturn, 1) := by decide +kernel
theorem d_X_improve_0 : decode prog_1_method_8_code 0 = .ok (.iload_n 1, 1) := by decide +kernel
theorem d_X_improve_1 : decode prog_1_method_8_code 1 = .ok (.iconst 0, 1) := by decide +kernel
theorem d_X_improve_2 : decode prog_1_method_8_code 2 = .ok (.bipush 100, 2) := by decide +kernel
theorem d_X_improve_4 : decode prog_1_method_8_code 4 = .ok (.invokestatic 49, 3) := by decide +kernel
theorem d_X_improve_7 : decode prog_1_method_8_code 7 = .ok (.ifCond .ne 13, 3) := by decide +kernel
theorem d_X_improve_10 : decode prog_1_method_8_code 10 = .ok (.new 53, 3) := by decide +kernel
theorem d_X_improve_13 : decode prog_1_method_8_code 13 = .ok (.dup, 1) := by decide +kernel
theorem d_X_improve_14 : decode prog_1_method_8_code 14 = .ok (.ldc 151, 2) := by decide +kernel
theorem d_X_improve_16 : decode prog_1_method_8_code 16 = .ok (.invokespecial 57, 3) := by decide +kernel
theorem d_X_improve_19 : decode prog_1_method_8_code 19 = .ok (.athrow, 1) := by decide +kernel
theorem d_X_improve_20 : decode prog_1_method_8_code 20 = .ok (.aload_n 0, 1) := by decide +kernel
theorem d_X_improve_21 : decode prog_1_method_8_code 21 = .ok (.invokevirtual 153, 3) := by decide +kernel
theorem d_X_improve_24 : decode prog_1_method_8_code 24 = .ok (.iconst 0, 1) := by decide +kernel
theorem d_X_improve_25 : decode prog_1_method_8_code 25 = .ok (.istore_n 2, 1) := by decide +kernel
theorem d_X_improve_26 : decode prog_1_method_8_code 26 = .ok (.iconst 0, 1) := by decide +kernel
theorem d_X_improve_27 : decode prog_1_method_8_code 27 = .ok (.istore_n 3, 1) := by decide +kernel
theorem d_X_improve_28 : decode prog_1_method_8_code 28 = .ok (.iload_n 3, 1) := by decide +kernel
theorem d_X_improve_29 : decode prog_1_method_8_code 29 = .ok (.iload_n 1, 1) := by decide +kernel
theorem d_X_improve_30 : decode prog_1_method_8_code 30 = .ok (.if_icmp .ge 56, 3) := by decide +kernel
theorem d_X_improve_33 : decode prog_1_method_8_code 33 = .ok (.aload_n 0, 1) := by decide +kernel
theorem d_X_improve_34 : decode prog_1_method_8_code 34 = .ok (.aload_n 0, 1) := by decide +kernel
theorem d_X_improve_35 : decode prog_1_method_8_code 35 = .ok (.getfield 37, 3) := by decide +kernel
theorem d_X_improve_38 : decode prog_1_method_8_code 38 = .ok (.getfield 156, 3) := by decide +kernel
theorem d_X_improve_41 : decode prog_1_method_8_code 41 = .ok (.invokevirtual 157, 3) := by decide +kernel
theorem d_X_improve_44 : decode prog_1_method_8_code 44 = .ok (.istore 4, 2) := by decide +kernel
theorem d_X_improve_46 : decode prog_1_method_8_code 46 = .ok (.aload_n 0, 1) := by decide +kernel
theorem d_X_improve_47 : decode prog_1_method_8_code 47 = .ok (.aload_n 0, 1) := by decide +kernel
theorem d_X_improve_48 : decode prog_1_method_8_code 48 = .ok (.getfield 37, 3) := by decide +kernel
theorem d_X_improve_51 : decode prog_1_method_8_code 51 = .ok (.getfield 156, 3) := by decide +kernel
theorem d_X_improve_54 : decode prog_1_method_8_code 54 = .ok (.invokevirtual 157, 3) := by decide +kernel
theorem d_X_improve_57 : decode prog_1_method_8_code 57 = .ok (.istore 5, 2) := by decide +kernel
theorem d_X_improve_59 : decode prog_1_method_8_code 59 = .ok (.aload_n 0, 1) := by decide +kernel
theorem d_X_improve_60 : decode prog_1_method_8_code 60 = .ok (.getfield 37, 3) := by decide +kernel
theorem d_X_improve_63 : decode prog_1_method_8_code 63 = .ok (.iload 4, 2) := by decide +kernel
theorem d_X_improve_65 : decode prog_1_method_8_code 65 = .ok (.iload 5, 2) := by decide +kernel
theorem d_X_improve_67 : decode prog_1_method_8_code 67 = .ok (.aload_n 0, 1) := by decide +kernel
theorem d_X_improve_68 : decode prog_1_method_8_code 68 = .ok (.getfield 21, 3) := by decide +kernel
theorem d_X_improve_71 : decode prog_1_method_8_code 71 = .ok (.invokevirtual 160, 3) := by decide +kernel
theorem d_X_improve_74 : decode prog_1_method_8_code 74 = .ok (.ifCond .eq 6, 3) := by decide +kernel
theorem d_X_improve_77 : decode prog_1_method_8_code 77 = .ok (.iinc 2 1, 3) := by decide +kernel
theorem d_X_improve_80 : decode prog_1_method_8_code 80 = .ok (.iinc 3 1, 3) := by decide +kernel
theorem d_X_improve_83 : decode prog_1_method_8_code 83 = .ok (.goto (-55), 3) := by decide +kernel
theorem d_X_improve_86 : decode prog_1_method_8_code 86 = .ok (.aload_n 0, 1) := by decide +kernel
theorem d_X_improve_87 : decode prog_1_method_8_code 87 = .ok (.getfield 37, 3) := by decide +kernel
theorem d_X_improve_90 : decode prog_1_method_8_code 90 = .ok (.aload_n 0, 1) := by decide +kernel
theorem d_X_improve_91 : decode prog_1_method_8_code 91 = .ok (.getfield 37, 3) := by decide +kernel
theorem d_X_improve_94 : decode prog_1_method_8_code 94 = .ok (.getfield 164, 3) := by decide +kernel
theorem d_X_improve_97 : decode prog_1_method_8_code 97 = .ok (.aload_n 0, 1) := by decide +kernel
theorem d_X_improve_98 : decode prog_1_method_8_code 98 = .ok (.getfield 21, 3) := by decide +kernel
theorem d_X_improve_101 : decode prog_1_method_8_code 101 = .ok (.invokevirtual 139, 3) := by decide +kernel
theorem d_X_improve_104 : decode prog_1_method_8_code 104 = .ok (.iload_n 2, 1) := by decide +kernel
theorem d_X_improve_105 : decode prog_1_method_8_code 105 = .ok (.ireturn, 1) := by decide +kernel
theorem d_X_demandFreshPlan_0 : decode prog_1_method_20_code 0 = .ok (.aload_n 0, 1) := by decide +kernel
theorem d_X_demandFreshPlan_1 : decode prog_1_method_20_code 1 = .ok (.getfield 37, 3) := by decide +kernel
theorem d_X_demandFreshPlan_4 : decode prog_1_method_20_code 4 = .ok (.invokevirtual 223, 3) := by decide +kernel
theorem d_X_demandFreshPlan_7 : decode prog_1_method_20_code 7 = .ok (.ifCond .eq 10, 3) := by decide +kernel
theorem d_X_demandFreshPlan_10 : decode prog_1_method_20_code 10 = .ok (.aload_n 0, 1) := by decide +kernel
theorem d_X_demandFreshPlan_11 : decode prog_1_method_20_code 11 = .ok (.getfield 45, 3) := by decide +kernel
theorem d_X_demandFreshPlan_14 : decode prog_1_method_20_code 14 = .ok (.ifCond .eq 13, 3) := by decide +kernel
theorem d_X_demandFreshPlan_17 : decode prog_1_method_20_code 17 = .ok (.new 64, 3) := by decide +kernel
theorem d_X_demandFreshPlan_20 : decode prog_1_method_20_code 20 = .ok (.dup, 1) := by decide +kernel
theorem d_X_demandFreshPlan_21 : decode prog_1_method_20_code 21 = .ok (.ldc 228, 2) := by decide +kernel
theorem d_X_demandFreshPlan_23 : decode prog_1_method_20_code 23 = .ok (.invokespecial 68, 3) := by decide +kernel
theorem d_X_demandFreshPlan_26 : decode prog_1_method_20_code 26 = .ok (.athrow, 1) := by decide +kernel
theorem d_X_demandFreshPlan_27 : decode prog_1_method_20_code 27 = .ok (.return_, 1) := by decide +kernel
theorem d_X_nextPlace_0 : decode prog_1_method_21_code 0 = .ok (.aload_n 0, 1) := by decide +kernel
theorem d_X_nextPlace_1 : decode prog_1_method_21_code 1 = .ok (.aload_n 0, 1) := by decide +kernel
theorem d_X_nextPlace_2 : decode prog_1_method_21_code 2 = .ok (.getfield 41, 3) := by decide +kernel
theorem d_X_nextPlace_5 : decode prog_1_method_21_code 5 = .ok (.ldc2_w 230, 3) := by decide +kernel
theorem d_X_nextPlace_8 : decode prog_1_method_21_code 8 = .ok (.lmul, 1) := by decide +kernel
theorem d_X_nextPlace_9 : decode prog_1_method_21_code 9 = .ok (.ldc2_w 232, 3) := by decide +kernel
theorem d_X_nextPlace_12 : decode prog_1_method_21_code 12 = .ok (.ladd, 1) := by decide +kernel
theorem d_X_nextPlace_13 : decode prog_1_method_21_code 13 = .ok (.putfield 41, 3) := by decide +kernel
theorem d_X_nextPlace_16 : decode prog_1_method_21_code 16 = .ok (.iload_n 1, 1) := by decide +kernel
theorem d_X_nextPlace_17 : decode prog_1_method_21_code 17 = .ok (.ifCond .le 17, 3) := by decide +kernel
theorem d_X_nextPlace_20 : decode prog_1_method_21_code 20 = .ok (.aload_n 0, 1) := by decide +kernel
theorem d_X_nextPlace_21 : decode prog_1_method_21_code 21 = .ok (.getfield 41, 3) := by decide +kernel
theorem d_X_nextPlace_24 : decode prog_1_method_21_code 24 = .ok (.bipush 33, 2) := by decide +kernel
theorem d_X_nextPlace_26 : decode prog_1_method_21_code 26 = .ok (.lushr, 1) := by decide +kernel
theorem d_X_nextPlace_27 : decode prog_1_method_21_code 27 = .ok (.iload_n 1, 1) := by decide +kernel
theorem d_X_nextPlace_28 : decode prog_1_method_21_code 28 = .ok (.i2l, 1) := by decide +kernel
theorem d_X_nextPlace_29 : decode prog_1_method_21_code 29 = .ok (.lrem, 1) := by decide +kernel
theorem d_X_nextPlace_30 : decode prog_1_method_21_code 30 = .ok (.l2i, 1) := by decide +kernel
theorem d_X_nextPlace_31 : decode prog_1_method_21_code 31 = .ok (.goto 4, 3) := by decide +kernel
theorem d_X_nextPlace_34 : decode prog_1_method_21_code 34 = .ok (.iconst 0, 1) := by decide +kernel
theorem d_X_nextPlace_35 : decode prog_1_method_21_code 35 = .ok (.ireturn, 1) := by decide +kernel
theorem d_X_at_0 : decode prog_1_method_9_code 0 = .ok (.iload_n 1, 1) := by decide +kernel
theorem d_X_at_1 : decode prog_1_method_9_code 1 = .ok (.iconst 0, 1) := by decide +kernel
theorem d_X_at_2 : decode prog_1_method_9_code 2 = .ok (.aload_n 0, 1) := by decide +kernel
theorem d_X_at_3 : decode prog_1_method_9_code 3 = .ok (.getfield 12, 3) := by decide +kernel
theorem d_X_at_6 : decode prog_1_method_9_code 6 = .ok (.getfield 115, 3) := by decide +kernel
theorem d_X_at_9 : decode prog_1_method_9_code 9 = .ok (.iconst 1, 1) := by decide +kernel
theorem d_X_at_10 : decode prog_1_method_9_code 10 = .ok (.isub, 1) := by decide +kernel
theorem d_X_at_11 : decode prog_1_method_9_code 11 = .ok (.invokestatic 49, 3) := by decide +kernel
theorem d_X_at_14 : decode prog_1_method_9_code 14 = .ok (.ifCond .eq 12, 3) := by decide +kernel
theorem d_X_at_17 : decode prog_1_method_9_code 17 = .ok (.iload_n 2, 1) := by decide +kernel
theorem d_X_at_18 : decode prog_1_method_9_code 18 = .ok (.iconst 0, 1) := by decide +kernel
theorem d_X_at_19 : decode prog_1_method_9_code 19 = .ok (.iconst 1, 1) := by decide +kernel
theorem d_X_at_20 : decode prog_1_method_9_code 20 = .ok (.invokestatic 49, 3) := by decide +kernel
theorem d_X_at_23 : decode prog_1_method_9_code 23 = .ok (.ifCond .ne 13, 3) := by decide +kernel
theorem d_X_at_26 : decode prog_1_method_9_code 26 = .ok (.new 73, 3) := by decide +kernel
theorem d_X_at_29 : decode prog_1_method_9_code 29 = .ok (.dup, 1) := by decide +kernel
theorem d_X_at_30 : decode prog_1_method_9_code 30 = .ok (.ldc 167, 2) := by decide +kernel
theorem d_X_at_32 : decode prog_1_method_9_code 32 = .ok (.invokespecial 77, 3) := by decide +kernel
theorem d_X_at_35 : decode prog_1_method_9_code 35 = .ok (.athrow, 1) := by decide +kernel
theorem d_X_at_36 : decode prog_1_method_9_code 36 = .ok (.aload_n 0, 1) := by decide +kernel
theorem d_X_at_37 : decode prog_1_method_9_code 37 = .ok (.invokevirtual 169, 3) := by decide +kernel
theorem d_X_at_40 : decode prog_1_method_9_code 40 = .ok (.aload_n 0, 1) := by decide +kernel
theorem d_X_at_41 : decode prog_1_method_9_code 41 = .ok (.getfield 37, 3) := by decide +kernel
theorem d_X_at_44 : decode prog_1_method_9_code 44 = .ok (.iload_n 1, 1) := by decide +kernel
theorem d_X_at_45 : decode prog_1_method_9_code 45 = .ok (.invokevirtual 172, 3) := by decide +kernel
theorem d_X_at_48 : decode prog_1_method_9_code 48 = .ok (.ifCond .ne 5, 3) := by decide +kernel
theorem d_X_at_51 : decode prog_1_method_9_code 51 = .ok (.iconst (-1), 1) := by decide +kernel
theorem d_X_at_52 : decode prog_1_method_9_code 52 = .ok (.ireturn, 1) := by decide +kernel
theorem d_X_at_53 : decode prog_1_method_9_code 53 = .ok (.iload_n 2, 1) := by decide +kernel
theorem d_X_at_54 : decode prog_1_method_9_code 54 = .ok (.ifCond .ne 15, 3) := by decide +kernel
theorem d_X_at_57 : decode prog_1_method_9_code 57 = .ok (.aload_n 0, 1) := by decide +kernel
theorem d_X_at_58 : decode prog_1_method_9_code 58 = .ok (.getfield 37, 3) := by decide +kernel
theorem d_X_at_61 : decode prog_1_method_9_code 61 = .ok (.getfield 175, 3) := by decide +kernel
theorem d_X_at_64 : decode prog_1_method_9_code 64 = .ok (.iload_n 1, 1) := by decide +kernel
theorem d_X_at_65 : decode prog_1_method_9_code 65 = .ok (.iaload, 1) := by decide +kernel
theorem d_X_at_66 : decode prog_1_method_9_code 66 = .ok (.goto 12, 3) := by decide +kernel
theorem d_X_at_69 : decode prog_1_method_9_code 69 = .ok (.aload_n 0, 1) := by decide +kernel
theorem d_X_at_70 : decode prog_1_method_9_code 70 = .ok (.getfield 37, 3) := by decide +kernel
theorem d_X_at_73 : decode prog_1_method_9_code 73 = .ok (.getfield 178, 3) := by decide +kernel
theorem d_X_at_76 : decode prog_1_method_9_code 76 = .ok (.iload_n 1, 1) := by decide +kernel
theorem d_X_at_77 : decode prog_1_method_9_code 77 = .ok (.iaload, 1) := by decide +kernel
theorem d_X_at_78 : decode prog_1_method_9_code 78 = .ok (.ireturn, 1) := by decide +kernel
theorem d_X_demandPlan_0 : decode prog_1_method_19_code 0 = .ok (.aload_n 0, 1) := by decide +kernel
theorem d_X_demandPlan_1 : decode prog_1_method_19_code 1 = .ok (.getfield 37, 3) := by decide +kernel
theorem d_X_demandPlan_4 : decode prog_1_method_19_code 4 = .ok (.invokevirtual 223, 3) := by decide +kernel
theorem d_X_demandPlan_7 : decode prog_1_method_19_code 7 = .ok (.ifCond .ne 13, 3) := by decide +kernel
theorem d_X_demandPlan_10 : decode prog_1_method_19_code 10 = .ok (.new 64, 3) := by decide +kernel
theorem d_X_demandPlan_13 : decode prog_1_method_19_code 13 = .ok (.dup, 1) := by decide +kernel
theorem d_X_demandPlan_14 : decode prog_1_method_19_code 14 = .ok (.ldc 226, 2) := by decide +kernel
theorem d_X_demandPlan_16 : decode prog_1_method_19_code 16 = .ok (.invokespecial 68, 3) := by decide +kernel
theorem d_X_demandPlan_19 : decode prog_1_method_19_code 19 = .ok (.athrow, 1) := by decide +kernel
theorem d_X_demandPlan_20 : decode prog_1_method_19_code 20 = .ok (.return_, 1) := by decide +kernel
theorem d_X_order_0 : decode prog_1_method_10_code 0 = .ok (.aload_n 0, 1) := by decide +kernel
theorem d_X_order_1 : decode prog_1_method_10_code 1 = .ok (.invokevirtual 169, 3) := by decide +kernel
theorem d_X_order_4 : decode prog_1_method_10_code 4 = .ok (.iload_n 1, 1) := by decide +kernel
theorem d_X_order_5 : decode prog_1_method_10_code 5 = .ok (.iconst 0, 1) := by decide +kernel
theorem d_X_order_6 : decode prog_1_method_10_code 6 = .ok (.aload_n 0, 1) := by decide +kernel
theorem d_X_order_7 : decode prog_1_method_10_code 7 = .ok (.getfield 37, 3) := by decide +kernel
theorem d_X_order_10 : decode prog_1_method_10_code 10 = .ok (.getfield 156, 3) := by decide +kernel
theorem d_X_order_13 : decode prog_1_method_10_code 13 = .ok (.iconst 1, 1) := by decide +kernel
theorem d_X_order_14 : decode prog_1_method_10_code 14 = .ok (.isub, 1) := by decide +kernel
theorem d_X_order_15 : decode prog_1_method_10_code 15 = .ok (.invokestatic 49, 3) := by decide +kernel
theorem d_X_order_18 : decode prog_1_method_10_code 18 = .ok (.ifCond .ne 13, 3) := by decide +kernel
theorem d_X_order_21 : decode prog_1_method_10_code 21 = .ok (.new 73, 3) := by decide +kernel
theorem d_X_order_24 : decode prog_1_method_10_code 24 = .ok (.dup, 1) := by decide +kernel
theorem d_X_order_25 : decode prog_1_method_10_code 25 = .ok (.ldc 181, 2) := by decide +kernel
theorem d_X_order_27 : decode prog_1_method_10_code 27 = .ok (.invokespecial 77, 3) := by decide +kernel
theorem d_X_order_30 : decode prog_1_method_10_code 30 = .ok (.athrow, 1) := by decide +kernel
theorem d_X_order_31 : decode prog_1_method_10_code 31 = .ok (.aload_n 0, 1) := by decide +kernel
theorem d_X_order_32 : decode prog_1_method_10_code 32 = .ok (.getfield 37, 3) := by decide +kernel
theorem d_X_order_35 : decode prog_1_method_10_code 35 = .ok (.getfield 164, 3) := by decide +kernel
theorem d_X_order_38 : decode prog_1_method_10_code 38 = .ok (.iload_n 1, 1) := by decide +kernel
theorem d_X_order_39 : decode prog_1_method_10_code 39 = .ok (.iaload, 1) := by decide +kernel
theorem d_X_order_40 : decode prog_1_method_10_code 40 = .ok (.ireturn, 1) := by decide +kernel
theorem d_X_about_0 : decode prog_1_method_11_code 0 = .ok (.iload_n 1, 1) := by decide +kernel
theorem d_X_about_1 : decode prog_1_method_11_code 1 = .ok (.iconst 0, 1) := by decide +kernel
theorem d_X_about_2 : decode prog_1_method_11_code 2 = .ok (.iconst 3, 1) := by decide +kernel
theorem d_X_about_3 : decode prog_1_method_11_code 3 = .ok (.invokestatic 49, 3) := by decide +kernel
theorem d_X_about_6 : decode prog_1_method_11_code 6 = .ok (.ifCond .ne 13, 3) := by decide +kernel
theorem d_X_about_9 : decode prog_1_method_11_code 9 = .ok (.new 73, 3) := by decide +kernel
theorem d_X_about_12 : decode prog_1_method_11_code 12 = .ok (.dup, 1) := by decide +kernel
theorem d_X_about_13 : decode prog_1_method_11_code 13 = .ok (.ldc 183, 2) := by decide +kernel
theorem d_X_about_15 : decode prog_1_method_11_code 15 = .ok (.invokespecial 77, 3) := by decide +kernel
theorem d_X_about_18 : decode prog_1_method_11_code 18 = .ok (.athrow, 1) := by decide +kernel
theorem d_X_about_19 : decode prog_1_method_11_code 19 = .ok (.aload_n 0, 1) := by decide +kernel
theorem d_X_about_20 : decode prog_1_method_11_code 20 = .ok (.invokevirtual 169, 3) := by decide +kernel
theorem d_X_about_23 : decode prog_1_method_11_code 23 = .ok (.iload_n 1, 1) := by decide +kernel
theorem d_X_about_24 : decode prog_1_method_11_code 24 = .ok (.tableswitch 53 0 2 #[28, 36, 44], 28) := by decide +kernel
theorem d_X_about_52 : decode prog_1_method_11_code 52 = .ok (.aload_n 0, 1) := by decide +kernel
theorem d_X_about_53 : decode prog_1_method_11_code 53 = .ok (.getfield 37, 3) := by decide +kernel
theorem d_X_about_56 : decode prog_1_method_11_code 56 = .ok (.getfield 185, 3) := by decide +kernel
theorem d_X_about_59 : decode prog_1_method_11_code 59 = .ok (.lreturn, 1) := by decide +kernel
theorem d_X_about_60 : decode prog_1_method_11_code 60 = .ok (.aload_n 0, 1) := by decide +kernel
theorem d_X_about_61 : decode prog_1_method_11_code 61 = .ok (.getfield 37, 3) := by decide +kernel
theorem d_X_about_64 : decode prog_1_method_11_code 64 = .ok (.getfield 146, 3) := by decide +kernel
theorem d_X_about_67 : decode prog_1_method_11_code 67 = .ok (.lreturn, 1) := by decide +kernel
theorem d_X_about_68 : decode prog_1_method_11_code 68 = .ok (.aload_n 0, 1) := by decide +kernel
theorem d_X_about_69 : decode prog_1_method_11_code 69 = .ok (.getfield 37, 3) := by decide +kernel
theorem d_X_about_72 : decode prog_1_method_11_code 72 = .ok (.getfield 150, 3) := by decide +kernel
theorem d_X_about_75 : decode prog_1_method_11_code 75 = .ok (.i2l, 1) := by decide +kernel
theorem d_X_about_76 : decode prog_1_method_11_code 76 = .ok (.lreturn, 1) := by decide +kernel
theorem d_X_about_77 : decode prog_1_method_11_code 77 = .ok (.aload_n 0, 1) := by decide +kernel
theorem d_X_about_78 : decode prog_1_method_11_code 78 = .ok (.getfield 37, 3) := by decide +kernel
theorem d_X_about_81 : decode prog_1_method_11_code 81 = .ok (.getfield 188, 3) := by decide +kernel
theorem d_X_about_84 : decode prog_1_method_11_code 84 = .ok (.i2l, 1) := by decide +kernel
theorem d_X_about_85 : decode prog_1_method_11_code 85 = .ok (.lreturn, 1) := by decide +kernel
theorem d_X_alone_0 : decode prog_1_method_12_code 0 = .ok (.aload_n 0, 1) := by decide +kernel
theorem d_X_alone_1 : decode prog_1_method_12_code 1 = .ok (.iload_n 1, 1) := by decide +kernel
theorem d_X_alone_2 : decode prog_1_method_12_code 2 = .ok (.invokevirtual 101, 3) := by decide +kernel
theorem d_X_alone_5 : decode prog_1_method_12_code 5 = .ok (.aload_n 0, 1) := by decide +kernel
theorem d_X_alone_6 : decode prog_1_method_12_code 6 = .ok (.getfield 12, 3) := by decide +kernel
theorem d_X_alone_9 : decode prog_1_method_12_code 9 = .ok (.iload_n 1, 1) := by decide +kernel
theorem d_X_alone_10 : decode prog_1_method_12_code 10 = .ok (.invokevirtual 191, 3) := by decide +kernel
theorem d_X_alone_13 : decode prog_1_method_12_code 13 = .ok (.ifCond .ne 13, 3) := by decide +kernel
theorem d_X_alone_16 : decode prog_1_method_12_code 16 = .ok (.new 64, 3) := by decide +kernel
theorem d_X_alone_19 : decode prog_1_method_12_code 19 = .ok (.dup, 1) := by decide +kernel
theorem d_X_alone_20 : decode prog_1_method_12_code 20 = .ok (.ldc 194, 2) := by decide +kernel
theorem d_X_alone_22 : decode prog_1_method_12_code 22 = .ok (.invokespecial 68, 3) := by decide +kernel
theorem d_X_alone_25 : decode prog_1_method_12_code 25 = .ok (.athrow, 1) := by decide +kernel
theorem d_X_alone_26 : decode prog_1_method_12_code 26 = .ok (.aload_n 0, 1) := by decide +kernel
theorem d_X_alone_27 : decode prog_1_method_12_code 27 = .ok (.getfield 21, 3) := by decide +kernel
theorem d_X_alone_30 : decode prog_1_method_12_code 30 = .ok (.iload_n 1, 1) := by decide +kernel
theorem d_X_alone_31 : decode prog_1_method_12_code 31 = .ok (.invokevirtual 196, 3) := by decide +kernel
theorem d_X_alone_34 : decode prog_1_method_12_code 34 = .ok (.lreturn, 1) := by decide +kernel
theorem d_X_promise_0 : decode prog_1_method_13_code 0 = .ok (.aload_n 0, 1) := by decide +kernel
theorem d_X_promise_1 : decode prog_1_method_13_code 1 = .ok (.iload_n 1, 1) := by decide +kernel
theorem d_X_promise_2 : decode prog_1_method_13_code 2 = .ok (.invokevirtual 101, 3) := by decide +kernel
theorem d_X_promise_5 : decode prog_1_method_13_code 5 = .ok (.aload_n 0, 1) := by decide +kernel
theorem d_X_promise_6 : decode prog_1_method_13_code 6 = .ok (.invokevirtual 153, 3) := by decide +kernel
theorem d_X_promise_9 : decode prog_1_method_13_code 9 = .ok (.aload_n 0, 1) := by decide +kernel
theorem d_X_promise_10 : decode prog_1_method_13_code 10 = .ok (.getfield 37, 3) := by decide +kernel
theorem d_X_promise_13 : decode prog_1_method_13_code 13 = .ok (.iload_n 1, 1) := by decide +kernel
theorem d_X_promise_14 : decode prog_1_method_13_code 14 = .ok (.aload_n 0, 1) := by decide +kernel
theorem d_X_promise_15 : decode prog_1_method_13_code 15 = .ok (.getfield 21, 3) := by decide +kernel
theorem d_X_promise_18 : decode prog_1_method_13_code 18 = .ok (.invokevirtual 200, 3) := by decide +kernel
theorem d_X_promise_21 : decode prog_1_method_13_code 21 = .ok (.aload_n 0, 1) := by decide +kernel
theorem d_X_promise_22 : decode prog_1_method_13_code 22 = .ok (.getfield 21, 3) := by decide +kernel
theorem d_X_promise_25 : decode prog_1_method_13_code 25 = .ok (.iload_n 1, 1) := by decide +kernel
theorem d_X_promise_26 : decode prog_1_method_13_code 26 = .ok (.invokevirtual 204, 3) := by decide +kernel
theorem d_X_promise_29 : decode prog_1_method_13_code 29 = .ok (.ireturn, 1) := by decide +kernel
theorem d_X_clash_0 : decode prog_1_method_14_code 0 = .ok (.iload_n 1, 1) := by decide +kernel
theorem d_X_clash_1 : decode prog_1_method_14_code 1 = .ok (.ifCond .ge 13, 3) := by decide +kernel
theorem d_X_clash_4 : decode prog_1_method_14_code 4 = .ok (.new 53, 3) := by decide +kernel
theorem d_X_clash_7 : decode prog_1_method_14_code 7 = .ok (.dup, 1) := by decide +kernel
theorem d_X_clash_8 : decode prog_1_method_14_code 8 = .ok (.ldc 207, 2) := by decide +kernel
theorem d_X_clash_10 : decode prog_1_method_14_code 10 = .ok (.invokespecial 57, 3) := by decide +kernel
theorem d_X_clash_13 : decode prog_1_method_14_code 13 = .ok (.athrow, 1) := by decide +kernel
theorem d_X_clash_14 : decode prog_1_method_14_code 14 = .ok (.aload_n 0, 1) := by decide +kernel
theorem d_X_clash_15 : decode prog_1_method_14_code 15 = .ok (.getfield 12, 3) := by decide +kernel
theorem d_X_clash_18 : decode prog_1_method_14_code 18 = .ok (.invokevirtual 126, 3) := by decide +kernel
theorem d_X_clash_21 : decode prog_1_method_14_code 21 = .ok (.ifCond .ne 13, 3) := by decide +kernel
theorem d_X_clash_24 : decode prog_1_method_14_code 24 = .ok (.new 64, 3) := by decide +kernel
theorem d_X_clash_27 : decode prog_1_method_14_code 27 = .ok (.dup, 1) := by decide +kernel
theorem d_X_clash_28 : decode prog_1_method_14_code 28 = .ok (.ldc 209, 2) := by decide +kernel
theorem d_X_clash_30 : decode prog_1_method_14_code 30 = .ok (.invokespecial 68, 3) := by decide +kernel
theorem d_X_clash_33 : decode prog_1_method_14_code 33 = .ok (.athrow, 1) := by decide +kernel
theorem d_X_clash_34 : decode prog_1_method_14_code 34 = .ok (.iconst 0, 1) := by decide +kernel
theorem d_X_clash_35 : decode prog_1_method_14_code 35 = .ok (.istore_n 2, 1) := by decide +kernel
theorem d_X_clash_36 : decode prog_1_method_14_code 36 = .ok (.iconst 0, 1) := by decide +kernel
theorem d_X_clash_37 : decode prog_1_method_14_code 37 = .ok (.istore_n 3, 1) := by decide +kernel
theorem d_X_clash_38 : decode prog_1_method_14_code 38 = .ok (.iload_n 3, 1) := by decide +kernel
theorem d_X_clash_39 : decode prog_1_method_14_code 39 = .ok (.aload_n 0, 1) := by decide +kernel
theorem d_X_clash_40 : decode prog_1_method_14_code 40 = .ok (.getfield 12, 3) := by decide +kernel
theorem d_X_clash_43 : decode prog_1_method_14_code 43 = .ok (.getfield 92, 3) := by decide +kernel
theorem d_X_clash_46 : decode prog_1_method_14_code 46 = .ok (.if_icmp .ge 61, 3) := by decide +kernel
theorem d_X_clash_49 : decode prog_1_method_14_code 49 = .ok (.iload_n 3, 1) := by decide +kernel
theorem d_X_clash_50 : decode prog_1_method_14_code 50 = .ok (.iconst 1, 1) := by decide +kernel
theorem d_X_clash_51 : decode prog_1_method_14_code 51 = .ok (.iadd, 1) := by decide +kernel
theorem d_X_clash_52 : decode prog_1_method_14_code 52 = .ok (.istore 4, 2) := by decide +kernel
theorem d_X_clash_54 : decode prog_1_method_14_code 54 = .ok (.iload 4, 2) := by decide +kernel
theorem d_X_clash_56 : decode prog_1_method_14_code 56 = .ok (.aload_n 0, 1) := by decide +kernel
theorem d_X_clash_57 : decode prog_1_method_14_code 57 = .ok (.getfield 12, 3) := by decide +kernel
theorem d_X_clash_60 : decode prog_1_method_14_code 60 = .ok (.getfield 92, 3) := by decide +kernel
theorem d_X_clash_63 : decode prog_1_method_14_code 63 = .ok (.if_icmp .ge 38, 3) := by decide +kernel
theorem d_X_clash_66 : decode prog_1_method_14_code 66 = .ok (.aload_n 0, 1) := by decide +kernel
theorem d_X_clash_67 : decode prog_1_method_14_code 67 = .ok (.getfield 21, 3) := by decide +kernel
theorem d_X_clash_70 : decode prog_1_method_14_code 70 = .ok (.iload_n 3, 1) := by decide +kernel
theorem d_X_clash_71 : decode prog_1_method_14_code 71 = .ok (.iload 4, 2) := by decide +kernel
theorem d_X_clash_73 : decode prog_1_method_14_code 73 = .ok (.invokevirtual 211, 3) := by decide +kernel
theorem d_X_clash_76 : decode prog_1_method_14_code 76 = .ok (.ifCond .eq 19, 3) := by decide +kernel
theorem d_X_clash_79 : decode prog_1_method_14_code 79 = .ok (.iload_n 2, 1) := by decide +kernel
theorem d_X_clash_80 : decode prog_1_method_14_code 80 = .ok (.iload_n 1, 1) := by decide +kernel
theorem d_X_clash_81 : decode prog_1_method_14_code 81 = .ok (.if_icmp .ne 11, 3) := by decide +kernel
theorem d_X_clash_84 : decode prog_1_method_14_code 84 = .ok (.bipush 8, 2) := by decide +kernel
theorem d_X_clash_86 : decode prog_1_method_14_code 86 = .ok (.iload_n 3, 1) := by decide +kernel
theorem d_X_clash_87 : decode prog_1_method_14_code 87 = .ok (.imul, 1) := by decide +kernel
theorem d_X_clash_88 : decode prog_1_method_14_code 88 = .ok (.iload 4, 2) := by decide +kernel
theorem d_X_clash_90 : decode prog_1_method_14_code 90 = .ok (.iadd, 1) := by decide +kernel
theorem d_X_clash_91 : decode prog_1_method_14_code 91 = .ok (.ireturn, 1) := by decide +kernel
theorem d_X_clash_92 : decode prog_1_method_14_code 92 = .ok (.iinc 2 1, 3) := by decide +kernel
theorem d_X_clash_95 : decode prog_1_method_14_code 95 = .ok (.iinc 4 1, 3) := by decide +kernel
theorem d_X_clash_98 : decode prog_1_method_14_code 98 = .ok (.goto (-44), 3) := by decide +kernel
theorem d_X_clash_101 : decode prog_1_method_14_code 101 = .ok (.iinc 3 1, 3) := by decide +kernel
theorem d_X_clash_104 : decode prog_1_method_14_code 104 = .ok (.goto (-66), 3) := by decide +kernel
theorem d_X_clash_107 : decode prog_1_method_14_code 107 = .ok (.iconst (-1), 1) := by decide +kernel
theorem d_X_clash_108 : decode prog_1_method_14_code 108 = .ok (.ireturn, 1) := by decide +kernel
theorem d_X_check_0 : decode prog_1_method_15_code 0 = .ok (.aload_n 0, 1) := by decide +kernel
theorem d_X_check_1 : decode prog_1_method_15_code 1 = .ok (.invokevirtual 169, 3) := by decide +kernel
theorem d_X_check_4 : decode prog_1_method_15_code 4 = .ok (.iconst 1, 1) := by decide +kernel
theorem d_X_check_5 : decode prog_1_method_15_code 5 = .ok (.istore_n 1, 1) := by decide +kernel
theorem d_X_check_6 : decode prog_1_method_15_code 6 = .ok (.iload_n 1, 1) := by decide +kernel
theorem d_X_check_7 : decode prog_1_method_15_code 7 = .ok (.iconst 4, 1) := by decide +kernel
theorem d_X_check_8 : decode prog_1_method_15_code 8 = .ok (.if_icmp .gt 47, 3) := by decide +kernel
theorem d_X_check_11 : decode prog_1_method_15_code 11 = .ok (.iconst 0, 1) := by decide +kernel
theorem d_X_check_12 : decode prog_1_method_15_code 12 = .ok (.istore_n 2, 1) := by decide +kernel
theorem d_X_check_13 : decode prog_1_method_15_code 13 = .ok (.iload_n 2, 1) := by decide +kernel
theorem d_X_check_14 : decode prog_1_method_15_code 14 = .ok (.aload_n 0, 1) := by decide +kernel
theorem d_X_check_15 : decode prog_1_method_15_code 15 = .ok (.getfield 12, 3) := by decide +kernel
theorem d_X_check_18 : decode prog_1_method_15_code 18 = .ok (.getfield 115, 3) := by decide +kernel
theorem d_X_check_21 : decode prog_1_method_15_code 21 = .ok (.if_icmp .ge 28, 3) := by decide +kernel
theorem d_X_check_24 : decode prog_1_method_15_code 24 = .ok (.aload_n 0, 1) := by decide +kernel
theorem d_X_check_25 : decode prog_1_method_15_code 25 = .ok (.getfield 37, 3) := by decide +kernel
theorem d_X_check_28 : decode prog_1_method_15_code 28 = .ok (.iload_n 1, 1) := by decide +kernel
theorem d_X_check_29 : decode prog_1_method_15_code 29 = .ok (.iload_n 2, 1) := by decide +kernel
theorem d_X_check_30 : decode prog_1_method_15_code 30 = .ok (.invokevirtual 215, 3) := by decide +kernel
theorem d_X_check_33 : decode prog_1_method_15_code 33 = .ok (.ifCond .eq 10, 3) := by decide +kernel
theorem d_X_check_36 : decode prog_1_method_15_code 36 = .ok (.bipush 100, 2) := by decide +kernel
theorem d_X_check_38 : decode prog_1_method_15_code 38 = .ok (.iload_n 1, 1) := by decide +kernel
theorem d_X_check_39 : decode prog_1_method_15_code 39 = .ok (.imul, 1) := by decide +kernel
theorem d_X_check_40 : decode prog_1_method_15_code 40 = .ok (.iload_n 2, 1) := by decide +kernel
theorem d_X_check_41 : decode prog_1_method_15_code 41 = .ok (.iadd, 1) := by decide +kernel
theorem d_X_check_42 : decode prog_1_method_15_code 42 = .ok (.ireturn, 1) := by decide +kernel
theorem d_X_check_43 : decode prog_1_method_15_code 43 = .ok (.iinc 2 1, 3) := by decide +kernel
theorem d_X_check_46 : decode prog_1_method_15_code 46 = .ok (.goto (-33), 3) := by decide +kernel
theorem d_X_check_49 : decode prog_1_method_15_code 49 = .ok (.iinc 1 1, 3) := by decide +kernel
theorem d_X_check_52 : decode prog_1_method_15_code 52 = .ok (.goto (-46), 3) := by decide +kernel
theorem d_X_check_55 : decode prog_1_method_15_code 55 = .ok (.iconst 0, 1) := by decide +kernel
theorem d_X_check_56 : decode prog_1_method_15_code 56 = .ok (.istore_n 1, 1) := by decide +kernel
theorem d_X_check_57 : decode prog_1_method_15_code 57 = .ok (.iload_n 1, 1) := by decide +kernel
theorem d_X_check_58 : decode prog_1_method_15_code 58 = .ok (.aload_n 0, 1) := by decide +kernel
theorem d_X_check_59 : decode prog_1_method_15_code 59 = .ok (.getfield 12, 3) := by decide +kernel
theorem d_X_check_62 : decode prog_1_method_15_code 62 = .ok (.getfield 92, 3) := by decide +kernel
theorem d_X_check_65 : decode prog_1_method_15_code 65 = .ok (.if_icmp .ge 35, 3) := by decide +kernel
theorem d_X_check_68 : decode prog_1_method_15_code 68 = .ok (.aload_n 0, 1) := by decide +kernel
theorem d_X_check_69 : decode prog_1_method_15_code 69 = .ok (.getfield 37, 3) := by decide +kernel
theorem d_X_check_72 : decode prog_1_method_15_code 72 = .ok (.iload_n 1, 1) := by decide +kernel
theorem d_X_check_73 : decode prog_1_method_15_code 73 = .ok (.invokevirtual 218, 3) := by decide +kernel
theorem d_X_check_76 : decode prog_1_method_15_code 76 = .ok (.aload_n 0, 1) := by decide +kernel
theorem d_X_check_77 : decode prog_1_method_15_code 77 = .ok (.getfield 12, 3) := by decide +kernel
theorem d_X_check_80 : decode prog_1_method_15_code 80 = .ok (.getfield 107, 3) := by decide +kernel
theorem d_X_check_83 : decode prog_1_method_15_code 83 = .ok (.iload_n 1, 1) := by decide +kernel
theorem d_X_check_84 : decode prog_1_method_15_code 84 = .ok (.iaload, 1) := by decide +kernel
theorem d_X_check_85 : decode prog_1_method_15_code 85 = .ok (.if_icmp .le 9, 3) := by decide +kernel
theorem d_X_check_88 : decode prog_1_method_15_code 88 = .ok (.sipush 500, 3) := by decide +kernel
theorem d_X_check_91 : decode prog_1_method_15_code 91 = .ok (.iload_n 1, 1) := by decide +kernel
theorem d_X_check_92 : decode prog_1_method_15_code 92 = .ok (.iadd, 1) := by decide +kernel
theorem d_X_check_93 : decode prog_1_method_15_code 93 = .ok (.ireturn, 1) := by decide +kernel
theorem d_X_check_94 : decode prog_1_method_15_code 94 = .ok (.iinc 1 1, 3) := by decide +kernel
theorem d_X_check_97 : decode prog_1_method_15_code 97 = .ok (.goto (-40), 3) := by decide +kernel
theorem d_X_check_100 : decode prog_1_method_15_code 100 = .ok (.iconst 0, 1) := by decide +kernel
theorem d_X_check_101 : decode prog_1_method_15_code 101 = .ok (.ireturn, 1) := by decide +kernel
