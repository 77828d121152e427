/-! decode rows of WorkPlansLaw -/
theorem d_L_cell_0 : decode method_2_code 0 = .ok (.iload_n 1, 1) := by decide +kernel
theorem d_L_cell_1 : decode method_2_code 1 = .ok (.aload_n 0, 1) := by decide +kernel
theorem d_L_cell_2 : decode method_2_code 2 = .ok (.arraylength, 1) := by decide +kernel
theorem d_L_cell_3 : decode method_2_code 3 = .ok (.if_icmp .ge 9, 3) := by decide +kernel
theorem d_L_cell_6 : decode method_2_code 6 = .ok (.aload_n 0, 1) := by decide +kernel
theorem d_L_cell_7 : decode method_2_code 7 = .ok (.iload_n 1, 1) := by decide +kernel
theorem d_L_cell_8 : decode method_2_code 8 = .ok (.iaload, 1) := by decide +kernel
theorem d_L_cell_9 : decode method_2_code 9 = .ok (.goto 4, 3) := by decide +kernel
theorem d_L_cell_12 : decode method_2_code 12 = .ok (.iconst 0, 1) := by decide +kernel
theorem d_L_cell_13 : decode method_2_code 13 = .ok (.ireturn, 1) := by decide +kernel
theorem d_L_machine_0 : decode method_3_code 0 = .ok (.aload_n 2, 1) := by decide +kernel
theorem d_L_machine_1 : decode method_3_code 1 = .ok (.iconst 0, 1) := by decide +kernel
theorem d_L_machine_2 : decode method_3_code 2 = .ok (.aload_n 0, 1) := by decide +kernel
theorem d_L_machine_3 : decode method_3_code 3 = .ok (.iload_n 1, 1) := by decide +kernel
theorem d_L_machine_4 : decode method_3_code 4 = .ok (.invokevirtual 7, 3) := by decide +kernel
theorem d_L_machine_7 : decode method_3_code 7 = .ok (.i2l, 1) := by decide +kernel
theorem d_L_machine_8 : decode method_3_code 8 = .ok (.lastore, 1) := by decide +kernel
theorem d_L_machine_9 : decode method_3_code 9 = .ok (.goto 9, 3) := by decide +kernel
theorem d_L_machine_12 : decode method_3_code 12 = .ok (.astore_n 3, 1) := by decide +kernel
theorem d_L_machine_13 : decode method_3_code 13 = .ok (.iconst 1, 1) := by decide +kernel
theorem d_L_machine_14 : decode method_3_code 14 = .ok (.ireturn, 1) := by decide +kernel
theorem d_L_machine_15 : decode method_3_code 15 = .ok (.astore_n 3, 1) := by decide +kernel
theorem d_L_machine_16 : decode method_3_code 16 = .ok (.iconst 2, 1) := by decide +kernel
theorem d_L_machine_17 : decode method_3_code 17 = .ok (.ireturn, 1) := by decide +kernel
theorem d_L_machine_18 : decode method_3_code 18 = .ok (.iconst 0, 1) := by decide +kernel
theorem d_L_machine_19 : decode method_3_code 19 = .ok (.ireturn, 1) := by decide +kernel
theorem d_L_out_0 : decode method_4_code 0 = .ok (.aload 4, 2) := by decide +kernel
theorem d_L_out_2 : decode method_4_code 2 = .ok (.iconst 0, 1) := by decide +kernel
theorem d_L_out_3 : decode method_4_code 3 = .ok (.aload_n 0, 1) := by decide +kernel
theorem d_L_out_4 : decode method_4_code 4 = .ok (.iload_n 1, 1) := by decide +kernel
theorem d_L_out_5 : decode method_4_code 5 = .ok (.iload_n 2, 1) := by decide +kernel
theorem d_L_out_6 : decode method_4_code 6 = .ok (.iload_n 3, 1) := by decide +kernel
theorem d_L_out_7 : decode method_4_code 7 = .ok (.invokevirtual 17, 3) := by decide +kernel
theorem d_L_out_10 : decode method_4_code 10 = .ok (.i2l, 1) := by decide +kernel
theorem d_L_out_11 : decode method_4_code 11 = .ok (.lastore, 1) := by decide +kernel
theorem d_L_out_12 : decode method_4_code 12 = .ok (.goto 15, 3) := by decide +kernel
theorem d_L_out_15 : decode method_4_code 15 = .ok (.astore 5, 2) := by decide +kernel
theorem d_L_out_17 : decode method_4_code 17 = .ok (.iconst 1, 1) := by decide +kernel
theorem d_L_out_18 : decode method_4_code 18 = .ok (.ireturn, 1) := by decide +kernel
theorem d_L_out_19 : decode method_4_code 19 = .ok (.astore 5, 2) := by decide +kernel
theorem d_L_out_21 : decode method_4_code 21 = .ok (.iconst 2, 1) := by decide +kernel
theorem d_L_out_22 : decode method_4_code 22 = .ok (.ireturn, 1) := by decide +kernel
theorem d_L_out_23 : decode method_4_code 23 = .ok (.astore 5, 2) := by decide +kernel
theorem d_L_out_25 : decode method_4_code 25 = .ok (.iconst 3, 1) := by decide +kernel
theorem d_L_out_26 : decode method_4_code 26 = .ok (.ireturn, 1) := by decide +kernel
theorem d_L_out_27 : decode method_4_code 27 = .ok (.iconst 0, 1) := by decide +kernel
theorem d_L_out_28 : decode method_4_code 28 = .ok (.ireturn, 1) := by decide +kernel
theorem d_L_job_0 : decode method_5_code 0 = .ok (.aload_n 3, 1) := by decide +kernel
theorem d_L_job_1 : decode method_5_code 1 = .ok (.iconst 0, 1) := by decide +kernel
theorem d_L_job_2 : decode method_5_code 2 = .ok (.aload_n 0, 1) := by decide +kernel
theorem d_L_job_3 : decode method_5_code 3 = .ok (.iload_n 1, 1) := by decide +kernel
theorem d_L_job_4 : decode method_5_code 4 = .ok (.iload_n 2, 1) := by decide +kernel
theorem d_L_job_5 : decode method_5_code 5 = .ok (.invokevirtual 23, 3) := by decide +kernel
theorem d_L_job_8 : decode method_5_code 8 = .ok (.i2l, 1) := by decide +kernel
theorem d_L_job_9 : decode method_5_code 9 = .ok (.lastore, 1) := by decide +kernel
theorem d_L_job_10 : decode method_5_code 10 = .ok (.goto 11, 3) := by decide +kernel
theorem d_L_job_13 : decode method_5_code 13 = .ok (.astore 4, 2) := by decide +kernel
theorem d_L_job_15 : decode method_5_code 15 = .ok (.iconst 1, 1) := by decide +kernel
theorem d_L_job_16 : decode method_5_code 16 = .ok (.ireturn, 1) := by decide +kernel
theorem d_L_job_17 : decode method_5_code 17 = .ok (.astore 4, 2) := by decide +kernel
theorem d_L_job_19 : decode method_5_code 19 = .ok (.iconst 2, 1) := by decide +kernel
theorem d_L_job_20 : decode method_5_code 20 = .ok (.ireturn, 1) := by decide +kernel
theorem d_L_job_21 : decode method_5_code 21 = .ok (.iconst 0, 1) := by decide +kernel
theorem d_L_job_22 : decode method_5_code 22 = .ok (.ireturn, 1) := by decide +kernel
theorem d_L_due_0 : decode method_6_code 0 = .ok (.aload_n 0, 1) := by decide +kernel
theorem d_L_due_1 : decode method_6_code 1 = .ok (.iload_n 1, 1) := by decide +kernel
theorem d_L_due_2 : decode method_6_code 2 = .ok (.iload_n 2, 1) := by decide +kernel
theorem d_L_due_3 : decode method_6_code 3 = .ok (.invokevirtual 27, 3) := by decide +kernel
theorem d_L_due_6 : decode method_6_code 6 = .ok (.goto 9, 3) := by decide +kernel
theorem d_L_due_9 : decode method_6_code 9 = .ok (.astore_n 3, 1) := by decide +kernel
theorem d_L_due_10 : decode method_6_code 10 = .ok (.iconst 1, 1) := by decide +kernel
theorem d_L_due_11 : decode method_6_code 11 = .ok (.ireturn, 1) := by decide +kernel
theorem d_L_due_12 : decode method_6_code 12 = .ok (.astore_n 3, 1) := by decide +kernel
theorem d_L_due_13 : decode method_6_code 13 = .ok (.iconst 2, 1) := by decide +kernel
theorem d_L_due_14 : decode method_6_code 14 = .ok (.ireturn, 1) := by decide +kernel
theorem d_L_due_15 : decode method_6_code 15 = .ok (.iconst 0, 1) := by decide +kernel
theorem d_L_due_16 : decode method_6_code 16 = .ok (.ireturn, 1) := by decide +kernel
theorem d_L_step_0 : decode method_7_code 0 = .ok (.aload 5, 2) := by decide +kernel
theorem d_L_step_2 : decode method_7_code 2 = .ok (.iconst 0, 1) := by decide +kernel
theorem d_L_step_3 : decode method_7_code 3 = .ok (.aload_n 0, 1) := by decide +kernel
theorem d_L_step_4 : decode method_7_code 4 = .ok (.iload_n 1, 1) := by decide +kernel
theorem d_L_step_5 : decode method_7_code 5 = .ok (.iload_n 2, 1) := by decide +kernel
theorem d_L_step_6 : decode method_7_code 6 = .ok (.iload_n 3, 1) := by decide +kernel
theorem d_L_step_7 : decode method_7_code 7 = .ok (.iload 4, 2) := by decide +kernel
theorem d_L_step_9 : decode method_7_code 9 = .ok (.invokevirtual 31, 3) := by decide +kernel
theorem d_L_step_12 : decode method_7_code 12 = .ok (.i2l, 1) := by decide +kernel
theorem d_L_step_13 : decode method_7_code 13 = .ok (.lastore, 1) := by decide +kernel
theorem d_L_step_14 : decode method_7_code 14 = .ok (.goto 15, 3) := by decide +kernel
theorem d_L_step_17 : decode method_7_code 17 = .ok (.astore 6, 2) := by decide +kernel
theorem d_L_step_19 : decode method_7_code 19 = .ok (.iconst 1, 1) := by decide +kernel
theorem d_L_step_20 : decode method_7_code 20 = .ok (.ireturn, 1) := by decide +kernel
theorem d_L_step_21 : decode method_7_code 21 = .ok (.astore 6, 2) := by decide +kernel
theorem d_L_step_23 : decode method_7_code 23 = .ok (.iconst 2, 1) := by decide +kernel
theorem d_L_step_24 : decode method_7_code 24 = .ok (.ireturn, 1) := by decide +kernel
theorem d_L_step_25 : decode method_7_code 25 = .ok (.astore 6, 2) := by decide +kernel
theorem d_L_step_27 : decode method_7_code 27 = .ok (.iconst 3, 1) := by decide +kernel
theorem d_L_step_28 : decode method_7_code 28 = .ok (.ireturn, 1) := by decide +kernel
theorem d_L_step_29 : decode method_7_code 29 = .ok (.iconst 0, 1) := by decide +kernel
theorem d_L_step_30 : decode method_7_code 30 = .ok (.ireturn, 1) := by decide +kernel
theorem d_L_run_0 : decode method_8_code 0 = .ok (.aload_n 2, 1) := by decide +kernel
theorem d_L_run_1 : decode method_8_code 1 = .ok (.iconst 0, 1) := by decide +kernel
theorem d_L_run_2 : decode method_8_code 2 = .ok (.aload_n 0, 1) := by decide +kernel
theorem d_L_run_3 : decode method_8_code 3 = .ok (.iload_n 1, 1) := by decide +kernel
theorem d_L_run_4 : decode method_8_code 4 = .ok (.invokevirtual 35, 3) := by decide +kernel
theorem d_L_run_7 : decode method_8_code 7 = .ok (.i2l, 1) := by decide +kernel
theorem d_L_run_8 : decode method_8_code 8 = .ok (.lastore, 1) := by decide +kernel
theorem d_L_run_9 : decode method_8_code 9 = .ok (.goto 9, 3) := by decide +kernel
theorem d_L_run_12 : decode method_8_code 12 = .ok (.astore_n 3, 1) := by decide +kernel
theorem d_L_run_13 : decode method_8_code 13 = .ok (.iconst 1, 1) := by decide +kernel
theorem d_L_run_14 : decode method_8_code 14 = .ok (.ireturn, 1) := by decide +kernel
theorem d_L_run_15 : decode method_8_code 15 = .ok (.astore_n 3, 1) := by decide +kernel
theorem d_L_run_16 : decode method_8_code 16 = .ok (.iconst 2, 1) := by decide +kernel
theorem d_L_run_17 : decode method_8_code 17 = .ok (.ireturn, 1) := by decide +kernel
theorem d_L_run_18 : decode method_8_code 18 = .ok (.iconst 0, 1) := by decide +kernel
theorem d_L_run_19 : decode method_8_code 19 = .ok (.ireturn, 1) := by decide +kernel
theorem d_L_improve_0 : decode method_9_code 0 = .ok (.aload_n 2, 1) := by decide +kernel
theorem d_L_improve_1 : decode method_9_code 1 = .ok (.iconst 0, 1) := by decide +kernel
theorem d_L_improve_2 : decode method_9_code 2 = .ok (.aload_n 0, 1) := by decide +kernel
theorem d_L_improve_3 : decode method_9_code 3 = .ok (.iload_n 1, 1) := by decide +kernel
theorem d_L_improve_4 : decode method_9_code 4 = .ok (.invokevirtual 38, 3) := by decide +kernel
theorem d_L_improve_7 : decode method_9_code 7 = .ok (.i2l, 1) := by decide +kernel
theorem d_L_improve_8 : decode method_9_code 8 = .ok (.lastore, 1) := by decide +kernel
theorem d_L_improve_9 : decode method_9_code 9 = .ok (.goto 9, 3) := by decide +kernel
theorem d_L_improve_12 : decode method_9_code 12 = .ok (.astore_n 3, 1) := by decide +kernel
theorem d_L_improve_13 : decode method_9_code 13 = .ok (.iconst 1, 1) := by decide +kernel
theorem d_L_improve_14 : decode method_9_code 14 = .ok (.ireturn, 1) := by decide +kernel
theorem d_L_improve_15 : decode method_9_code 15 = .ok (.astore_n 3, 1) := by decide +kernel
theorem d_L_improve_16 : decode method_9_code 16 = .ok (.iconst 2, 1) := by decide +kernel
theorem d_L_improve_17 : decode method_9_code 17 = .ok (.ireturn, 1) := by decide +kernel
theorem d_L_improve_18 : decode method_9_code 18 = .ok (.iconst 0, 1) := by decide +kernel
theorem d_L_improve_19 : decode method_9_code 19 = .ok (.ireturn, 1) := by decide +kernel
theorem d_L_at_0 : decode method_10_code 0 = .ok (.aload_n 3, 1) := by decide +kernel
theorem d_L_at_1 : decode method_10_code 1 = .ok (.iconst 0, 1) := by decide +kernel
theorem d_L_at_2 : decode method_10_code 2 = .ok (.aload_n 0, 1) := by decide +kernel
theorem d_L_at_3 : decode method_10_code 3 = .ok (.iload_n 1, 1) := by decide +kernel
theorem d_L_at_4 : decode method_10_code 4 = .ok (.iload_n 2, 1) := by decide +kernel
theorem d_L_at_5 : decode method_10_code 5 = .ok (.invokevirtual 41, 3) := by decide +kernel
theorem d_L_at_8 : decode method_10_code 8 = .ok (.i2l, 1) := by decide +kernel
theorem d_L_at_9 : decode method_10_code 9 = .ok (.lastore, 1) := by decide +kernel
theorem d_L_at_10 : decode method_10_code 10 = .ok (.goto 11, 3) := by decide +kernel
theorem d_L_at_13 : decode method_10_code 13 = .ok (.astore 4, 2) := by decide +kernel
theorem d_L_at_15 : decode method_10_code 15 = .ok (.iconst 1, 1) := by decide +kernel
theorem d_L_at_16 : decode method_10_code 16 = .ok (.ireturn, 1) := by decide +kernel
theorem d_L_at_17 : decode method_10_code 17 = .ok (.astore 4, 2) := by decide +kernel
theorem d_L_at_19 : decode method_10_code 19 = .ok (.iconst 2, 1) := by decide +kernel
theorem d_L_at_20 : decode method_10_code 20 = .ok (.ireturn, 1) := by decide +kernel
theorem d_L_at_21 : decode method_10_code 21 = .ok (.iconst 0, 1) := by decide +kernel
theorem d_L_at_22 : decode method_10_code 22 = .ok (.ireturn, 1) := by decide +kernel
theorem d_L_order_0 : decode method_11_code 0 = .ok (.aload_n 2, 1) := by decide +kernel
theorem d_L_order_1 : decode method_11_code 1 = .ok (.iconst 0, 1) := by decide +kernel
theorem d_L_order_2 : decode method_11_code 2 = .ok (.aload_n 0, 1) := by decide +kernel
theorem d_L_order_3 : decode method_11_code 3 = .ok (.iload_n 1, 1) := by decide +kernel
theorem d_L_order_4 : decode method_11_code 4 = .ok (.invokevirtual 44, 3) := by decide +kernel
theorem d_L_order_7 : decode method_11_code 7 = .ok (.i2l, 1) := by decide +kernel
theorem d_L_order_8 : decode method_11_code 8 = .ok (.lastore, 1) := by decide +kernel
theorem d_L_order_9 : decode method_11_code 9 = .ok (.goto 9, 3) := by decide +kernel
theorem d_L_order_12 : decode method_11_code 12 = .ok (.astore_n 3, 1) := by decide +kernel
theorem d_L_order_13 : decode method_11_code 13 = .ok (.iconst 1, 1) := by decide +kernel
theorem d_L_order_14 : decode method_11_code 14 = .ok (.ireturn, 1) := by decide +kernel
theorem d_L_order_15 : decode method_11_code 15 = .ok (.astore_n 3, 1) := by decide +kernel
theorem d_L_order_16 : decode method_11_code 16 = .ok (.iconst 2, 1) := by decide +kernel
theorem d_L_order_17 : decode method_11_code 17 = .ok (.ireturn, 1) := by decide +kernel
theorem d_L_order_18 : decode method_11_code 18 = .ok (.iconst 0, 1) := by decide +kernel
theorem d_L_order_19 : decode method_11_code 19 = .ok (.ireturn, 1) := by decide +kernel
theorem d_L_about_0 : decode method_12_code 0 = .ok (.aload_n 2, 1) := by decide +kernel
theorem d_L_about_1 : decode method_12_code 1 = .ok (.iconst 0, 1) := by decide +kernel
theorem d_L_about_2 : decode method_12_code 2 = .ok (.aload_n 0, 1) := by decide +kernel
theorem d_L_about_3 : decode method_12_code 3 = .ok (.iload_n 1, 1) := by decide +kernel
theorem d_L_about_4 : decode method_12_code 4 = .ok (.invokevirtual 47, 3) := by decide +kernel
theorem d_L_about_7 : decode method_12_code 7 = .ok (.lastore, 1) := by decide +kernel
theorem d_L_about_8 : decode method_12_code 8 = .ok (.goto 9, 3) := by decide +kernel
theorem d_L_about_11 : decode method_12_code 11 = .ok (.astore_n 3, 1) := by decide +kernel
theorem d_L_about_12 : decode method_12_code 12 = .ok (.iconst 1, 1) := by decide +kernel
theorem d_L_about_13 : decode method_12_code 13 = .ok (.ireturn, 1) := by decide +kernel
theorem d_L_about_14 : decode method_12_code 14 = .ok (.astore_n 3, 1) := by decide +kernel
theorem d_L_about_15 : decode method_12_code 15 = .ok (.iconst 2, 1) := by decide +kernel
theorem d_L_about_16 : decode method_12_code 16 = .ok (.ireturn, 1) := by decide +kernel
theorem d_L_about_17 : decode method_12_code 17 = .ok (.iconst 0, 1) := by decide +kernel
theorem d_L_about_18 : decode method_12_code 18 = .ok (.ireturn, 1) := by decide +kernel
theorem d_L_alone_0 : decode method_13_code 0 = .ok (.aload_n 2, 1) := by decide +kernel
theorem d_L_alone_1 : decode method_13_code 1 = .ok (.iconst 0, 1) := by decide +kernel
theorem d_L_alone_2 : decode method_13_code 2 = .ok (.aload_n 0, 1) := by decide +kernel
theorem d_L_alone_3 : decode method_13_code 3 = .ok (.iload_n 1, 1) := by decide +kernel
theorem d_L_alone_4 : decode method_13_code 4 = .ok (.invokevirtual 51, 3) := by decide +kernel
theorem d_L_alone_7 : decode method_13_code 7 = .ok (.lastore, 1) := by decide +kernel
theorem d_L_alone_8 : decode method_13_code 8 = .ok (.goto 9, 3) := by decide +kernel
theorem d_L_alone_11 : decode method_13_code 11 = .ok (.astore_n 3, 1) := by decide +kernel
theorem d_L_alone_12 : decode method_13_code 12 = .ok (.iconst 1, 1) := by decide +kernel
theorem d_L_alone_13 : decode method_13_code 13 = .ok (.ireturn, 1) := by decide +kernel
theorem d_L_alone_14 : decode method_13_code 14 = .ok (.astore_n 3, 1) := by decide +kernel
theorem d_L_alone_15 : decode method_13_code 15 = .ok (.iconst 2, 1) := by decide +kernel
theorem d_L_alone_16 : decode method_13_code 16 = .ok (.ireturn, 1) := by decide +kernel
theorem d_L_alone_17 : decode method_13_code 17 = .ok (.iconst 0, 1) := by decide +kernel
theorem d_L_alone_18 : decode method_13_code 18 = .ok (.ireturn, 1) := by decide +kernel
theorem d_L_promise_0 : decode method_14_code 0 = .ok (.aload_n 2, 1) := by decide +kernel
theorem d_L_promise_1 : decode method_14_code 1 = .ok (.iconst 0, 1) := by decide +kernel
theorem d_L_promise_2 : decode method_14_code 2 = .ok (.aload_n 0, 1) := by decide +kernel
theorem d_L_promise_3 : decode method_14_code 3 = .ok (.iload_n 1, 1) := by decide +kernel
theorem d_L_promise_4 : decode method_14_code 4 = .ok (.invokevirtual 54, 3) := by decide +kernel
theorem d_L_promise_7 : decode method_14_code 7 = .ok (.i2l, 1) := by decide +kernel
theorem d_L_promise_8 : decode method_14_code 8 = .ok (.lastore, 1) := by decide +kernel
theorem d_L_promise_9 : decode method_14_code 9 = .ok (.goto 9, 3) := by decide +kernel
theorem d_L_promise_12 : decode method_14_code 12 = .ok (.astore_n 3, 1) := by decide +kernel
theorem d_L_promise_13 : decode method_14_code 13 = .ok (.iconst 1, 1) := by decide +kernel
theorem d_L_promise_14 : decode method_14_code 14 = .ok (.ireturn, 1) := by decide +kernel
theorem d_L_promise_15 : decode method_14_code 15 = .ok (.astore_n 3, 1) := by decide +kernel
theorem d_L_promise_16 : decode method_14_code 16 = .ok (.iconst 2, 1) := by decide +kernel
theorem d_L_promise_17 : decode method_14_code 17 = .ok (.ireturn, 1) := by decide +kernel
theorem d_L_promise_18 : decode method_14_code 18 = .ok (.iconst 0, 1) := by decide +kernel
theorem d_L_promise_19 : decode method_14_code 19 = .ok (.ireturn, 1) := by decide +kernel
theorem d_L_clash_0 : decode method_15_code 0 = .ok (.aload_n 2, 1) := by decide +kernel
theorem d_L_clash_1 : decode method_15_code 1 = .ok (.iconst 0, 1) := by decide +kernel
theorem d_L_clash_2 : decode method_15_code 2 = .ok (.aload_n 0, 1) := by decide +kernel
theorem d_L_clash_3 : decode method_15_code 3 = .ok (.iload_n 1, 1) := by decide +kernel
theorem d_L_clash_4 : decode method_15_code 4 = .ok (.invokevirtual 57, 3) := by decide +kernel
theorem d_L_clash_7 : decode method_15_code 7 = .ok (.i2l, 1) := by decide +kernel
theorem d_L_clash_8 : decode method_15_code 8 = .ok (.lastore, 1) := by decide +kernel
theorem d_L_clash_9 : decode method_15_code 9 = .ok (.goto 9, 3) := by decide +kernel
theorem d_L_clash_12 : decode method_15_code 12 = .ok (.astore_n 3, 1) := by decide +kernel
theorem d_L_clash_13 : decode method_15_code 13 = .ok (.iconst 1, 1) := by decide +kernel
theorem d_L_clash_14 : decode method_15_code 14 = .ok (.ireturn, 1) := by decide +kernel
theorem d_L_clash_15 : decode method_15_code 15 = .ok (.astore_n 3, 1) := by decide +kernel
theorem d_L_clash_16 : decode method_15_code 16 = .ok (.iconst 2, 1) := by decide +kernel
theorem d_L_clash_17 : decode method_15_code 17 = .ok (.ireturn, 1) := by decide +kernel
theorem d_L_clash_18 : decode method_15_code 18 = .ok (.iconst 0, 1) := by decide +kernel
theorem d_L_clash_19 : decode method_15_code 19 = .ok (.ireturn, 1) := by decide +kernel
theorem d_L_check_0 : decode method_16_code 0 = .ok (.aload_n 1, 1) := by decide +kernel
theorem d_L_check_1 : decode method_16_code 1 = .ok (.iconst 0, 1) := by decide +kernel
theorem d_L_check_2 : decode method_16_code 2 = .ok (.aload_n 0, 1) := by decide +kernel
theorem d_L_check_3 : decode method_16_code 3 = .ok (.invokevirtual 60, 3) := by decide +kernel
theorem d_L_check_6 : decode method_16_code 6 = .ok (.i2l, 1) := by decide +kernel
theorem d_L_check_7 : decode method_16_code 7 = .ok (.lastore, 1) := by decide +kernel
theorem d_L_check_8 : decode method_16_code 8 = .ok (.goto 6, 3) := by decide +kernel
theorem d_L_check_11 : decode method_16_code 11 = .ok (.astore_n 2, 1) := by decide +kernel
theorem d_L_check_12 : decode method_16_code 12 = .ok (.iconst 1, 1) := by decide +kernel
theorem d_L_check_13 : decode method_16_code 13 = .ok (.ireturn, 1) := by decide +kernel
theorem d_L_check_14 : decode method_16_code 14 = .ok (.iconst 0, 1) := by decide +kernel
theorem d_L_check_15 : decode method_16_code 15 = .ok (.ireturn, 1) := by decide +kernel
theorem d_L_law_0 : decode code 0 = .ok (.new 8, 3) := by decide +kernel
theorem d_L_law_3 : decode code 3 = .ok (.dup, 1) := by decide +kernel
theorem d_L_law_4 : decode code 4 = .ok (.aload_n 0, 1) := by decide +kernel
theorem d_L_law_5 : decode code 5 = .ok (.iconst 0, 1) := by decide +kernel
theorem d_L_law_6 : decode code 6 = .ok (.invokestatic 64, 3) := by decide +kernel
theorem d_L_law_9 : decode code 9 = .ok (.invokespecial 70, 3) := by decide +kernel
theorem d_L_law_12 : decode code 12 = .ok (.astore_n 1, 1) := by decide +kernel
theorem d_L_law_13 : decode code 13 = .ok (.new 73, 3) := by decide +kernel
theorem d_L_law_16 : decode code 16 = .ok (.dup, 1) := by decide +kernel
theorem d_L_law_17 : decode code 17 = .ok (.aload_n 0, 1) := by decide +kernel
theorem d_L_law_18 : decode code 18 = .ok (.iconst 0, 1) := by decide +kernel
theorem d_L_law_19 : decode code 19 = .ok (.invokestatic 64, 3) := by decide +kernel
theorem d_L_law_22 : decode code 22 = .ok (.invokespecial 75, 3) := by decide +kernel
theorem d_L_law_25 : decode code 25 = .ok (.astore_n 2, 1) := by decide +kernel
theorem d_L_law_26 : decode code 26 = .ok (.iconst 1, 1) := by decide +kernel
theorem d_L_law_27 : decode code 27 = .ok (.newarray .long, 2) := by decide +kernel
theorem d_L_law_29 : decode code 29 = .ok (.astore_n 3, 1) := by decide +kernel
theorem d_L_law_30 : decode code 30 = .ok (.iconst 1, 1) := by decide +kernel
theorem d_L_law_31 : decode code 31 = .ok (.istore 4, 2) := by decide +kernel
theorem d_L_law_33 : decode code 33 = .ok (.iload 4, 2) := by decide +kernel
theorem d_L_law_35 : decode code 35 = .ok (.aload_n 0, 1) := by decide +kernel
theorem d_L_law_36 : decode code 36 = .ok (.arraylength, 1) := by decide +kernel
theorem d_L_law_37 : decode code 37 = .ok (.iconst 5, 1) := by decide +kernel
theorem d_L_law_38 : decode code 38 = .ok (.isub, 1) := by decide +kernel
theorem d_L_law_39 : decode code 39 = .ok (.if_icmp .gt 933, 3) := by decide +kernel
theorem d_L_law_42 : decode code 42 = .ok (.aload_n 0, 1) := by decide +kernel
theorem d_L_law_43 : decode code 43 = .ok (.iload 4, 2) := by decide +kernel
theorem d_L_law_45 : decode code 45 = .ok (.iaload, 1) := by decide +kernel
theorem d_L_law_46 : decode code 46 = .ok (.bipush 15, 2) := by decide +kernel
theorem d_L_law_48 : decode code 48 = .ok (.iand, 1) := by decide +kernel
theorem d_L_law_49 : decode code 49 = .ok (.tableswitch 917 0 13 #[71, 127, 207, 275, 323, 415, 471, 527, 595, 651, 706, 761, 817, 873], 71) := by decide +kernel
theorem d_L_law_120 : decode code 120 = .ok (.aload_n 1, 1) := by decide +kernel
theorem d_L_law_121 : decode code 121 = .ok (.aload_n 0, 1) := by decide +kernel
theorem d_L_law_122 : decode code 122 = .ok (.iload 4, 2) := by decide +kernel
theorem d_L_law_124 : decode code 124 = .ok (.iconst 1, 1) := by decide +kernel
theorem d_L_law_125 : decode code 125 = .ok (.iadd, 1) := by decide +kernel
theorem d_L_law_126 : decode code 126 = .ok (.iaload, 1) := by decide +kernel
theorem d_L_law_127 : decode code 127 = .ok (.aload_n 3, 1) := by decide +kernel
theorem d_L_law_128 : decode code 128 = .ok (.invokestatic 76, 3) := by decide +kernel
theorem d_L_law_131 : decode code 131 = .ok (.istore 5, 2) := by decide +kernel
theorem d_L_law_133 : decode code 133 = .ok (.aload_n 2, 1) := by decide +kernel
theorem d_L_law_134 : decode code 134 = .ok (.aload_n 0, 1) := by decide +kernel
theorem d_L_law_135 : decode code 135 = .ok (.iload 4, 2) := by decide +kernel
theorem d_L_law_137 : decode code 137 = .ok (.iconst 1, 1) := by decide +kernel
theorem d_L_law_138 : decode code 138 = .ok (.iadd, 1) := by decide +kernel
theorem d_L_law_139 : decode code 139 = .ok (.iaload, 1) := by decide +kernel
theorem d_L_law_140 : decode code 140 = .ok (.invokevirtual 79, 3) := by decide +kernel
theorem d_L_law_143 : decode code 143 = .ok (.istore 6, 2) := by decide +kernel
theorem d_L_law_145 : decode code 145 = .ok (.aload_n 2, 1) := by decide +kernel
theorem d_L_law_146 : decode code 146 = .ok (.invokevirtual 80, 3) := by decide +kernel
theorem d_L_law_149 : decode code 149 = .ok (.iload 5, 2) := by decide +kernel
theorem d_L_law_151 : decode code 151 = .ok (.if_icmp .eq 5, 3) := by decide +kernel
theorem d_L_law_154 : decode code 154 = .ok (.iconst 0, 1) := by decide +kernel
theorem d_L_law_155 : decode code 155 = .ok (.ireturn, 1) := by decide +kernel
theorem d_L_law_156 : decode code 156 = .ok (.iload 5, 2) := by decide +kernel
theorem d_L_law_158 : decode code 158 = .ok (.ifCond .ne 15, 3) := by decide +kernel
theorem d_L_law_161 : decode code 161 = .ok (.aload_n 3, 1) := by decide +kernel
theorem d_L_law_162 : decode code 162 = .ok (.iconst 0, 1) := by decide +kernel
theorem d_L_law_163 : decode code 163 = .ok (.laload, 1) := by decide +kernel
theorem d_L_law_164 : decode code 164 = .ok (.iload 6, 2) := by decide +kernel
theorem d_L_law_166 : decode code 166 = .ok (.i2l, 1) := by decide +kernel
theorem d_L_law_167 : decode code 167 = .ok (.lcmp, 1) := by decide +kernel
theorem d_L_law_168 : decode code 168 = .ok (.ifCond .eq 5, 3) := by decide +kernel
theorem d_L_law_171 : decode code 171 = .ok (.iconst 0, 1) := by decide +kernel
theorem d_L_law_172 : decode code 172 = .ok (.ireturn, 1) := by decide +kernel
theorem d_L_law_173 : decode code 173 = .ok (.goto 793, 3) := by decide +kernel
theorem d_L_law_176 : decode code 176 = .ok (.aload_n 1, 1) := by decide +kernel
theorem d_L_law_177 : decode code 177 = .ok (.aload_n 0, 1) := by decide +kernel
theorem d_L_law_178 : decode code 178 = .ok (.iload 4, 2) := by decide +kernel
theorem d_L_law_180 : decode code 180 = .ok (.iconst 1, 1) := by decide +kernel
theorem d_L_law_181 : decode code 181 = .ok (.iadd, 1) := by decide +kernel
theorem d_L_law_182 : decode code 182 = .ok (.iaload, 1) := by decide +kernel
theorem d_L_law_183 : decode code 183 = .ok (.aload_n 0, 1) := by decide +kernel
theorem d_L_law_184 : decode code 184 = .ok (.iload 4, 2) := by decide +kernel
theorem d_L_law_186 : decode code 186 = .ok (.iconst 2, 1) := by decide +kernel
theorem d_L_law_187 : decode code 187 = .ok (.iadd, 1) := by decide +kernel
theorem d_L_law_188 : decode code 188 = .ok (.iaload, 1) := by decide +kernel
theorem d_L_law_189 : decode code 189 = .ok (.aload_n 0, 1) := by decide +kernel
theorem d_L_law_190 : decode code 190 = .ok (.iload 4, 2) := by decide +kernel
theorem d_L_law_192 : decode code 192 = .ok (.iconst 3, 1) := by decide +kernel
theorem d_L_law_193 : decode code 193 = .ok (.iadd, 1) := by decide +kernel
theorem d_L_law_194 : decode code 194 = .ok (.iaload, 1) := by decide +kernel
theorem d_L_law_195 : decode code 195 = .ok (.aload_n 3, 1) := by decide +kernel
theorem d_L_law_196 : decode code 196 = .ok (.invokestatic 83, 3) := by decide +kernel
theorem d_L_law_199 : decode code 199 = .ok (.istore 5, 2) := by decide +kernel
theorem d_L_law_201 : decode code 201 = .ok (.aload_n 2, 1) := by decide +kernel
theorem d_L_law_202 : decode code 202 = .ok (.aload_n 0, 1) := by decide +kernel
theorem d_L_law_203 : decode code 203 = .ok (.iload 4, 2) := by decide +kernel
theorem d_L_law_205 : decode code 205 = .ok (.iconst 1, 1) := by decide +kernel
theorem d_L_law_206 : decode code 206 = .ok (.iadd, 1) := by decide +kernel
theorem d_L_law_207 : decode code 207 = .ok (.iaload, 1) := by decide +kernel
theorem d_L_law_208 : decode code 208 = .ok (.aload_n 0, 1) := by decide +kernel
theorem d_L_law_209 : decode code 209 = .ok (.iload 4, 2) := by decide +kernel
theorem d_L_law_211 : decode code 211 = .ok (.iconst 2, 1) := by decide +kernel
theorem d_L_law_212 : decode code 212 = .ok (.iadd, 1) := by decide +kernel
theorem d_L_law_213 : decode code 213 = .ok (.iaload, 1) := by decide +kernel
theorem d_L_law_214 : decode code 214 = .ok (.aload_n 0, 1) := by decide +kernel
theorem d_L_law_215 : decode code 215 = .ok (.iload 4, 2) := by decide +kernel
theorem d_L_law_217 : decode code 217 = .ok (.iconst 3, 1) := by decide +kernel
theorem d_L_law_218 : decode code 218 = .ok (.iadd, 1) := by decide +kernel
theorem d_L_law_219 : decode code 219 = .ok (.iaload, 1) := by decide +kernel
theorem d_L_law_220 : decode code 220 = .ok (.invokevirtual 86, 3) := by decide +kernel
theorem d_L_law_223 : decode code 223 = .ok (.istore 6, 2) := by decide +kernel
theorem d_L_law_225 : decode code 225 = .ok (.aload_n 2, 1) := by decide +kernel
theorem d_L_law_226 : decode code 226 = .ok (.invokevirtual 80, 3) := by decide +kernel
theorem d_L_law_229 : decode code 229 = .ok (.iload 5, 2) := by decide +kernel
theorem d_L_law_231 : decode code 231 = .ok (.if_icmp .eq 5, 3) := by decide +kernel
theorem d_L_law_234 : decode code 234 = .ok (.iconst 0, 1) := by decide +kernel
theorem d_L_law_235 : decode code 235 = .ok (.ireturn, 1) := by decide +kernel
theorem d_L_law_236 : decode code 236 = .ok (.iload 5, 2) := by decide +kernel
theorem d_L_law_238 : decode code 238 = .ok (.ifCond .ne 15, 3) := by decide +kernel
theorem d_L_law_241 : decode code 241 = .ok (.aload_n 3, 1) := by decide +kernel
theorem d_L_law_242 : decode code 242 = .ok (.iconst 0, 1) := by decide +kernel
theorem d_L_law_243 : decode code 243 = .ok (.laload, 1) := by decide +kernel
theorem d_L_law_244 : decode code 244 = .ok (.iload 6, 2) := by decide +kernel
theorem d_L_law_246 : decode code 246 = .ok (.i2l, 1) := by decide +kernel
theorem d_L_law_247 : decode code 247 = .ok (.lcmp, 1) := by decide +kernel
theorem d_L_law_248 : decode code 248 = .ok (.ifCond .eq 5, 3) := by decide +kernel
theorem d_L_law_251 : decode code 251 = .ok (.iconst 0, 1) := by decide +kernel
theorem d_L_law_252 : decode code 252 = .ok (.ireturn, 1) := by decide +kernel
theorem d_L_law_253 : decode code 253 = .ok (.goto 713, 3) := by decide +kernel
theorem d_L_law_256 : decode code 256 = .ok (.aload_n 1, 1) := by decide +kernel
theorem d_L_law_257 : decode code 257 = .ok (.aload_n 0, 1) := by decide +kernel
theorem d_L_law_258 : decode code 258 = .ok (.iload 4, 2) := by decide +kernel
theorem d_L_law_260 : decode code 260 = .ok (.iconst 1, 1) := by decide +kernel
theorem d_L_law_261 : decode code 261 = .ok (.iadd, 1) := by decide +kernel
theorem d_L_law_262 : decode code 262 = .ok (.iaload, 1) := by decide +kernel
theorem d_L_law_263 : decode code 263 = .ok (.aload_n 0, 1) := by decide +kernel
theorem d_L_law_264 : decode code 264 = .ok (.iload 4, 2) := by decide +kernel
theorem d_L_law_266 : decode code 266 = .ok (.iconst 2, 1) := by decide +kernel
theorem d_L_law_267 : decode code 267 = .ok (.iadd, 1) := by decide +kernel
theorem d_L_law_268 : decode code 268 = .ok (.iaload, 1) := by decide +kernel
theorem d_L_law_269 : decode code 269 = .ok (.aload_n 3, 1) := by decide +kernel
theorem d_L_law_270 : decode code 270 = .ok (.invokestatic 87, 3) := by decide +kernel
theorem d_L_law_273 : decode code 273 = .ok (.istore 5, 2) := by decide +kernel
theorem d_L_law_275 : decode code 275 = .ok (.aload_n 2, 1) := by decide +kernel
theorem d_L_law_276 : decode code 276 = .ok (.aload_n 0, 1) := by decide +kernel
theorem d_L_law_277 : decode code 277 = .ok (.iload 4, 2) := by decide +kernel
theorem d_L_law_279 : decode code 279 = .ok (.iconst 1, 1) := by decide +kernel
theorem d_L_law_280 : decode code 280 = .ok (.iadd, 1) := by decide +kernel
theorem d_L_law_281 : decode code 281 = .ok (.iaload, 1) := by decide +kernel
theorem d_L_law_282 : decode code 282 = .ok (.aload_n 0, 1) := by decide +kernel
theorem d_L_law_283 : decode code 283 = .ok (.iload 4, 2) := by decide +kernel
theorem d_L_law_285 : decode code 285 = .ok (.iconst 2, 1) := by decide +kernel
theorem d_L_law_286 : decode code 286 = .ok (.iadd, 1) := by decide +kernel
theorem d_L_law_287 : decode code 287 = .ok (.iaload, 1) := by decide +kernel
theorem d_L_law_288 : decode code 288 = .ok (.invokevirtual 90, 3) := by decide +kernel
theorem d_L_law_291 : decode code 291 = .ok (.istore 6, 2) := by decide +kernel
theorem d_L_law_293 : decode code 293 = .ok (.aload_n 2, 1) := by decide +kernel
theorem d_L_law_294 : decode code 294 = .ok (.invokevirtual 80, 3) := by decide +kernel
theorem d_L_law_297 : decode code 297 = .ok (.iload 5, 2) := by decide +kernel
theorem d_L_law_299 : decode code 299 = .ok (.if_icmp .eq 5, 3) := by decide +kernel
theorem d_L_law_302 : decode code 302 = .ok (.iconst 0, 1) := by decide +kernel
theorem d_L_law_303 : decode code 303 = .ok (.ireturn, 1) := by decide +kernel
theorem d_L_law_304 : decode code 304 = .ok (.iload 5, 2) := by decide +kernel
theorem d_L_law_306 : decode code 306 = .ok (.ifCond .ne 15, 3) := by decide +kernel
theorem d_L_law_309 : decode code 309 = .ok (.aload_n 3, 1) := by decide +kernel
theorem d_L_law_310 : decode code 310 = .ok (.iconst 0, 1) := by decide +kernel
theorem d_L_law_311 : decode code 311 = .ok (.laload, 1) := by decide +kernel
theorem d_L_law_312 : decode code 312 = .ok (.iload 6, 2) := by decide +kernel
theorem d_L_law_314 : decode code 314 = .ok (.i2l, 1) := by decide +kernel
theorem d_L_law_315 : decode code 315 = .ok (.lcmp, 1) := by decide +kernel
theorem d_L_law_316 : decode code 316 = .ok (.ifCond .eq 5, 3) := by decide +kernel
theorem d_L_law_319 : decode code 319 = .ok (.iconst 0, 1) := by decide +kernel
theorem d_L_law_320 : decode code 320 = .ok (.ireturn, 1) := by decide +kernel
theorem d_L_law_321 : decode code 321 = .ok (.goto 645, 3) := by decide +kernel
theorem d_L_law_324 : decode code 324 = .ok (.aload_n 1, 1) := by decide +kernel
theorem d_L_law_325 : decode code 325 = .ok (.aload_n 0, 1) := by decide +kernel
theorem d_L_law_326 : decode code 326 = .ok (.iload 4, 2) := by decide +kernel
theorem d_L_law_328 : decode code 328 = .ok (.iconst 1, 1) := by decide +kernel
theorem d_L_law_329 : decode code 329 = .ok (.iadd, 1) := by decide +kernel
theorem d_L_law_330 : decode code 330 = .ok (.iaload, 1) := by decide +kernel
theorem d_L_law_331 : decode code 331 = .ok (.aload_n 0, 1) := by decide +kernel
theorem d_L_law_332 : decode code 332 = .ok (.iload 4, 2) := by decide +kernel
theorem d_L_law_334 : decode code 334 = .ok (.iconst 2, 1) := by decide +kernel
theorem d_L_law_335 : decode code 335 = .ok (.iadd, 1) := by decide +kernel
theorem d_L_law_336 : decode code 336 = .ok (.iaload, 1) := by decide +kernel
theorem d_L_law_337 : decode code 337 = .ok (.invokestatic 91, 3) := by decide +kernel
theorem d_L_law_340 : decode code 340 = .ok (.istore 5, 2) := by decide +kernel
theorem d_L_law_342 : decode code 342 = .ok (.aload_n 2, 1) := by decide +kernel
theorem d_L_law_343 : decode code 343 = .ok (.aload_n 0, 1) := by decide +kernel
theorem d_L_law_344 : decode code 344 = .ok (.iload 4, 2) := by decide +kernel
theorem d_L_law_346 : decode code 346 = .ok (.iconst 1, 1) := by decide +kernel
theorem d_L_law_347 : decode code 347 = .ok (.iadd, 1) := by decide +kernel
theorem d_L_law_348 : decode code 348 = .ok (.iaload, 1) := by decide +kernel
theorem d_L_law_349 : decode code 349 = .ok (.aload_n 0, 1) := by decide +kernel
theorem d_L_law_350 : decode code 350 = .ok (.iload 4, 2) := by decide +kernel
theorem d_L_law_352 : decode code 352 = .ok (.iconst 2, 1) := by decide +kernel
theorem d_L_law_353 : decode code 353 = .ok (.iadd, 1) := by decide +kernel
theorem d_L_law_354 : decode code 354 = .ok (.iaload, 1) := by decide +kernel
theorem d_L_law_355 : decode code 355 = .ok (.invokevirtual 94, 3) := by decide +kernel
theorem d_L_law_358 : decode code 358 = .ok (.aload_n 2, 1) := by decide +kernel
theorem d_L_law_359 : decode code 359 = .ok (.invokevirtual 80, 3) := by decide +kernel
theorem d_L_law_362 : decode code 362 = .ok (.iload 5, 2) := by decide +kernel
theorem d_L_law_364 : decode code 364 = .ok (.if_icmp .eq 5, 3) := by decide +kernel
theorem d_L_law_367 : decode code 367 = .ok (.iconst 0, 1) := by decide +kernel
theorem d_L_law_368 : decode code 368 = .ok (.ireturn, 1) := by decide +kernel
theorem d_L_law_369 : decode code 369 = .ok (.goto 597, 3) := by decide +kernel
theorem d_L_law_372 : decode code 372 = .ok (.aload_n 1, 1) := by decide +kernel
theorem d_L_law_373 : decode code 373 = .ok (.aload_n 0, 1) := by decide +kernel
theorem d_L_law_374 : decode code 374 = .ok (.iload 4, 2) := by decide +kernel
theorem d_L_law_376 : decode code 376 = .ok (.iconst 1, 1) := by decide +kernel
theorem d_L_law_377 : decode code 377 = .ok (.iadd, 1) := by decide +kernel
theorem d_L_law_378 : decode code 378 = .ok (.iaload, 1) := by decide +kernel
theorem d_L_law_379 : decode code 379 = .ok (.aload_n 0, 1) := by decide +kernel
theorem d_L_law_380 : decode code 380 = .ok (.iload 4, 2) := by decide +kernel
theorem d_L_law_382 : decode code 382 = .ok (.iconst 2, 1) := by decide +kernel
theorem d_L_law_383 : decode code 383 = .ok (.iadd, 1) := by decide +kernel
theorem d_L_law_384 : decode code 384 = .ok (.iaload, 1) := by decide +kernel
theorem d_L_law_385 : decode code 385 = .ok (.aload_n 0, 1) := by decide +kernel
theorem d_L_law_386 : decode code 386 = .ok (.iload 4, 2) := by decide +kernel
theorem d_L_law_388 : decode code 388 = .ok (.iconst 3, 1) := by decide +kernel
theorem d_L_law_389 : decode code 389 = .ok (.iadd, 1) := by decide +kernel
theorem d_L_law_390 : decode code 390 = .ok (.iaload, 1) := by decide +kernel
theorem d_L_law_391 : decode code 391 = .ok (.aload_n 0, 1) := by decide +kernel
theorem d_L_law_392 : decode code 392 = .ok (.iload 4, 2) := by decide +kernel
theorem d_L_law_394 : decode code 394 = .ok (.iconst 4, 1) := by decide +kernel
theorem d_L_law_395 : decode code 395 = .ok (.iadd, 1) := by decide +kernel
theorem d_L_law_396 : decode code 396 = .ok (.iaload, 1) := by decide +kernel
theorem d_L_law_397 : decode code 397 = .ok (.aload_n 3, 1) := by decide +kernel
theorem d_L_law_398 : decode code 398 = .ok (.invokestatic 95, 3) := by decide +kernel
theorem d_L_law_401 : decode code 401 = .ok (.istore 5, 2) := by decide +kernel
theorem d_L_law_403 : decode code 403 = .ok (.aload_n 2, 1) := by decide +kernel
theorem d_L_law_404 : decode code 404 = .ok (.aload_n 0, 1) := by decide +kernel
theorem d_L_law_405 : decode code 405 = .ok (.iload 4, 2) := by decide +kernel
theorem d_L_law_407 : decode code 407 = .ok (.iconst 1, 1) := by decide +kernel
theorem d_L_law_408 : decode code 408 = .ok (.iadd, 1) := by decide +kernel
theorem d_L_law_409 : decode code 409 = .ok (.iaload, 1) := by decide +kernel
theorem d_L_law_410 : decode code 410 = .ok (.aload_n 0, 1) := by decide +kernel
theorem d_L_law_411 : decode code 411 = .ok (.iload 4, 2) := by decide +kernel
theorem d_L_law_413 : decode code 413 = .ok (.iconst 2, 1) := by decide +kernel
theorem d_L_law_414 : decode code 414 = .ok (.iadd, 1) := by decide +kernel
theorem d_L_law_415 : decode code 415 = .ok (.iaload, 1) := by decide +kernel
theorem d_L_law_416 : decode code 416 = .ok (.aload_n 0, 1) := by decide +kernel
theorem d_L_law_417 : decode code 417 = .ok (.iload 4, 2) := by decide +kernel
theorem d_L_law_419 : decode code 419 = .ok (.iconst 3, 1) := by decide +kernel
theorem d_L_law_420 : decode code 420 = .ok (.iadd, 1) := by decide +kernel
theorem d_L_law_421 : decode code 421 = .ok (.iaload, 1) := by decide +kernel
theorem d_L_law_422 : decode code 422 = .ok (.aload_n 0, 1) := by decide +kernel
theorem d_L_law_423 : decode code 423 = .ok (.iload 4, 2) := by decide +kernel
theorem d_L_law_425 : decode code 425 = .ok (.iconst 4, 1) := by decide +kernel
theorem d_L_law_426 : decode code 426 = .ok (.iadd, 1) := by decide +kernel
theorem d_L_law_427 : decode code 427 = .ok (.iaload, 1) := by decide +kernel
theorem d_L_law_428 : decode code 428 = .ok (.invokevirtual 98, 3) := by decide +kernel
theorem d_L_law_431 : decode code 431 = .ok (.istore 6, 2) := by decide +kernel
theorem d_L_law_433 : decode code 433 = .ok (.aload_n 2, 1) := by decide +kernel
theorem d_L_law_434 : decode code 434 = .ok (.invokevirtual 80, 3) := by decide +kernel
theorem d_L_law_437 : decode code 437 = .ok (.iload 5, 2) := by decide +kernel
theorem d_L_law_439 : decode code 439 = .ok (.if_icmp .eq 5, 3) := by decide +kernel
theorem d_L_law_442 : decode code 442 = .ok (.iconst 0, 1) := by decide +kernel
theorem d_L_law_443 : decode code 443 = .ok (.ireturn, 1) := by decide +kernel
theorem d_L_law_444 : decode code 444 = .ok (.iload 5, 2) := by decide +kernel
theorem d_L_law_446 : decode code 446 = .ok (.ifCond .ne 15, 3) := by decide +kernel
theorem d_L_law_449 : decode code 449 = .ok (.aload_n 3, 1) := by decide +kernel
theorem d_L_law_450 : decode code 450 = .ok (.iconst 0, 1) := by decide +kernel
theorem d_L_law_451 : decode code 451 = .ok (.laload, 1) := by decide +kernel
theorem d_L_law_452 : decode code 452 = .ok (.iload 6, 2) := by decide +kernel
theorem d_L_law_454 : decode code 454 = .ok (.i2l, 1) := by decide +kernel
theorem d_L_law_455 : decode code 455 = .ok (.lcmp, 1) := by decide +kernel
theorem d_L_law_456 : decode code 456 = .ok (.ifCond .eq 5, 3) := by decide +kernel
theorem d_L_law_459 : decode code 459 = .ok (.iconst 0, 1) := by decide +kernel
theorem d_L_law_460 : decode code 460 = .ok (.ireturn, 1) := by decide +kernel
theorem d_L_law_461 : decode code 461 = .ok (.goto 505, 3) := by decide +kernel
theorem d_L_law_464 : decode code 464 = .ok (.aload_n 1, 1) := by decide +kernel
theorem d_L_law_465 : decode code 465 = .ok (.aload_n 0, 1) := by decide +kernel
theorem d_L_law_466 : decode code 466 = .ok (.iload 4, 2) := by decide +kernel
theorem d_L_law_468 : decode code 468 = .ok (.iconst 1, 1) := by decide +kernel
theorem d_L_law_469 : decode code 469 = .ok (.iadd, 1) := by decide +kernel
theorem d_L_law_470 : decode code 470 = .ok (.iaload, 1) := by decide +kernel
theorem d_L_law_471 : decode code 471 = .ok (.aload_n 3, 1) := by decide +kernel
theorem d_L_law_472 : decode code 472 = .ok (.invokestatic 99, 3) := by decide +kernel
theorem d_L_law_475 : decode code 475 = .ok (.istore 5, 2) := by decide +kernel
theorem d_L_law_477 : decode code 477 = .ok (.aload_n 2, 1) := by decide +kernel
theorem d_L_law_478 : decode code 478 = .ok (.aload_n 0, 1) := by decide +kernel
theorem d_L_law_479 : decode code 479 = .ok (.iload 4, 2) := by decide +kernel
theorem d_L_law_481 : decode code 481 = .ok (.iconst 1, 1) := by decide +kernel
theorem d_L_law_482 : decode code 482 = .ok (.iadd, 1) := by decide +kernel
theorem d_L_law_483 : decode code 483 = .ok (.iaload, 1) := by decide +kernel
theorem d_L_law_484 : decode code 484 = .ok (.invokevirtual 101, 3) := by decide +kernel
theorem d_L_law_487 : decode code 487 = .ok (.istore 6, 2) := by decide +kernel
theorem d_L_law_489 : decode code 489 = .ok (.aload_n 2, 1) := by decide +kernel
theorem d_L_law_490 : decode code 490 = .ok (.invokevirtual 80, 3) := by decide +kernel
theorem d_L_law_493 : decode code 493 = .ok (.iload 5, 2) := by decide +kernel
theorem d_L_law_495 : decode code 495 = .ok (.if_icmp .eq 5, 3) := by decide +kernel
theorem d_L_law_498 : decode code 498 = .ok (.iconst 0, 1) := by decide +kernel
theorem d_L_law_499 : decode code 499 = .ok (.ireturn, 1) := by decide +kernel
theorem d_L_law_500 : decode code 500 = .ok (.iload 5, 2) := by decide +kernel
theorem d_L_law_502 : decode code 502 = .ok (.ifCond .ne 15, 3) := by decide +kernel
theorem d_L_law_505 : decode code 505 = .ok (.aload_n 3, 1) := by decide +kernel
theorem d_L_law_506 : decode code 506 = .ok (.iconst 0, 1) := by decide +kernel
theorem d_L_law_507 : decode code 507 = .ok (.laload, 1) := by decide +kernel
theorem d_L_law_508 : decode code 508 = .ok (.iload 6, 2) := by decide +kernel
theorem d_L_law_510 : decode code 510 = .ok (.i2l, 1) := by decide +kernel
theorem d_L_law_511 : decode code 511 = .ok (.lcmp, 1) := by decide +kernel
theorem d_L_law_512 : decode code 512 = .ok (.ifCond .eq 5, 3) := by decide +kernel
theorem d_L_law_515 : decode code 515 = .ok (.iconst 0, 1) := by decide +kernel
theorem d_L_law_516 : decode code 516 = .ok (.ireturn, 1) := by decide +kernel
theorem d_L_law_517 : decode code 517 = .ok (.goto 449, 3) := by decide +kernel
theorem d_L_law_520 : decode code 520 = .ok (.aload_n 1, 1) := by decide +kernel
theorem d_L_law_521 : decode code 521 = .ok (.aload_n 0, 1) := by decide +kernel
theorem d_L_law_522 : decode code 522 = .ok (.iload 4, 2) := by decide +kernel
theorem d_L_law_524 : decode code 524 = .ok (.iconst 1, 1) := by decide +kernel
theorem d_L_law_525 : decode code 525 = .ok (.iadd, 1) := by decide +kernel
theorem d_L_law_526 : decode code 526 = .ok (.iaload, 1) := by decide +kernel
theorem d_L_law_527 : decode code 527 = .ok (.aload_n 3, 1) := by decide +kernel
theorem d_L_law_528 : decode code 528 = .ok (.invokestatic 102, 3) := by decide +kernel
theorem d_L_law_531 : decode code 531 = .ok (.istore 5, 2) := by decide +kernel
theorem d_L_law_533 : decode code 533 = .ok (.aload_n 2, 1) := by decide +kernel
theorem d_L_law_534 : decode code 534 = .ok (.aload_n 0, 1) := by decide +kernel
theorem d_L_law_535 : decode code 535 = .ok (.iload 4, 2) := by decide +kernel
theorem d_L_law_537 : decode code 537 = .ok (.iconst 1, 1) := by decide +kernel
theorem d_L_law_538 : decode code 538 = .ok (.iadd, 1) := by decide +kernel
theorem d_L_law_539 : decode code 539 = .ok (.iaload, 1) := by decide +kernel
theorem d_L_law_540 : decode code 540 = .ok (.invokevirtual 104, 3) := by decide +kernel
theorem d_L_law_543 : decode code 543 = .ok (.istore 6, 2) := by decide +kernel
theorem d_L_law_545 : decode code 545 = .ok (.aload_n 2, 1) := by decide +kernel
theorem d_L_law_546 : decode code 546 = .ok (.invokevirtual 80, 3) := by decide +kernel
theorem d_L_law_549 : decode code 549 = .ok (.iload 5, 2) := by decide +kernel
theorem d_L_law_551 : decode code 551 = .ok (.if_icmp .eq 5, 3) := by decide +kernel
theorem d_L_law_554 : decode code 554 = .ok (.iconst 0, 1) := by decide +kernel
theorem d_L_law_555 : decode code 555 = .ok (.ireturn, 1) := by decide +kernel
theorem d_L_law_556 : decode code 556 = .ok (.iload 5, 2) := by decide +kernel
theorem d_L_law_558 : decode code 558 = .ok (.ifCond .ne 15, 3) := by decide +kernel
theorem d_L_law_561 : decode code 561 = .ok (.aload_n 3, 1) := by decide +kernel
theorem d_L_law_562 : decode code 562 = .ok (.iconst 0, 1) := by decide +kernel
theorem d_L_law_563 : decode code 563 = .ok (.laload, 1) := by decide +kernel
theorem d_L_law_564 : decode code 564 = .ok (.iload 6, 2) := by decide +kernel
theorem d_L_law_566 : decode code 566 = .ok (.i2l, 1) := by decide +kernel
theorem d_L_law_567 : decode code 567 = .ok (.lcmp, 1) := by decide +kernel
theorem d_L_law_568 : decode code 568 = .ok (.ifCond .eq 5, 3) := by decide +kernel
theorem d_L_law_571 : decode code 571 = .ok (.iconst 0, 1) := by decide +kernel
theorem d_L_law_572 : decode code 572 = .ok (.ireturn, 1) := by decide +kernel
theorem d_L_law_573 : decode code 573 = .ok (.goto 393, 3) := by decide +kernel
theorem d_L_law_576 : decode code 576 = .ok (.aload_n 1, 1) := by decide +kernel
theorem d_L_law_577 : decode code 577 = .ok (.aload_n 0, 1) := by decide +kernel
theorem d_L_law_578 : decode code 578 = .ok (.iload 4, 2) := by decide +kernel
theorem d_L_law_580 : decode code 580 = .ok (.iconst 1, 1) := by decide +kernel
theorem d_L_law_581 : decode code 581 = .ok (.iadd, 1) := by decide +kernel
theorem d_L_law_582 : decode code 582 = .ok (.iaload, 1) := by decide +kernel
theorem d_L_law_583 : decode code 583 = .ok (.aload_n 0, 1) := by decide +kernel
theorem d_L_law_584 : decode code 584 = .ok (.iload 4, 2) := by decide +kernel
theorem d_L_law_586 : decode code 586 = .ok (.iconst 2, 1) := by decide +kernel
theorem d_L_law_587 : decode code 587 = .ok (.iadd, 1) := by decide +kernel
theorem d_L_law_588 : decode code 588 = .ok (.iaload, 1) := by decide +kernel
theorem d_L_law_589 : decode code 589 = .ok (.aload_n 3, 1) := by decide +kernel
theorem d_L_law_590 : decode code 590 = .ok (.invokestatic 105, 3) := by decide +kernel
theorem d_L_law_593 : decode code 593 = .ok (.istore 5, 2) := by decide +kernel
theorem d_L_law_595 : decode code 595 = .ok (.aload_n 2, 1) := by decide +kernel
theorem d_L_law_596 : decode code 596 = .ok (.aload_n 0, 1) := by decide +kernel
theorem d_L_law_597 : decode code 597 = .ok (.iload 4, 2) := by decide +kernel
theorem d_L_law_599 : decode code 599 = .ok (.iconst 1, 1) := by decide +kernel
theorem d_L_law_600 : decode code 600 = .ok (.iadd, 1) := by decide +kernel
theorem d_L_law_601 : decode code 601 = .ok (.iaload, 1) := by decide +kernel
theorem d_L_law_602 : decode code 602 = .ok (.aload_n 0, 1) := by decide +kernel
theorem d_L_law_603 : decode code 603 = .ok (.iload 4, 2) := by decide +kernel
theorem d_L_law_605 : decode code 605 = .ok (.iconst 2, 1) := by decide +kernel
theorem d_L_law_606 : decode code 606 = .ok (.iadd, 1) := by decide +kernel
theorem d_L_law_607 : decode code 607 = .ok (.iaload, 1) := by decide +kernel
theorem d_L_law_608 : decode code 608 = .ok (.invokevirtual 107, 3) := by decide +kernel
theorem d_L_law_611 : decode code 611 = .ok (.istore 6, 2) := by decide +kernel
theorem d_L_law_613 : decode code 613 = .ok (.aload_n 2, 1) := by decide +kernel
theorem d_L_law_614 : decode code 614 = .ok (.invokevirtual 80, 3) := by decide +kernel
theorem d_L_law_617 : decode code 617 = .ok (.iload 5, 2) := by decide +kernel
theorem d_L_law_619 : decode code 619 = .ok (.if_icmp .eq 5, 3) := by decide +kernel
theorem d_L_law_622 : decode code 622 = .ok (.iconst 0, 1) := by decide +kernel
theorem d_L_law_623 : decode code 623 = .ok (.ireturn, 1) := by decide +kernel
theorem d_L_law_624 : decode code 624 = .ok (.iload 5, 2) := by decide +kernel
theorem d_L_law_626 : decode code 626 = .ok (.ifCond .ne 15, 3) := by decide +kernel
theorem d_L_law_629 : decode code 629 = .ok (.aload_n 3, 1) := by decide +kernel
theorem d_L_law_630 : decode code 630 = .ok (.iconst 0, 1) := by decide +kernel
theorem d_L_law_631 : decode code 631 = .ok (.laload, 1) := by decide +kernel
theorem d_L_law_632 : decode code 632 = .ok (.iload 6, 2) := by decide +kernel
theorem d_L_law_634 : decode code 634 = .ok (.i2l, 1) := by decide +kernel
theorem d_L_law_635 : decode code 635 = .ok (.lcmp, 1) := by decide +kernel
theorem d_L_law_636 : decode code 636 = .ok (.ifCond .eq 5, 3) := by decide +kernel
theorem d_L_law_639 : decode code 639 = .ok (.iconst 0, 1) := by decide +kernel
theorem d_L_law_640 : decode code 640 = .ok (.ireturn, 1) := by decide +kernel
theorem d_L_law_641 : decode code 641 = .ok (.goto 325, 3) := by decide +kernel
theorem d_L_law_644 : decode code 644 = .ok (.aload_n 1, 1) := by decide +kernel
theorem d_L_law_645 : decode code 645 = .ok (.aload_n 0, 1) := by decide +kernel
theorem d_L_law_646 : decode code 646 = .ok (.iload 4, 2) := by decide +kernel
theorem d_L_law_648 : decode code 648 = .ok (.iconst 1, 1) := by decide +kernel
theorem d_L_law_649 : decode code 649 = .ok (.iadd, 1) := by decide +kernel
theorem d_L_law_650 : decode code 650 = .ok (.iaload, 1) := by decide +kernel
theorem d_L_law_651 : decode code 651 = .ok (.aload_n 3, 1) := by decide +kernel
theorem d_L_law_652 : decode code 652 = .ok (.invokestatic 108, 3) := by decide +kernel
theorem d_L_law_655 : decode code 655 = .ok (.istore 5, 2) := by decide +kernel
theorem d_L_law_657 : decode code 657 = .ok (.aload_n 2, 1) := by decide +kernel
theorem d_L_law_658 : decode code 658 = .ok (.aload_n 0, 1) := by decide +kernel
theorem d_L_law_659 : decode code 659 = .ok (.iload 4, 2) := by decide +kernel
theorem d_L_law_661 : decode code 661 = .ok (.iconst 1, 1) := by decide +kernel
theorem d_L_law_662 : decode code 662 = .ok (.iadd, 1) := by decide +kernel
theorem d_L_law_663 : decode code 663 = .ok (.iaload, 1) := by decide +kernel
theorem d_L_law_664 : decode code 664 = .ok (.invokevirtual 110, 3) := by decide +kernel
theorem d_L_law_667 : decode code 667 = .ok (.istore 6, 2) := by decide +kernel
theorem d_L_law_669 : decode code 669 = .ok (.aload_n 2, 1) := by decide +kernel
theorem d_L_law_670 : decode code 670 = .ok (.invokevirtual 80, 3) := by decide +kernel
theorem d_L_law_673 : decode code 673 = .ok (.iload 5, 2) := by decide +kernel
theorem d_L_law_675 : decode code 675 = .ok (.if_icmp .eq 5, 3) := by decide +kernel
theorem d_L_law_678 : decode code 678 = .ok (.iconst 0, 1) := by decide +kernel
theorem d_L_law_679 : decode code 679 = .ok (.ireturn, 1) := by decide +kernel
theorem d_L_law_680 : decode code 680 = .ok (.iload 5, 2) := by decide +kernel
theorem d_L_law_682 : decode code 682 = .ok (.ifCond .ne 15, 3) := by decide +kernel
theorem d_L_law_685 : decode code 685 = .ok (.aload_n 3, 1) := by decide +kernel
theorem d_L_law_686 : decode code 686 = .ok (.iconst 0, 1) := by decide +kernel
theorem d_L_law_687 : decode code 687 = .ok (.laload, 1) := by decide +kernel
theorem d_L_law_688 : decode code 688 = .ok (.iload 6, 2) := by decide +kernel
theorem d_L_law_690 : decode code 690 = .ok (.i2l, 1) := by decide +kernel
theorem d_L_law_691 : decode code 691 = .ok (.lcmp, 1) := by decide +kernel
theorem d_L_law_692 : decode code 692 = .ok (.ifCond .eq 5, 3) := by decide +kernel
theorem d_L_law_695 : decode code 695 = .ok (.iconst 0, 1) := by decide +kernel
theorem d_L_law_696 : decode code 696 = .ok (.ireturn, 1) := by decide +kernel
theorem d_L_law_697 : decode code 697 = .ok (.goto 269, 3) := by decide +kernel
theorem d_L_law_700 : decode code 700 = .ok (.aload_n 1, 1) := by decide +kernel
theorem d_L_law_701 : decode code 701 = .ok (.aload_n 0, 1) := by decide +kernel
theorem d_L_law_702 : decode code 702 = .ok (.iload 4, 2) := by decide +kernel
theorem d_L_law_704 : decode code 704 = .ok (.iconst 1, 1) := by decide +kernel
theorem d_L_law_705 : decode code 705 = .ok (.iadd, 1) := by decide +kernel
theorem d_L_law_706 : decode code 706 = .ok (.iaload, 1) := by decide +kernel
theorem d_L_law_707 : decode code 707 = .ok (.aload_n 3, 1) := by decide +kernel
theorem d_L_law_708 : decode code 708 = .ok (.invokestatic 111, 3) := by decide +kernel
theorem d_L_law_711 : decode code 711 = .ok (.istore 5, 2) := by decide +kernel
theorem d_L_law_713 : decode code 713 = .ok (.aload_n 2, 1) := by decide +kernel
theorem d_L_law_714 : decode code 714 = .ok (.aload_n 0, 1) := by decide +kernel
theorem d_L_law_715 : decode code 715 = .ok (.iload 4, 2) := by decide +kernel
theorem d_L_law_717 : decode code 717 = .ok (.iconst 1, 1) := by decide +kernel
theorem d_L_law_718 : decode code 718 = .ok (.iadd, 1) := by decide +kernel
theorem d_L_law_719 : decode code 719 = .ok (.iaload, 1) := by decide +kernel
theorem d_L_law_720 : decode code 720 = .ok (.invokevirtual 113, 3) := by decide +kernel
theorem d_L_law_723 : decode code 723 = .ok (.lstore 6, 2) := by decide +kernel
theorem d_L_law_725 : decode code 725 = .ok (.aload_n 2, 1) := by decide +kernel
theorem d_L_law_726 : decode code 726 = .ok (.invokevirtual 80, 3) := by decide +kernel
theorem d_L_law_729 : decode code 729 = .ok (.iload 5, 2) := by decide +kernel
theorem d_L_law_731 : decode code 731 = .ok (.if_icmp .eq 5, 3) := by decide +kernel
theorem d_L_law_734 : decode code 734 = .ok (.iconst 0, 1) := by decide +kernel
theorem d_L_law_735 : decode code 735 = .ok (.ireturn, 1) := by decide +kernel
theorem d_L_law_736 : decode code 736 = .ok (.iload 5, 2) := by decide +kernel
theorem d_L_law_738 : decode code 738 = .ok (.ifCond .ne 14, 3) := by decide +kernel
theorem d_L_law_741 : decode code 741 = .ok (.aload_n 3, 1) := by decide +kernel
theorem d_L_law_742 : decode code 742 = .ok (.iconst 0, 1) := by decide +kernel
theorem d_L_law_743 : decode code 743 = .ok (.laload, 1) := by decide +kernel
theorem d_L_law_744 : decode code 744 = .ok (.lload 6, 2) := by decide +kernel
theorem d_L_law_746 : decode code 746 = .ok (.lcmp, 1) := by decide +kernel
theorem d_L_law_747 : decode code 747 = .ok (.ifCond .eq 5, 3) := by decide +kernel
theorem d_L_law_750 : decode code 750 = .ok (.iconst 0, 1) := by decide +kernel
theorem d_L_law_751 : decode code 751 = .ok (.ireturn, 1) := by decide +kernel
theorem d_L_law_752 : decode code 752 = .ok (.goto 214, 3) := by decide +kernel
theorem d_L_law_755 : decode code 755 = .ok (.aload_n 1, 1) := by decide +kernel
theorem d_L_law_756 : decode code 756 = .ok (.aload_n 0, 1) := by decide +kernel
theorem d_L_law_757 : decode code 757 = .ok (.iload 4, 2) := by decide +kernel
theorem d_L_law_759 : decode code 759 = .ok (.iconst 1, 1) := by decide +kernel
theorem d_L_law_760 : decode code 760 = .ok (.iadd, 1) := by decide +kernel
theorem d_L_law_761 : decode code 761 = .ok (.iaload, 1) := by decide +kernel
theorem d_L_law_762 : decode code 762 = .ok (.aload_n 3, 1) := by decide +kernel
theorem d_L_law_763 : decode code 763 = .ok (.invokestatic 114, 3) := by decide +kernel
theorem d_L_law_766 : decode code 766 = .ok (.istore 5, 2) := by decide +kernel
theorem d_L_law_768 : decode code 768 = .ok (.aload_n 2, 1) := by decide +kernel
theorem d_L_law_769 : decode code 769 = .ok (.aload_n 0, 1) := by decide +kernel
theorem d_L_law_770 : decode code 770 = .ok (.iload 4, 2) := by decide +kernel
theorem d_L_law_772 : decode code 772 = .ok (.iconst 1, 1) := by decide +kernel
theorem d_L_law_773 : decode code 773 = .ok (.iadd, 1) := by decide +kernel
theorem d_L_law_774 : decode code 774 = .ok (.iaload, 1) := by decide +kernel
theorem d_L_law_775 : decode code 775 = .ok (.invokevirtual 116, 3) := by decide +kernel
theorem d_L_law_778 : decode code 778 = .ok (.lstore 6, 2) := by decide +kernel
theorem d_L_law_780 : decode code 780 = .ok (.aload_n 2, 1) := by decide +kernel
theorem d_L_law_781 : decode code 781 = .ok (.invokevirtual 80, 3) := by decide +kernel
theorem d_L_law_784 : decode code 784 = .ok (.iload 5, 2) := by decide +kernel
theorem d_L_law_786 : decode code 786 = .ok (.if_icmp .eq 5, 3) := by decide +kernel
theorem d_L_law_789 : decode code 789 = .ok (.iconst 0, 1) := by decide +kernel
theorem d_L_law_790 : decode code 790 = .ok (.ireturn, 1) := by decide +kernel
theorem d_L_law_791 : decode code 791 = .ok (.iload 5, 2) := by decide +kernel
theorem d_L_law_793 : decode code 793 = .ok (.ifCond .ne 14, 3) := by decide +kernel
theorem d_L_law_796 : decode code 796 = .ok (.aload_n 3, 1) := by decide +kernel
theorem d_L_law_797 : decode code 797 = .ok (.iconst 0, 1) := by decide +kernel
theorem d_L_law_798 : decode code 798 = .ok (.laload, 1) := by decide +kernel
theorem d_L_law_799 : decode code 799 = .ok (.lload 6, 2) := by decide +kernel
theorem d_L_law_801 : decode code 801 = .ok (.lcmp, 1) := by decide +kernel
theorem d_L_law_802 : decode code 802 = .ok (.ifCond .eq 5, 3) := by decide +kernel
theorem d_L_law_805 : decode code 805 = .ok (.iconst 0, 1) := by decide +kernel
theorem d_L_law_806 : decode code 806 = .ok (.ireturn, 1) := by decide +kernel
theorem d_L_law_807 : decode code 807 = .ok (.goto 159, 3) := by decide +kernel
theorem d_L_law_810 : decode code 810 = .ok (.aload_n 1, 1) := by decide +kernel
theorem d_L_law_811 : decode code 811 = .ok (.aload_n 0, 1) := by decide +kernel
theorem d_L_law_812 : decode code 812 = .ok (.iload 4, 2) := by decide +kernel
theorem d_L_law_814 : decode code 814 = .ok (.iconst 1, 1) := by decide +kernel
theorem d_L_law_815 : decode code 815 = .ok (.iadd, 1) := by decide +kernel
theorem d_L_law_816 : decode code 816 = .ok (.iaload, 1) := by decide +kernel
theorem d_L_law_817 : decode code 817 = .ok (.aload_n 3, 1) := by decide +kernel
theorem d_L_law_818 : decode code 818 = .ok (.invokestatic 117, 3) := by decide +kernel
theorem d_L_law_821 : decode code 821 = .ok (.istore 5, 2) := by decide +kernel
theorem d_L_law_823 : decode code 823 = .ok (.aload_n 2, 1) := by decide +kernel
theorem d_L_law_824 : decode code 824 = .ok (.aload_n 0, 1) := by decide +kernel
theorem d_L_law_825 : decode code 825 = .ok (.iload 4, 2) := by decide +kernel
theorem d_L_law_827 : decode code 827 = .ok (.iconst 1, 1) := by decide +kernel
theorem d_L_law_828 : decode code 828 = .ok (.iadd, 1) := by decide +kernel
theorem d_L_law_829 : decode code 829 = .ok (.iaload, 1) := by decide +kernel
theorem d_L_law_830 : decode code 830 = .ok (.invokevirtual 119, 3) := by decide +kernel
theorem d_L_law_833 : decode code 833 = .ok (.istore 6, 2) := by decide +kernel
theorem d_L_law_835 : decode code 835 = .ok (.aload_n 2, 1) := by decide +kernel
theorem d_L_law_836 : decode code 836 = .ok (.invokevirtual 80, 3) := by decide +kernel
theorem d_L_law_839 : decode code 839 = .ok (.iload 5, 2) := by decide +kernel
theorem d_L_law_841 : decode code 841 = .ok (.if_icmp .eq 5, 3) := by decide +kernel
theorem d_L_law_844 : decode code 844 = .ok (.iconst 0, 1) := by decide +kernel
theorem d_L_law_845 : decode code 845 = .ok (.ireturn, 1) := by decide +kernel
theorem d_L_law_846 : decode code 846 = .ok (.iload 5, 2) := by decide +kernel
theorem d_L_law_848 : decode code 848 = .ok (.ifCond .ne 15, 3) := by decide +kernel
theorem d_L_law_851 : decode code 851 = .ok (.aload_n 3, 1) := by decide +kernel
theorem d_L_law_852 : decode code 852 = .ok (.iconst 0, 1) := by decide +kernel
theorem d_L_law_853 : decode code 853 = .ok (.laload, 1) := by decide +kernel
theorem d_L_law_854 : decode code 854 = .ok (.iload 6, 2) := by decide +kernel
theorem d_L_law_856 : decode code 856 = .ok (.i2l, 1) := by decide +kernel
theorem d_L_law_857 : decode code 857 = .ok (.lcmp, 1) := by decide +kernel
theorem d_L_law_858 : decode code 858 = .ok (.ifCond .eq 5, 3) := by decide +kernel
theorem d_L_law_861 : decode code 861 = .ok (.iconst 0, 1) := by decide +kernel
theorem d_L_law_862 : decode code 862 = .ok (.ireturn, 1) := by decide +kernel
theorem d_L_law_863 : decode code 863 = .ok (.goto 103, 3) := by decide +kernel
theorem d_L_law_866 : decode code 866 = .ok (.aload_n 1, 1) := by decide +kernel
theorem d_L_law_867 : decode code 867 = .ok (.aload_n 0, 1) := by decide +kernel
theorem d_L_law_868 : decode code 868 = .ok (.iload 4, 2) := by decide +kernel
theorem d_L_law_870 : decode code 870 = .ok (.iconst 1, 1) := by decide +kernel
theorem d_L_law_871 : decode code 871 = .ok (.iadd, 1) := by decide +kernel
theorem d_L_law_872 : decode code 872 = .ok (.iaload, 1) := by decide +kernel
theorem d_L_law_873 : decode code 873 = .ok (.aload_n 3, 1) := by decide +kernel
theorem d_L_law_874 : decode code 874 = .ok (.invokestatic 120, 3) := by decide +kernel
theorem d_L_law_877 : decode code 877 = .ok (.istore 5, 2) := by decide +kernel
theorem d_L_law_879 : decode code 879 = .ok (.aload_n 2, 1) := by decide +kernel
theorem d_L_law_880 : decode code 880 = .ok (.aload_n 0, 1) := by decide +kernel
theorem d_L_law_881 : decode code 881 = .ok (.iload 4, 2) := by decide +kernel
theorem d_L_law_883 : decode code 883 = .ok (.iconst 1, 1) := by decide +kernel
theorem d_L_law_884 : decode code 884 = .ok (.iadd, 1) := by decide +kernel
theorem d_L_law_885 : decode code 885 = .ok (.iaload, 1) := by decide +kernel
theorem d_L_law_886 : decode code 886 = .ok (.invokevirtual 122, 3) := by decide +kernel
theorem d_L_law_889 : decode code 889 = .ok (.istore 6, 2) := by decide +kernel
theorem d_L_law_891 : decode code 891 = .ok (.aload_n 2, 1) := by decide +kernel
theorem d_L_law_892 : decode code 892 = .ok (.invokevirtual 80, 3) := by decide +kernel
theorem d_L_law_895 : decode code 895 = .ok (.iload 5, 2) := by decide +kernel
theorem d_L_law_897 : decode code 897 = .ok (.if_icmp .eq 5, 3) := by decide +kernel
theorem d_L_law_900 : decode code 900 = .ok (.iconst 0, 1) := by decide +kernel
theorem d_L_law_901 : decode code 901 = .ok (.ireturn, 1) := by decide +kernel
theorem d_L_law_902 : decode code 902 = .ok (.iload 5, 2) := by decide +kernel
theorem d_L_law_904 : decode code 904 = .ok (.ifCond .ne 15, 3) := by decide +kernel
theorem d_L_law_907 : decode code 907 = .ok (.aload_n 3, 1) := by decide +kernel
theorem d_L_law_908 : decode code 908 = .ok (.iconst 0, 1) := by decide +kernel
theorem d_L_law_909 : decode code 909 = .ok (.laload, 1) := by decide +kernel
theorem d_L_law_910 : decode code 910 = .ok (.iload 6, 2) := by decide +kernel
theorem d_L_law_912 : decode code 912 = .ok (.i2l, 1) := by decide +kernel
theorem d_L_law_913 : decode code 913 = .ok (.lcmp, 1) := by decide +kernel
theorem d_L_law_914 : decode code 914 = .ok (.ifCond .eq 5, 3) := by decide +kernel
theorem d_L_law_917 : decode code 917 = .ok (.iconst 0, 1) := by decide +kernel
theorem d_L_law_918 : decode code 918 = .ok (.ireturn, 1) := by decide +kernel
theorem d_L_law_919 : decode code 919 = .ok (.goto 47, 3) := by decide +kernel
theorem d_L_law_922 : decode code 922 = .ok (.aload_n 1, 1) := by decide +kernel
theorem d_L_law_923 : decode code 923 = .ok (.aload_n 3, 1) := by decide +kernel
theorem d_L_law_924 : decode code 924 = .ok (.invokestatic 123, 3) := by decide +kernel
theorem d_L_law_927 : decode code 927 = .ok (.istore 5, 2) := by decide +kernel
theorem d_L_law_929 : decode code 929 = .ok (.aload_n 2, 1) := by decide +kernel
theorem d_L_law_930 : decode code 930 = .ok (.invokevirtual 126, 3) := by decide +kernel
theorem d_L_law_933 : decode code 933 = .ok (.istore 6, 2) := by decide +kernel
theorem d_L_law_935 : decode code 935 = .ok (.aload_n 2, 1) := by decide +kernel
theorem d_L_law_936 : decode code 936 = .ok (.invokevirtual 80, 3) := by decide +kernel
theorem d_L_law_939 : decode code 939 = .ok (.iload 5, 2) := by decide +kernel
theorem d_L_law_941 : decode code 941 = .ok (.if_icmp .eq 5, 3) := by decide +kernel
theorem d_L_law_944 : decode code 944 = .ok (.iconst 0, 1) := by decide +kernel
theorem d_L_law_945 : decode code 945 = .ok (.ireturn, 1) := by decide +kernel
theorem d_L_law_946 : decode code 946 = .ok (.iload 5, 2) := by decide +kernel
theorem d_L_law_948 : decode code 948 = .ok (.ifCond .ne 15, 3) := by decide +kernel
theorem d_L_law_951 : decode code 951 = .ok (.aload_n 3, 1) := by decide +kernel
theorem d_L_law_952 : decode code 952 = .ok (.iconst 0, 1) := by decide +kernel
theorem d_L_law_953 : decode code 953 = .ok (.laload, 1) := by decide +kernel
theorem d_L_law_954 : decode code 954 = .ok (.iload 6, 2) := by decide +kernel
theorem d_L_law_956 : decode code 956 = .ok (.i2l, 1) := by decide +kernel
theorem d_L_law_957 : decode code 957 = .ok (.lcmp, 1) := by decide +kernel
theorem d_L_law_958 : decode code 958 = .ok (.ifCond .eq 5, 3) := by decide +kernel
theorem d_L_law_961 : decode code 961 = .ok (.iconst 0, 1) := by decide +kernel
theorem d_L_law_962 : decode code 962 = .ok (.ireturn, 1) := by decide +kernel
theorem d_L_law_963 : decode code 963 = .ok (.goto 3, 3) := by decide +kernel
theorem d_L_law_966 : decode code 966 = .ok (.iinc 4 5, 3) := by decide +kernel
theorem d_L_law_969 : decode code 969 = .ok (.goto (-936), 3) := by decide +kernel
theorem d_L_law_972 : decode code 972 = .ok (.iconst 1, 1) := by decide +kernel
theorem d_L_law_973 : decode code 973 = .ok (.ireturn, 1) := by decide +kernel
