/-! decode rows of WorkPlansModel -/
theorem d_M_init_0 : decode prog_7_method_1_code 0 = .ok (.aload_n 0, 1) := by decide +kernel
theorem d_M_init_1 : decode prog_7_method_1_code 1 = .ok (.invokespecial 1, 3) := by decide +kernel
theorem d_M_init_4 : decode prog_7_method_1_code 4 = .ok (.aload_n 0, 1) := by decide +kernel
theorem d_M_init_5 : decode prog_7_method_1_code 5 = .ok (.bipush 6, 2) := by decide +kernel
theorem d_M_init_7 : decode prog_7_method_1_code 7 = .ok (.newarray .int, 2) := by decide +kernel
theorem d_M_init_9 : decode prog_7_method_1_code 9 = .ok (.putfield 7, 3) := by decide +kernel
theorem d_M_init_12 : decode prog_7_method_1_code 12 = .ok (.aload_n 0, 1) := by decide +kernel
theorem d_M_init_13 : decode prog_7_method_1_code 13 = .ok (.bipush 6, 2) := by decide +kernel
theorem d_M_init_15 : decode prog_7_method_1_code 15 = .ok (.newarray .int, 2) := by decide +kernel
theorem d_M_init_17 : decode prog_7_method_1_code 17 = .ok (.putfield 13, 3) := by decide +kernel
theorem d_M_init_20 : decode prog_7_method_1_code 20 = .ok (.aload_n 0, 1) := by decide +kernel
theorem d_M_init_21 : decode prog_7_method_1_code 21 = .ok (.bipush 48, 2) := by decide +kernel
theorem d_M_init_23 : decode prog_7_method_1_code 23 = .ok (.newarray .int, 2) := by decide +kernel
theorem d_M_init_25 : decode prog_7_method_1_code 25 = .ok (.putfield 16, 3) := by decide +kernel
theorem d_M_init_28 : decode prog_7_method_1_code 28 = .ok (.aload_n 0, 1) := by decide +kernel
theorem d_M_init_29 : decode prog_7_method_1_code 29 = .ok (.bipush 48, 2) := by decide +kernel
theorem d_M_init_31 : decode prog_7_method_1_code 31 = .ok (.newarray .int, 2) := by decide +kernel
theorem d_M_init_33 : decode prog_7_method_1_code 33 = .ok (.putfield 19, 3) := by decide +kernel
theorem d_M_init_36 : decode prog_7_method_1_code 36 = .ok (.aload_n 0, 1) := by decide +kernel
theorem d_M_init_37 : decode prog_7_method_1_code 37 = .ok (.bipush 6, 2) := by decide +kernel
theorem d_M_init_39 : decode prog_7_method_1_code 39 = .ok (.newarray .int, 2) := by decide +kernel
theorem d_M_init_41 : decode prog_7_method_1_code 41 = .ok (.putfield 22, 3) := by decide +kernel
theorem d_M_init_44 : decode prog_7_method_1_code 44 = .ok (.aload_n 0, 1) := by decide +kernel
theorem d_M_init_45 : decode prog_7_method_1_code 45 = .ok (.bipush 6, 2) := by decide +kernel
theorem d_M_init_47 : decode prog_7_method_1_code 47 = .ok (.newarray .int, 2) := by decide +kernel
theorem d_M_init_49 : decode prog_7_method_1_code 49 = .ok (.putfield 25, 3) := by decide +kernel
theorem d_M_init_52 : decode prog_7_method_1_code 52 = .ok (.aload_n 0, 1) := by decide +kernel
theorem d_M_init_53 : decode prog_7_method_1_code 53 = .ok (.bipush 6, 2) := by decide +kernel
theorem d_M_init_55 : decode prog_7_method_1_code 55 = .ok (.newarray .int, 2) := by decide +kernel
theorem d_M_init_57 : decode prog_7_method_1_code 57 = .ok (.putfield 28, 3) := by decide +kernel
theorem d_M_init_60 : decode prog_7_method_1_code 60 = .ok (.aload_n 0, 1) := by decide +kernel
theorem d_M_init_61 : decode prog_7_method_1_code 61 = .ok (.bipush 24, 2) := by decide +kernel
theorem d_M_init_63 : decode prog_7_method_1_code 63 = .ok (.newarray .int, 2) := by decide +kernel
theorem d_M_init_65 : decode prog_7_method_1_code 65 = .ok (.putfield 31, 3) := by decide +kernel
theorem d_M_init_68 : decode prog_7_method_1_code 68 = .ok (.aload_n 0, 1) := by decide +kernel
theorem d_M_init_69 : decode prog_7_method_1_code 69 = .ok (.bipush 24, 2) := by decide +kernel
theorem d_M_init_71 : decode prog_7_method_1_code 71 = .ok (.newarray .int, 2) := by decide +kernel
theorem d_M_init_73 : decode prog_7_method_1_code 73 = .ok (.putfield 34, 3) := by decide +kernel
theorem d_M_init_76 : decode prog_7_method_1_code 76 = .ok (.aload_n 0, 1) := by decide +kernel
theorem d_M_init_77 : decode prog_7_method_1_code 77 = .ok (.bipush 24, 2) := by decide +kernel
theorem d_M_init_79 : decode prog_7_method_1_code 79 = .ok (.newarray .int, 2) := by decide +kernel
theorem d_M_init_81 : decode prog_7_method_1_code 81 = .ok (.putfield 37, 3) := by decide +kernel
theorem d_M_init_84 : decode prog_7_method_1_code 84 = .ok (.aload_n 0, 1) := by decide +kernel
theorem d_M_init_85 : decode prog_7_method_1_code 85 = .ok (.bipush 24, 2) := by decide +kernel
theorem d_M_init_87 : decode prog_7_method_1_code 87 = .ok (.newarray .int, 2) := by decide +kernel
theorem d_M_init_89 : decode prog_7_method_1_code 89 = .ok (.putfield 40, 3) := by decide +kernel
theorem d_M_init_92 : decode prog_7_method_1_code 92 = .ok (.aload_n 0, 1) := by decide +kernel
theorem d_M_init_93 : decode prog_7_method_1_code 93 = .ok (.bipush 24, 2) := by decide +kernel
theorem d_M_init_95 : decode prog_7_method_1_code 95 = .ok (.newarray .int, 2) := by decide +kernel
theorem d_M_init_97 : decode prog_7_method_1_code 97 = .ok (.putfield 43, 3) := by decide +kernel
theorem d_M_init_100 : decode prog_7_method_1_code 100 = .ok (.aload_n 0, 1) := by decide +kernel
theorem d_M_init_101 : decode prog_7_method_1_code 101 = .ok (.bipush 24, 2) := by decide +kernel
theorem d_M_init_103 : decode prog_7_method_1_code 103 = .ok (.newarray .int, 2) := by decide +kernel
theorem d_M_init_105 : decode prog_7_method_1_code 105 = .ok (.putfield 46, 3) := by decide +kernel
theorem d_M_init_108 : decode prog_7_method_1_code 108 = .ok (.aload_n 0, 1) := by decide +kernel
theorem d_M_init_109 : decode prog_7_method_1_code 109 = .ok (.bipush 24, 2) := by decide +kernel
theorem d_M_init_111 : decode prog_7_method_1_code 111 = .ok (.newarray .int, 2) := by decide +kernel
theorem d_M_init_113 : decode prog_7_method_1_code 113 = .ok (.putfield 49, 3) := by decide +kernel
theorem d_M_init_116 : decode prog_7_method_1_code 116 = .ok (.aload_n 0, 1) := by decide +kernel
theorem d_M_init_117 : decode prog_7_method_1_code 117 = .ok (.bipush 6, 2) := by decide +kernel
theorem d_M_init_119 : decode prog_7_method_1_code 119 = .ok (.newarray .int, 2) := by decide +kernel
theorem d_M_init_121 : decode prog_7_method_1_code 121 = .ok (.putfield 52, 3) := by decide +kernel
theorem d_M_init_124 : decode prog_7_method_1_code 124 = .ok (.aload_n 0, 1) := by decide +kernel
theorem d_M_init_125 : decode prog_7_method_1_code 125 = .ok (.bipush 24, 2) := by decide +kernel
theorem d_M_init_127 : decode prog_7_method_1_code 127 = .ok (.newarray .int, 2) := by decide +kernel
theorem d_M_init_129 : decode prog_7_method_1_code 129 = .ok (.putfield 55, 3) := by decide +kernel
theorem d_M_init_132 : decode prog_7_method_1_code 132 = .ok (.aload_n 0, 1) := by decide +kernel
theorem d_M_init_133 : decode prog_7_method_1_code 133 = .ok (.bipush 24, 2) := by decide +kernel
theorem d_M_init_135 : decode prog_7_method_1_code 135 = .ok (.newarray .int, 2) := by decide +kernel
theorem d_M_init_137 : decode prog_7_method_1_code 137 = .ok (.putfield 58, 3) := by decide +kernel
theorem d_M_init_140 : decode prog_7_method_1_code 140 = .ok (.aload_n 0, 1) := by decide +kernel
theorem d_M_init_141 : decode prog_7_method_1_code 141 = .ok (.bipush 24, 2) := by decide +kernel
theorem d_M_init_143 : decode prog_7_method_1_code 143 = .ok (.newarray .int, 2) := by decide +kernel
theorem d_M_init_145 : decode prog_7_method_1_code 145 = .ok (.putfield 61, 3) := by decide +kernel
theorem d_M_init_148 : decode prog_7_method_1_code 148 = .ok (.aload_n 0, 1) := by decide +kernel
theorem d_M_init_149 : decode prog_7_method_1_code 149 = .ok (.bipush 24, 2) := by decide +kernel
theorem d_M_init_151 : decode prog_7_method_1_code 151 = .ok (.newarray .int, 2) := by decide +kernel
theorem d_M_init_153 : decode prog_7_method_1_code 153 = .ok (.putfield 64, 3) := by decide +kernel
theorem d_M_init_156 : decode prog_7_method_1_code 156 = .ok (.aload_n 0, 1) := by decide +kernel
theorem d_M_init_157 : decode prog_7_method_1_code 157 = .ok (.bipush 6, 2) := by decide +kernel
theorem d_M_init_159 : decode prog_7_method_1_code 159 = .ok (.newarray .int, 2) := by decide +kernel
theorem d_M_init_161 : decode prog_7_method_1_code 161 = .ok (.putfield 67, 3) := by decide +kernel
theorem d_M_init_164 : decode prog_7_method_1_code 164 = .ok (.aload_n 0, 1) := by decide +kernel
theorem d_M_init_165 : decode prog_7_method_1_code 165 = .ok (.bipush 6, 2) := by decide +kernel
theorem d_M_init_167 : decode prog_7_method_1_code 167 = .ok (.newarray .int, 2) := by decide +kernel
theorem d_M_init_169 : decode prog_7_method_1_code 169 = .ok (.putfield 70, 3) := by decide +kernel
theorem d_M_init_172 : decode prog_7_method_1_code 172 = .ok (.aload_n 0, 1) := by decide +kernel
theorem d_M_init_173 : decode prog_7_method_1_code 173 = .ok (.bipush 6, 2) := by decide +kernel
theorem d_M_init_175 : decode prog_7_method_1_code 175 = .ok (.newarray .boolean, 2) := by decide +kernel
theorem d_M_init_177 : decode prog_7_method_1_code 177 = .ok (.putfield 73, 3) := by decide +kernel
theorem d_M_init_180 : decode prog_7_method_1_code 180 = .ok (.aload_n 0, 1) := by decide +kernel
theorem d_M_init_181 : decode prog_7_method_1_code 181 = .ok (.iload_n 1, 1) := by decide +kernel
theorem d_M_init_182 : decode prog_7_method_1_code 182 = .ok (.i2l, 1) := by decide +kernel
theorem d_M_init_183 : decode prog_7_method_1_code 183 = .ok (.putfield 77, 3) := by decide +kernel
theorem d_M_init_186 : decode prog_7_method_1_code 186 = .ok (.iconst 0, 1) := by decide +kernel
theorem d_M_init_187 : decode prog_7_method_1_code 187 = .ok (.istore_n 2, 1) := by decide +kernel
theorem d_M_init_188 : decode prog_7_method_1_code 188 = .ok (.iload_n 2, 1) := by decide +kernel
theorem d_M_init_189 : decode prog_7_method_1_code 189 = .ok (.bipush 24, 2) := by decide +kernel
theorem d_M_init_191 : decode prog_7_method_1_code 191 = .ok (.if_icmp .ge 23, 3) := by decide +kernel
theorem d_M_init_194 : decode prog_7_method_1_code 194 = .ok (.aload_n 0, 1) := by decide +kernel
theorem d_M_init_195 : decode prog_7_method_1_code 195 = .ok (.getfield 55, 3) := by decide +kernel
theorem d_M_init_198 : decode prog_7_method_1_code 198 = .ok (.iload_n 2, 1) := by decide +kernel
theorem d_M_init_199 : decode prog_7_method_1_code 199 = .ok (.iconst (-1), 1) := by decide +kernel
theorem d_M_init_200 : decode prog_7_method_1_code 200 = .ok (.iastore, 1) := by decide +kernel
theorem d_M_init_201 : decode prog_7_method_1_code 201 = .ok (.aload_n 0, 1) := by decide +kernel
theorem d_M_init_202 : decode prog_7_method_1_code 202 = .ok (.getfield 58, 3) := by decide +kernel
theorem d_M_init_205 : decode prog_7_method_1_code 205 = .ok (.iload_n 2, 1) := by decide +kernel
theorem d_M_init_206 : decode prog_7_method_1_code 206 = .ok (.iconst (-1), 1) := by decide +kernel
theorem d_M_init_207 : decode prog_7_method_1_code 207 = .ok (.iastore, 1) := by decide +kernel
theorem d_M_init_208 : decode prog_7_method_1_code 208 = .ok (.iinc 2 1, 3) := by decide +kernel
theorem d_M_init_211 : decode prog_7_method_1_code 211 = .ok (.goto (-23), 3) := by decide +kernel
theorem d_M_init_214 : decode prog_7_method_1_code 214 = .ok (.return_, 1) := by decide +kernel
theorem d_M_thrown_0 : decode prog_7_method_2_code 0 = .ok (.aload_n 0, 1) := by decide +kernel
theorem d_M_thrown_1 : decode prog_7_method_2_code 1 = .ok (.getfield 81, 3) := by decide +kernel
theorem d_M_thrown_4 : decode prog_7_method_2_code 4 = .ok (.ireturn, 1) := by decide +kernel
theorem d_M_machine_0 : decode prog_7_method_4_code 0 = .ok (.aload_n 0, 1) := by decide +kernel
theorem d_M_machine_1 : decode prog_7_method_4_code 1 = .ok (.iload_n 1, 1) := by decide +kernel
theorem d_M_machine_2 : decode prog_7_method_4_code 2 = .ok (.iconst 0, 1) := by decide +kernel
theorem d_M_machine_3 : decode prog_7_method_4_code 3 = .ok (.iconst 3, 1) := by decide +kernel
theorem d_M_machine_4 : decode prog_7_method_4_code 4 = .ok (.invokestatic 85, 3) := by decide +kernel
theorem d_M_machine_7 : decode prog_7_method_4_code 7 = .ok (.ifCond .ne 7, 3) := by decide +kernel
theorem d_M_machine_10 : decode prog_7_method_4_code 10 = .ok (.iconst 1, 1) := by decide +kernel
theorem d_M_machine_11 : decode prog_7_method_4_code 11 = .ok (.goto 17, 3) := by decide +kernel
theorem d_M_machine_14 : decode prog_7_method_4_code 14 = .ok (.aload_n 0, 1) := by decide +kernel
theorem d_M_machine_15 : decode prog_7_method_4_code 15 = .ok (.getfield 89, 3) := by decide +kernel
theorem d_M_machine_18 : decode prog_7_method_4_code 18 = .ok (.bipush 6, 2) := by decide +kernel
theorem d_M_machine_20 : decode prog_7_method_4_code 20 = .ok (.if_icmp .ne 7, 3) := by decide +kernel
theorem d_M_machine_23 : decode prog_7_method_4_code 23 = .ok (.iconst 2, 1) := by decide +kernel
theorem d_M_machine_24 : decode prog_7_method_4_code 24 = .ok (.goto 4, 3) := by decide +kernel
theorem d_M_machine_27 : decode prog_7_method_4_code 27 = .ok (.iconst 0, 1) := by decide +kernel
theorem d_M_machine_28 : decode prog_7_method_4_code 28 = .ok (.putfield 81, 3) := by decide +kernel
theorem d_M_machine_31 : decode prog_7_method_4_code 31 = .ok (.aload_n 0, 1) := by decide +kernel
theorem d_M_machine_32 : decode prog_7_method_4_code 32 = .ok (.getfield 81, 3) := by decide +kernel
theorem d_M_machine_35 : decode prog_7_method_4_code 35 = .ok (.ifCond .le 5, 3) := by decide +kernel
theorem d_M_machine_38 : decode prog_7_method_4_code 38 = .ok (.iconst 0, 1) := by decide +kernel
theorem d_M_machine_39 : decode prog_7_method_4_code 39 = .ok (.ireturn, 1) := by decide +kernel
theorem d_M_machine_40 : decode prog_7_method_4_code 40 = .ok (.aload_n 0, 1) := by decide +kernel
theorem d_M_machine_41 : decode prog_7_method_4_code 41 = .ok (.getfield 7, 3) := by decide +kernel
theorem d_M_machine_44 : decode prog_7_method_4_code 44 = .ok (.aload_n 0, 1) := by decide +kernel
theorem d_M_machine_45 : decode prog_7_method_4_code 45 = .ok (.getfield 89, 3) := by decide +kernel
theorem d_M_machine_48 : decode prog_7_method_4_code 48 = .ok (.iload_n 1, 1) := by decide +kernel
theorem d_M_machine_49 : decode prog_7_method_4_code 49 = .ok (.iastore, 1) := by decide +kernel
theorem d_M_machine_50 : decode prog_7_method_4_code 50 = .ok (.aload_n 0, 1) := by decide +kernel
theorem d_M_machine_51 : decode prog_7_method_4_code 51 = .ok (.dup, 1) := by decide +kernel
theorem d_M_machine_52 : decode prog_7_method_4_code 52 = .ok (.getfield 89, 3) := by decide +kernel
theorem d_M_machine_55 : decode prog_7_method_4_code 55 = .ok (.iconst 1, 1) := by decide +kernel
theorem d_M_machine_56 : decode prog_7_method_4_code 56 = .ok (.iadd, 1) := by decide +kernel
theorem d_M_machine_57 : decode prog_7_method_4_code 57 = .ok (.putfield 89, 3) := by decide +kernel
theorem d_M_machine_60 : decode prog_7_method_4_code 60 = .ok (.aload_n 0, 1) := by decide +kernel
theorem d_M_machine_61 : decode prog_7_method_4_code 61 = .ok (.iconst 0, 1) := by decide +kernel
theorem d_M_machine_62 : decode prog_7_method_4_code 62 = .ok (.putfield 92, 3) := by decide +kernel
theorem d_M_machine_65 : decode prog_7_method_4_code 65 = .ok (.aload_n 0, 1) := by decide +kernel
theorem d_M_machine_66 : decode prog_7_method_4_code 66 = .ok (.getfield 89, 3) := by decide +kernel
theorem d_M_machine_69 : decode prog_7_method_4_code 69 = .ok (.iconst 1, 1) := by decide +kernel
theorem d_M_machine_70 : decode prog_7_method_4_code 70 = .ok (.isub, 1) := by decide +kernel
theorem d_M_machine_71 : decode prog_7_method_4_code 71 = .ok (.ireturn, 1) := by decide +kernel
theorem d_M_in_0 : decode prog_7_method_3_code 0 = .ok (.iload_n 0, 1) := by decide +kernel
theorem d_M_in_1 : decode prog_7_method_3_code 1 = .ok (.iload_n 1, 1) := by decide +kernel
theorem d_M_in_2 : decode prog_7_method_3_code 2 = .ok (.if_icmp .lt 12, 3) := by decide +kernel
theorem d_M_in_5 : decode prog_7_method_3_code 5 = .ok (.iload_n 0, 1) := by decide +kernel
theorem d_M_in_6 : decode prog_7_method_3_code 6 = .ok (.iload_n 2, 1) := by decide +kernel
theorem d_M_in_7 : decode prog_7_method_3_code 7 = .ok (.if_icmp .gt 7, 3) := by decide +kernel
theorem d_M_in_10 : decode prog_7_method_3_code 10 = .ok (.iconst 1, 1) := by decide +kernel
theorem d_M_in_11 : decode prog_7_method_3_code 11 = .ok (.goto 4, 3) := by decide +kernel
theorem d_M_in_14 : decode prog_7_method_3_code 14 = .ok (.iconst 0, 1) := by decide +kernel
theorem d_M_in_15 : decode prog_7_method_3_code 15 = .ok (.ireturn, 1) := by decide +kernel
theorem d_M_out_0 : decode prog_7_method_5_code 0 = .ok (.aload_n 0, 1) := by decide +kernel
theorem d_M_out_1 : decode prog_7_method_5_code 1 = .ok (.iload_n 1, 1) := by decide +kernel
theorem d_M_out_2 : decode prog_7_method_5_code 2 = .ok (.iconst 0, 1) := by decide +kernel
theorem d_M_out_3 : decode prog_7_method_5_code 3 = .ok (.aload_n 0, 1) := by decide +kernel
theorem d_M_out_4 : decode prog_7_method_5_code 4 = .ok (.getfield 89, 3) := by decide +kernel
theorem d_M_out_7 : decode prog_7_method_5_code 7 = .ok (.iconst 1, 1) := by decide +kernel
theorem d_M_out_8 : decode prog_7_method_5_code 8 = .ok (.isub, 1) := by decide +kernel
theorem d_M_out_9 : decode prog_7_method_5_code 9 = .ok (.invokestatic 85, 3) := by decide +kernel
theorem d_M_out_12 : decode prog_7_method_5_code 12 = .ok (.ifCond .ne 7, 3) := by decide +kernel
theorem d_M_out_15 : decode prog_7_method_5_code 15 = .ok (.iconst 1, 1) := by decide +kernel
theorem d_M_out_16 : decode prog_7_method_5_code 16 = .ok (.goto 46, 3) := by decide +kernel
theorem d_M_out_19 : decode prog_7_method_5_code 19 = .ok (.iload_n 2, 1) := by decide +kernel
theorem d_M_out_20 : decode prog_7_method_5_code 20 = .ok (.iconst 0, 1) := by decide +kernel
theorem d_M_out_21 : decode prog_7_method_5_code 21 = .ok (.sipush 1000, 3) := by decide +kernel
theorem d_M_out_24 : decode prog_7_method_5_code 24 = .ok (.invokestatic 85, 3) := by decide +kernel
theorem d_M_out_27 : decode prog_7_method_5_code 27 = .ok (.ifCond .eq 15, 3) := by decide +kernel
theorem d_M_out_30 : decode prog_7_method_5_code 30 = .ok (.iload_n 3, 1) := by decide +kernel
theorem d_M_out_31 : decode prog_7_method_5_code 31 = .ok (.iload_n 2, 1) := by decide +kernel
theorem d_M_out_32 : decode prog_7_method_5_code 32 = .ok (.if_icmp .le 10, 3) := by decide +kernel
theorem d_M_out_35 : decode prog_7_method_5_code 35 = .ok (.iload_n 3, 1) := by decide +kernel
theorem d_M_out_36 : decode prog_7_method_5_code 36 = .ok (.sipush 2000, 3) := by decide +kernel
theorem d_M_out_39 : decode prog_7_method_5_code 39 = .ok (.if_icmp .le 7, 3) := by decide +kernel
theorem d_M_out_42 : decode prog_7_method_5_code 42 = .ok (.iconst 2, 1) := by decide +kernel
theorem d_M_out_43 : decode prog_7_method_5_code 43 = .ok (.goto 19, 3) := by decide +kernel
theorem d_M_out_46 : decode prog_7_method_5_code 46 = .ok (.aload_n 0, 1) := by decide +kernel
theorem d_M_out_47 : decode prog_7_method_5_code 47 = .ok (.getfield 13, 3) := by decide +kernel
theorem d_M_out_50 : decode prog_7_method_5_code 50 = .ok (.iload_n 1, 1) := by decide +kernel
theorem d_M_out_51 : decode prog_7_method_5_code 51 = .ok (.iaload, 1) := by decide +kernel
theorem d_M_out_52 : decode prog_7_method_5_code 52 = .ok (.bipush 8, 2) := by decide +kernel
theorem d_M_out_54 : decode prog_7_method_5_code 54 = .ok (.if_icmp .ne 7, 3) := by decide +kernel
theorem d_M_out_57 : decode prog_7_method_5_code 57 = .ok (.iconst 3, 1) := by decide +kernel
theorem d_M_out_58 : decode prog_7_method_5_code 58 = .ok (.goto 4, 3) := by decide +kernel
theorem d_M_out_61 : decode prog_7_method_5_code 61 = .ok (.iconst 0, 1) := by decide +kernel
theorem d_M_out_62 : decode prog_7_method_5_code 62 = .ok (.putfield 81, 3) := by decide +kernel
theorem d_M_out_65 : decode prog_7_method_5_code 65 = .ok (.aload_n 0, 1) := by decide +kernel
theorem d_M_out_66 : decode prog_7_method_5_code 66 = .ok (.getfield 81, 3) := by decide +kernel
theorem d_M_out_69 : decode prog_7_method_5_code 69 = .ok (.ifCond .le 5, 3) := by decide +kernel
theorem d_M_out_72 : decode prog_7_method_5_code 72 = .ok (.iconst 0, 1) := by decide +kernel
theorem d_M_out_73 : decode prog_7_method_5_code 73 = .ok (.ireturn, 1) := by decide +kernel
theorem d_M_out_74 : decode prog_7_method_5_code 74 = .ok (.aload_n 0, 1) := by decide +kernel
theorem d_M_out_75 : decode prog_7_method_5_code 75 = .ok (.getfield 16, 3) := by decide +kernel
theorem d_M_out_78 : decode prog_7_method_5_code 78 = .ok (.bipush 8, 2) := by decide +kernel
theorem d_M_out_80 : decode prog_7_method_5_code 80 = .ok (.iload_n 1, 1) := by decide +kernel
theorem d_M_out_81 : decode prog_7_method_5_code 81 = .ok (.imul, 1) := by decide +kernel
theorem d_M_out_82 : decode prog_7_method_5_code 82 = .ok (.aload_n 0, 1) := by decide +kernel
theorem d_M_out_83 : decode prog_7_method_5_code 83 = .ok (.getfield 13, 3) := by decide +kernel
theorem d_M_out_86 : decode prog_7_method_5_code 86 = .ok (.iload_n 1, 1) := by decide +kernel
theorem d_M_out_87 : decode prog_7_method_5_code 87 = .ok (.iaload, 1) := by decide +kernel
theorem d_M_out_88 : decode prog_7_method_5_code 88 = .ok (.iadd, 1) := by decide +kernel
theorem d_M_out_89 : decode prog_7_method_5_code 89 = .ok (.iload_n 2, 1) := by decide +kernel
theorem d_M_out_90 : decode prog_7_method_5_code 90 = .ok (.iastore, 1) := by decide +kernel
theorem d_M_out_91 : decode prog_7_method_5_code 91 = .ok (.aload_n 0, 1) := by decide +kernel
theorem d_M_out_92 : decode prog_7_method_5_code 92 = .ok (.getfield 19, 3) := by decide +kernel
theorem d_M_out_95 : decode prog_7_method_5_code 95 = .ok (.bipush 8, 2) := by decide +kernel
theorem d_M_out_97 : decode prog_7_method_5_code 97 = .ok (.iload_n 1, 1) := by decide +kernel
theorem d_M_out_98 : decode prog_7_method_5_code 98 = .ok (.imul, 1) := by decide +kernel
theorem d_M_out_99 : decode prog_7_method_5_code 99 = .ok (.aload_n 0, 1) := by decide +kernel
theorem d_M_out_100 : decode prog_7_method_5_code 100 = .ok (.getfield 13, 3) := by decide +kernel
theorem d_M_out_103 : decode prog_7_method_5_code 103 = .ok (.iload_n 1, 1) := by decide +kernel
theorem d_M_out_104 : decode prog_7_method_5_code 104 = .ok (.iaload, 1) := by decide +kernel
theorem d_M_out_105 : decode prog_7_method_5_code 105 = .ok (.iadd, 1) := by decide +kernel
theorem d_M_out_106 : decode prog_7_method_5_code 106 = .ok (.iload_n 3, 1) := by decide +kernel
theorem d_M_out_107 : decode prog_7_method_5_code 107 = .ok (.iastore, 1) := by decide +kernel
theorem d_M_out_108 : decode prog_7_method_5_code 108 = .ok (.aload_n 0, 1) := by decide +kernel
theorem d_M_out_109 : decode prog_7_method_5_code 109 = .ok (.getfield 13, 3) := by decide +kernel
theorem d_M_out_112 : decode prog_7_method_5_code 112 = .ok (.iload_n 1, 1) := by decide +kernel
theorem d_M_out_113 : decode prog_7_method_5_code 113 = .ok (.dup2, 1) := by decide +kernel
theorem d_M_out_114 : decode prog_7_method_5_code 114 = .ok (.iaload, 1) := by decide +kernel
theorem d_M_out_115 : decode prog_7_method_5_code 115 = .ok (.iconst 1, 1) := by decide +kernel
theorem d_M_out_116 : decode prog_7_method_5_code 116 = .ok (.iadd, 1) := by decide +kernel
theorem d_M_out_117 : decode prog_7_method_5_code 117 = .ok (.iastore, 1) := by decide +kernel
theorem d_M_out_118 : decode prog_7_method_5_code 118 = .ok (.aload_n 0, 1) := by decide +kernel
theorem d_M_out_119 : decode prog_7_method_5_code 119 = .ok (.iconst 0, 1) := by decide +kernel
theorem d_M_out_120 : decode prog_7_method_5_code 120 = .ok (.putfield 92, 3) := by decide +kernel
theorem d_M_out_123 : decode prog_7_method_5_code 123 = .ok (.aload_n 0, 1) := by decide +kernel
theorem d_M_out_124 : decode prog_7_method_5_code 124 = .ok (.getfield 13, 3) := by decide +kernel
theorem d_M_out_127 : decode prog_7_method_5_code 127 = .ok (.iload_n 1, 1) := by decide +kernel
theorem d_M_out_128 : decode prog_7_method_5_code 128 = .ok (.iaload, 1) := by decide +kernel
theorem d_M_out_129 : decode prog_7_method_5_code 129 = .ok (.ireturn, 1) := by decide +kernel
theorem d_M_job_0 : decode prog_7_method_6_code 0 = .ok (.aload_n 0, 1) := by decide +kernel
theorem d_M_job_1 : decode prog_7_method_6_code 1 = .ok (.iload_n 1, 1) := by decide +kernel
theorem d_M_job_2 : decode prog_7_method_6_code 2 = .ok (.iconst 0, 1) := by decide +kernel
theorem d_M_job_3 : decode prog_7_method_6_code 3 = .ok (.sipush 10000, 3) := by decide +kernel
theorem d_M_job_6 : decode prog_7_method_6_code 6 = .ok (.invokestatic 85, 3) := by decide +kernel
theorem d_M_job_9 : decode prog_7_method_6_code 9 = .ok (.ifCond .eq 13, 3) := by decide +kernel
theorem d_M_job_12 : decode prog_7_method_6_code 12 = .ok (.iload_n 2, 1) := by decide +kernel
theorem d_M_job_13 : decode prog_7_method_6_code 13 = .ok (.iconst 0, 1) := by decide +kernel
theorem d_M_job_14 : decode prog_7_method_6_code 14 = .ok (.bipush 100, 2) := by decide +kernel
theorem d_M_job_16 : decode prog_7_method_6_code 16 = .ok (.invokestatic 85, 3) := by decide +kernel
theorem d_M_job_19 : decode prog_7_method_6_code 19 = .ok (.ifCond .ne 7, 3) := by decide +kernel
theorem d_M_job_22 : decode prog_7_method_6_code 22 = .ok (.iconst 1, 1) := by decide +kernel
theorem d_M_job_23 : decode prog_7_method_6_code 23 = .ok (.goto 17, 3) := by decide +kernel
theorem d_M_job_26 : decode prog_7_method_6_code 26 = .ok (.aload_n 0, 1) := by decide +kernel
theorem d_M_job_27 : decode prog_7_method_6_code 27 = .ok (.getfield 96, 3) := by decide +kernel
theorem d_M_job_30 : decode prog_7_method_6_code 30 = .ok (.bipush 6, 2) := by decide +kernel
theorem d_M_job_32 : decode prog_7_method_6_code 32 = .ok (.if_icmp .ne 7, 3) := by decide +kernel
theorem d_M_job_35 : decode prog_7_method_6_code 35 = .ok (.iconst 2, 1) := by decide +kernel
theorem d_M_job_36 : decode prog_7_method_6_code 36 = .ok (.goto 4, 3) := by decide +kernel
theorem d_M_job_39 : decode prog_7_method_6_code 39 = .ok (.iconst 0, 1) := by decide +kernel
theorem d_M_job_40 : decode prog_7_method_6_code 40 = .ok (.putfield 81, 3) := by decide +kernel
theorem d_M_job_43 : decode prog_7_method_6_code 43 = .ok (.aload_n 0, 1) := by decide +kernel
theorem d_M_job_44 : decode prog_7_method_6_code 44 = .ok (.getfield 81, 3) := by decide +kernel
theorem d_M_job_47 : decode prog_7_method_6_code 47 = .ok (.ifCond .le 5, 3) := by decide +kernel
theorem d_M_job_50 : decode prog_7_method_6_code 50 = .ok (.iconst 0, 1) := by decide +kernel
theorem d_M_job_51 : decode prog_7_method_6_code 51 = .ok (.ireturn, 1) := by decide +kernel
theorem d_M_job_52 : decode prog_7_method_6_code 52 = .ok (.aload_n 0, 1) := by decide +kernel
theorem d_M_job_53 : decode prog_7_method_6_code 53 = .ok (.getfield 22, 3) := by decide +kernel
theorem d_M_job_56 : decode prog_7_method_6_code 56 = .ok (.aload_n 0, 1) := by decide +kernel
theorem d_M_job_57 : decode prog_7_method_6_code 57 = .ok (.getfield 96, 3) := by decide +kernel
theorem d_M_job_60 : decode prog_7_method_6_code 60 = .ok (.iload_n 1, 1) := by decide +kernel
theorem d_M_job_61 : decode prog_7_method_6_code 61 = .ok (.iastore, 1) := by decide +kernel
theorem d_M_job_62 : decode prog_7_method_6_code 62 = .ok (.aload_n 0, 1) := by decide +kernel
theorem d_M_job_63 : decode prog_7_method_6_code 63 = .ok (.getfield 25, 3) := by decide +kernel
theorem d_M_job_66 : decode prog_7_method_6_code 66 = .ok (.aload_n 0, 1) := by decide +kernel
theorem d_M_job_67 : decode prog_7_method_6_code 67 = .ok (.getfield 96, 3) := by decide +kernel
theorem d_M_job_70 : decode prog_7_method_6_code 70 = .ok (.iload_n 2, 1) := by decide +kernel
theorem d_M_job_71 : decode prog_7_method_6_code 71 = .ok (.iastore, 1) := by decide +kernel
theorem d_M_job_72 : decode prog_7_method_6_code 72 = .ok (.aload_n 0, 1) := by decide +kernel
theorem d_M_job_73 : decode prog_7_method_6_code 73 = .ok (.dup, 1) := by decide +kernel
theorem d_M_job_74 : decode prog_7_method_6_code 74 = .ok (.getfield 96, 3) := by decide +kernel
theorem d_M_job_77 : decode prog_7_method_6_code 77 = .ok (.iconst 1, 1) := by decide +kernel
theorem d_M_job_78 : decode prog_7_method_6_code 78 = .ok (.iadd, 1) := by decide +kernel
theorem d_M_job_79 : decode prog_7_method_6_code 79 = .ok (.putfield 96, 3) := by decide +kernel
theorem d_M_job_82 : decode prog_7_method_6_code 82 = .ok (.aload_n 0, 1) := by decide +kernel
theorem d_M_job_83 : decode prog_7_method_6_code 83 = .ok (.iconst 0, 1) := by decide +kernel
theorem d_M_job_84 : decode prog_7_method_6_code 84 = .ok (.putfield 92, 3) := by decide +kernel
theorem d_M_job_87 : decode prog_7_method_6_code 87 = .ok (.aload_n 0, 1) := by decide +kernel
theorem d_M_job_88 : decode prog_7_method_6_code 88 = .ok (.getfield 96, 3) := by decide +kernel
theorem d_M_job_91 : decode prog_7_method_6_code 91 = .ok (.iconst 1, 1) := by decide +kernel
theorem d_M_job_92 : decode prog_7_method_6_code 92 = .ok (.isub, 1) := by decide +kernel
theorem d_M_job_93 : decode prog_7_method_6_code 93 = .ok (.ireturn, 1) := by decide +kernel
theorem d_M_due_0 : decode prog_7_method_7_code 0 = .ok (.aload_n 0, 1) := by decide +kernel
theorem d_M_due_1 : decode prog_7_method_7_code 1 = .ok (.iload_n 1, 1) := by decide +kernel
theorem d_M_due_2 : decode prog_7_method_7_code 2 = .ok (.iconst 0, 1) := by decide +kernel
theorem d_M_due_3 : decode prog_7_method_7_code 3 = .ok (.aload_n 0, 1) := by decide +kernel
theorem d_M_due_4 : decode prog_7_method_7_code 4 = .ok (.getfield 96, 3) := by decide +kernel
theorem d_M_due_7 : decode prog_7_method_7_code 7 = .ok (.iconst 1, 1) := by decide +kernel
theorem d_M_due_8 : decode prog_7_method_7_code 8 = .ok (.isub, 1) := by decide +kernel
theorem d_M_due_9 : decode prog_7_method_7_code 9 = .ok (.invokestatic 85, 3) := by decide +kernel
theorem d_M_due_12 : decode prog_7_method_7_code 12 = .ok (.ifCond .ne 7, 3) := by decide +kernel
theorem d_M_due_15 : decode prog_7_method_7_code 15 = .ok (.iconst 1, 1) := by decide +kernel
theorem d_M_due_16 : decode prog_7_method_7_code 16 = .ok (.goto 19, 3) := by decide +kernel
theorem d_M_due_19 : decode prog_7_method_7_code 19 = .ok (.iload_n 2, 1) := by decide +kernel
theorem d_M_due_20 : decode prog_7_method_7_code 20 = .ok (.iconst 0, 1) := by decide +kernel
theorem d_M_due_21 : decode prog_7_method_7_code 21 = .ok (.sipush 10000, 3) := by decide +kernel
theorem d_M_due_24 : decode prog_7_method_7_code 24 = .ok (.invokestatic 85, 3) := by decide +kernel
theorem d_M_due_27 : decode prog_7_method_7_code 27 = .ok (.ifCond .ne 7, 3) := by decide +kernel
theorem d_M_due_30 : decode prog_7_method_7_code 30 = .ok (.iconst 2, 1) := by decide +kernel
theorem d_M_due_31 : decode prog_7_method_7_code 31 = .ok (.goto 4, 3) := by decide +kernel
theorem d_M_due_34 : decode prog_7_method_7_code 34 = .ok (.iconst 0, 1) := by decide +kernel
theorem d_M_due_35 : decode prog_7_method_7_code 35 = .ok (.putfield 81, 3) := by decide +kernel
theorem d_M_due_38 : decode prog_7_method_7_code 38 = .ok (.aload_n 0, 1) := by decide +kernel
theorem d_M_due_39 : decode prog_7_method_7_code 39 = .ok (.getfield 81, 3) := by decide +kernel
theorem d_M_due_42 : decode prog_7_method_7_code 42 = .ok (.ifCond .ne 15, 3) := by decide +kernel
theorem d_M_due_45 : decode prog_7_method_7_code 45 = .ok (.aload_n 0, 1) := by decide +kernel
theorem d_M_due_46 : decode prog_7_method_7_code 46 = .ok (.getfield 22, 3) := by decide +kernel
theorem d_M_due_49 : decode prog_7_method_7_code 49 = .ok (.iload_n 1, 1) := by decide +kernel
theorem d_M_due_50 : decode prog_7_method_7_code 50 = .ok (.iload_n 2, 1) := by decide +kernel
theorem d_M_due_51 : decode prog_7_method_7_code 51 = .ok (.iastore, 1) := by decide +kernel
theorem d_M_due_52 : decode prog_7_method_7_code 52 = .ok (.aload_n 0, 1) := by decide +kernel
theorem d_M_due_53 : decode prog_7_method_7_code 53 = .ok (.iconst 0, 1) := by decide +kernel
theorem d_M_due_54 : decode prog_7_method_7_code 54 = .ok (.putfield 92, 3) := by decide +kernel
theorem d_M_due_57 : decode prog_7_method_7_code 57 = .ok (.return_, 1) := by decide +kernel
theorem d_M_step_0 : decode prog_7_method_8_code 0 = .ok (.aload_n 0, 1) := by decide +kernel
theorem d_M_step_1 : decode prog_7_method_8_code 1 = .ok (.iload_n 1, 1) := by decide +kernel
theorem d_M_step_2 : decode prog_7_method_8_code 2 = .ok (.iconst 0, 1) := by decide +kernel
theorem d_M_step_3 : decode prog_7_method_8_code 3 = .ok (.aload_n 0, 1) := by decide +kernel
theorem d_M_step_4 : decode prog_7_method_8_code 4 = .ok (.getfield 96, 3) := by decide +kernel
theorem d_M_step_7 : decode prog_7_method_8_code 7 = .ok (.iconst 1, 1) := by decide +kernel
theorem d_M_step_8 : decode prog_7_method_8_code 8 = .ok (.isub, 1) := by decide +kernel
theorem d_M_step_9 : decode prog_7_method_8_code 9 = .ok (.invokestatic 85, 3) := by decide +kernel
theorem d_M_step_12 : decode prog_7_method_8_code 12 = .ok (.ifCond .ne 7, 3) := by decide +kernel
theorem d_M_step_15 : decode prog_7_method_8_code 15 = .ok (.iconst 1, 1) := by decide +kernel
theorem d_M_step_16 : decode prog_7_method_8_code 16 = .ok (.goto 52, 3) := by decide +kernel
theorem d_M_step_19 : decode prog_7_method_8_code 19 = .ok (.iload_n 2, 1) := by decide +kernel
theorem d_M_step_20 : decode prog_7_method_8_code 20 = .ok (.iconst 0, 1) := by decide +kernel
theorem d_M_step_21 : decode prog_7_method_8_code 21 = .ok (.iconst 3, 1) := by decide +kernel
theorem d_M_step_22 : decode prog_7_method_8_code 22 = .ok (.invokestatic 85, 3) := by decide +kernel
theorem d_M_step_25 : decode prog_7_method_8_code 25 = .ok (.ifCond .eq 24, 3) := by decide +kernel
theorem d_M_step_28 : decode prog_7_method_8_code 28 = .ok (.iload_n 3, 1) := by decide +kernel
theorem d_M_step_29 : decode prog_7_method_8_code 29 = .ok (.iconst 1, 1) := by decide +kernel
theorem d_M_step_30 : decode prog_7_method_8_code 30 = .ok (.bipush 100, 2) := by decide +kernel
theorem d_M_step_32 : decode prog_7_method_8_code 32 = .ok (.invokestatic 85, 3) := by decide +kernel
theorem d_M_step_35 : decode prog_7_method_8_code 35 = .ok (.ifCond .eq 14, 3) := by decide +kernel
theorem d_M_step_38 : decode prog_7_method_8_code 38 = .ok (.iload 4, 2) := by decide +kernel
theorem d_M_step_40 : decode prog_7_method_8_code 40 = .ok (.iconst 0, 1) := by decide +kernel
theorem d_M_step_41 : decode prog_7_method_8_code 41 = .ok (.bipush 100, 2) := by decide +kernel
theorem d_M_step_43 : decode prog_7_method_8_code 43 = .ok (.invokestatic 85, 3) := by decide +kernel
theorem d_M_step_46 : decode prog_7_method_8_code 46 = .ok (.ifCond .ne 7, 3) := by decide +kernel
theorem d_M_step_49 : decode prog_7_method_8_code 49 = .ok (.iconst 2, 1) := by decide +kernel
theorem d_M_step_50 : decode prog_7_method_8_code 50 = .ok (.goto 18, 3) := by decide +kernel
theorem d_M_step_53 : decode prog_7_method_8_code 53 = .ok (.aload_n 0, 1) := by decide +kernel
theorem d_M_step_54 : decode prog_7_method_8_code 54 = .ok (.getfield 28, 3) := by decide +kernel
theorem d_M_step_57 : decode prog_7_method_8_code 57 = .ok (.iload_n 1, 1) := by decide +kernel
theorem d_M_step_58 : decode prog_7_method_8_code 58 = .ok (.iaload, 1) := by decide +kernel
theorem d_M_step_59 : decode prog_7_method_8_code 59 = .ok (.iconst 4, 1) := by decide +kernel
theorem d_M_step_60 : decode prog_7_method_8_code 60 = .ok (.if_icmp .ne 7, 3) := by decide +kernel
theorem d_M_step_63 : decode prog_7_method_8_code 63 = .ok (.iconst 3, 1) := by decide +kernel
theorem d_M_step_64 : decode prog_7_method_8_code 64 = .ok (.goto 4, 3) := by decide +kernel
theorem d_M_step_67 : decode prog_7_method_8_code 67 = .ok (.iconst 0, 1) := by decide +kernel
theorem d_M_step_68 : decode prog_7_method_8_code 68 = .ok (.putfield 81, 3) := by decide +kernel
theorem d_M_step_71 : decode prog_7_method_8_code 71 = .ok (.aload_n 0, 1) := by decide +kernel
theorem d_M_step_72 : decode prog_7_method_8_code 72 = .ok (.getfield 81, 3) := by decide +kernel
theorem d_M_step_75 : decode prog_7_method_8_code 75 = .ok (.ifCond .le 5, 3) := by decide +kernel
theorem d_M_step_78 : decode prog_7_method_8_code 78 = .ok (.iconst 0, 1) := by decide +kernel
theorem d_M_step_79 : decode prog_7_method_8_code 79 = .ok (.ireturn, 1) := by decide +kernel
theorem d_M_step_80 : decode prog_7_method_8_code 80 = .ok (.aload_n 0, 1) := by decide +kernel
theorem d_M_step_81 : decode prog_7_method_8_code 81 = .ok (.getfield 34, 3) := by decide +kernel
theorem d_M_step_84 : decode prog_7_method_8_code 84 = .ok (.aload_n 0, 1) := by decide +kernel
theorem d_M_step_85 : decode prog_7_method_8_code 85 = .ok (.getfield 99, 3) := by decide +kernel
theorem d_M_step_88 : decode prog_7_method_8_code 88 = .ok (.iload_n 1, 1) := by decide +kernel
theorem d_M_step_89 : decode prog_7_method_8_code 89 = .ok (.iastore, 1) := by decide +kernel
theorem d_M_step_90 : decode prog_7_method_8_code 90 = .ok (.aload_n 0, 1) := by decide +kernel
theorem d_M_step_91 : decode prog_7_method_8_code 91 = .ok (.getfield 37, 3) := by decide +kernel
theorem d_M_step_94 : decode prog_7_method_8_code 94 = .ok (.aload_n 0, 1) := by decide +kernel
theorem d_M_step_95 : decode prog_7_method_8_code 95 = .ok (.getfield 99, 3) := by decide +kernel
theorem d_M_step_98 : decode prog_7_method_8_code 98 = .ok (.iload_n 2, 1) := by decide +kernel
theorem d_M_step_99 : decode prog_7_method_8_code 99 = .ok (.iastore, 1) := by decide +kernel
theorem d_M_step_100 : decode prog_7_method_8_code 100 = .ok (.aload_n 0, 1) := by decide +kernel
theorem d_M_step_101 : decode prog_7_method_8_code 101 = .ok (.getfield 40, 3) := by decide +kernel
theorem d_M_step_104 : decode prog_7_method_8_code 104 = .ok (.aload_n 0, 1) := by decide +kernel
theorem d_M_step_105 : decode prog_7_method_8_code 105 = .ok (.getfield 99, 3) := by decide +kernel
theorem d_M_step_108 : decode prog_7_method_8_code 108 = .ok (.iload_n 3, 1) := by decide +kernel
theorem d_M_step_109 : decode prog_7_method_8_code 109 = .ok (.iastore, 1) := by decide +kernel
theorem d_M_step_110 : decode prog_7_method_8_code 110 = .ok (.aload_n 0, 1) := by decide +kernel
theorem d_M_step_111 : decode prog_7_method_8_code 111 = .ok (.getfield 43, 3) := by decide +kernel
theorem d_M_step_114 : decode prog_7_method_8_code 114 = .ok (.aload_n 0, 1) := by decide +kernel
theorem d_M_step_115 : decode prog_7_method_8_code 115 = .ok (.getfield 99, 3) := by decide +kernel
theorem d_M_step_118 : decode prog_7_method_8_code 118 = .ok (.iload 4, 2) := by decide +kernel
theorem d_M_step_120 : decode prog_7_method_8_code 120 = .ok (.iastore, 1) := by decide +kernel
theorem d_M_step_121 : decode prog_7_method_8_code 121 = .ok (.aload_n 0, 1) := by decide +kernel
theorem d_M_step_122 : decode prog_7_method_8_code 122 = .ok (.getfield 31, 3) := by decide +kernel
theorem d_M_step_125 : decode prog_7_method_8_code 125 = .ok (.iconst 4, 1) := by decide +kernel
theorem d_M_step_126 : decode prog_7_method_8_code 126 = .ok (.iload_n 1, 1) := by decide +kernel
theorem d_M_step_127 : decode prog_7_method_8_code 127 = .ok (.imul, 1) := by decide +kernel
theorem d_M_step_128 : decode prog_7_method_8_code 128 = .ok (.aload_n 0, 1) := by decide +kernel
theorem d_M_step_129 : decode prog_7_method_8_code 129 = .ok (.getfield 28, 3) := by decide +kernel
theorem d_M_step_132 : decode prog_7_method_8_code 132 = .ok (.iload_n 1, 1) := by decide +kernel
theorem d_M_step_133 : decode prog_7_method_8_code 133 = .ok (.iaload, 1) := by decide +kernel
theorem d_M_step_134 : decode prog_7_method_8_code 134 = .ok (.iadd, 1) := by decide +kernel
theorem d_M_step_135 : decode prog_7_method_8_code 135 = .ok (.aload_n 0, 1) := by decide +kernel
theorem d_M_step_136 : decode prog_7_method_8_code 136 = .ok (.getfield 99, 3) := by decide +kernel
theorem d_M_step_139 : decode prog_7_method_8_code 139 = .ok (.iastore, 1) := by decide +kernel
theorem d_M_step_140 : decode prog_7_method_8_code 140 = .ok (.aload_n 0, 1) := by decide +kernel
theorem d_M_step_141 : decode prog_7_method_8_code 141 = .ok (.getfield 28, 3) := by decide +kernel
theorem d_M_step_144 : decode prog_7_method_8_code 144 = .ok (.iload_n 1, 1) := by decide +kernel
theorem d_M_step_145 : decode prog_7_method_8_code 145 = .ok (.dup2, 1) := by decide +kernel
theorem d_M_step_146 : decode prog_7_method_8_code 146 = .ok (.iaload, 1) := by decide +kernel
theorem d_M_step_147 : decode prog_7_method_8_code 147 = .ok (.iconst 1, 1) := by decide +kernel
theorem d_M_step_148 : decode prog_7_method_8_code 148 = .ok (.iadd, 1) := by decide +kernel
theorem d_M_step_149 : decode prog_7_method_8_code 149 = .ok (.iastore, 1) := by decide +kernel
theorem d_M_step_150 : decode prog_7_method_8_code 150 = .ok (.aload_n 0, 1) := by decide +kernel
theorem d_M_step_151 : decode prog_7_method_8_code 151 = .ok (.dup, 1) := by decide +kernel
theorem d_M_step_152 : decode prog_7_method_8_code 152 = .ok (.getfield 99, 3) := by decide +kernel
theorem d_M_step_155 : decode prog_7_method_8_code 155 = .ok (.iconst 1, 1) := by decide +kernel
theorem d_M_step_156 : decode prog_7_method_8_code 156 = .ok (.iadd, 1) := by decide +kernel
theorem d_M_step_157 : decode prog_7_method_8_code 157 = .ok (.putfield 99, 3) := by decide +kernel
theorem d_M_step_160 : decode prog_7_method_8_code 160 = .ok (.aload_n 0, 1) := by decide +kernel
theorem d_M_step_161 : decode prog_7_method_8_code 161 = .ok (.iconst 0, 1) := by decide +kernel
theorem d_M_step_162 : decode prog_7_method_8_code 162 = .ok (.putfield 92, 3) := by decide +kernel
theorem d_M_step_165 : decode prog_7_method_8_code 165 = .ok (.aload_n 0, 1) := by decide +kernel
theorem d_M_step_166 : decode prog_7_method_8_code 166 = .ok (.getfield 99, 3) := by decide +kernel
theorem d_M_step_169 : decode prog_7_method_8_code 169 = .ok (.iconst 1, 1) := by decide +kernel
theorem d_M_step_170 : decode prog_7_method_8_code 170 = .ok (.isub, 1) := by decide +kernel
theorem d_M_step_171 : decode prog_7_method_8_code 171 = .ok (.ireturn, 1) := by decide +kernel
theorem d_M_run_0 : decode prog_7_method_24_code 0 = .ok (.aload_n 0, 1) := by decide +kernel
theorem d_M_run_1 : decode prog_7_method_24_code 1 = .ok (.iload_n 1, 1) := by decide +kernel
theorem d_M_run_2 : decode prog_7_method_24_code 2 = .ok (.iconst 1, 1) := by decide +kernel
theorem d_M_run_3 : decode prog_7_method_24_code 3 = .ok (.sipush 2000, 3) := by decide +kernel
theorem d_M_run_6 : decode prog_7_method_24_code 6 = .ok (.invokestatic 85, 3) := by decide +kernel
theorem d_M_run_9 : decode prog_7_method_24_code 9 = .ok (.ifCond .ne 7, 3) := by decide +kernel
theorem d_M_run_12 : decode prog_7_method_24_code 12 = .ok (.iconst 1, 1) := by decide +kernel
theorem d_M_run_13 : decode prog_7_method_24_code 13 = .ok (.goto 22, 3) := by decide +kernel
theorem d_M_run_16 : decode prog_7_method_24_code 16 = .ok (.aload_n 0, 1) := by decide +kernel
theorem d_M_run_17 : decode prog_7_method_24_code 17 = .ok (.getfield 96, 3) := by decide +kernel
theorem d_M_run_20 : decode prog_7_method_24_code 20 = .ok (.ifCond .eq 10, 3) := by decide +kernel
theorem d_M_run_23 : decode prog_7_method_24_code 23 = .ok (.aload_n 0, 1) := by decide +kernel
theorem d_M_run_24 : decode prog_7_method_24_code 24 = .ok (.invokevirtual 159, 3) := by decide +kernel
theorem d_M_run_27 : decode prog_7_method_24_code 27 = .ok (.ifCond .ne 7, 3) := by decide +kernel
theorem d_M_run_30 : decode prog_7_method_24_code 30 = .ok (.iconst 2, 1) := by decide +kernel
theorem d_M_run_31 : decode prog_7_method_24_code 31 = .ok (.goto 4, 3) := by decide +kernel
theorem d_M_run_34 : decode prog_7_method_24_code 34 = .ok (.iconst 0, 1) := by decide +kernel
theorem d_M_run_35 : decode prog_7_method_24_code 35 = .ok (.putfield 81, 3) := by decide +kernel
theorem d_M_run_38 : decode prog_7_method_24_code 38 = .ok (.aload_n 0, 1) := by decide +kernel
theorem d_M_run_39 : decode prog_7_method_24_code 39 = .ok (.getfield 81, 3) := by decide +kernel
theorem d_M_run_42 : decode prog_7_method_24_code 42 = .ok (.ifCond .le 5, 3) := by decide +kernel
theorem d_M_run_45 : decode prog_7_method_24_code 45 = .ok (.iconst 0, 1) := by decide +kernel
theorem d_M_run_46 : decode prog_7_method_24_code 46 = .ok (.ireturn, 1) := by decide +kernel
theorem d_M_run_47 : decode prog_7_method_24_code 47 = .ok (.aload_n 0, 1) := by decide +kernel
theorem d_M_run_48 : decode prog_7_method_24_code 48 = .ok (.invokevirtual 163, 3) := by decide +kernel
theorem d_M_run_51 : decode prog_7_method_24_code 51 = .ok (.aload_n 0, 1) := by decide +kernel
theorem d_M_run_52 : decode prog_7_method_24_code 52 = .ok (.iload_n 1, 1) := by decide +kernel
theorem d_M_run_53 : decode prog_7_method_24_code 53 = .ok (.invokevirtual 166, 3) := by decide +kernel
theorem d_M_run_56 : decode prog_7_method_24_code 56 = .ok (.istore_n 2, 1) := by decide +kernel
theorem d_M_run_57 : decode prog_7_method_24_code 57 = .ok (.iconst 0, 1) := by decide +kernel
theorem d_M_run_58 : decode prog_7_method_24_code 58 = .ok (.istore_n 3, 1) := by decide +kernel
theorem d_M_run_59 : decode prog_7_method_24_code 59 = .ok (.iload_n 3, 1) := by decide +kernel
theorem d_M_run_60 : decode prog_7_method_24_code 60 = .ok (.aload_n 0, 1) := by decide +kernel
theorem d_M_run_61 : decode prog_7_method_24_code 61 = .ok (.getfield 96, 3) := by decide +kernel
theorem d_M_run_64 : decode prog_7_method_24_code 64 = .ok (.if_icmp .ge 21, 3) := by decide +kernel
theorem d_M_run_67 : decode prog_7_method_24_code 67 = .ok (.aload_n 0, 1) := by decide +kernel
theorem d_M_run_68 : decode prog_7_method_24_code 68 = .ok (.getfield 67, 3) := by decide +kernel
theorem d_M_run_71 : decode prog_7_method_24_code 71 = .ok (.iload_n 3, 1) := by decide +kernel
theorem d_M_run_72 : decode prog_7_method_24_code 72 = .ok (.aload_n 0, 1) := by decide +kernel
theorem d_M_run_73 : decode prog_7_method_24_code 73 = .ok (.getfield 52, 3) := by decide +kernel
theorem d_M_run_76 : decode prog_7_method_24_code 76 = .ok (.iload_n 3, 1) := by decide +kernel
theorem d_M_run_77 : decode prog_7_method_24_code 77 = .ok (.iaload, 1) := by decide +kernel
theorem d_M_run_78 : decode prog_7_method_24_code 78 = .ok (.iastore, 1) := by decide +kernel
theorem d_M_run_79 : decode prog_7_method_24_code 79 = .ok (.iinc 3 1, 3) := by decide +kernel
theorem d_M_run_82 : decode prog_7_method_24_code 82 = .ok (.goto (-23), 3) := by decide +kernel
theorem d_M_run_85 : decode prog_7_method_24_code 85 = .ok (.aload_n 0, 1) := by decide +kernel
theorem d_M_run_86 : decode prog_7_method_24_code 86 = .ok (.invokevirtual 169, 3) := by decide +kernel
theorem d_M_run_89 : decode prog_7_method_24_code 89 = .ok (.iload_n 2, 1) := by decide +kernel
theorem d_M_run_90 : decode prog_7_method_24_code 90 = .ok (.ireturn, 1) := by decide +kernel
theorem d_M_allFit_0 : decode prog_7_method_16_code 0 = .ok (.iconst 1, 1) := by decide +kernel
theorem d_M_allFit_1 : decode prog_7_method_16_code 1 = .ok (.istore_n 1, 1) := by decide +kernel
theorem d_M_allFit_2 : decode prog_7_method_16_code 2 = .ok (.iconst 0, 1) := by decide +kernel
theorem d_M_allFit_3 : decode prog_7_method_16_code 3 = .ok (.istore_n 2, 1) := by decide +kernel
theorem d_M_allFit_4 : decode prog_7_method_16_code 4 = .ok (.iload_n 2, 1) := by decide +kernel
theorem d_M_allFit_5 : decode prog_7_method_16_code 5 = .ok (.aload_n 0, 1) := by decide +kernel
theorem d_M_allFit_6 : decode prog_7_method_16_code 6 = .ok (.getfield 96, 3) := by decide +kernel
theorem d_M_allFit_9 : decode prog_7_method_16_code 9 = .ok (.if_icmp .ge 27, 3) := by decide +kernel
theorem d_M_allFit_12 : decode prog_7_method_16_code 12 = .ok (.iload_n 1, 1) := by decide +kernel
theorem d_M_allFit_13 : decode prog_7_method_16_code 13 = .ok (.ifCond .eq 15, 3) := by decide +kernel
theorem d_M_allFit_16 : decode prog_7_method_16_code 16 = .ok (.aload_n 0, 1) := by decide +kernel
theorem d_M_allFit_17 : decode prog_7_method_16_code 17 = .ok (.iload_n 2, 1) := by decide +kernel
theorem d_M_allFit_18 : decode prog_7_method_16_code 18 = .ok (.invokevirtual 121, 3) := by decide +kernel
theorem d_M_allFit_21 : decode prog_7_method_16_code 21 = .ok (.ifCond .eq 7, 3) := by decide +kernel
theorem d_M_allFit_24 : decode prog_7_method_16_code 24 = .ok (.iconst 1, 1) := by decide +kernel
theorem d_M_allFit_25 : decode prog_7_method_16_code 25 = .ok (.goto 4, 3) := by decide +kernel
theorem d_M_allFit_28 : decode prog_7_method_16_code 28 = .ok (.iconst 0, 1) := by decide +kernel
theorem d_M_allFit_29 : decode prog_7_method_16_code 29 = .ok (.istore_n 1, 1) := by decide +kernel
theorem d_M_allFit_30 : decode prog_7_method_16_code 30 = .ok (.iinc 2 1, 3) := by decide +kernel
theorem d_M_allFit_33 : decode prog_7_method_16_code 33 = .ok (.goto (-29), 3) := by decide +kernel
theorem d_M_allFit_36 : decode prog_7_method_16_code 36 = .ok (.iload_n 1, 1) := by decide +kernel
theorem d_M_allFit_37 : decode prog_7_method_16_code 37 = .ok (.ireturn, 1) := by decide +kernel
theorem d_M_fits_0 : decode prog_7_method_15_code 0 = .ok (.iconst 1, 1) := by decide +kernel
theorem d_M_fits_1 : decode prog_7_method_15_code 1 = .ok (.istore_n 2, 1) := by decide +kernel
theorem d_M_fits_2 : decode prog_7_method_15_code 2 = .ok (.iconst 0, 1) := by decide +kernel
theorem d_M_fits_3 : decode prog_7_method_15_code 3 = .ok (.istore_n 3, 1) := by decide +kernel
theorem d_M_fits_4 : decode prog_7_method_15_code 4 = .ok (.iload_n 3, 1) := by decide +kernel
theorem d_M_fits_5 : decode prog_7_method_15_code 5 = .ok (.aload_n 0, 1) := by decide +kernel
theorem d_M_fits_6 : decode prog_7_method_15_code 6 = .ok (.getfield 28, 3) := by decide +kernel
theorem d_M_fits_9 : decode prog_7_method_15_code 9 = .ok (.iload_n 1, 1) := by decide +kernel
theorem d_M_fits_10 : decode prog_7_method_15_code 10 = .ok (.iaload, 1) := by decide +kernel
theorem d_M_fits_11 : decode prog_7_method_15_code 11 = .ok (.if_icmp .ge 82, 3) := by decide +kernel
theorem d_M_fits_14 : decode prog_7_method_15_code 14 = .ok (.iconst 0, 1) := by decide +kernel
theorem d_M_fits_15 : decode prog_7_method_15_code 15 = .ok (.istore 4, 2) := by decide +kernel
theorem d_M_fits_17 : decode prog_7_method_15_code 17 = .ok (.iconst 0, 1) := by decide +kernel
theorem d_M_fits_18 : decode prog_7_method_15_code 18 = .ok (.istore 5, 2) := by decide +kernel
theorem d_M_fits_20 : decode prog_7_method_15_code 20 = .ok (.iload 5, 2) := by decide +kernel
theorem d_M_fits_22 : decode prog_7_method_15_code 22 = .ok (.aload_n 0, 1) := by decide +kernel
theorem d_M_fits_23 : decode prog_7_method_15_code 23 = .ok (.getfield 89, 3) := by decide +kernel
theorem d_M_fits_26 : decode prog_7_method_15_code 26 = .ok (.if_icmp .ge 46, 3) := by decide +kernel
theorem d_M_fits_29 : decode prog_7_method_15_code 29 = .ok (.iload 4, 2) := by decide +kernel
theorem d_M_fits_31 : decode prog_7_method_15_code 31 = .ok (.ifCond .ne 28, 3) := by decide +kernel
theorem d_M_fits_34 : decode prog_7_method_15_code 34 = .ok (.aload_n 0, 1) := by decide +kernel
theorem d_M_fits_35 : decode prog_7_method_15_code 35 = .ok (.getfield 7, 3) := by decide +kernel
theorem d_M_fits_38 : decode prog_7_method_15_code 38 = .ok (.iload 5, 2) := by decide +kernel
theorem d_M_fits_40 : decode prog_7_method_15_code 40 = .ok (.iaload, 1) := by decide +kernel
theorem d_M_fits_41 : decode prog_7_method_15_code 41 = .ok (.aload_n 0, 1) := by decide +kernel
theorem d_M_fits_42 : decode prog_7_method_15_code 42 = .ok (.getfield 37, 3) := by decide +kernel
theorem d_M_fits_45 : decode prog_7_method_15_code 45 = .ok (.aload_n 0, 1) := by decide +kernel
theorem d_M_fits_46 : decode prog_7_method_15_code 46 = .ok (.getfield 31, 3) := by decide +kernel
theorem d_M_fits_49 : decode prog_7_method_15_code 49 = .ok (.iconst 4, 1) := by decide +kernel
theorem d_M_fits_50 : decode prog_7_method_15_code 50 = .ok (.iload_n 1, 1) := by decide +kernel
theorem d_M_fits_51 : decode prog_7_method_15_code 51 = .ok (.imul, 1) := by decide +kernel
theorem d_M_fits_52 : decode prog_7_method_15_code 52 = .ok (.iload_n 3, 1) := by decide +kernel
theorem d_M_fits_53 : decode prog_7_method_15_code 53 = .ok (.iadd, 1) := by decide +kernel
theorem d_M_fits_54 : decode prog_7_method_15_code 54 = .ok (.iaload, 1) := by decide +kernel
theorem d_M_fits_55 : decode prog_7_method_15_code 55 = .ok (.iaload, 1) := by decide +kernel
theorem d_M_fits_56 : decode prog_7_method_15_code 56 = .ok (.if_icmp .ne 7, 3) := by decide +kernel
theorem d_M_fits_59 : decode prog_7_method_15_code 59 = .ok (.iconst 1, 1) := by decide +kernel
theorem d_M_fits_60 : decode prog_7_method_15_code 60 = .ok (.goto 4, 3) := by decide +kernel
theorem d_M_fits_63 : decode prog_7_method_15_code 63 = .ok (.iconst 0, 1) := by decide +kernel
theorem d_M_fits_64 : decode prog_7_method_15_code 64 = .ok (.istore 4, 2) := by decide +kernel
theorem d_M_fits_66 : decode prog_7_method_15_code 66 = .ok (.iinc 5 1, 3) := by decide +kernel
theorem d_M_fits_69 : decode prog_7_method_15_code 69 = .ok (.goto (-49), 3) := by decide +kernel
theorem d_M_fits_72 : decode prog_7_method_15_code 72 = .ok (.iload_n 2, 1) := by decide +kernel
theorem d_M_fits_73 : decode prog_7_method_15_code 73 = .ok (.ifCond .eq 12, 3) := by decide +kernel
theorem d_M_fits_76 : decode prog_7_method_15_code 76 = .ok (.iload 4, 2) := by decide +kernel
theorem d_M_fits_78 : decode prog_7_method_15_code 78 = .ok (.ifCond .eq 7, 3) := by decide +kernel
theorem d_M_fits_81 : decode prog_7_method_15_code 81 = .ok (.iconst 1, 1) := by decide +kernel
theorem d_M_fits_82 : decode prog_7_method_15_code 82 = .ok (.goto 4, 3) := by decide +kernel
theorem d_M_fits_85 : decode prog_7_method_15_code 85 = .ok (.iconst 0, 1) := by decide +kernel
theorem d_M_fits_86 : decode prog_7_method_15_code 86 = .ok (.istore_n 2, 1) := by decide +kernel
theorem d_M_fits_87 : decode prog_7_method_15_code 87 = .ok (.iinc 3 1, 3) := by decide +kernel
theorem d_M_fits_90 : decode prog_7_method_15_code 90 = .ok (.goto (-86), 3) := by decide +kernel
theorem d_M_fits_93 : decode prog_7_method_15_code 93 = .ok (.iload_n 2, 1) := by decide +kernel
theorem d_M_fits_94 : decode prog_7_method_15_code 94 = .ok (.ireturn, 1) := by decide +kernel
theorem d_M_keepWas_0 : decode prog_7_method_18_code 0 = .ok (.iconst 0, 1) := by decide +kernel
theorem d_M_keepWas_1 : decode prog_7_method_18_code 1 = .ok (.istore_n 1, 1) := by decide +kernel
theorem d_M_keepWas_2 : decode prog_7_method_18_code 2 = .ok (.iload_n 1, 1) := by decide +kernel
theorem d_M_keepWas_3 : decode prog_7_method_18_code 3 = .ok (.bipush 24, 2) := by decide +kernel
theorem d_M_keepWas_5 : decode prog_7_method_18_code 5 = .ok (.if_icmp .ge 33, 3) := by decide +kernel
theorem d_M_keepWas_8 : decode prog_7_method_18_code 8 = .ok (.aload_n 0, 1) := by decide +kernel
theorem d_M_keepWas_9 : decode prog_7_method_18_code 9 = .ok (.getfield 61, 3) := by decide +kernel
theorem d_M_keepWas_12 : decode prog_7_method_18_code 12 = .ok (.iload_n 1, 1) := by decide +kernel
theorem d_M_keepWas_13 : decode prog_7_method_18_code 13 = .ok (.aload_n 0, 1) := by decide +kernel
theorem d_M_keepWas_14 : decode prog_7_method_18_code 14 = .ok (.getfield 55, 3) := by decide +kernel
theorem d_M_keepWas_17 : decode prog_7_method_18_code 17 = .ok (.iload_n 1, 1) := by decide +kernel
theorem d_M_keepWas_18 : decode prog_7_method_18_code 18 = .ok (.iaload, 1) := by decide +kernel
theorem d_M_keepWas_19 : decode prog_7_method_18_code 19 = .ok (.iastore, 1) := by decide +kernel
theorem d_M_keepWas_20 : decode prog_7_method_18_code 20 = .ok (.aload_n 0, 1) := by decide +kernel
theorem d_M_keepWas_21 : decode prog_7_method_18_code 21 = .ok (.getfield 64, 3) := by decide +kernel
theorem d_M_keepWas_24 : decode prog_7_method_18_code 24 = .ok (.iload_n 1, 1) := by decide +kernel
theorem d_M_keepWas_25 : decode prog_7_method_18_code 25 = .ok (.aload_n 0, 1) := by decide +kernel
theorem d_M_keepWas_26 : decode prog_7_method_18_code 26 = .ok (.getfield 58, 3) := by decide +kernel
theorem d_M_keepWas_29 : decode prog_7_method_18_code 29 = .ok (.iload_n 1, 1) := by decide +kernel
theorem d_M_keepWas_30 : decode prog_7_method_18_code 30 = .ok (.iaload, 1) := by decide +kernel
theorem d_M_keepWas_31 : decode prog_7_method_18_code 31 = .ok (.iastore, 1) := by decide +kernel
theorem d_M_keepWas_32 : decode prog_7_method_18_code 32 = .ok (.iinc 1 1, 3) := by decide +kernel
theorem d_M_keepWas_35 : decode prog_7_method_18_code 35 = .ok (.goto (-33), 3) := by decide +kernel
theorem d_M_keepWas_38 : decode prog_7_method_18_code 38 = .ok (.return_, 1) := by decide +kernel
theorem d_M_search_0 : decode prog_7_method_23_code 0 = .ok (.aload_n 0, 1) := by decide +kernel
theorem d_M_search_1 : decode prog_7_method_23_code 1 = .ok (.invokevirtual 147, 3) := by decide +kernel
theorem d_M_search_4 : decode prog_7_method_23_code 4 = .ok (.aload_n 0, 1) := by decide +kernel
theorem d_M_search_5 : decode prog_7_method_23_code 5 = .ok (.aload_n 0, 1) := by decide +kernel
theorem d_M_search_6 : decode prog_7_method_23_code 6 = .ok (.getfield 96, 3) := by decide +kernel
theorem d_M_search_9 : decode prog_7_method_23_code 9 = .ok (.invokevirtual 125, 3) := by decide +kernel
theorem d_M_search_12 : decode prog_7_method_23_code 12 = .ok (.lstore_n 2, 1) := by decide +kernel
theorem d_M_search_13 : decode prog_7_method_23_code 13 = .ok (.aload_n 0, 1) := by decide +kernel
theorem d_M_search_14 : decode prog_7_method_23_code 14 = .ok (.invokevirtual 150, 3) := by decide +kernel
theorem d_M_search_17 : decode prog_7_method_23_code 17 = .ok (.aload_n 0, 1) := by decide +kernel
theorem d_M_search_18 : decode prog_7_method_23_code 18 = .ok (.iconst 0, 1) := by decide +kernel
theorem d_M_search_19 : decode prog_7_method_23_code 19 = .ok (.putfield 153, 3) := by decide +kernel
theorem d_M_search_22 : decode prog_7_method_23_code 22 = .ok (.iconst 0, 1) := by decide +kernel
theorem d_M_search_23 : decode prog_7_method_23_code 23 = .ok (.istore 4, 2) := by decide +kernel
theorem d_M_search_25 : decode prog_7_method_23_code 25 = .ok (.iload 4, 2) := by decide +kernel
theorem d_M_search_27 : decode prog_7_method_23_code 27 = .ok (.aload_n 0, 1) := by decide +kernel
theorem d_M_search_28 : decode prog_7_method_23_code 28 = .ok (.getfield 96, 3) := by decide +kernel
theorem d_M_search_31 : decode prog_7_method_23_code 31 = .ok (.if_icmp .ge 17, 3) := by decide +kernel
theorem d_M_search_34 : decode prog_7_method_23_code 34 = .ok (.aload_n 0, 1) := by decide +kernel
theorem d_M_search_35 : decode prog_7_method_23_code 35 = .ok (.getfield 73, 3) := by decide +kernel
theorem d_M_search_38 : decode prog_7_method_23_code 38 = .ok (.iload 4, 2) := by decide +kernel
theorem d_M_search_40 : decode prog_7_method_23_code 40 = .ok (.iconst 0, 1) := by decide +kernel
theorem d_M_search_41 : decode prog_7_method_23_code 41 = .ok (.bastore, 1) := by decide +kernel
theorem d_M_search_42 : decode prog_7_method_23_code 42 = .ok (.iinc 4 1, 3) := by decide +kernel
theorem d_M_search_45 : decode prog_7_method_23_code 45 = .ok (.goto (-20), 3) := by decide +kernel
theorem d_M_search_48 : decode prog_7_method_23_code 48 = .ok (.iconst 0, 1) := by decide +kernel
theorem d_M_search_49 : decode prog_7_method_23_code 49 = .ok (.istore 4, 2) := by decide +kernel
theorem d_M_search_51 : decode prog_7_method_23_code 51 = .ok (.aload_n 0, 1) := by decide +kernel
theorem d_M_search_52 : decode prog_7_method_23_code 52 = .ok (.getfield 70, 3) := by decide +kernel
theorem d_M_search_55 : decode prog_7_method_23_code 55 = .ok (.iconst 0, 1) := by decide +kernel
theorem d_M_search_56 : decode prog_7_method_23_code 56 = .ok (.iconst 0, 1) := by decide +kernel
theorem d_M_search_57 : decode prog_7_method_23_code 57 = .ok (.iastore, 1) := by decide +kernel
theorem d_M_search_58 : decode prog_7_method_23_code 58 = .ok (.iload 4, 2) := by decide +kernel
theorem d_M_search_60 : decode prog_7_method_23_code 60 = .ok (.ifCond .lt 198, 3) := by decide +kernel
theorem d_M_search_63 : decode prog_7_method_23_code 63 = .ok (.aload_n 0, 1) := by decide +kernel
theorem d_M_search_64 : decode prog_7_method_23_code 64 = .ok (.getfield 70, 3) := by decide +kernel
theorem d_M_search_67 : decode prog_7_method_23_code 67 = .ok (.iload 4, 2) := by decide +kernel
theorem d_M_search_69 : decode prog_7_method_23_code 69 = .ok (.iaload, 1) := by decide +kernel
theorem d_M_search_70 : decode prog_7_method_23_code 70 = .ok (.istore 5, 2) := by decide +kernel
theorem d_M_search_72 : decode prog_7_method_23_code 72 = .ok (.iload 5, 2) := by decide +kernel
theorem d_M_search_74 : decode prog_7_method_23_code 74 = .ok (.aload_n 0, 1) := by decide +kernel
theorem d_M_search_75 : decode prog_7_method_23_code 75 = .ok (.getfield 96, 3) := by decide +kernel
theorem d_M_search_78 : decode prog_7_method_23_code 78 = .ok (.if_icmp .ne 38, 3) := by decide +kernel
theorem d_M_search_81 : decode prog_7_method_23_code 81 = .ok (.iinc 4 (-1), 3) := by decide +kernel
theorem d_M_search_84 : decode prog_7_method_23_code 84 = .ok (.iload 4, 2) := by decide +kernel
theorem d_M_search_86 : decode prog_7_method_23_code 86 = .ok (.ifCond .lt 169, 3) := by decide +kernel
theorem d_M_search_89 : decode prog_7_method_23_code 89 = .ok (.aload_n 0, 1) := by decide +kernel
theorem d_M_search_90 : decode prog_7_method_23_code 90 = .ok (.getfield 73, 3) := by decide +kernel
theorem d_M_search_93 : decode prog_7_method_23_code 93 = .ok (.aload_n 0, 1) := by decide +kernel
theorem d_M_search_94 : decode prog_7_method_23_code 94 = .ok (.getfield 67, 3) := by decide +kernel
theorem d_M_search_97 : decode prog_7_method_23_code 97 = .ok (.iload 4, 2) := by decide +kernel
theorem d_M_search_99 : decode prog_7_method_23_code 99 = .ok (.iaload, 1) := by decide +kernel
theorem d_M_search_100 : decode prog_7_method_23_code 100 = .ok (.iconst 0, 1) := by decide +kernel
theorem d_M_search_101 : decode prog_7_method_23_code 101 = .ok (.bastore, 1) := by decide +kernel
theorem d_M_search_102 : decode prog_7_method_23_code 102 = .ok (.aload_n 0, 1) := by decide +kernel
theorem d_M_search_103 : decode prog_7_method_23_code 103 = .ok (.getfield 70, 3) := by decide +kernel
theorem d_M_search_106 : decode prog_7_method_23_code 106 = .ok (.iload 4, 2) := by decide +kernel
theorem d_M_search_108 : decode prog_7_method_23_code 108 = .ok (.dup2, 1) := by decide +kernel
theorem d_M_search_109 : decode prog_7_method_23_code 109 = .ok (.iaload, 1) := by decide +kernel
theorem d_M_search_110 : decode prog_7_method_23_code 110 = .ok (.iconst 1, 1) := by decide +kernel
theorem d_M_search_111 : decode prog_7_method_23_code 111 = .ok (.iadd, 1) := by decide +kernel
theorem d_M_search_112 : decode prog_7_method_23_code 112 = .ok (.iastore, 1) := by decide +kernel
theorem d_M_search_113 : decode prog_7_method_23_code 113 = .ok (.goto 142, 3) := by decide +kernel
theorem d_M_search_116 : decode prog_7_method_23_code 116 = .ok (.aload_n 0, 1) := by decide +kernel
theorem d_M_search_117 : decode prog_7_method_23_code 117 = .ok (.getfield 73, 3) := by decide +kernel
theorem d_M_search_120 : decode prog_7_method_23_code 120 = .ok (.iload 5, 2) := by decide +kernel
theorem d_M_search_122 : decode prog_7_method_23_code 122 = .ok (.baload, 1) := by decide +kernel
theorem d_M_search_123 : decode prog_7_method_23_code 123 = .ok (.ifCond .eq 17, 3) := by decide +kernel
theorem d_M_search_126 : decode prog_7_method_23_code 126 = .ok (.aload_n 0, 1) := by decide +kernel
theorem d_M_search_127 : decode prog_7_method_23_code 127 = .ok (.getfield 70, 3) := by decide +kernel
theorem d_M_search_130 : decode prog_7_method_23_code 130 = .ok (.iload 4, 2) := by decide +kernel
theorem d_M_search_132 : decode prog_7_method_23_code 132 = .ok (.dup2, 1) := by decide +kernel
theorem d_M_search_133 : decode prog_7_method_23_code 133 = .ok (.iaload, 1) := by decide +kernel
theorem d_M_search_134 : decode prog_7_method_23_code 134 = .ok (.iconst 1, 1) := by decide +kernel
theorem d_M_search_135 : decode prog_7_method_23_code 135 = .ok (.iadd, 1) := by decide +kernel
theorem d_M_search_136 : decode prog_7_method_23_code 136 = .ok (.iastore, 1) := by decide +kernel
theorem d_M_search_137 : decode prog_7_method_23_code 137 = .ok (.goto 118, 3) := by decide +kernel
theorem d_M_search_140 : decode prog_7_method_23_code 140 = .ok (.aload_n 0, 1) := by decide +kernel
theorem d_M_search_141 : decode prog_7_method_23_code 141 = .ok (.getfield 153, 3) := by decide +kernel
theorem d_M_search_144 : decode prog_7_method_23_code 144 = .ok (.iload_n 1, 1) := by decide +kernel
theorem d_M_search_145 : decode prog_7_method_23_code 145 = .ok (.if_icmp .ne 5, 3) := by decide +kernel
theorem d_M_search_148 : decode prog_7_method_23_code 148 = .ok (.iconst 1, 1) := by decide +kernel
theorem d_M_search_149 : decode prog_7_method_23_code 149 = .ok (.ireturn, 1) := by decide +kernel
theorem d_M_search_150 : decode prog_7_method_23_code 150 = .ok (.aload_n 0, 1) := by decide +kernel
theorem d_M_search_151 : decode prog_7_method_23_code 151 = .ok (.dup, 1) := by decide +kernel
theorem d_M_search_152 : decode prog_7_method_23_code 152 = .ok (.getfield 153, 3) := by decide +kernel
theorem d_M_search_155 : decode prog_7_method_23_code 155 = .ok (.iconst 1, 1) := by decide +kernel
theorem d_M_search_156 : decode prog_7_method_23_code 156 = .ok (.iadd, 1) := by decide +kernel
theorem d_M_search_157 : decode prog_7_method_23_code 157 = .ok (.putfield 153, 3) := by decide +kernel
theorem d_M_search_160 : decode prog_7_method_23_code 160 = .ok (.aload_n 0, 1) := by decide +kernel
theorem d_M_search_161 : decode prog_7_method_23_code 161 = .ok (.getfield 67, 3) := by decide +kernel
theorem d_M_search_164 : decode prog_7_method_23_code 164 = .ok (.iload 4, 2) := by decide +kernel
theorem d_M_search_166 : decode prog_7_method_23_code 166 = .ok (.iload 5, 2) := by decide +kernel
theorem d_M_search_168 : decode prog_7_method_23_code 168 = .ok (.iastore, 1) := by decide +kernel
theorem d_M_search_169 : decode prog_7_method_23_code 169 = .ok (.aload_n 0, 1) := by decide +kernel
theorem d_M_search_170 : decode prog_7_method_23_code 170 = .ok (.iload 4, 2) := by decide +kernel
theorem d_M_search_172 : decode prog_7_method_23_code 172 = .ok (.iconst 1, 1) := by decide +kernel
theorem d_M_search_173 : decode prog_7_method_23_code 173 = .ok (.iadd, 1) := by decide +kernel
theorem d_M_search_174 : decode prog_7_method_23_code 174 = .ok (.invokevirtual 156, 3) := by decide +kernel
theorem d_M_search_177 : decode prog_7_method_23_code 177 = .ok (.lstore 6, 2) := by decide +kernel
theorem d_M_search_179 : decode prog_7_method_23_code 179 = .ok (.lload 6, 2) := by decide +kernel
theorem d_M_search_181 : decode prog_7_method_23_code 181 = .ok (.lload_n 2, 1) := by decide +kernel
theorem d_M_search_182 : decode prog_7_method_23_code 182 = .ok (.lcmp, 1) := by decide +kernel
theorem d_M_search_183 : decode prog_7_method_23_code 183 = .ok (.ifCond .ge 21, 3) := by decide +kernel
theorem d_M_search_186 : decode prog_7_method_23_code 186 = .ok (.iload 4, 2) := by decide +kernel
theorem d_M_search_188 : decode prog_7_method_23_code 188 = .ok (.iconst 1, 1) := by decide +kernel
theorem d_M_search_189 : decode prog_7_method_23_code 189 = .ok (.iadd, 1) := by decide +kernel
theorem d_M_search_190 : decode prog_7_method_23_code 190 = .ok (.aload_n 0, 1) := by decide +kernel
theorem d_M_search_191 : decode prog_7_method_23_code 191 = .ok (.getfield 96, 3) := by decide +kernel
theorem d_M_search_194 : decode prog_7_method_23_code 194 = .ok (.if_icmp .ne 10, 3) := by decide +kernel
theorem d_M_search_197 : decode prog_7_method_23_code 197 = .ok (.lload 6, 2) := by decide +kernel
theorem d_M_search_199 : decode prog_7_method_23_code 199 = .ok (.lstore_n 2, 1) := by decide +kernel
theorem d_M_search_200 : decode prog_7_method_23_code 200 = .ok (.aload_n 0, 1) := by decide +kernel
theorem d_M_search_201 : decode prog_7_method_23_code 201 = .ok (.invokevirtual 150, 3) := by decide +kernel
theorem d_M_search_204 : decode prog_7_method_23_code 204 = .ok (.lload 6, 2) := by decide +kernel
theorem d_M_search_206 : decode prog_7_method_23_code 206 = .ok (.lload_n 2, 1) := by decide +kernel
theorem d_M_search_207 : decode prog_7_method_23_code 207 = .ok (.lcmp, 1) := by decide +kernel
theorem d_M_search_208 : decode prog_7_method_23_code 208 = .ok (.ifCond .ge 36, 3) := by decide +kernel
theorem d_M_search_211 : decode prog_7_method_23_code 211 = .ok (.iload 4, 2) := by decide +kernel
theorem d_M_search_213 : decode prog_7_method_23_code 213 = .ok (.iconst 1, 1) := by decide +kernel
theorem d_M_search_214 : decode prog_7_method_23_code 214 = .ok (.iadd, 1) := by decide +kernel
theorem d_M_search_215 : decode prog_7_method_23_code 215 = .ok (.aload_n 0, 1) := by decide +kernel
theorem d_M_search_216 : decode prog_7_method_23_code 216 = .ok (.getfield 96, 3) := by decide +kernel
theorem d_M_search_219 : decode prog_7_method_23_code 219 = .ok (.if_icmp .ge 25, 3) := by decide +kernel
theorem d_M_search_222 : decode prog_7_method_23_code 222 = .ok (.aload_n 0, 1) := by decide +kernel
theorem d_M_search_223 : decode prog_7_method_23_code 223 = .ok (.getfield 73, 3) := by decide +kernel
theorem d_M_search_226 : decode prog_7_method_23_code 226 = .ok (.iload 5, 2) := by decide +kernel
theorem d_M_search_228 : decode prog_7_method_23_code 228 = .ok (.iconst 1, 1) := by decide +kernel
theorem d_M_search_229 : decode prog_7_method_23_code 229 = .ok (.bastore, 1) := by decide +kernel
theorem d_M_search_230 : decode prog_7_method_23_code 230 = .ok (.iinc 4 1, 3) := by decide +kernel
theorem d_M_search_233 : decode prog_7_method_23_code 233 = .ok (.aload_n 0, 1) := by decide +kernel
theorem d_M_search_234 : decode prog_7_method_23_code 234 = .ok (.getfield 70, 3) := by decide +kernel
theorem d_M_search_237 : decode prog_7_method_23_code 237 = .ok (.iload 4, 2) := by decide +kernel
theorem d_M_search_239 : decode prog_7_method_23_code 239 = .ok (.iconst 0, 1) := by decide +kernel
theorem d_M_search_240 : decode prog_7_method_23_code 240 = .ok (.iastore, 1) := by decide +kernel
theorem d_M_search_241 : decode prog_7_method_23_code 241 = .ok (.goto 14, 3) := by decide +kernel
theorem d_M_search_244 : decode prog_7_method_23_code 244 = .ok (.aload_n 0, 1) := by decide +kernel
theorem d_M_search_245 : decode prog_7_method_23_code 245 = .ok (.getfield 70, 3) := by decide +kernel
theorem d_M_search_248 : decode prog_7_method_23_code 248 = .ok (.iload 4, 2) := by decide +kernel
theorem d_M_search_250 : decode prog_7_method_23_code 250 = .ok (.dup2, 1) := by decide +kernel
theorem d_M_search_251 : decode prog_7_method_23_code 251 = .ok (.iaload, 1) := by decide +kernel
theorem d_M_search_252 : decode prog_7_method_23_code 252 = .ok (.iconst 1, 1) := by decide +kernel
theorem d_M_search_253 : decode prog_7_method_23_code 253 = .ok (.iadd, 1) := by decide +kernel
theorem d_M_search_254 : decode prog_7_method_23_code 254 = .ok (.iastore, 1) := by decide +kernel
theorem d_M_search_255 : decode prog_7_method_23_code 255 = .ok (.goto (-197), 3) := by decide +kernel
theorem d_M_search_258 : decode prog_7_method_23_code 258 = .ok (.iconst 0, 1) := by decide +kernel
theorem d_M_search_259 : decode prog_7_method_23_code 259 = .ok (.ireturn, 1) := by decide +kernel
theorem d_M_layByDue_0 : decode prog_7_method_20_code 0 = .ok (.iconst 0, 1) := by decide +kernel
theorem d_M_layByDue_1 : decode prog_7_method_20_code 1 = .ok (.istore_n 1, 1) := by decide +kernel
theorem d_M_layByDue_2 : decode prog_7_method_20_code 2 = .ok (.iload_n 1, 1) := by decide +kernel
theorem d_M_layByDue_3 : decode prog_7_method_20_code 3 = .ok (.aload_n 0, 1) := by decide +kernel
theorem d_M_layByDue_4 : decode prog_7_method_20_code 4 = .ok (.getfield 96, 3) := by decide +kernel
theorem d_M_layByDue_7 : decode prog_7_method_20_code 7 = .ok (.if_icmp .ge 16, 3) := by decide +kernel
theorem d_M_layByDue_10 : decode prog_7_method_20_code 10 = .ok (.aload_n 0, 1) := by decide +kernel
theorem d_M_layByDue_11 : decode prog_7_method_20_code 11 = .ok (.getfield 73, 3) := by decide +kernel
theorem d_M_layByDue_14 : decode prog_7_method_20_code 14 = .ok (.iload_n 1, 1) := by decide +kernel
theorem d_M_layByDue_15 : decode prog_7_method_20_code 15 = .ok (.iconst 0, 1) := by decide +kernel
theorem d_M_layByDue_16 : decode prog_7_method_20_code 16 = .ok (.bastore, 1) := by decide +kernel
theorem d_M_layByDue_17 : decode prog_7_method_20_code 17 = .ok (.iinc 1 1, 3) := by decide +kernel
theorem d_M_layByDue_20 : decode prog_7_method_20_code 20 = .ok (.goto (-18), 3) := by decide +kernel
theorem d_M_layByDue_23 : decode prog_7_method_20_code 23 = .ok (.iconst 0, 1) := by decide +kernel
theorem d_M_layByDue_24 : decode prog_7_method_20_code 24 = .ok (.istore_n 1, 1) := by decide +kernel
theorem d_M_layByDue_25 : decode prog_7_method_20_code 25 = .ok (.iload_n 1, 1) := by decide +kernel
theorem d_M_layByDue_26 : decode prog_7_method_20_code 26 = .ok (.aload_n 0, 1) := by decide +kernel
theorem d_M_layByDue_27 : decode prog_7_method_20_code 27 = .ok (.getfield 96, 3) := by decide +kernel
theorem d_M_layByDue_30 : decode prog_7_method_20_code 30 = .ok (.if_icmp .ge 76, 3) := by decide +kernel
theorem d_M_layByDue_33 : decode prog_7_method_20_code 33 = .ok (.iconst (-1), 1) := by decide +kernel
theorem d_M_layByDue_34 : decode prog_7_method_20_code 34 = .ok (.istore_n 2, 1) := by decide +kernel
theorem d_M_layByDue_35 : decode prog_7_method_20_code 35 = .ok (.iconst 0, 1) := by decide +kernel
theorem d_M_layByDue_36 : decode prog_7_method_20_code 36 = .ok (.istore_n 3, 1) := by decide +kernel
theorem d_M_layByDue_37 : decode prog_7_method_20_code 37 = .ok (.iload_n 3, 1) := by decide +kernel
theorem d_M_layByDue_38 : decode prog_7_method_20_code 38 = .ok (.aload_n 0, 1) := by decide +kernel
theorem d_M_layByDue_39 : decode prog_7_method_20_code 39 = .ok (.getfield 96, 3) := by decide +kernel
theorem d_M_layByDue_42 : decode prog_7_method_20_code 42 = .ok (.if_icmp .ge 44, 3) := by decide +kernel
theorem d_M_layByDue_45 : decode prog_7_method_20_code 45 = .ok (.aload_n 0, 1) := by decide +kernel
theorem d_M_layByDue_46 : decode prog_7_method_20_code 46 = .ok (.getfield 73, 3) := by decide +kernel
theorem d_M_layByDue_49 : decode prog_7_method_20_code 49 = .ok (.iload_n 3, 1) := by decide +kernel
theorem d_M_layByDue_50 : decode prog_7_method_20_code 50 = .ok (.baload, 1) := by decide +kernel
theorem d_M_layByDue_51 : decode prog_7_method_20_code 51 = .ok (.ifCond .ne 27, 3) := by decide +kernel
theorem d_M_layByDue_54 : decode prog_7_method_20_code 54 = .ok (.iload_n 2, 1) := by decide +kernel
theorem d_M_layByDue_55 : decode prog_7_method_20_code 55 = .ok (.iconst (-1), 1) := by decide +kernel
theorem d_M_layByDue_56 : decode prog_7_method_20_code 56 = .ok (.if_icmp .eq 18, 3) := by decide +kernel
theorem d_M_layByDue_59 : decode prog_7_method_20_code 59 = .ok (.aload_n 0, 1) := by decide +kernel
theorem d_M_layByDue_60 : decode prog_7_method_20_code 60 = .ok (.getfield 22, 3) := by decide +kernel
theorem d_M_layByDue_63 : decode prog_7_method_20_code 63 = .ok (.iload_n 3, 1) := by decide +kernel
theorem d_M_layByDue_64 : decode prog_7_method_20_code 64 = .ok (.iaload, 1) := by decide +kernel
theorem d_M_layByDue_65 : decode prog_7_method_20_code 65 = .ok (.aload_n 0, 1) := by decide +kernel
theorem d_M_layByDue_66 : decode prog_7_method_20_code 66 = .ok (.getfield 22, 3) := by decide +kernel
theorem d_M_layByDue_69 : decode prog_7_method_20_code 69 = .ok (.iload_n 2, 1) := by decide +kernel
theorem d_M_layByDue_70 : decode prog_7_method_20_code 70 = .ok (.iaload, 1) := by decide +kernel
theorem d_M_layByDue_71 : decode prog_7_method_20_code 71 = .ok (.if_icmp .ge 7, 3) := by decide +kernel
theorem d_M_layByDue_74 : decode prog_7_method_20_code 74 = .ok (.iload_n 3, 1) := by decide +kernel
theorem d_M_layByDue_75 : decode prog_7_method_20_code 75 = .ok (.goto 4, 3) := by decide +kernel
theorem d_M_layByDue_78 : decode prog_7_method_20_code 78 = .ok (.iload_n 2, 1) := by decide +kernel
theorem d_M_layByDue_79 : decode prog_7_method_20_code 79 = .ok (.istore_n 2, 1) := by decide +kernel
theorem d_M_layByDue_80 : decode prog_7_method_20_code 80 = .ok (.iinc 3 1, 3) := by decide +kernel
theorem d_M_layByDue_83 : decode prog_7_method_20_code 83 = .ok (.goto (-46), 3) := by decide +kernel
theorem d_M_layByDue_86 : decode prog_7_method_20_code 86 = .ok (.aload_n 0, 1) := by decide +kernel
theorem d_M_layByDue_87 : decode prog_7_method_20_code 87 = .ok (.getfield 67, 3) := by decide +kernel
theorem d_M_layByDue_90 : decode prog_7_method_20_code 90 = .ok (.iload_n 1, 1) := by decide +kernel
theorem d_M_layByDue_91 : decode prog_7_method_20_code 91 = .ok (.iload_n 2, 1) := by decide +kernel
theorem d_M_layByDue_92 : decode prog_7_method_20_code 92 = .ok (.iastore, 1) := by decide +kernel
theorem d_M_layByDue_93 : decode prog_7_method_20_code 93 = .ok (.aload_n 0, 1) := by decide +kernel
theorem d_M_layByDue_94 : decode prog_7_method_20_code 94 = .ok (.getfield 73, 3) := by decide +kernel
theorem d_M_layByDue_97 : decode prog_7_method_20_code 97 = .ok (.iload_n 2, 1) := by decide +kernel
theorem d_M_layByDue_98 : decode prog_7_method_20_code 98 = .ok (.iconst 1, 1) := by decide +kernel
theorem d_M_layByDue_99 : decode prog_7_method_20_code 99 = .ok (.bastore, 1) := by decide +kernel
theorem d_M_layByDue_100 : decode prog_7_method_20_code 100 = .ok (.iinc 1 1, 3) := by decide +kernel
theorem d_M_layByDue_103 : decode prog_7_method_20_code 103 = .ok (.goto (-78), 3) := by decide +kernel
theorem d_M_layByDue_106 : decode prog_7_method_20_code 106 = .ok (.return_, 1) := by decide +kernel
theorem d_M_costOfRow_0 : decode prog_7_method_14_code 0 = .ok (.aload_n 0, 1) := by decide +kernel
theorem d_M_costOfRow_1 : decode prog_7_method_14_code 1 = .ok (.invokevirtual 110, 3) := by decide +kernel
theorem d_M_costOfRow_4 : decode prog_7_method_14_code 4 = .ok (.lconst 0, 1) := by decide +kernel
theorem d_M_costOfRow_5 : decode prog_7_method_14_code 5 = .ok (.lstore_n 2, 1) := by decide +kernel
theorem d_M_costOfRow_6 : decode prog_7_method_14_code 6 = .ok (.iconst 0, 1) := by decide +kernel
theorem d_M_costOfRow_7 : decode prog_7_method_14_code 7 = .ok (.istore 4, 2) := by decide +kernel
theorem d_M_costOfRow_9 : decode prog_7_method_14_code 9 = .ok (.iload 4, 2) := by decide +kernel
theorem d_M_costOfRow_11 : decode prog_7_method_14_code 11 = .ok (.iload_n 1, 1) := by decide +kernel
theorem d_M_costOfRow_12 : decode prog_7_method_14_code 12 = .ok (.if_icmp .ge 34, 3) := by decide +kernel
theorem d_M_costOfRow_15 : decode prog_7_method_14_code 15 = .ok (.lload_n 2, 1) := by decide +kernel
theorem d_M_costOfRow_16 : decode prog_7_method_14_code 16 = .ok (.aload_n 0, 1) := by decide +kernel
theorem d_M_costOfRow_17 : decode prog_7_method_14_code 17 = .ok (.aload_n 0, 1) := by decide +kernel
theorem d_M_costOfRow_18 : decode prog_7_method_14_code 18 = .ok (.getfield 67, 3) := by decide +kernel
theorem d_M_costOfRow_21 : decode prog_7_method_14_code 21 = .ok (.iload 4, 2) := by decide +kernel
theorem d_M_costOfRow_23 : decode prog_7_method_14_code 23 = .ok (.iaload, 1) := by decide +kernel
theorem d_M_costOfRow_24 : decode prog_7_method_14_code 24 = .ok (.aload_n 0, 1) := by decide +kernel
theorem d_M_costOfRow_25 : decode prog_7_method_14_code 25 = .ok (.aload_n 0, 1) := by decide +kernel
theorem d_M_costOfRow_26 : decode prog_7_method_14_code 26 = .ok (.getfield 67, 3) := by decide +kernel
theorem d_M_costOfRow_29 : decode prog_7_method_14_code 29 = .ok (.iload 4, 2) := by decide +kernel
theorem d_M_costOfRow_31 : decode prog_7_method_14_code 31 = .ok (.iaload, 1) := by decide +kernel
theorem d_M_costOfRow_32 : decode prog_7_method_14_code 32 = .ok (.invokevirtual 113, 3) := by decide +kernel
theorem d_M_costOfRow_35 : decode prog_7_method_14_code 35 = .ok (.invokevirtual 117, 3) := by decide +kernel
theorem d_M_costOfRow_38 : decode prog_7_method_14_code 38 = .ok (.ladd, 1) := by decide +kernel
theorem d_M_costOfRow_39 : decode prog_7_method_14_code 39 = .ok (.lstore_n 2, 1) := by decide +kernel
theorem d_M_costOfRow_40 : decode prog_7_method_14_code 40 = .ok (.iinc 4 1, 3) := by decide +kernel
theorem d_M_costOfRow_43 : decode prog_7_method_14_code 43 = .ok (.goto (-34), 3) := by decide +kernel
theorem d_M_costOfRow_46 : decode prog_7_method_14_code 46 = .ok (.lload_n 2, 1) := by decide +kernel
theorem d_M_costOfRow_47 : decode prog_7_method_14_code 47 = .ok (.lreturn, 1) := by decide +kernel
theorem d_M_clearBoard_0 : decode prog_7_method_9_code 0 = .ok (.iconst 0, 1) := by decide +kernel
theorem d_M_clearBoard_1 : decode prog_7_method_9_code 1 = .ok (.istore_n 1, 1) := by decide +kernel
theorem d_M_clearBoard_2 : decode prog_7_method_9_code 2 = .ok (.iload_n 1, 1) := by decide +kernel
theorem d_M_clearBoard_3 : decode prog_7_method_9_code 3 = .ok (.bipush 24, 2) := by decide +kernel
theorem d_M_clearBoard_5 : decode prog_7_method_9_code 5 = .ok (.if_icmp .ge 23, 3) := by decide +kernel
theorem d_M_clearBoard_8 : decode prog_7_method_9_code 8 = .ok (.aload_n 0, 1) := by decide +kernel
theorem d_M_clearBoard_9 : decode prog_7_method_9_code 9 = .ok (.getfield 46, 3) := by decide +kernel
theorem d_M_clearBoard_12 : decode prog_7_method_9_code 12 = .ok (.iload_n 1, 1) := by decide +kernel
theorem d_M_clearBoard_13 : decode prog_7_method_9_code 13 = .ok (.iconst (-1), 1) := by decide +kernel
theorem d_M_clearBoard_14 : decode prog_7_method_9_code 14 = .ok (.iastore, 1) := by decide +kernel
theorem d_M_clearBoard_15 : decode prog_7_method_9_code 15 = .ok (.aload_n 0, 1) := by decide +kernel
theorem d_M_clearBoard_16 : decode prog_7_method_9_code 16 = .ok (.getfield 49, 3) := by decide +kernel
theorem d_M_clearBoard_19 : decode prog_7_method_9_code 19 = .ok (.iload_n 1, 1) := by decide +kernel
theorem d_M_clearBoard_20 : decode prog_7_method_9_code 20 = .ok (.iconst (-1), 1) := by decide +kernel
theorem d_M_clearBoard_21 : decode prog_7_method_9_code 21 = .ok (.iastore, 1) := by decide +kernel
theorem d_M_clearBoard_22 : decode prog_7_method_9_code 22 = .ok (.iinc 1 1, 3) := by decide +kernel
theorem d_M_clearBoard_25 : decode prog_7_method_9_code 25 = .ok (.goto (-23), 3) := by decide +kernel
theorem d_M_clearBoard_28 : decode prog_7_method_9_code 28 = .ok (.return_, 1) := by decide +kernel
theorem d_M_place_0 : decode prog_7_method_12_code 0 = .ok (.iconst 0, 1) := by decide +kernel
theorem d_M_place_1 : decode prog_7_method_12_code 1 = .ok (.istore_n 2, 1) := by decide +kernel
theorem d_M_place_2 : decode prog_7_method_12_code 2 = .ok (.iconst 0, 1) := by decide +kernel
theorem d_M_place_3 : decode prog_7_method_12_code 3 = .ok (.istore_n 3, 1) := by decide +kernel
theorem d_M_place_4 : decode prog_7_method_12_code 4 = .ok (.iconst 0, 1) := by decide +kernel
theorem d_M_place_5 : decode prog_7_method_12_code 5 = .ok (.istore 4, 2) := by decide +kernel
theorem d_M_place_7 : decode prog_7_method_12_code 7 = .ok (.iload 4, 2) := by decide +kernel
theorem d_M_place_9 : decode prog_7_method_12_code 9 = .ok (.aload_n 0, 1) := by decide +kernel
theorem d_M_place_10 : decode prog_7_method_12_code 10 = .ok (.getfield 28, 3) := by decide +kernel
theorem d_M_place_13 : decode prog_7_method_12_code 13 = .ok (.iload_n 1, 1) := by decide +kernel
theorem d_M_place_14 : decode prog_7_method_12_code 14 = .ok (.iaload, 1) := by decide +kernel
theorem d_M_place_15 : decode prog_7_method_12_code 15 = .ok (.if_icmp .ge 160, 3) := by decide +kernel
theorem d_M_place_18 : decode prog_7_method_12_code 18 = .ok (.aload_n 0, 1) := by decide +kernel
theorem d_M_place_19 : decode prog_7_method_12_code 19 = .ok (.getfield 31, 3) := by decide +kernel
theorem d_M_place_22 : decode prog_7_method_12_code 22 = .ok (.iconst 4, 1) := by decide +kernel
theorem d_M_place_23 : decode prog_7_method_12_code 23 = .ok (.iload_n 1, 1) := by decide +kernel
theorem d_M_place_24 : decode prog_7_method_12_code 24 = .ok (.imul, 1) := by decide +kernel
theorem d_M_place_25 : decode prog_7_method_12_code 25 = .ok (.iload 4, 2) := by decide +kernel
theorem d_M_place_27 : decode prog_7_method_12_code 27 = .ok (.iadd, 1) := by decide +kernel
theorem d_M_place_28 : decode prog_7_method_12_code 28 = .ok (.iaload, 1) := by decide +kernel
theorem d_M_place_29 : decode prog_7_method_12_code 29 = .ok (.istore 5, 2) := by decide +kernel
theorem d_M_place_31 : decode prog_7_method_12_code 31 = .ok (.iconst (-1), 1) := by decide +kernel
theorem d_M_place_32 : decode prog_7_method_12_code 32 = .ok (.istore 6, 2) := by decide +kernel
theorem d_M_place_34 : decode prog_7_method_12_code 34 = .ok (.iconst 0, 1) := by decide +kernel
theorem d_M_place_35 : decode prog_7_method_12_code 35 = .ok (.istore 7, 2) := by decide +kernel
theorem d_M_place_37 : decode prog_7_method_12_code 37 = .ok (.iconst 0, 1) := by decide +kernel
theorem d_M_place_38 : decode prog_7_method_12_code 38 = .ok (.istore 8, 2) := by decide +kernel
theorem d_M_place_40 : decode prog_7_method_12_code 40 = .ok (.iload 8, 2) := by decide +kernel
theorem d_M_place_42 : decode prog_7_method_12_code 42 = .ok (.aload_n 0, 1) := by decide +kernel
theorem d_M_place_43 : decode prog_7_method_12_code 43 = .ok (.getfield 89, 3) := by decide +kernel
theorem d_M_place_46 : decode prog_7_method_12_code 46 = .ok (.if_icmp .ge 84, 3) := by decide +kernel
theorem d_M_place_49 : decode prog_7_method_12_code 49 = .ok (.aload_n 0, 1) := by decide +kernel
theorem d_M_place_50 : decode prog_7_method_12_code 50 = .ok (.getfield 7, 3) := by decide +kernel
theorem d_M_place_53 : decode prog_7_method_12_code 53 = .ok (.iload 8, 2) := by decide +kernel
theorem d_M_place_55 : decode prog_7_method_12_code 55 = .ok (.iaload, 1) := by decide +kernel
theorem d_M_place_56 : decode prog_7_method_12_code 56 = .ok (.aload_n 0, 1) := by decide +kernel
theorem d_M_place_57 : decode prog_7_method_12_code 57 = .ok (.getfield 37, 3) := by decide +kernel
theorem d_M_place_60 : decode prog_7_method_12_code 60 = .ok (.iload 5, 2) := by decide +kernel
theorem d_M_place_62 : decode prog_7_method_12_code 62 = .ok (.iaload, 1) := by decide +kernel
theorem d_M_place_63 : decode prog_7_method_12_code 63 = .ok (.if_icmp .ne 20, 3) := by decide +kernel
theorem d_M_place_66 : decode prog_7_method_12_code 66 = .ok (.aload_n 0, 1) := by decide +kernel
theorem d_M_place_67 : decode prog_7_method_12_code 67 = .ok (.iload 8, 2) := by decide +kernel
theorem d_M_place_69 : decode prog_7_method_12_code 69 = .ok (.iload_n 2, 1) := by decide +kernel
theorem d_M_place_70 : decode prog_7_method_12_code 70 = .ok (.aload_n 0, 1) := by decide +kernel
theorem d_M_place_71 : decode prog_7_method_12_code 71 = .ok (.getfield 40, 3) := by decide +kernel
theorem d_M_place_74 : decode prog_7_method_12_code 74 = .ok (.iload 5, 2) := by decide +kernel
theorem d_M_place_76 : decode prog_7_method_12_code 76 = .ok (.iaload, 1) := by decide +kernel
theorem d_M_place_77 : decode prog_7_method_12_code 77 = .ok (.invokevirtual 106, 3) := by decide +kernel
theorem d_M_place_80 : decode prog_7_method_12_code 80 = .ok (.goto 4, 3) := by decide +kernel
theorem d_M_place_83 : decode prog_7_method_12_code 83 = .ok (.iconst 0, 1) := by decide +kernel
theorem d_M_place_84 : decode prog_7_method_12_code 84 = .ok (.istore 9, 2) := by decide +kernel
theorem d_M_place_86 : decode prog_7_method_12_code 86 = .ok (.aload_n 0, 1) := by decide +kernel
theorem d_M_place_87 : decode prog_7_method_12_code 87 = .ok (.getfield 7, 3) := by decide +kernel
theorem d_M_place_90 : decode prog_7_method_12_code 90 = .ok (.iload 8, 2) := by decide +kernel
theorem d_M_place_92 : decode prog_7_method_12_code 92 = .ok (.iaload, 1) := by decide +kernel
theorem d_M_place_93 : decode prog_7_method_12_code 93 = .ok (.aload_n 0, 1) := by decide +kernel
theorem d_M_place_94 : decode prog_7_method_12_code 94 = .ok (.getfield 37, 3) := by decide +kernel
theorem d_M_place_97 : decode prog_7_method_12_code 97 = .ok (.iload 5, 2) := by decide +kernel
theorem d_M_place_99 : decode prog_7_method_12_code 99 = .ok (.iaload, 1) := by decide +kernel
theorem d_M_place_100 : decode prog_7_method_12_code 100 = .ok (.if_icmp .ne 24, 3) := by decide +kernel
theorem d_M_place_103 : decode prog_7_method_12_code 103 = .ok (.iload 6, 2) := by decide +kernel
theorem d_M_place_105 : decode prog_7_method_12_code 105 = .ok (.iconst (-1), 1) := by decide +kernel
theorem d_M_place_106 : decode prog_7_method_12_code 106 = .ok (.if_icmp .eq 10, 3) := by decide +kernel
theorem d_M_place_109 : decode prog_7_method_12_code 109 = .ok (.iload 9, 2) := by decide +kernel
theorem d_M_place_111 : decode prog_7_method_12_code 111 = .ok (.iload 7, 2) := by decide +kernel
theorem d_M_place_113 : decode prog_7_method_12_code 113 = .ok (.if_icmp .ge 11, 3) := by decide +kernel
theorem d_M_place_116 : decode prog_7_method_12_code 116 = .ok (.iload 8, 2) := by decide +kernel
theorem d_M_place_118 : decode prog_7_method_12_code 118 = .ok (.istore 6, 2) := by decide +kernel
theorem d_M_place_120 : decode prog_7_method_12_code 120 = .ok (.iload 9, 2) := by decide +kernel
theorem d_M_place_122 : decode prog_7_method_12_code 122 = .ok (.istore 7, 2) := by decide +kernel
theorem d_M_place_124 : decode prog_7_method_12_code 124 = .ok (.iinc 8 1, 3) := by decide +kernel
theorem d_M_place_127 : decode prog_7_method_12_code 127 = .ok (.goto (-87), 3) := by decide +kernel
theorem d_M_place_130 : decode prog_7_method_12_code 130 = .ok (.aload_n 0, 1) := by decide +kernel
theorem d_M_place_131 : decode prog_7_method_12_code 131 = .ok (.getfield 46, 3) := by decide +kernel
theorem d_M_place_134 : decode prog_7_method_12_code 134 = .ok (.iload 5, 2) := by decide +kernel
theorem d_M_place_136 : decode prog_7_method_12_code 136 = .ok (.iload 7, 2) := by decide +kernel
theorem d_M_place_138 : decode prog_7_method_12_code 138 = .ok (.iastore, 1) := by decide +kernel
theorem d_M_place_139 : decode prog_7_method_12_code 139 = .ok (.aload_n 0, 1) := by decide +kernel
theorem d_M_place_140 : decode prog_7_method_12_code 140 = .ok (.getfield 49, 3) := by decide +kernel
theorem d_M_place_143 : decode prog_7_method_12_code 143 = .ok (.iload 5, 2) := by decide +kernel
theorem d_M_place_145 : decode prog_7_method_12_code 145 = .ok (.iload 6, 2) := by decide +kernel
theorem d_M_place_147 : decode prog_7_method_12_code 147 = .ok (.iastore, 1) := by decide +kernel
theorem d_M_place_148 : decode prog_7_method_12_code 148 = .ok (.iload 7, 2) := by decide +kernel
theorem d_M_place_150 : decode prog_7_method_12_code 150 = .ok (.aload_n 0, 1) := by decide +kernel
theorem d_M_place_151 : decode prog_7_method_12_code 151 = .ok (.getfield 40, 3) := by decide +kernel
theorem d_M_place_154 : decode prog_7_method_12_code 154 = .ok (.iload 5, 2) := by decide +kernel
theorem d_M_place_156 : decode prog_7_method_12_code 156 = .ok (.iaload, 1) := by decide +kernel
theorem d_M_place_157 : decode prog_7_method_12_code 157 = .ok (.iadd, 1) := by decide +kernel
theorem d_M_place_158 : decode prog_7_method_12_code 158 = .ok (.istore_n 3, 1) := by decide +kernel
theorem d_M_place_159 : decode prog_7_method_12_code 159 = .ok (.iload_n 3, 1) := by decide +kernel
theorem d_M_place_160 : decode prog_7_method_12_code 160 = .ok (.aload_n 0, 1) := by decide +kernel
theorem d_M_place_161 : decode prog_7_method_12_code 161 = .ok (.getfield 43, 3) := by decide +kernel
theorem d_M_place_164 : decode prog_7_method_12_code 164 = .ok (.iload 5, 2) := by decide +kernel
theorem d_M_place_166 : decode prog_7_method_12_code 166 = .ok (.iaload, 1) := by decide +kernel
theorem d_M_place_167 : decode prog_7_method_12_code 167 = .ok (.iadd, 1) := by decide +kernel
theorem d_M_place_168 : decode prog_7_method_12_code 168 = .ok (.istore_n 2, 1) := by decide +kernel
theorem d_M_place_169 : decode prog_7_method_12_code 169 = .ok (.iinc 4 1, 3) := by decide +kernel
theorem d_M_place_172 : decode prog_7_method_12_code 172 = .ok (.goto (-165), 3) := by decide +kernel
theorem d_M_place_175 : decode prog_7_method_12_code 175 = .ok (.iload_n 3, 1) := by decide +kernel
theorem d_M_place_176 : decode prog_7_method_12_code 176 = .ok (.ireturn, 1) := by decide +kernel
theorem d_M_freeFrom_0 : decode prog_7_method_11_code 0 = .ok (.iload_n 2, 1) := by decide +kernel
theorem d_M_freeFrom_1 : decode prog_7_method_11_code 1 = .ok (.istore 4, 2) := by decide +kernel
theorem d_M_freeFrom_3 : decode prog_7_method_11_code 3 = .ok (.iconst 1, 1) := by decide +kernel
theorem d_M_freeFrom_4 : decode prog_7_method_11_code 4 = .ok (.istore 5, 2) := by decide +kernel
theorem d_M_freeFrom_6 : decode prog_7_method_11_code 6 = .ok (.iload 5, 2) := by decide +kernel
theorem d_M_freeFrom_8 : decode prog_7_method_11_code 8 = .ok (.ifCond .eq 158, 3) := by decide +kernel
theorem d_M_freeFrom_11 : decode prog_7_method_11_code 11 = .ok (.iconst 0, 1) := by decide +kernel
theorem d_M_freeFrom_12 : decode prog_7_method_11_code 12 = .ok (.istore 5, 2) := by decide +kernel
theorem d_M_freeFrom_14 : decode prog_7_method_11_code 14 = .ok (.iconst 0, 1) := by decide +kernel
theorem d_M_freeFrom_15 : decode prog_7_method_11_code 15 = .ok (.istore 6, 2) := by decide +kernel
theorem d_M_freeFrom_17 : decode prog_7_method_11_code 17 = .ok (.iload 6, 2) := by decide +kernel
theorem d_M_freeFrom_19 : decode prog_7_method_11_code 19 = .ok (.aload_n 0, 1) := by decide +kernel
theorem d_M_freeFrom_20 : decode prog_7_method_11_code 20 = .ok (.getfield 99, 3) := by decide +kernel
theorem d_M_freeFrom_23 : decode prog_7_method_11_code 23 = .ok (.if_icmp .ge 74, 3) := by decide +kernel
theorem d_M_freeFrom_26 : decode prog_7_method_11_code 26 = .ok (.aload_n 0, 1) := by decide +kernel
theorem d_M_freeFrom_27 : decode prog_7_method_11_code 27 = .ok (.getfield 49, 3) := by decide +kernel
theorem d_M_freeFrom_30 : decode prog_7_method_11_code 30 = .ok (.iload 6, 2) := by decide +kernel
theorem d_M_freeFrom_32 : decode prog_7_method_11_code 32 = .ok (.iaload, 1) := by decide +kernel
theorem d_M_freeFrom_33 : decode prog_7_method_11_code 33 = .ok (.iload_n 1, 1) := by decide +kernel
theorem d_M_freeFrom_34 : decode prog_7_method_11_code 34 = .ok (.if_icmp .ne 57, 3) := by decide +kernel
theorem d_M_freeFrom_37 : decode prog_7_method_11_code 37 = .ok (.iload 4, 2) := by decide +kernel
theorem d_M_freeFrom_39 : decode prog_7_method_11_code 39 = .ok (.iload 4, 2) := by decide +kernel
theorem d_M_freeFrom_41 : decode prog_7_method_11_code 41 = .ok (.iload_n 3, 1) := by decide +kernel
theorem d_M_freeFrom_42 : decode prog_7_method_11_code 42 = .ok (.iadd, 1) := by decide +kernel
theorem d_M_freeFrom_43 : decode prog_7_method_11_code 43 = .ok (.aload_n 0, 1) := by decide +kernel
theorem d_M_freeFrom_44 : decode prog_7_method_11_code 44 = .ok (.getfield 46, 3) := by decide +kernel
theorem d_M_freeFrom_47 : decode prog_7_method_11_code 47 = .ok (.iload 6, 2) := by decide +kernel
theorem d_M_freeFrom_49 : decode prog_7_method_11_code 49 = .ok (.iaload, 1) := by decide +kernel
theorem d_M_freeFrom_50 : decode prog_7_method_11_code 50 = .ok (.aload_n 0, 1) := by decide +kernel
theorem d_M_freeFrom_51 : decode prog_7_method_11_code 51 = .ok (.getfield 46, 3) := by decide +kernel
theorem d_M_freeFrom_54 : decode prog_7_method_11_code 54 = .ok (.iload 6, 2) := by decide +kernel
theorem d_M_freeFrom_56 : decode prog_7_method_11_code 56 = .ok (.iaload, 1) := by decide +kernel
theorem d_M_freeFrom_57 : decode prog_7_method_11_code 57 = .ok (.aload_n 0, 1) := by decide +kernel
theorem d_M_freeFrom_58 : decode prog_7_method_11_code 58 = .ok (.getfield 40, 3) := by decide +kernel
theorem d_M_freeFrom_61 : decode prog_7_method_11_code 61 = .ok (.iload 6, 2) := by decide +kernel
theorem d_M_freeFrom_63 : decode prog_7_method_11_code 63 = .ok (.iaload, 1) := by decide +kernel
theorem d_M_freeFrom_64 : decode prog_7_method_11_code 64 = .ok (.iadd, 1) := by decide +kernel
theorem d_M_freeFrom_65 : decode prog_7_method_11_code 65 = .ok (.invokestatic 102, 3) := by decide +kernel
theorem d_M_freeFrom_68 : decode prog_7_method_11_code 68 = .ok (.ifCond .eq 23, 3) := by decide +kernel
theorem d_M_freeFrom_71 : decode prog_7_method_11_code 71 = .ok (.aload_n 0, 1) := by decide +kernel
theorem d_M_freeFrom_72 : decode prog_7_method_11_code 72 = .ok (.getfield 46, 3) := by decide +kernel
theorem d_M_freeFrom_75 : decode prog_7_method_11_code 75 = .ok (.iload 6, 2) := by decide +kernel
theorem d_M_freeFrom_77 : decode prog_7_method_11_code 77 = .ok (.iaload, 1) := by decide +kernel
theorem d_M_freeFrom_78 : decode prog_7_method_11_code 78 = .ok (.aload_n 0, 1) := by decide +kernel
theorem d_M_freeFrom_79 : decode prog_7_method_11_code 79 = .ok (.getfield 40, 3) := by decide +kernel
theorem d_M_freeFrom_82 : decode prog_7_method_11_code 82 = .ok (.iload 6, 2) := by decide +kernel
theorem d_M_freeFrom_84 : decode prog_7_method_11_code 84 = .ok (.iaload, 1) := by decide +kernel
theorem d_M_freeFrom_85 : decode prog_7_method_11_code 85 = .ok (.iadd, 1) := by decide +kernel
theorem d_M_freeFrom_86 : decode prog_7_method_11_code 86 = .ok (.istore 4, 2) := by decide +kernel
theorem d_M_freeFrom_88 : decode prog_7_method_11_code 88 = .ok (.iconst 1, 1) := by decide +kernel
theorem d_M_freeFrom_89 : decode prog_7_method_11_code 89 = .ok (.istore 5, 2) := by decide +kernel
theorem d_M_freeFrom_91 : decode prog_7_method_11_code 91 = .ok (.iinc 6 1, 3) := by decide +kernel
theorem d_M_freeFrom_94 : decode prog_7_method_11_code 94 = .ok (.goto (-77), 3) := by decide +kernel
theorem d_M_freeFrom_97 : decode prog_7_method_11_code 97 = .ok (.bipush 8, 2) := by decide +kernel
theorem d_M_freeFrom_99 : decode prog_7_method_11_code 99 = .ok (.iload_n 1, 1) := by decide +kernel
theorem d_M_freeFrom_100 : decode prog_7_method_11_code 100 = .ok (.imul, 1) := by decide +kernel
theorem d_M_freeFrom_101 : decode prog_7_method_11_code 101 = .ok (.istore 6, 2) := by decide +kernel
theorem d_M_freeFrom_103 : decode prog_7_method_11_code 103 = .ok (.iload 6, 2) := by decide +kernel
theorem d_M_freeFrom_105 : decode prog_7_method_11_code 105 = .ok (.bipush 8, 2) := by decide +kernel
theorem d_M_freeFrom_107 : decode prog_7_method_11_code 107 = .ok (.iload_n 1, 1) := by decide +kernel
theorem d_M_freeFrom_108 : decode prog_7_method_11_code 108 = .ok (.imul, 1) := by decide +kernel
theorem d_M_freeFrom_109 : decode prog_7_method_11_code 109 = .ok (.aload_n 0, 1) := by decide +kernel
theorem d_M_freeFrom_110 : decode prog_7_method_11_code 110 = .ok (.getfield 13, 3) := by decide +kernel
theorem d_M_freeFrom_113 : decode prog_7_method_11_code 113 = .ok (.iload_n 1, 1) := by decide +kernel
theorem d_M_freeFrom_114 : decode prog_7_method_11_code 114 = .ok (.iaload, 1) := by decide +kernel
theorem d_M_freeFrom_115 : decode prog_7_method_11_code 115 = .ok (.iadd, 1) := by decide +kernel
theorem d_M_freeFrom_116 : decode prog_7_method_11_code 116 = .ok (.if_icmp .ge 47, 3) := by decide +kernel
theorem d_M_freeFrom_119 : decode prog_7_method_11_code 119 = .ok (.iload 4, 2) := by decide +kernel
theorem d_M_freeFrom_121 : decode prog_7_method_11_code 121 = .ok (.iload 4, 2) := by decide +kernel
theorem d_M_freeFrom_123 : decode prog_7_method_11_code 123 = .ok (.iload_n 3, 1) := by decide +kernel
theorem d_M_freeFrom_124 : decode prog_7_method_11_code 124 = .ok (.iadd, 1) := by decide +kernel
theorem d_M_freeFrom_125 : decode prog_7_method_11_code 125 = .ok (.aload_n 0, 1) := by decide +kernel
theorem d_M_freeFrom_126 : decode prog_7_method_11_code 126 = .ok (.getfield 16, 3) := by decide +kernel
theorem d_M_freeFrom_129 : decode prog_7_method_11_code 129 = .ok (.iload 6, 2) := by decide +kernel
theorem d_M_freeFrom_131 : decode prog_7_method_11_code 131 = .ok (.iaload, 1) := by decide +kernel
theorem d_M_freeFrom_132 : decode prog_7_method_11_code 132 = .ok (.aload_n 0, 1) := by decide +kernel
theorem d_M_freeFrom_133 : decode prog_7_method_11_code 133 = .ok (.getfield 19, 3) := by decide +kernel
theorem d_M_freeFrom_136 : decode prog_7_method_11_code 136 = .ok (.iload 6, 2) := by decide +kernel
theorem d_M_freeFrom_138 : decode prog_7_method_11_code 138 = .ok (.iaload, 1) := by decide +kernel
theorem d_M_freeFrom_139 : decode prog_7_method_11_code 139 = .ok (.invokestatic 102, 3) := by decide +kernel
theorem d_M_freeFrom_142 : decode prog_7_method_11_code 142 = .ok (.ifCond .eq 15, 3) := by decide +kernel
theorem d_M_freeFrom_145 : decode prog_7_method_11_code 145 = .ok (.aload_n 0, 1) := by decide +kernel
theorem d_M_freeFrom_146 : decode prog_7_method_11_code 146 = .ok (.getfield 19, 3) := by decide +kernel
theorem d_M_freeFrom_149 : decode prog_7_method_11_code 149 = .ok (.iload 6, 2) := by decide +kernel
theorem d_M_freeFrom_151 : decode prog_7_method_11_code 151 = .ok (.iaload, 1) := by decide +kernel
theorem d_M_freeFrom_152 : decode prog_7_method_11_code 152 = .ok (.istore 4, 2) := by decide +kernel
theorem d_M_freeFrom_154 : decode prog_7_method_11_code 154 = .ok (.iconst 1, 1) := by decide +kernel
theorem d_M_freeFrom_155 : decode prog_7_method_11_code 155 = .ok (.istore 5, 2) := by decide +kernel
theorem d_M_freeFrom_157 : decode prog_7_method_11_code 157 = .ok (.iinc 6 1, 3) := by decide +kernel
theorem d_M_freeFrom_160 : decode prog_7_method_11_code 160 = .ok (.goto (-57), 3) := by decide +kernel
theorem d_M_freeFrom_163 : decode prog_7_method_11_code 163 = .ok (.goto (-157), 3) := by decide +kernel
theorem d_M_freeFrom_166 : decode prog_7_method_11_code 166 = .ok (.iload 4, 2) := by decide +kernel
theorem d_M_freeFrom_168 : decode prog_7_method_11_code 168 = .ok (.ireturn, 1) := by decide +kernel
theorem d_M_meets_0 : decode prog_7_method_10_code 0 = .ok (.iload_n 0, 1) := by decide +kernel
theorem d_M_meets_1 : decode prog_7_method_10_code 1 = .ok (.iload_n 3, 1) := by decide +kernel
theorem d_M_meets_2 : decode prog_7_method_10_code 2 = .ok (.if_icmp .ge 12, 3) := by decide +kernel
theorem d_M_meets_5 : decode prog_7_method_10_code 5 = .ok (.iload_n 2, 1) := by decide +kernel
theorem d_M_meets_6 : decode prog_7_method_10_code 6 = .ok (.iload_n 1, 1) := by decide +kernel
theorem d_M_meets_7 : decode prog_7_method_10_code 7 = .ok (.if_icmp .ge 7, 3) := by decide +kernel
theorem d_M_meets_10 : decode prog_7_method_10_code 10 = .ok (.iconst 1, 1) := by decide +kernel
theorem d_M_meets_11 : decode prog_7_method_10_code 11 = .ok (.goto 4, 3) := by decide +kernel
theorem d_M_meets_14 : decode prog_7_method_10_code 14 = .ok (.iconst 0, 1) := by decide +kernel
theorem d_M_meets_15 : decode prog_7_method_10_code 15 = .ok (.ireturn, 1) := by decide +kernel
theorem d_M_costOf_0 : decode prog_7_method_13_code 0 = .ok (.iload_n 2, 1) := by decide +kernel
theorem d_M_costOf_1 : decode prog_7_method_13_code 1 = .ok (.aload_n 0, 1) := by decide +kernel
theorem d_M_costOf_2 : decode prog_7_method_13_code 2 = .ok (.getfield 22, 3) := by decide +kernel
theorem d_M_costOf_5 : decode prog_7_method_13_code 5 = .ok (.iload_n 1, 1) := by decide +kernel
theorem d_M_costOf_6 : decode prog_7_method_13_code 6 = .ok (.iaload, 1) := by decide +kernel
theorem d_M_costOf_7 : decode prog_7_method_13_code 7 = .ok (.if_icmp .le 23, 3) := by decide +kernel
theorem d_M_costOf_10 : decode prog_7_method_13_code 10 = .ok (.aload_n 0, 1) := by decide +kernel
theorem d_M_costOf_11 : decode prog_7_method_13_code 11 = .ok (.getfield 25, 3) := by decide +kernel
theorem d_M_costOf_14 : decode prog_7_method_13_code 14 = .ok (.iload_n 1, 1) := by decide +kernel
theorem d_M_costOf_15 : decode prog_7_method_13_code 15 = .ok (.iaload, 1) := by decide +kernel
theorem d_M_costOf_16 : decode prog_7_method_13_code 16 = .ok (.i2l, 1) := by decide +kernel
theorem d_M_costOf_17 : decode prog_7_method_13_code 17 = .ok (.iload_n 2, 1) := by decide +kernel
theorem d_M_costOf_18 : decode prog_7_method_13_code 18 = .ok (.aload_n 0, 1) := by decide +kernel
theorem d_M_costOf_19 : decode prog_7_method_13_code 19 = .ok (.getfield 22, 3) := by decide +kernel
theorem d_M_costOf_22 : decode prog_7_method_13_code 22 = .ok (.iload_n 1, 1) := by decide +kernel
theorem d_M_costOf_23 : decode prog_7_method_13_code 23 = .ok (.iaload, 1) := by decide +kernel
theorem d_M_costOf_24 : decode prog_7_method_13_code 24 = .ok (.isub, 1) := by decide +kernel
theorem d_M_costOf_25 : decode prog_7_method_13_code 25 = .ok (.i2l, 1) := by decide +kernel
theorem d_M_costOf_26 : decode prog_7_method_13_code 26 = .ok (.lmul, 1) := by decide +kernel
theorem d_M_costOf_27 : decode prog_7_method_13_code 27 = .ok (.goto 4, 3) := by decide +kernel
theorem d_M_costOf_30 : decode prog_7_method_13_code 30 = .ok (.lconst 0, 1) := by decide +kernel
theorem d_M_costOf_31 : decode prog_7_method_13_code 31 = .ok (.lreturn, 1) := by decide +kernel
theorem d_M_toPlan_0 : decode prog_7_method_21_code 0 = .ok (.iconst 0, 1) := by decide +kernel
theorem d_M_toPlan_1 : decode prog_7_method_21_code 1 = .ok (.istore_n 1, 1) := by decide +kernel
theorem d_M_toPlan_2 : decode prog_7_method_21_code 2 = .ok (.iload_n 1, 1) := by decide +kernel
theorem d_M_toPlan_3 : decode prog_7_method_21_code 3 = .ok (.aload_n 0, 1) := by decide +kernel
theorem d_M_toPlan_4 : decode prog_7_method_21_code 4 = .ok (.getfield 96, 3) := by decide +kernel
theorem d_M_toPlan_7 : decode prog_7_method_21_code 7 = .ok (.if_icmp .ge 21, 3) := by decide +kernel
theorem d_M_toPlan_10 : decode prog_7_method_21_code 10 = .ok (.aload_n 0, 1) := by decide +kernel
theorem d_M_toPlan_11 : decode prog_7_method_21_code 11 = .ok (.getfield 52, 3) := by decide +kernel
theorem d_M_toPlan_14 : decode prog_7_method_21_code 14 = .ok (.iload_n 1, 1) := by decide +kernel
theorem d_M_toPlan_15 : decode prog_7_method_21_code 15 = .ok (.aload_n 0, 1) := by decide +kernel
theorem d_M_toPlan_16 : decode prog_7_method_21_code 16 = .ok (.getfield 67, 3) := by decide +kernel
theorem d_M_toPlan_19 : decode prog_7_method_21_code 19 = .ok (.iload_n 1, 1) := by decide +kernel
theorem d_M_toPlan_20 : decode prog_7_method_21_code 20 = .ok (.iaload, 1) := by decide +kernel
theorem d_M_toPlan_21 : decode prog_7_method_21_code 21 = .ok (.iastore, 1) := by decide +kernel
theorem d_M_toPlan_22 : decode prog_7_method_21_code 22 = .ok (.iinc 1 1, 3) := by decide +kernel
theorem d_M_toPlan_25 : decode prog_7_method_21_code 25 = .ok (.goto (-23), 3) := by decide +kernel
theorem d_M_toPlan_28 : decode prog_7_method_21_code 28 = .ok (.return_, 1) := by decide +kernel
theorem d_M_least_0 : decode prog_7_method_22_code 0 = .ok (.aload_n 0, 1) := by decide +kernel
theorem d_M_least_1 : decode prog_7_method_22_code 1 = .ok (.iload_n 1, 1) := by decide +kernel
theorem d_M_least_2 : decode prog_7_method_22_code 2 = .ok (.invokevirtual 125, 3) := by decide +kernel
theorem d_M_least_5 : decode prog_7_method_22_code 5 = .ok (.lstore_n 2, 1) := by decide +kernel
theorem d_M_least_6 : decode prog_7_method_22_code 6 = .ok (.iconst 0, 1) := by decide +kernel
theorem d_M_least_7 : decode prog_7_method_22_code 7 = .ok (.istore 4, 2) := by decide +kernel
theorem d_M_least_9 : decode prog_7_method_22_code 9 = .ok (.iload 4, 2) := by decide +kernel
theorem d_M_least_11 : decode prog_7_method_22_code 11 = .ok (.aload_n 0, 1) := by decide +kernel
theorem d_M_least_12 : decode prog_7_method_22_code 12 = .ok (.getfield 96, 3) := by decide +kernel
theorem d_M_least_15 : decode prog_7_method_22_code 15 = .ok (.if_icmp .ge 69, 3) := by decide +kernel
theorem d_M_least_18 : decode prog_7_method_22_code 18 = .ok (.iconst 0, 1) := by decide +kernel
theorem d_M_least_19 : decode prog_7_method_22_code 19 = .ok (.istore 5, 2) := by decide +kernel
theorem d_M_least_21 : decode prog_7_method_22_code 21 = .ok (.iconst 0, 1) := by decide +kernel
theorem d_M_least_22 : decode prog_7_method_22_code 22 = .ok (.istore 6, 2) := by decide +kernel
theorem d_M_least_24 : decode prog_7_method_22_code 24 = .ok (.iload 6, 2) := by decide +kernel
theorem d_M_least_26 : decode prog_7_method_22_code 26 = .ok (.iload_n 1, 1) := by decide +kernel
theorem d_M_least_27 : decode prog_7_method_22_code 27 = .ok (.if_icmp .ge 33, 3) := by decide +kernel
theorem d_M_least_30 : decode prog_7_method_22_code 30 = .ok (.iload 5, 2) := by decide +kernel
theorem d_M_least_32 : decode prog_7_method_22_code 32 = .ok (.ifCond .ne 15, 3) := by decide +kernel
theorem d_M_least_35 : decode prog_7_method_22_code 35 = .ok (.aload_n 0, 1) := by decide +kernel
theorem d_M_least_36 : decode prog_7_method_22_code 36 = .ok (.getfield 67, 3) := by decide +kernel
theorem d_M_least_39 : decode prog_7_method_22_code 39 = .ok (.iload 6, 2) := by decide +kernel
theorem d_M_least_41 : decode prog_7_method_22_code 41 = .ok (.iaload, 1) := by decide +kernel
theorem d_M_least_42 : decode prog_7_method_22_code 42 = .ok (.iload 4, 2) := by decide +kernel
theorem d_M_least_44 : decode prog_7_method_22_code 44 = .ok (.if_icmp .ne 7, 3) := by decide +kernel
theorem d_M_least_47 : decode prog_7_method_22_code 47 = .ok (.iconst 1, 1) := by decide +kernel
theorem d_M_least_48 : decode prog_7_method_22_code 48 = .ok (.goto 4, 3) := by decide +kernel
theorem d_M_least_51 : decode prog_7_method_22_code 51 = .ok (.iconst 0, 1) := by decide +kernel
theorem d_M_least_52 : decode prog_7_method_22_code 52 = .ok (.istore 5, 2) := by decide +kernel
theorem d_M_least_54 : decode prog_7_method_22_code 54 = .ok (.iinc 6 1, 3) := by decide +kernel
theorem d_M_least_57 : decode prog_7_method_22_code 57 = .ok (.goto (-33), 3) := by decide +kernel
theorem d_M_least_60 : decode prog_7_method_22_code 60 = .ok (.lload_n 2, 1) := by decide +kernel
theorem d_M_least_61 : decode prog_7_method_22_code 61 = .ok (.iload 5, 2) := by decide +kernel
theorem d_M_least_63 : decode prog_7_method_22_code 63 = .ok (.ifCond .eq 7, 3) := by decide +kernel
theorem d_M_least_66 : decode prog_7_method_22_code 66 = .ok (.lconst 0, 1) := by decide +kernel
theorem d_M_least_67 : decode prog_7_method_22_code 67 = .ok (.goto 9, 3) := by decide +kernel
theorem d_M_least_70 : decode prog_7_method_22_code 70 = .ok (.aload_n 0, 1) := by decide +kernel
theorem d_M_least_71 : decode prog_7_method_22_code 71 = .ok (.iload 4, 2) := by decide +kernel
theorem d_M_least_73 : decode prog_7_method_22_code 73 = .ok (.invokevirtual 141, 3) := by decide +kernel
theorem d_M_least_76 : decode prog_7_method_22_code 76 = .ok (.ladd, 1) := by decide +kernel
theorem d_M_least_77 : decode prog_7_method_22_code 77 = .ok (.lstore_n 2, 1) := by decide +kernel
theorem d_M_least_78 : decode prog_7_method_22_code 78 = .ok (.iinc 4 1, 3) := by decide +kernel
theorem d_M_least_81 : decode prog_7_method_22_code 81 = .ok (.goto (-72), 3) := by decide +kernel
theorem d_M_least_84 : decode prog_7_method_22_code 84 = .ok (.lload_n 2, 1) := by decide +kernel
theorem d_M_least_85 : decode prog_7_method_22_code 85 = .ok (.lreturn, 1) := by decide +kernel
theorem d_M_aloneOf_0 : decode prog_7_method_17_code 0 = .ok (.aload_n 0, 1) := by decide +kernel
theorem d_M_aloneOf_1 : decode prog_7_method_17_code 1 = .ok (.invokevirtual 110, 3) := by decide +kernel
theorem d_M_aloneOf_4 : decode prog_7_method_17_code 4 = .ok (.aload_n 0, 1) := by decide +kernel
theorem d_M_aloneOf_5 : decode prog_7_method_17_code 5 = .ok (.iload_n 1, 1) := by decide +kernel
theorem d_M_aloneOf_6 : decode prog_7_method_17_code 6 = .ok (.aload_n 0, 1) := by decide +kernel
theorem d_M_aloneOf_7 : decode prog_7_method_17_code 7 = .ok (.iload_n 1, 1) := by decide +kernel
theorem d_M_aloneOf_8 : decode prog_7_method_17_code 8 = .ok (.invokevirtual 113, 3) := by decide +kernel
theorem d_M_aloneOf_11 : decode prog_7_method_17_code 11 = .ok (.invokevirtual 117, 3) := by decide +kernel
theorem d_M_aloneOf_14 : decode prog_7_method_17_code 14 = .ok (.lreturn, 1) := by decide +kernel
theorem d_M_become_0 : decode prog_7_method_19_code 0 = .ok (.aload_n 0, 1) := by decide +kernel
theorem d_M_become_1 : decode prog_7_method_19_code 1 = .ok (.aload_n 0, 1) := by decide +kernel
theorem d_M_become_2 : decode prog_7_method_19_code 2 = .ok (.aload_n 0, 1) := by decide +kernel
theorem d_M_become_3 : decode prog_7_method_19_code 3 = .ok (.getfield 96, 3) := by decide +kernel
theorem d_M_become_6 : decode prog_7_method_19_code 6 = .ok (.invokevirtual 125, 3) := by decide +kernel
theorem d_M_become_9 : decode prog_7_method_19_code 9 = .ok (.putfield 129, 3) := by decide +kernel
theorem d_M_become_12 : decode prog_7_method_19_code 12 = .ok (.aload_n 0, 1) := by decide +kernel
theorem d_M_become_13 : decode prog_7_method_19_code 13 = .ok (.iconst 0, 1) := by decide +kernel
theorem d_M_become_14 : decode prog_7_method_19_code 14 = .ok (.putfield 132, 3) := by decide +kernel
theorem d_M_become_17 : decode prog_7_method_19_code 17 = .ok (.iconst 0, 1) := by decide +kernel
theorem d_M_become_18 : decode prog_7_method_19_code 18 = .ok (.istore_n 1, 1) := by decide +kernel
theorem d_M_become_19 : decode prog_7_method_19_code 19 = .ok (.iload_n 1, 1) := by decide +kernel
theorem d_M_become_20 : decode prog_7_method_19_code 20 = .ok (.bipush 24, 2) := by decide +kernel
theorem d_M_become_22 : decode prog_7_method_19_code 22 = .ok (.if_icmp .ge 109, 3) := by decide +kernel
theorem d_M_become_25 : decode prog_7_method_19_code 25 = .ok (.aload_n 0, 1) := by decide +kernel
theorem d_M_become_26 : decode prog_7_method_19_code 26 = .ok (.getfield 55, 3) := by decide +kernel
theorem d_M_become_29 : decode prog_7_method_19_code 29 = .ok (.iload_n 1, 1) := by decide +kernel
theorem d_M_become_30 : decode prog_7_method_19_code 30 = .ok (.iload_n 1, 1) := by decide +kernel
theorem d_M_become_31 : decode prog_7_method_19_code 31 = .ok (.aload_n 0, 1) := by decide +kernel
theorem d_M_become_32 : decode prog_7_method_19_code 32 = .ok (.getfield 99, 3) := by decide +kernel
theorem d_M_become_35 : decode prog_7_method_19_code 35 = .ok (.if_icmp .ge 12, 3) := by decide +kernel
theorem d_M_become_38 : decode prog_7_method_19_code 38 = .ok (.aload_n 0, 1) := by decide +kernel
theorem d_M_become_39 : decode prog_7_method_19_code 39 = .ok (.getfield 46, 3) := by decide +kernel
theorem d_M_become_42 : decode prog_7_method_19_code 42 = .ok (.iload_n 1, 1) := by decide +kernel
theorem d_M_become_43 : decode prog_7_method_19_code 43 = .ok (.iaload, 1) := by decide +kernel
theorem d_M_become_44 : decode prog_7_method_19_code 44 = .ok (.goto 4, 3) := by decide +kernel
theorem d_M_become_47 : decode prog_7_method_19_code 47 = .ok (.iconst (-1), 1) := by decide +kernel
theorem d_M_become_48 : decode prog_7_method_19_code 48 = .ok (.iastore, 1) := by decide +kernel
theorem d_M_become_49 : decode prog_7_method_19_code 49 = .ok (.aload_n 0, 1) := by decide +kernel
theorem d_M_become_50 : decode prog_7_method_19_code 50 = .ok (.getfield 58, 3) := by decide +kernel
theorem d_M_become_53 : decode prog_7_method_19_code 53 = .ok (.iload_n 1, 1) := by decide +kernel
theorem d_M_become_54 : decode prog_7_method_19_code 54 = .ok (.iload_n 1, 1) := by decide +kernel
theorem d_M_become_55 : decode prog_7_method_19_code 55 = .ok (.aload_n 0, 1) := by decide +kernel
theorem d_M_become_56 : decode prog_7_method_19_code 56 = .ok (.getfield 99, 3) := by decide +kernel
theorem d_M_become_59 : decode prog_7_method_19_code 59 = .ok (.if_icmp .ge 12, 3) := by decide +kernel
theorem d_M_become_62 : decode prog_7_method_19_code 62 = .ok (.aload_n 0, 1) := by decide +kernel
theorem d_M_become_63 : decode prog_7_method_19_code 63 = .ok (.getfield 49, 3) := by decide +kernel
theorem d_M_become_66 : decode prog_7_method_19_code 66 = .ok (.iload_n 1, 1) := by decide +kernel
theorem d_M_become_67 : decode prog_7_method_19_code 67 = .ok (.iaload, 1) := by decide +kernel
theorem d_M_become_68 : decode prog_7_method_19_code 68 = .ok (.goto 4, 3) := by decide +kernel
theorem d_M_become_71 : decode prog_7_method_19_code 71 = .ok (.iconst (-1), 1) := by decide +kernel
theorem d_M_become_72 : decode prog_7_method_19_code 72 = .ok (.iastore, 1) := by decide +kernel
theorem d_M_become_73 : decode prog_7_method_19_code 73 = .ok (.aload_n 0, 1) := by decide +kernel
theorem d_M_become_74 : decode prog_7_method_19_code 74 = .ok (.dup, 1) := by decide +kernel
theorem d_M_become_75 : decode prog_7_method_19_code 75 = .ok (.getfield 132, 3) := by decide +kernel
theorem d_M_become_78 : decode prog_7_method_19_code 78 = .ok (.iload_n 1, 1) := by decide +kernel
theorem d_M_become_79 : decode prog_7_method_19_code 79 = .ok (.aload_n 0, 1) := by decide +kernel
theorem d_M_become_80 : decode prog_7_method_19_code 80 = .ok (.getfield 99, 3) := by decide +kernel
theorem d_M_become_83 : decode prog_7_method_19_code 83 = .ok (.if_icmp .ge 37, 3) := by decide +kernel
theorem d_M_become_86 : decode prog_7_method_19_code 86 = .ok (.aload_n 0, 1) := by decide +kernel
theorem d_M_become_87 : decode prog_7_method_19_code 87 = .ok (.getfield 55, 3) := by decide +kernel
theorem d_M_become_90 : decode prog_7_method_19_code 90 = .ok (.iload_n 1, 1) := by decide +kernel
theorem d_M_become_91 : decode prog_7_method_19_code 91 = .ok (.iaload, 1) := by decide +kernel
theorem d_M_become_92 : decode prog_7_method_19_code 92 = .ok (.aload_n 0, 1) := by decide +kernel
theorem d_M_become_93 : decode prog_7_method_19_code 93 = .ok (.getfield 61, 3) := by decide +kernel
theorem d_M_become_96 : decode prog_7_method_19_code 96 = .ok (.iload_n 1, 1) := by decide +kernel
theorem d_M_become_97 : decode prog_7_method_19_code 97 = .ok (.iaload, 1) := by decide +kernel
theorem d_M_become_98 : decode prog_7_method_19_code 98 = .ok (.if_icmp .ne 18, 3) := by decide +kernel
theorem d_M_become_101 : decode prog_7_method_19_code 101 = .ok (.aload_n 0, 1) := by decide +kernel
theorem d_M_become_102 : decode prog_7_method_19_code 102 = .ok (.getfield 58, 3) := by decide +kernel
theorem d_M_become_105 : decode prog_7_method_19_code 105 = .ok (.iload_n 1, 1) := by decide +kernel
theorem d_M_become_106 : decode prog_7_method_19_code 106 = .ok (.iaload, 1) := by decide +kernel
theorem d_M_become_107 : decode prog_7_method_19_code 107 = .ok (.aload_n 0, 1) := by decide +kernel
theorem d_M_become_108 : decode prog_7_method_19_code 108 = .ok (.getfield 64, 3) := by decide +kernel
theorem d_M_become_111 : decode prog_7_method_19_code 111 = .ok (.iload_n 1, 1) := by decide +kernel
theorem d_M_become_112 : decode prog_7_method_19_code 112 = .ok (.iaload, 1) := by decide +kernel
theorem d_M_become_113 : decode prog_7_method_19_code 113 = .ok (.if_icmp .eq 7, 3) := by decide +kernel
theorem d_M_become_116 : decode prog_7_method_19_code 116 = .ok (.iconst 1, 1) := by decide +kernel
theorem d_M_become_117 : decode prog_7_method_19_code 117 = .ok (.goto 4, 3) := by decide +kernel
theorem d_M_become_120 : decode prog_7_method_19_code 120 = .ok (.iconst 0, 1) := by decide +kernel
theorem d_M_become_121 : decode prog_7_method_19_code 121 = .ok (.iadd, 1) := by decide +kernel
theorem d_M_become_122 : decode prog_7_method_19_code 122 = .ok (.putfield 132, 3) := by decide +kernel
theorem d_M_become_125 : decode prog_7_method_19_code 125 = .ok (.iinc 1 1, 3) := by decide +kernel
theorem d_M_become_128 : decode prog_7_method_19_code 128 = .ok (.goto (-109), 3) := by decide +kernel
theorem d_M_become_131 : decode prog_7_method_19_code 131 = .ok (.iconst 0, 1) := by decide +kernel
theorem d_M_become_132 : decode prog_7_method_19_code 132 = .ok (.istore_n 1, 1) := by decide +kernel
theorem d_M_become_133 : decode prog_7_method_19_code 133 = .ok (.iload_n 1, 1) := by decide +kernel
theorem d_M_become_134 : decode prog_7_method_19_code 134 = .ok (.aload_n 0, 1) := by decide +kernel
theorem d_M_become_135 : decode prog_7_method_19_code 135 = .ok (.getfield 96, 3) := by decide +kernel
theorem d_M_become_138 : decode prog_7_method_19_code 138 = .ok (.if_icmp .ge 21, 3) := by decide +kernel
theorem d_M_become_141 : decode prog_7_method_19_code 141 = .ok (.aload_n 0, 1) := by decide +kernel
theorem d_M_become_142 : decode prog_7_method_19_code 142 = .ok (.getfield 52, 3) := by decide +kernel
theorem d_M_become_145 : decode prog_7_method_19_code 145 = .ok (.iload_n 1, 1) := by decide +kernel
theorem d_M_become_146 : decode prog_7_method_19_code 146 = .ok (.aload_n 0, 1) := by decide +kernel
theorem d_M_become_147 : decode prog_7_method_19_code 147 = .ok (.getfield 67, 3) := by decide +kernel
theorem d_M_become_150 : decode prog_7_method_19_code 150 = .ok (.iload_n 1, 1) := by decide +kernel
theorem d_M_become_151 : decode prog_7_method_19_code 151 = .ok (.iaload, 1) := by decide +kernel
theorem d_M_become_152 : decode prog_7_method_19_code 152 = .ok (.iastore, 1) := by decide +kernel
theorem d_M_become_153 : decode prog_7_method_19_code 153 = .ok (.iinc 1 1, 3) := by decide +kernel
theorem d_M_become_156 : decode prog_7_method_19_code 156 = .ok (.goto (-23), 3) := by decide +kernel
theorem d_M_become_159 : decode prog_7_method_19_code 159 = .ok (.aload_n 0, 1) := by decide +kernel
theorem d_M_become_160 : decode prog_7_method_19_code 160 = .ok (.aload_n 0, 1) := by decide +kernel
theorem d_M_become_161 : decode prog_7_method_19_code 161 = .ok (.getfield 96, 3) := by decide +kernel
theorem d_M_become_164 : decode prog_7_method_19_code 164 = .ok (.putfield 135, 3) := by decide +kernel
theorem d_M_become_167 : decode prog_7_method_19_code 167 = .ok (.aload_n 0, 1) := by decide +kernel
theorem d_M_become_168 : decode prog_7_method_19_code 168 = .ok (.lconst 0, 1) := by decide +kernel
theorem d_M_become_169 : decode prog_7_method_19_code 169 = .ok (.putfield 138, 3) := by decide +kernel
theorem d_M_become_172 : decode prog_7_method_19_code 172 = .ok (.iconst 0, 1) := by decide +kernel
theorem d_M_become_173 : decode prog_7_method_19_code 173 = .ok (.istore_n 1, 1) := by decide +kernel
theorem d_M_become_174 : decode prog_7_method_19_code 174 = .ok (.iload_n 1, 1) := by decide +kernel
theorem d_M_become_175 : decode prog_7_method_19_code 175 = .ok (.aload_n 0, 1) := by decide +kernel
theorem d_M_become_176 : decode prog_7_method_19_code 176 = .ok (.getfield 96, 3) := by decide +kernel
theorem d_M_become_179 : decode prog_7_method_19_code 179 = .ok (.if_icmp .ge 23, 3) := by decide +kernel
theorem d_M_become_182 : decode prog_7_method_19_code 182 = .ok (.aload_n 0, 1) := by decide +kernel
theorem d_M_become_183 : decode prog_7_method_19_code 183 = .ok (.dup, 1) := by decide +kernel
theorem d_M_become_184 : decode prog_7_method_19_code 184 = .ok (.getfield 138, 3) := by decide +kernel
theorem d_M_become_187 : decode prog_7_method_19_code 187 = .ok (.aload_n 0, 1) := by decide +kernel
theorem d_M_become_188 : decode prog_7_method_19_code 188 = .ok (.iload_n 1, 1) := by decide +kernel
theorem d_M_become_189 : decode prog_7_method_19_code 189 = .ok (.invokevirtual 141, 3) := by decide +kernel
theorem d_M_become_192 : decode prog_7_method_19_code 192 = .ok (.ladd, 1) := by decide +kernel
theorem d_M_become_193 : decode prog_7_method_19_code 193 = .ok (.putfield 138, 3) := by decide +kernel
theorem d_M_become_196 : decode prog_7_method_19_code 196 = .ok (.iinc 1 1, 3) := by decide +kernel
theorem d_M_become_199 : decode prog_7_method_19_code 199 = .ok (.goto (-25), 3) := by decide +kernel
theorem d_M_become_202 : decode prog_7_method_19_code 202 = .ok (.aload_n 0, 1) := by decide +kernel
theorem d_M_become_203 : decode prog_7_method_19_code 203 = .ok (.iconst 1, 1) := by decide +kernel
theorem d_M_become_204 : decode prog_7_method_19_code 204 = .ok (.putfield 144, 3) := by decide +kernel
theorem d_M_become_207 : decode prog_7_method_19_code 207 = .ok (.aload_n 0, 1) := by decide +kernel
theorem d_M_become_208 : decode prog_7_method_19_code 208 = .ok (.iconst 1, 1) := by decide +kernel
theorem d_M_become_209 : decode prog_7_method_19_code 209 = .ok (.putfield 92, 3) := by decide +kernel
theorem d_M_become_212 : decode prog_7_method_19_code 212 = .ok (.return_, 1) := by decide +kernel
theorem d_M_improve_0 : decode prog_7_method_27_code 0 = .ok (.aload_n 0, 1) := by decide +kernel
theorem d_M_improve_1 : decode prog_7_method_27_code 1 = .ok (.iload_n 1, 1) := by decide +kernel
theorem d_M_improve_2 : decode prog_7_method_27_code 2 = .ok (.iconst 0, 1) := by decide +kernel
theorem d_M_improve_3 : decode prog_7_method_27_code 3 = .ok (.bipush 100, 2) := by decide +kernel
theorem d_M_improve_5 : decode prog_7_method_27_code 5 = .ok (.invokestatic 85, 3) := by decide +kernel
theorem d_M_improve_8 : decode prog_7_method_27_code 8 = .ok (.ifCond .ne 7, 3) := by decide +kernel
theorem d_M_improve_11 : decode prog_7_method_27_code 11 = .ok (.iconst 1, 1) := by decide +kernel
theorem d_M_improve_12 : decode prog_7_method_27_code 12 = .ok (.goto 22, 3) := by decide +kernel
theorem d_M_improve_15 : decode prog_7_method_27_code 15 = .ok (.aload_n 0, 1) := by decide +kernel
theorem d_M_improve_16 : decode prog_7_method_27_code 16 = .ok (.getfield 144, 3) := by decide +kernel
theorem d_M_improve_19 : decode prog_7_method_27_code 19 = .ok (.ifCond .eq 10, 3) := by decide +kernel
theorem d_M_improve_22 : decode prog_7_method_27_code 22 = .ok (.aload_n 0, 1) := by decide +kernel
theorem d_M_improve_23 : decode prog_7_method_27_code 23 = .ok (.getfield 92, 3) := by decide +kernel
theorem d_M_improve_26 : decode prog_7_method_27_code 26 = .ok (.ifCond .ne 7, 3) := by decide +kernel
theorem d_M_improve_29 : decode prog_7_method_27_code 29 = .ok (.iconst 2, 1) := by decide +kernel
theorem d_M_improve_30 : decode prog_7_method_27_code 30 = .ok (.goto 4, 3) := by decide +kernel
theorem d_M_improve_33 : decode prog_7_method_27_code 33 = .ok (.iconst 0, 1) := by decide +kernel
theorem d_M_improve_34 : decode prog_7_method_27_code 34 = .ok (.putfield 81, 3) := by decide +kernel
theorem d_M_improve_37 : decode prog_7_method_27_code 37 = .ok (.aload_n 0, 1) := by decide +kernel
theorem d_M_improve_38 : decode prog_7_method_27_code 38 = .ok (.getfield 81, 3) := by decide +kernel
theorem d_M_improve_41 : decode prog_7_method_27_code 41 = .ok (.ifCond .le 5, 3) := by decide +kernel
theorem d_M_improve_44 : decode prog_7_method_27_code 44 = .ok (.iconst 0, 1) := by decide +kernel
theorem d_M_improve_45 : decode prog_7_method_27_code 45 = .ok (.ireturn, 1) := by decide +kernel
theorem d_M_improve_46 : decode prog_7_method_27_code 46 = .ok (.aload_n 0, 1) := by decide +kernel
theorem d_M_improve_47 : decode prog_7_method_27_code 47 = .ok (.invokevirtual 163, 3) := by decide +kernel
theorem d_M_improve_50 : decode prog_7_method_27_code 50 = .ok (.iconst 0, 1) := by decide +kernel
theorem d_M_improve_51 : decode prog_7_method_27_code 51 = .ok (.istore_n 2, 1) := by decide +kernel
theorem d_M_improve_52 : decode prog_7_method_27_code 52 = .ok (.iload_n 2, 1) := by decide +kernel
theorem d_M_improve_53 : decode prog_7_method_27_code 53 = .ok (.aload_n 0, 1) := by decide +kernel
theorem d_M_improve_54 : decode prog_7_method_27_code 54 = .ok (.getfield 96, 3) := by decide +kernel
theorem d_M_improve_57 : decode prog_7_method_27_code 57 = .ok (.if_icmp .ge 21, 3) := by decide +kernel
theorem d_M_improve_60 : decode prog_7_method_27_code 60 = .ok (.aload_n 0, 1) := by decide +kernel
theorem d_M_improve_61 : decode prog_7_method_27_code 61 = .ok (.getfield 67, 3) := by decide +kernel
theorem d_M_improve_64 : decode prog_7_method_27_code 64 = .ok (.iload_n 2, 1) := by decide +kernel
theorem d_M_improve_65 : decode prog_7_method_27_code 65 = .ok (.aload_n 0, 1) := by decide +kernel
theorem d_M_improve_66 : decode prog_7_method_27_code 66 = .ok (.getfield 52, 3) := by decide +kernel
theorem d_M_improve_69 : decode prog_7_method_27_code 69 = .ok (.iload_n 2, 1) := by decide +kernel
theorem d_M_improve_70 : decode prog_7_method_27_code 70 = .ok (.iaload, 1) := by decide +kernel
theorem d_M_improve_71 : decode prog_7_method_27_code 71 = .ok (.iastore, 1) := by decide +kernel
theorem d_M_improve_72 : decode prog_7_method_27_code 72 = .ok (.iinc 2 1, 3) := by decide +kernel
theorem d_M_improve_75 : decode prog_7_method_27_code 75 = .ok (.goto (-23), 3) := by decide +kernel
theorem d_M_improve_78 : decode prog_7_method_27_code 78 = .ok (.aload_n 0, 1) := by decide +kernel
theorem d_M_improve_79 : decode prog_7_method_27_code 79 = .ok (.aload_n 0, 1) := by decide +kernel
theorem d_M_improve_80 : decode prog_7_method_27_code 80 = .ok (.getfield 96, 3) := by decide +kernel
theorem d_M_improve_83 : decode prog_7_method_27_code 83 = .ok (.invokevirtual 125, 3) := by decide +kernel
theorem d_M_improve_86 : decode prog_7_method_27_code 86 = .ok (.lstore_n 2, 1) := by decide +kernel
theorem d_M_improve_87 : decode prog_7_method_27_code 87 = .ok (.iconst 0, 1) := by decide +kernel
theorem d_M_improve_88 : decode prog_7_method_27_code 88 = .ok (.istore 4, 2) := by decide +kernel
theorem d_M_improve_90 : decode prog_7_method_27_code 90 = .ok (.iconst 0, 1) := by decide +kernel
theorem d_M_improve_91 : decode prog_7_method_27_code 91 = .ok (.istore 5, 2) := by decide +kernel
theorem d_M_improve_93 : decode prog_7_method_27_code 93 = .ok (.iload 5, 2) := by decide +kernel
theorem d_M_improve_95 : decode prog_7_method_27_code 95 = .ok (.iload_n 1, 1) := by decide +kernel
theorem d_M_improve_96 : decode prog_7_method_27_code 96 = .ok (.if_icmp .ge 63, 3) := by decide +kernel
theorem d_M_improve_99 : decode prog_7_method_27_code 99 = .ok (.aload_n 0, 1) := by decide +kernel
theorem d_M_improve_100 : decode prog_7_method_27_code 100 = .ok (.invokevirtual 176, 3) := by decide +kernel
theorem d_M_improve_103 : decode prog_7_method_27_code 103 = .ok (.istore 6, 2) := by decide +kernel
theorem d_M_improve_105 : decode prog_7_method_27_code 105 = .ok (.aload_n 0, 1) := by decide +kernel
theorem d_M_improve_106 : decode prog_7_method_27_code 106 = .ok (.invokevirtual 176, 3) := by decide +kernel
theorem d_M_improve_109 : decode prog_7_method_27_code 109 = .ok (.istore 7, 2) := by decide +kernel
theorem d_M_improve_111 : decode prog_7_method_27_code 111 = .ok (.aload_n 0, 1) := by decide +kernel
theorem d_M_improve_112 : decode prog_7_method_27_code 112 = .ok (.iload 6, 2) := by decide +kernel
theorem d_M_improve_114 : decode prog_7_method_27_code 114 = .ok (.iload 7, 2) := by decide +kernel
theorem d_M_improve_116 : decode prog_7_method_27_code 116 = .ok (.invokevirtual 180, 3) := by decide +kernel
theorem d_M_improve_119 : decode prog_7_method_27_code 119 = .ok (.aload_n 0, 1) := by decide +kernel
theorem d_M_improve_120 : decode prog_7_method_27_code 120 = .ok (.aload_n 0, 1) := by decide +kernel
theorem d_M_improve_121 : decode prog_7_method_27_code 121 = .ok (.getfield 96, 3) := by decide +kernel
theorem d_M_improve_124 : decode prog_7_method_27_code 124 = .ok (.invokevirtual 125, 3) := by decide +kernel
theorem d_M_improve_127 : decode prog_7_method_27_code 127 = .ok (.lstore 8, 2) := by decide +kernel
theorem d_M_improve_129 : decode prog_7_method_27_code 129 = .ok (.lload 8, 2) := by decide +kernel
theorem d_M_improve_131 : decode prog_7_method_27_code 131 = .ok (.lload_n 2, 1) := by decide +kernel
theorem d_M_improve_132 : decode prog_7_method_27_code 132 = .ok (.lcmp, 1) := by decide +kernel
theorem d_M_improve_133 : decode prog_7_method_27_code 133 = .ok (.ifCond .ge 12, 3) := by decide +kernel
theorem d_M_improve_136 : decode prog_7_method_27_code 136 = .ok (.lload 8, 2) := by decide +kernel
theorem d_M_improve_138 : decode prog_7_method_27_code 138 = .ok (.lstore_n 2, 1) := by decide +kernel
theorem d_M_improve_139 : decode prog_7_method_27_code 139 = .ok (.iinc 4 1, 3) := by decide +kernel
theorem d_M_improve_142 : decode prog_7_method_27_code 142 = .ok (.goto 11, 3) := by decide +kernel
theorem d_M_improve_145 : decode prog_7_method_27_code 145 = .ok (.aload_n 0, 1) := by decide +kernel
theorem d_M_improve_146 : decode prog_7_method_27_code 146 = .ok (.iload 6, 2) := by decide +kernel
theorem d_M_improve_148 : decode prog_7_method_27_code 148 = .ok (.iload 7, 2) := by decide +kernel
theorem d_M_improve_150 : decode prog_7_method_27_code 150 = .ok (.invokevirtual 180, 3) := by decide +kernel
theorem d_M_improve_153 : decode prog_7_method_27_code 153 = .ok (.iinc 5 1, 3) := by decide +kernel
theorem d_M_improve_156 : decode prog_7_method_27_code 156 = .ok (.goto (-63), 3) := by decide +kernel
theorem d_M_improve_159 : decode prog_7_method_27_code 159 = .ok (.aload_n 0, 1) := by decide +kernel
theorem d_M_improve_160 : decode prog_7_method_27_code 160 = .ok (.invokevirtual 169, 3) := by decide +kernel
theorem d_M_improve_163 : decode prog_7_method_27_code 163 = .ok (.iload 4, 2) := by decide +kernel
theorem d_M_improve_165 : decode prog_7_method_27_code 165 = .ok (.ireturn, 1) := by decide +kernel
theorem d_M_draw_0 : decode prog_7_method_25_code 0 = .ok (.aload_n 0, 1) := by decide +kernel
theorem d_M_draw_1 : decode prog_7_method_25_code 1 = .ok (.aload_n 0, 1) := by decide +kernel
theorem d_M_draw_2 : decode prog_7_method_25_code 2 = .ok (.getfield 77, 3) := by decide +kernel
theorem d_M_draw_5 : decode prog_7_method_25_code 5 = .ok (.ldc2_w 172, 3) := by decide +kernel
theorem d_M_draw_8 : decode prog_7_method_25_code 8 = .ok (.lmul, 1) := by decide +kernel
theorem d_M_draw_9 : decode prog_7_method_25_code 9 = .ok (.ldc2_w 174, 3) := by decide +kernel
theorem d_M_draw_12 : decode prog_7_method_25_code 12 = .ok (.ladd, 1) := by decide +kernel
theorem d_M_draw_13 : decode prog_7_method_25_code 13 = .ok (.putfield 77, 3) := by decide +kernel
theorem d_M_draw_16 : decode prog_7_method_25_code 16 = .ok (.aload_n 0, 1) := by decide +kernel
theorem d_M_draw_17 : decode prog_7_method_25_code 17 = .ok (.getfield 77, 3) := by decide +kernel
theorem d_M_draw_20 : decode prog_7_method_25_code 20 = .ok (.bipush 33, 2) := by decide +kernel
theorem d_M_draw_22 : decode prog_7_method_25_code 22 = .ok (.lushr, 1) := by decide +kernel
theorem d_M_draw_23 : decode prog_7_method_25_code 23 = .ok (.aload_n 0, 1) := by decide +kernel
theorem d_M_draw_24 : decode prog_7_method_25_code 24 = .ok (.getfield 96, 3) := by decide +kernel
theorem d_M_draw_27 : decode prog_7_method_25_code 27 = .ok (.i2l, 1) := by decide +kernel
theorem d_M_draw_28 : decode prog_7_method_25_code 28 = .ok (.lrem, 1) := by decide +kernel
theorem d_M_draw_29 : decode prog_7_method_25_code 29 = .ok (.l2i, 1) := by decide +kernel
theorem d_M_draw_30 : decode prog_7_method_25_code 30 = .ok (.ireturn, 1) := by decide +kernel
theorem d_M_swap_0 : decode prog_7_method_26_code 0 = .ok (.aload_n 0, 1) := by decide +kernel
theorem d_M_swap_1 : decode prog_7_method_26_code 1 = .ok (.getfield 67, 3) := by decide +kernel
theorem d_M_swap_4 : decode prog_7_method_26_code 4 = .ok (.iload_n 1, 1) := by decide +kernel
theorem d_M_swap_5 : decode prog_7_method_26_code 5 = .ok (.iaload, 1) := by decide +kernel
theorem d_M_swap_6 : decode prog_7_method_26_code 6 = .ok (.istore_n 3, 1) := by decide +kernel
theorem d_M_swap_7 : decode prog_7_method_26_code 7 = .ok (.aload_n 0, 1) := by decide +kernel
theorem d_M_swap_8 : decode prog_7_method_26_code 8 = .ok (.getfield 67, 3) := by decide +kernel
theorem d_M_swap_11 : decode prog_7_method_26_code 11 = .ok (.iload_n 1, 1) := by decide +kernel
theorem d_M_swap_12 : decode prog_7_method_26_code 12 = .ok (.aload_n 0, 1) := by decide +kernel
theorem d_M_swap_13 : decode prog_7_method_26_code 13 = .ok (.getfield 67, 3) := by decide +kernel
theorem d_M_swap_16 : decode prog_7_method_26_code 16 = .ok (.iload_n 2, 1) := by decide +kernel
theorem d_M_swap_17 : decode prog_7_method_26_code 17 = .ok (.iaload, 1) := by decide +kernel
theorem d_M_swap_18 : decode prog_7_method_26_code 18 = .ok (.iastore, 1) := by decide +kernel
theorem d_M_swap_19 : decode prog_7_method_26_code 19 = .ok (.aload_n 0, 1) := by decide +kernel
theorem d_M_swap_20 : decode prog_7_method_26_code 20 = .ok (.getfield 67, 3) := by decide +kernel
theorem d_M_swap_23 : decode prog_7_method_26_code 23 = .ok (.iload_n 2, 1) := by decide +kernel
theorem d_M_swap_24 : decode prog_7_method_26_code 24 = .ok (.iload_n 3, 1) := by decide +kernel
theorem d_M_swap_25 : decode prog_7_method_26_code 25 = .ok (.iastore, 1) := by decide +kernel
theorem d_M_swap_26 : decode prog_7_method_26_code 26 = .ok (.return_, 1) := by decide +kernel
theorem d_M_at_0 : decode prog_7_method_28_code 0 = .ok (.aload_n 0, 1) := by decide +kernel
theorem d_M_at_1 : decode prog_7_method_28_code 1 = .ok (.iload_n 1, 1) := by decide +kernel
theorem d_M_at_2 : decode prog_7_method_28_code 2 = .ok (.iconst 0, 1) := by decide +kernel
theorem d_M_at_3 : decode prog_7_method_28_code 3 = .ok (.aload_n 0, 1) := by decide +kernel
theorem d_M_at_4 : decode prog_7_method_28_code 4 = .ok (.getfield 99, 3) := by decide +kernel
theorem d_M_at_7 : decode prog_7_method_28_code 7 = .ok (.iconst 1, 1) := by decide +kernel
theorem d_M_at_8 : decode prog_7_method_28_code 8 = .ok (.isub, 1) := by decide +kernel
theorem d_M_at_9 : decode prog_7_method_28_code 9 = .ok (.invokestatic 85, 3) := by decide +kernel
theorem d_M_at_12 : decode prog_7_method_28_code 12 = .ok (.ifCond .eq 12, 3) := by decide +kernel
theorem d_M_at_15 : decode prog_7_method_28_code 15 = .ok (.iload_n 2, 1) := by decide +kernel
theorem d_M_at_16 : decode prog_7_method_28_code 16 = .ok (.iconst 0, 1) := by decide +kernel
theorem d_M_at_17 : decode prog_7_method_28_code 17 = .ok (.iconst 1, 1) := by decide +kernel
theorem d_M_at_18 : decode prog_7_method_28_code 18 = .ok (.invokestatic 85, 3) := by decide +kernel
theorem d_M_at_21 : decode prog_7_method_28_code 21 = .ok (.ifCond .ne 7, 3) := by decide +kernel
theorem d_M_at_24 : decode prog_7_method_28_code 24 = .ok (.iconst 1, 1) := by decide +kernel
theorem d_M_at_25 : decode prog_7_method_28_code 25 = .ok (.goto 15, 3) := by decide +kernel
theorem d_M_at_28 : decode prog_7_method_28_code 28 = .ok (.aload_n 0, 1) := by decide +kernel
theorem d_M_at_29 : decode prog_7_method_28_code 29 = .ok (.getfield 144, 3) := by decide +kernel
theorem d_M_at_32 : decode prog_7_method_28_code 32 = .ok (.ifCond .ne 7, 3) := by decide +kernel
theorem d_M_at_35 : decode prog_7_method_28_code 35 = .ok (.iconst 2, 1) := by decide +kernel
theorem d_M_at_36 : decode prog_7_method_28_code 36 = .ok (.goto 4, 3) := by decide +kernel
theorem d_M_at_39 : decode prog_7_method_28_code 39 = .ok (.iconst 0, 1) := by decide +kernel
theorem d_M_at_40 : decode prog_7_method_28_code 40 = .ok (.putfield 81, 3) := by decide +kernel
theorem d_M_at_43 : decode prog_7_method_28_code 43 = .ok (.aload_n 0, 1) := by decide +kernel
theorem d_M_at_44 : decode prog_7_method_28_code 44 = .ok (.getfield 81, 3) := by decide +kernel
theorem d_M_at_47 : decode prog_7_method_28_code 47 = .ok (.ifCond .le 7, 3) := by decide +kernel
theorem d_M_at_50 : decode prog_7_method_28_code 50 = .ok (.iconst 0, 1) := by decide +kernel
theorem d_M_at_51 : decode prog_7_method_28_code 51 = .ok (.goto 22, 3) := by decide +kernel
theorem d_M_at_54 : decode prog_7_method_28_code 54 = .ok (.iload_n 2, 1) := by decide +kernel
theorem d_M_at_55 : decode prog_7_method_28_code 55 = .ok (.ifCond .ne 12, 3) := by decide +kernel
theorem d_M_at_58 : decode prog_7_method_28_code 58 = .ok (.aload_n 0, 1) := by decide +kernel
theorem d_M_at_59 : decode prog_7_method_28_code 59 = .ok (.getfield 55, 3) := by decide +kernel
theorem d_M_at_62 : decode prog_7_method_28_code 62 = .ok (.iload_n 1, 1) := by decide +kernel
theorem d_M_at_63 : decode prog_7_method_28_code 63 = .ok (.iaload, 1) := by decide +kernel
theorem d_M_at_64 : decode prog_7_method_28_code 64 = .ok (.goto 9, 3) := by decide +kernel
theorem d_M_at_67 : decode prog_7_method_28_code 67 = .ok (.aload_n 0, 1) := by decide +kernel
theorem d_M_at_68 : decode prog_7_method_28_code 68 = .ok (.getfield 58, 3) := by decide +kernel
theorem d_M_at_71 : decode prog_7_method_28_code 71 = .ok (.iload_n 1, 1) := by decide +kernel
theorem d_M_at_72 : decode prog_7_method_28_code 72 = .ok (.iaload, 1) := by decide +kernel
theorem d_M_at_73 : decode prog_7_method_28_code 73 = .ok (.ireturn, 1) := by decide +kernel
theorem d_M_order_0 : decode prog_7_method_29_code 0 = .ok (.aload_n 0, 1) := by decide +kernel
theorem d_M_order_1 : decode prog_7_method_29_code 1 = .ok (.aload_n 0, 1) := by decide +kernel
theorem d_M_order_2 : decode prog_7_method_29_code 2 = .ok (.getfield 144, 3) := by decide +kernel
theorem d_M_order_5 : decode prog_7_method_29_code 5 = .ok (.ifCond .ne 7, 3) := by decide +kernel
theorem d_M_order_8 : decode prog_7_method_29_code 8 = .ok (.iconst 1, 1) := by decide +kernel
theorem d_M_order_9 : decode prog_7_method_29_code 9 = .ok (.goto 22, 3) := by decide +kernel
theorem d_M_order_12 : decode prog_7_method_29_code 12 = .ok (.iload_n 1, 1) := by decide +kernel
theorem d_M_order_13 : decode prog_7_method_29_code 13 = .ok (.iconst 0, 1) := by decide +kernel
theorem d_M_order_14 : decode prog_7_method_29_code 14 = .ok (.aload_n 0, 1) := by decide +kernel
theorem d_M_order_15 : decode prog_7_method_29_code 15 = .ok (.getfield 135, 3) := by decide +kernel
theorem d_M_order_18 : decode prog_7_method_29_code 18 = .ok (.iconst 1, 1) := by decide +kernel
theorem d_M_order_19 : decode prog_7_method_29_code 19 = .ok (.isub, 1) := by decide +kernel
theorem d_M_order_20 : decode prog_7_method_29_code 20 = .ok (.invokestatic 85, 3) := by decide +kernel
theorem d_M_order_23 : decode prog_7_method_29_code 23 = .ok (.ifCond .ne 7, 3) := by decide +kernel
theorem d_M_order_26 : decode prog_7_method_29_code 26 = .ok (.iconst 2, 1) := by decide +kernel
theorem d_M_order_27 : decode prog_7_method_29_code 27 = .ok (.goto 4, 3) := by decide +kernel
theorem d_M_order_30 : decode prog_7_method_29_code 30 = .ok (.iconst 0, 1) := by decide +kernel
theorem d_M_order_31 : decode prog_7_method_29_code 31 = .ok (.putfield 81, 3) := by decide +kernel
theorem d_M_order_34 : decode prog_7_method_29_code 34 = .ok (.aload_n 0, 1) := by decide +kernel
theorem d_M_order_35 : decode prog_7_method_29_code 35 = .ok (.getfield 81, 3) := by decide +kernel
theorem d_M_order_38 : decode prog_7_method_29_code 38 = .ok (.ifCond .le 7, 3) := by decide +kernel
theorem d_M_order_41 : decode prog_7_method_29_code 41 = .ok (.iconst 0, 1) := by decide +kernel
theorem d_M_order_42 : decode prog_7_method_29_code 42 = .ok (.goto 9, 3) := by decide +kernel
theorem d_M_order_45 : decode prog_7_method_29_code 45 = .ok (.aload_n 0, 1) := by decide +kernel
theorem d_M_order_46 : decode prog_7_method_29_code 46 = .ok (.getfield 52, 3) := by decide +kernel
theorem d_M_order_49 : decode prog_7_method_29_code 49 = .ok (.iload_n 1, 1) := by decide +kernel
theorem d_M_order_50 : decode prog_7_method_29_code 50 = .ok (.iaload, 1) := by decide +kernel
theorem d_M_order_51 : decode prog_7_method_29_code 51 = .ok (.ireturn, 1) := by decide +kernel
theorem d_M_about_0 : decode prog_7_method_30_code 0 = .ok (.aload_n 0, 1) := by decide +kernel
theorem d_M_about_1 : decode prog_7_method_30_code 1 = .ok (.iload_n 1, 1) := by decide +kernel
theorem d_M_about_2 : decode prog_7_method_30_code 2 = .ok (.iconst 0, 1) := by decide +kernel
theorem d_M_about_3 : decode prog_7_method_30_code 3 = .ok (.iconst 3, 1) := by decide +kernel
theorem d_M_about_4 : decode prog_7_method_30_code 4 = .ok (.invokestatic 85, 3) := by decide +kernel
theorem d_M_about_7 : decode prog_7_method_30_code 7 = .ok (.ifCond .ne 7, 3) := by decide +kernel
theorem d_M_about_10 : decode prog_7_method_30_code 10 = .ok (.iconst 1, 1) := by decide +kernel
theorem d_M_about_11 : decode prog_7_method_30_code 11 = .ok (.goto 15, 3) := by decide +kernel
theorem d_M_about_14 : decode prog_7_method_30_code 14 = .ok (.aload_n 0, 1) := by decide +kernel
theorem d_M_about_15 : decode prog_7_method_30_code 15 = .ok (.getfield 144, 3) := by decide +kernel
theorem d_M_about_18 : decode prog_7_method_30_code 18 = .ok (.ifCond .ne 7, 3) := by decide +kernel
theorem d_M_about_21 : decode prog_7_method_30_code 21 = .ok (.iconst 2, 1) := by decide +kernel
theorem d_M_about_22 : decode prog_7_method_30_code 22 = .ok (.goto 4, 3) := by decide +kernel
theorem d_M_about_25 : decode prog_7_method_30_code 25 = .ok (.iconst 0, 1) := by decide +kernel
theorem d_M_about_26 : decode prog_7_method_30_code 26 = .ok (.putfield 81, 3) := by decide +kernel
theorem d_M_about_29 : decode prog_7_method_30_code 29 = .ok (.aload_n 0, 1) := by decide +kernel
theorem d_M_about_30 : decode prog_7_method_30_code 30 = .ok (.getfield 81, 3) := by decide +kernel
theorem d_M_about_33 : decode prog_7_method_30_code 33 = .ok (.ifCond .le 7, 3) := by decide +kernel
theorem d_M_about_36 : decode prog_7_method_30_code 36 = .ok (.lconst 0, 1) := by decide +kernel
theorem d_M_about_37 : decode prog_7_method_30_code 37 = .ok (.goto 44, 3) := by decide +kernel
theorem d_M_about_40 : decode prog_7_method_30_code 40 = .ok (.iload_n 1, 1) := by decide +kernel
theorem d_M_about_41 : decode prog_7_method_30_code 41 = .ok (.ifCond .ne 10, 3) := by decide +kernel
theorem d_M_about_44 : decode prog_7_method_30_code 44 = .ok (.aload_n 0, 1) := by decide +kernel
theorem d_M_about_45 : decode prog_7_method_30_code 45 = .ok (.getfield 129, 3) := by decide +kernel
theorem d_M_about_48 : decode prog_7_method_30_code 48 = .ok (.goto 33, 3) := by decide +kernel
theorem d_M_about_51 : decode prog_7_method_30_code 51 = .ok (.iload_n 1, 1) := by decide +kernel
theorem d_M_about_52 : decode prog_7_method_30_code 52 = .ok (.iconst 1, 1) := by decide +kernel
theorem d_M_about_53 : decode prog_7_method_30_code 53 = .ok (.if_icmp .ne 10, 3) := by decide +kernel
theorem d_M_about_56 : decode prog_7_method_30_code 56 = .ok (.aload_n 0, 1) := by decide +kernel
theorem d_M_about_57 : decode prog_7_method_30_code 57 = .ok (.getfield 138, 3) := by decide +kernel
theorem d_M_about_60 : decode prog_7_method_30_code 60 = .ok (.goto 21, 3) := by decide +kernel
theorem d_M_about_63 : decode prog_7_method_30_code 63 = .ok (.iload_n 1, 1) := by decide +kernel
theorem d_M_about_64 : decode prog_7_method_30_code 64 = .ok (.iconst 2, 1) := by decide +kernel
theorem d_M_about_65 : decode prog_7_method_30_code 65 = .ok (.if_icmp .ne 11, 3) := by decide +kernel
theorem d_M_about_68 : decode prog_7_method_30_code 68 = .ok (.aload_n 0, 1) := by decide +kernel
theorem d_M_about_69 : decode prog_7_method_30_code 69 = .ok (.getfield 153, 3) := by decide +kernel
theorem d_M_about_72 : decode prog_7_method_30_code 72 = .ok (.i2l, 1) := by decide +kernel
theorem d_M_about_73 : decode prog_7_method_30_code 73 = .ok (.goto 8, 3) := by decide +kernel
theorem d_M_about_76 : decode prog_7_method_30_code 76 = .ok (.aload_n 0, 1) := by decide +kernel
theorem d_M_about_77 : decode prog_7_method_30_code 77 = .ok (.getfield 132, 3) := by decide +kernel
theorem d_M_about_80 : decode prog_7_method_30_code 80 = .ok (.i2l, 1) := by decide +kernel
theorem d_M_about_81 : decode prog_7_method_30_code 81 = .ok (.lreturn, 1) := by decide +kernel
theorem d_M_alone_0 : decode prog_7_method_31_code 0 = .ok (.aload_n 0, 1) := by decide +kernel
theorem d_M_alone_1 : decode prog_7_method_31_code 1 = .ok (.iload_n 1, 1) := by decide +kernel
theorem d_M_alone_2 : decode prog_7_method_31_code 2 = .ok (.iconst 0, 1) := by decide +kernel
theorem d_M_alone_3 : decode prog_7_method_31_code 3 = .ok (.aload_n 0, 1) := by decide +kernel
theorem d_M_alone_4 : decode prog_7_method_31_code 4 = .ok (.getfield 96, 3) := by decide +kernel
theorem d_M_alone_7 : decode prog_7_method_31_code 7 = .ok (.iconst 1, 1) := by decide +kernel
theorem d_M_alone_8 : decode prog_7_method_31_code 8 = .ok (.isub, 1) := by decide +kernel
theorem d_M_alone_9 : decode prog_7_method_31_code 9 = .ok (.invokestatic 85, 3) := by decide +kernel
theorem d_M_alone_12 : decode prog_7_method_31_code 12 = .ok (.ifCond .ne 7, 3) := by decide +kernel
theorem d_M_alone_15 : decode prog_7_method_31_code 15 = .ok (.iconst 1, 1) := by decide +kernel
theorem d_M_alone_16 : decode prog_7_method_31_code 16 = .ok (.goto 16, 3) := by decide +kernel
theorem d_M_alone_19 : decode prog_7_method_31_code 19 = .ok (.aload_n 0, 1) := by decide +kernel
theorem d_M_alone_20 : decode prog_7_method_31_code 20 = .ok (.iload_n 1, 1) := by decide +kernel
theorem d_M_alone_21 : decode prog_7_method_31_code 21 = .ok (.invokevirtual 121, 3) := by decide +kernel
theorem d_M_alone_24 : decode prog_7_method_31_code 24 = .ok (.ifCond .ne 7, 3) := by decide +kernel
theorem d_M_alone_27 : decode prog_7_method_31_code 27 = .ok (.iconst 2, 1) := by decide +kernel
theorem d_M_alone_28 : decode prog_7_method_31_code 28 = .ok (.goto 4, 3) := by decide +kernel
theorem d_M_alone_31 : decode prog_7_method_31_code 31 = .ok (.iconst 0, 1) := by decide +kernel
theorem d_M_alone_32 : decode prog_7_method_31_code 32 = .ok (.putfield 81, 3) := by decide +kernel
theorem d_M_alone_35 : decode prog_7_method_31_code 35 = .ok (.aload_n 0, 1) := by decide +kernel
theorem d_M_alone_36 : decode prog_7_method_31_code 36 = .ok (.getfield 81, 3) := by decide +kernel
theorem d_M_alone_39 : decode prog_7_method_31_code 39 = .ok (.ifCond .le 7, 3) := by decide +kernel
theorem d_M_alone_42 : decode prog_7_method_31_code 42 = .ok (.lconst 0, 1) := by decide +kernel
theorem d_M_alone_43 : decode prog_7_method_31_code 43 = .ok (.goto 8, 3) := by decide +kernel
theorem d_M_alone_46 : decode prog_7_method_31_code 46 = .ok (.aload_n 0, 1) := by decide +kernel
theorem d_M_alone_47 : decode prog_7_method_31_code 47 = .ok (.iload_n 1, 1) := by decide +kernel
theorem d_M_alone_48 : decode prog_7_method_31_code 48 = .ok (.invokevirtual 141, 3) := by decide +kernel
theorem d_M_alone_51 : decode prog_7_method_31_code 51 = .ok (.lreturn, 1) := by decide +kernel
theorem d_M_promise_0 : decode prog_7_method_32_code 0 = .ok (.aload_n 0, 1) := by decide +kernel
theorem d_M_promise_1 : decode prog_7_method_32_code 1 = .ok (.iload_n 1, 1) := by decide +kernel
theorem d_M_promise_2 : decode prog_7_method_32_code 2 = .ok (.iconst 0, 1) := by decide +kernel
theorem d_M_promise_3 : decode prog_7_method_32_code 3 = .ok (.aload_n 0, 1) := by decide +kernel
theorem d_M_promise_4 : decode prog_7_method_32_code 4 = .ok (.getfield 96, 3) := by decide +kernel
theorem d_M_promise_7 : decode prog_7_method_32_code 7 = .ok (.iconst 1, 1) := by decide +kernel
theorem d_M_promise_8 : decode prog_7_method_32_code 8 = .ok (.isub, 1) := by decide +kernel
theorem d_M_promise_9 : decode prog_7_method_32_code 9 = .ok (.invokestatic 85, 3) := by decide +kernel
theorem d_M_promise_12 : decode prog_7_method_32_code 12 = .ok (.ifCond .ne 7, 3) := by decide +kernel
theorem d_M_promise_15 : decode prog_7_method_32_code 15 = .ok (.iconst 1, 1) := by decide +kernel
theorem d_M_promise_16 : decode prog_7_method_32_code 16 = .ok (.goto 22, 3) := by decide +kernel
theorem d_M_promise_19 : decode prog_7_method_32_code 19 = .ok (.aload_n 0, 1) := by decide +kernel
theorem d_M_promise_20 : decode prog_7_method_32_code 20 = .ok (.getfield 144, 3) := by decide +kernel
theorem d_M_promise_23 : decode prog_7_method_32_code 23 = .ok (.ifCond .eq 10, 3) := by decide +kernel
theorem d_M_promise_26 : decode prog_7_method_32_code 26 = .ok (.aload_n 0, 1) := by decide +kernel
theorem d_M_promise_27 : decode prog_7_method_32_code 27 = .ok (.getfield 92, 3) := by decide +kernel
theorem d_M_promise_30 : decode prog_7_method_32_code 30 = .ok (.ifCond .ne 7, 3) := by decide +kernel
theorem d_M_promise_33 : decode prog_7_method_32_code 33 = .ok (.iconst 2, 1) := by decide +kernel
theorem d_M_promise_34 : decode prog_7_method_32_code 34 = .ok (.goto 4, 3) := by decide +kernel
theorem d_M_promise_37 : decode prog_7_method_32_code 37 = .ok (.iconst 0, 1) := by decide +kernel
theorem d_M_promise_38 : decode prog_7_method_32_code 38 = .ok (.putfield 81, 3) := by decide +kernel
theorem d_M_promise_41 : decode prog_7_method_32_code 41 = .ok (.aload_n 0, 1) := by decide +kernel
theorem d_M_promise_42 : decode prog_7_method_32_code 42 = .ok (.getfield 81, 3) := by decide +kernel
theorem d_M_promise_45 : decode prog_7_method_32_code 45 = .ok (.ifCond .le 5, 3) := by decide +kernel
theorem d_M_promise_48 : decode prog_7_method_32_code 48 = .ok (.iconst 0, 1) := by decide +kernel
theorem d_M_promise_49 : decode prog_7_method_32_code 49 = .ok (.ireturn, 1) := by decide +kernel
theorem d_M_promise_50 : decode prog_7_method_32_code 50 = .ok (.iconst 0, 1) := by decide +kernel
theorem d_M_promise_51 : decode prog_7_method_32_code 51 = .ok (.istore_n 2, 1) := by decide +kernel
theorem d_M_promise_52 : decode prog_7_method_32_code 52 = .ok (.iload_n 2, 1) := by decide +kernel
theorem d_M_promise_53 : decode prog_7_method_32_code 53 = .ok (.bipush 24, 2) := by decide +kernel
theorem d_M_promise_55 : decode prog_7_method_32_code 55 = .ok (.if_icmp .ge 73, 3) := by decide +kernel
theorem d_M_promise_58 : decode prog_7_method_32_code 58 = .ok (.iload_n 2, 1) := by decide +kernel
theorem d_M_promise_59 : decode prog_7_method_32_code 59 = .ok (.aload_n 0, 1) := by decide +kernel
theorem d_M_promise_60 : decode prog_7_method_32_code 60 = .ok (.getfield 99, 3) := by decide +kernel
theorem d_M_promise_63 : decode prog_7_method_32_code 63 = .ok (.if_icmp .ge 17, 3) := by decide +kernel
theorem d_M_promise_66 : decode prog_7_method_32_code 66 = .ok (.aload_n 0, 1) := by decide +kernel
theorem d_M_promise_67 : decode prog_7_method_32_code 67 = .ok (.getfield 34, 3) := by decide +kernel
theorem d_M_promise_70 : decode prog_7_method_32_code 70 = .ok (.iload_n 2, 1) := by decide +kernel
theorem d_M_promise_71 : decode prog_7_method_32_code 71 = .ok (.iaload, 1) := by decide +kernel
theorem d_M_promise_72 : decode prog_7_method_32_code 72 = .ok (.iload_n 1, 1) := by decide +kernel
theorem d_M_promise_73 : decode prog_7_method_32_code 73 = .ok (.if_icmp .ne 7, 3) := by decide +kernel
theorem d_M_promise_76 : decode prog_7_method_32_code 76 = .ok (.iconst 1, 1) := by decide +kernel
theorem d_M_promise_77 : decode prog_7_method_32_code 77 = .ok (.goto 4, 3) := by decide +kernel
theorem d_M_promise_80 : decode prog_7_method_32_code 80 = .ok (.iconst 0, 1) := by decide +kernel
theorem d_M_promise_81 : decode prog_7_method_32_code 81 = .ok (.istore_n 3, 1) := by decide +kernel
theorem d_M_promise_82 : decode prog_7_method_32_code 82 = .ok (.aload_n 0, 1) := by decide +kernel
theorem d_M_promise_83 : decode prog_7_method_32_code 83 = .ok (.getfield 46, 3) := by decide +kernel
theorem d_M_promise_86 : decode prog_7_method_32_code 86 = .ok (.iload_n 2, 1) := by decide +kernel
theorem d_M_promise_87 : decode prog_7_method_32_code 87 = .ok (.iload_n 3, 1) := by decide +kernel
theorem d_M_promise_88 : decode prog_7_method_32_code 88 = .ok (.ifCond .eq 7, 3) := by decide +kernel
theorem d_M_promise_91 : decode prog_7_method_32_code 91 = .ok (.iconst (-1), 1) := by decide +kernel
theorem d_M_promise_92 : decode prog_7_method_32_code 92 = .ok (.goto 9, 3) := by decide +kernel
theorem d_M_promise_95 : decode prog_7_method_32_code 95 = .ok (.aload_n 0, 1) := by decide +kernel
theorem d_M_promise_96 : decode prog_7_method_32_code 96 = .ok (.getfield 55, 3) := by decide +kernel
theorem d_M_promise_99 : decode prog_7_method_32_code 99 = .ok (.iload_n 2, 1) := by decide +kernel
theorem d_M_promise_100 : decode prog_7_method_32_code 100 = .ok (.iaload, 1) := by decide +kernel
theorem d_M_promise_101 : decode prog_7_method_32_code 101 = .ok (.iastore, 1) := by decide +kernel
theorem d_M_promise_102 : decode prog_7_method_32_code 102 = .ok (.aload_n 0, 1) := by decide +kernel
theorem d_M_promise_103 : decode prog_7_method_32_code 103 = .ok (.getfield 49, 3) := by decide +kernel
theorem d_M_promise_106 : decode prog_7_method_32_code 106 = .ok (.iload_n 2, 1) := by decide +kernel
theorem d_M_promise_107 : decode prog_7_method_32_code 107 = .ok (.iload_n 3, 1) := by decide +kernel
theorem d_M_promise_108 : decode prog_7_method_32_code 108 = .ok (.ifCond .eq 7, 3) := by decide +kernel
theorem d_M_promise_111 : decode prog_7_method_32_code 111 = .ok (.iconst (-1), 1) := by decide +kernel
theorem d_M_promise_112 : decode prog_7_method_32_code 112 = .ok (.goto 9, 3) := by decide +kernel
theorem d_M_promise_115 : decode prog_7_method_32_code 115 = .ok (.aload_n 0, 1) := by decide +kernel
theorem d_M_promise_116 : decode prog_7_method_32_code 116 = .ok (.getfield 58, 3) := by decide +kernel
theorem d_M_promise_119 : decode prog_7_method_32_code 119 = .ok (.iload_n 2, 1) := by decide +kernel
theorem d_M_promise_120 : decode prog_7_method_32_code 120 = .ok (.iaload, 1) := by decide +kernel
theorem d_M_promise_121 : decode prog_7_method_32_code 121 = .ok (.iastore, 1) := by decide +kernel
theorem d_M_promise_122 : decode prog_7_method_32_code 122 = .ok (.iinc 2 1, 3) := by decide +kernel
theorem d_M_promise_125 : decode prog_7_method_32_code 125 = .ok (.goto (-73), 3) := by decide +kernel
theorem d_M_promise_128 : decode prog_7_method_32_code 128 = .ok (.aload_n 0, 1) := by decide +kernel
theorem d_M_promise_129 : decode prog_7_method_32_code 129 = .ok (.iload_n 1, 1) := by decide +kernel
theorem d_M_promise_130 : decode prog_7_method_32_code 130 = .ok (.invokevirtual 113, 3) := by decide +kernel
theorem d_M_promise_133 : decode prog_7_method_32_code 133 = .ok (.ireturn, 1) := by decide +kernel
theorem d_M_clash_0 : decode prog_7_method_34_code 0 = .ok (.aload_n 0, 1) := by decide +kernel
theorem d_M_clash_1 : decode prog_7_method_34_code 1 = .ok (.iload_n 1, 1) := by decide +kernel
theorem d_M_clash_2 : decode prog_7_method_34_code 2 = .ok (.ifCond .ge 7, 3) := by decide +kernel
theorem d_M_clash_5 : decode prog_7_method_34_code 5 = .ok (.iconst 1, 1) := by decide +kernel
theorem d_M_clash_6 : decode prog_7_method_34_code 6 = .ok (.goto 15, 3) := by decide +kernel
theorem d_M_clash_9 : decode prog_7_method_34_code 9 = .ok (.aload_n 0, 1) := by decide +kernel
theorem d_M_clash_10 : decode prog_7_method_34_code 10 = .ok (.invokevirtual 159, 3) := by decide +kernel
theorem d_M_clash_13 : decode prog_7_method_34_code 13 = .ok (.ifCond .ne 7, 3) := by decide +kernel
theorem d_M_clash_16 : decode prog_7_method_34_code 16 = .ok (.iconst 2, 1) := by decide +kernel
theorem d_M_clash_17 : decode prog_7_method_34_code 17 = .ok (.goto 4, 3) := by decide +kernel
theorem d_M_clash_20 : decode prog_7_method_34_code 20 = .ok (.iconst 0, 1) := by decide +kernel
theorem d_M_clash_21 : decode prog_7_method_34_code 21 = .ok (.putfield 81, 3) := by decide +kernel
theorem d_M_clash_24 : decode prog_7_method_34_code 24 = .ok (.iconst 0, 1) := by decide +kernel
theorem d_M_clash_25 : decode prog_7_method_34_code 25 = .ok (.istore_n 2, 1) := by decide +kernel
theorem d_M_clash_26 : decode prog_7_method_34_code 26 = .ok (.iconst 0, 1) := by decide +kernel
theorem d_M_clash_27 : decode prog_7_method_34_code 27 = .ok (.istore_n 3, 1) := by decide +kernel
theorem d_M_clash_28 : decode prog_7_method_34_code 28 = .ok (.iload_n 3, 1) := by decide +kernel
theorem d_M_clash_29 : decode prog_7_method_34_code 29 = .ok (.aload_n 0, 1) := by decide +kernel
theorem d_M_clash_30 : decode prog_7_method_34_code 30 = .ok (.getfield 96, 3) := by decide +kernel
theorem d_M_clash_33 : decode prog_7_method_34_code 33 = .ok (.if_icmp .ge 93, 3) := by decide +kernel
theorem d_M_clash_36 : decode prog_7_method_34_code 36 = .ok (.aload_n 0, 1) := by decide +kernel
theorem d_M_clash_37 : decode prog_7_method_34_code 37 = .ok (.getfield 81, 3) := by decide +kernel
theorem d_M_clash_40 : decode prog_7_method_34_code 40 = .ok (.ifCond .ne 86, 3) := by decide +kernel
theorem d_M_clash_43 : decode prog_7_method_34_code 43 = .ok (.iload_n 3, 1) := by decide +kernel
theorem d_M_clash_44 : decode prog_7_method_34_code 44 = .ok (.iconst 1, 1) := by decide +kernel
theorem d_M_clash_45 : decode prog_7_method_34_code 45 = .ok (.iadd, 1) := by decide +kernel
theorem d_M_clash_46 : decode prog_7_method_34_code 46 = .ok (.istore 4, 2) := by decide +kernel
theorem d_M_clash_48 : decode prog_7_method_34_code 48 = .ok (.iload 4, 2) := by decide +kernel
theorem d_M_clash_50 : decode prog_7_method_34_code 50 = .ok (.aload_n 0, 1) := by decide +kernel
theorem d_M_clash_51 : decode prog_7_method_34_code 51 = .ok (.getfield 96, 3) := by decide +kernel
theorem d_M_clash_54 : decode prog_7_method_34_code 54 = .ok (.if_icmp .ge 66, 3) := by decide +kernel
theorem d_M_clash_57 : decode prog_7_method_34_code 57 = .ok (.aload_n 0, 1) := by decide +kernel
theorem d_M_clash_58 : decode prog_7_method_34_code 58 = .ok (.iload_n 3, 1) := by decide +kernel
theorem d_M_clash_59 : decode prog_7_method_34_code 59 = .ok (.invokevirtual 141, 3) := by decide +kernel
theorem d_M_clash_62 : decode prog_7_method_34_code 62 = .ok (.lconst 0, 1) := by decide +kernel
theorem d_M_clash_63 : decode prog_7_method_34_code 63 = .ok (.lcmp, 1) := by decide +kernel
theorem d_M_clash_64 : decode prog_7_method_34_code 64 = .ok (.ifCond .ne 50, 3) := by decide +kernel
theorem d_M_clash_67 : decode prog_7_method_34_code 67 = .ok (.aload_n 0, 1) := by decide +kernel
theorem d_M_clash_68 : decode prog_7_method_34_code 68 = .ok (.iload 4, 2) := by decide +kernel
theorem d_M_clash_70 : decode prog_7_method_34_code 70 = .ok (.invokevirtual 141, 3) := by decide +kernel
theorem d_M_clash_73 : decode prog_7_method_34_code 73 = .ok (.lconst 0, 1) := by decide +kernel
theorem d_M_clash_74 : decode prog_7_method_34_code 74 = .ok (.lcmp, 1) := by decide +kernel
theorem d_M_clash_75 : decode prog_7_method_34_code 75 = .ok (.ifCond .ne 39, 3) := by decide +kernel
theorem d_M_clash_78 : decode prog_7_method_34_code 78 = .ok (.aload_n 0, 1) := by decide +kernel
theorem d_M_clash_79 : decode prog_7_method_34_code 79 = .ok (.iload_n 3, 1) := by decide +kernel
theorem d_M_clash_80 : decode prog_7_method_34_code 80 = .ok (.iload 4, 2) := by decide +kernel
theorem d_M_clash_82 : decode prog_7_method_34_code 82 = .ok (.invokevirtual 184, 3) := by decide +kernel
theorem d_M_clash_85 : decode prog_7_method_34_code 85 = .ok (.ifCond .ne 29, 3) := by decide +kernel
theorem d_M_clash_88 : decode prog_7_method_34_code 88 = .ok (.aload_n 0, 1) := by decide +kernel
theorem d_M_clash_89 : decode prog_7_method_34_code 89 = .ok (.iload 4, 2) := by decide +kernel
theorem d_M_clash_91 : decode prog_7_method_34_code 91 = .ok (.iload_n 3, 1) := by decide +kernel
theorem d_M_clash_92 : decode prog_7_method_34_code 92 = .ok (.invokevirtual 184, 3) := by decide +kernel
theorem d_M_clash_95 : decode prog_7_method_34_code 95 = .ok (.ifCond .ne 19, 3) := by decide +kernel
theorem d_M_clash_98 : decode prog_7_method_34_code 98 = .ok (.iload_n 2, 1) := by decide +kernel
theorem d_M_clash_99 : decode prog_7_method_34_code 99 = .ok (.iload_n 1, 1) := by decide +kernel
theorem d_M_clash_100 : decode prog_7_method_34_code 100 = .ok (.if_icmp .ne 11, 3) := by decide +kernel
theorem d_M_clash_103 : decode prog_7_method_34_code 103 = .ok (.bipush 8, 2) := by decide +kernel
theorem d_M_clash_105 : decode prog_7_method_34_code 105 = .ok (.iload_n 3, 1) := by decide +kernel
theorem d_M_clash_106 : decode prog_7_method_34_code 106 = .ok (.imul, 1) := by decide +kernel
theorem d_M_clash_107 : decode prog_7_method_34_code 107 = .ok (.iload 4, 2) := by decide +kernel
theorem d_M_clash_109 : decode prog_7_method_34_code 109 = .ok (.iadd, 1) := by decide +kernel
theorem d_M_clash_110 : decode prog_7_method_34_code 110 = .ok (.ireturn, 1) := by decide +kernel
theorem d_M_clash_111 : decode prog_7_method_34_code 111 = .ok (.iinc 2 1, 3) := by decide +kernel
theorem d_M_clash_114 : decode prog_7_method_34_code 114 = .ok (.iinc 4 1, 3) := by decide +kernel
theorem d_M_clash_117 : decode prog_7_method_34_code 117 = .ok (.goto (-69), 3) := by decide +kernel
theorem d_M_clash_120 : decode prog_7_method_34_code 120 = .ok (.iinc 3 1, 3) := by decide +kernel
theorem d_M_clash_123 : decode prog_7_method_34_code 123 = .ok (.goto (-95), 3) := by decide +kernel
theorem d_M_clash_126 : decode prog_7_method_34_code 126 = .ok (.aload_n 0, 1) := by decide +kernel
theorem d_M_clash_127 : decode prog_7_method_34_code 127 = .ok (.getfield 81, 3) := by decide +kernel
theorem d_M_clash_130 : decode prog_7_method_34_code 130 = .ok (.ifCond .le 7, 3) := by decide +kernel
theorem d_M_clash_133 : decode prog_7_method_34_code 133 = .ok (.iconst 0, 1) := by decide +kernel
theorem d_M_clash_134 : decode prog_7_method_34_code 134 = .ok (.goto 4, 3) := by decide +kernel
theorem d_M_clash_137 : decode prog_7_method_34_code 137 = .ok (.iconst (-1), 1) := by decide +kernel
theorem d_M_clash_138 : decode prog_7_method_34_code 138 = .ok (.ireturn, 1) := by decide +kernel
theorem d_M_canBoth_0 : decode prog_7_method_33_code 0 = .ok (.aload_n 0, 1) := by decide +kernel
theorem d_M_canBoth_1 : decode prog_7_method_33_code 1 = .ok (.getfield 67, 3) := by decide +kernel
theorem d_M_canBoth_4 : decode prog_7_method_33_code 4 = .ok (.iconst 0, 1) := by decide +kernel
theorem d_M_canBoth_5 : decode prog_7_method_33_code 5 = .ok (.iload_n 1, 1) := by decide +kernel
theorem d_M_canBoth_6 : decode prog_7_method_33_code 6 = .ok (.iastore, 1) := by decide +kernel
theorem d_M_canBoth_7 : decode prog_7_method_33_code 7 = .ok (.aload_n 0, 1) := by decide +kernel
theorem d_M_canBoth_8 : decode prog_7_method_33_code 8 = .ok (.getfield 67, 3) := by decide +kernel
theorem d_M_canBoth_11 : decode prog_7_method_33_code 11 = .ok (.iconst 1, 1) := by decide +kernel
theorem d_M_canBoth_12 : decode prog_7_method_33_code 12 = .ok (.iload_n 2, 1) := by decide +kernel
theorem d_M_canBoth_13 : decode prog_7_method_33_code 13 = .ok (.iastore, 1) := by decide +kernel
theorem d_M_canBoth_14 : decode prog_7_method_33_code 14 = .ok (.aload_n 0, 1) := by decide +kernel
theorem d_M_canBoth_15 : decode prog_7_method_33_code 15 = .ok (.iconst 2, 1) := by decide +kernel
theorem d_M_canBoth_16 : decode prog_7_method_33_code 16 = .ok (.invokevirtual 125, 3) := by decide +kernel
theorem d_M_canBoth_19 : decode prog_7_method_33_code 19 = .ok (.lconst 0, 1) := by decide +kernel
theorem d_M_canBoth_20 : decode prog_7_method_33_code 20 = .ok (.lcmp, 1) := by decide +kernel
theorem d_M_canBoth_21 : decode prog_7_method_33_code 21 = .ok (.ifCond .ne 7, 3) := by decide +kernel
theorem d_M_canBoth_24 : decode prog_7_method_33_code 24 = .ok (.iconst 1, 1) := by decide +kernel
theorem d_M_canBoth_25 : decode prog_7_method_33_code 25 = .ok (.goto 4, 3) := by decide +kernel
theorem d_M_canBoth_28 : decode prog_7_method_33_code 28 = .ok (.iconst 0, 1) := by decide +kernel
theorem d_M_canBoth_29 : decode prog_7_method_33_code 29 = .ok (.ireturn, 1) := by decide +kernel
theorem d_M_check_0 : decode prog_7_method_38_code 0 = .ok (.aload_n 0, 1) := by decide +kernel
theorem d_M_check_1 : decode prog_7_method_38_code 1 = .ok (.aload_n 0, 1) := by decide +kernel
theorem d_M_check_2 : decode prog_7_method_38_code 2 = .ok (.getfield 144, 3) := by decide +kernel
theorem d_M_check_5 : decode prog_7_method_38_code 5 = .ok (.ifCond .eq 7, 3) := by decide +kernel
theorem d_M_check_8 : decode prog_7_method_38_code 8 = .ok (.iconst 0, 1) := by decide +kernel
theorem d_M_check_9 : decode prog_7_method_38_code 9 = .ok (.goto 4, 3) := by decide +kernel
theorem d_M_check_12 : decode prog_7_method_38_code 12 = .ok (.iconst 1, 1) := by decide +kernel
theorem d_M_check_13 : decode prog_7_method_38_code 13 = .ok (.putfield 81, 3) := by decide +kernel
theorem d_M_check_16 : decode prog_7_method_38_code 16 = .ok (.iconst 1, 1) := by decide +kernel
theorem d_M_check_17 : decode prog_7_method_38_code 17 = .ok (.istore_n 1, 1) := by decide +kernel
theorem d_M_check_18 : decode prog_7_method_38_code 18 = .ok (.iload_n 1, 1) := by decide +kernel
theorem d_M_check_19 : decode prog_7_method_38_code 19 = .ok (.iconst 5, 1) := by decide +kernel
theorem d_M_check_20 : decode prog_7_method_38_code 20 = .ok (.if_icmp .ge 48, 3) := by decide +kernel
theorem d_M_check_23 : decode prog_7_method_38_code 23 = .ok (.aload_n 0, 1) := by decide +kernel
theorem d_M_check_24 : decode prog_7_method_38_code 24 = .ok (.getfield 81, 3) := by decide +kernel
theorem d_M_check_27 : decode prog_7_method_38_code 27 = .ok (.ifCond .ne 41, 3) := by decide +kernel
theorem d_M_check_30 : decode prog_7_method_38_code 30 = .ok (.iconst 0, 1) := by decide +kernel
theorem d_M_check_31 : decode prog_7_method_38_code 31 = .ok (.istore_n 2, 1) := by decide +kernel
theorem d_M_check_32 : decode prog_7_method_38_code 32 = .ok (.iload_n 2, 1) := by decide +kernel
theorem d_M_check_33 : decode prog_7_method_38_code 33 = .ok (.aload_n 0, 1) := by decide +kernel
theorem d_M_check_34 : decode prog_7_method_38_code 34 = .ok (.getfield 99, 3) := by decide +kernel
theorem d_M_check_37 : decode prog_7_method_38_code 37 = .ok (.if_icmp .ge 25, 3) := by decide +kernel
theorem d_M_check_40 : decode prog_7_method_38_code 40 = .ok (.aload_n 0, 1) := by decide +kernel
theorem d_M_check_41 : decode prog_7_method_38_code 41 = .ok (.iload_n 1, 1) := by decide +kernel
theorem d_M_check_42 : decode prog_7_method_38_code 42 = .ok (.iload_n 2, 1) := by decide +kernel
theorem d_M_check_43 : decode prog_7_method_38_code 43 = .ok (.invokevirtual 191, 3) := by decide +kernel
theorem d_M_check_46 : decode prog_7_method_38_code 46 = .ok (.ifCond .eq 10, 3) := by decide +kernel
theorem d_M_check_49 : decode prog_7_method_38_code 49 = .ok (.bipush 100, 2) := by decide +kernel
theorem d_M_check_51 : decode prog_7_method_38_code 51 = .ok (.iload_n 1, 1) := by decide +kernel
theorem d_M_check_52 : decode prog_7_method_38_code 52 = .ok (.imul, 1) := by decide +kernel
theorem d_M_check_53 : decode prog_7_method_38_code 53 = .ok (.iload_n 2, 1) := by decide +kernel
theorem d_M_check_54 : decode prog_7_method_38_code 54 = .ok (.iadd, 1) := by decide +kernel
theorem d_M_check_55 : decode prog_7_method_38_code 55 = .ok (.ireturn, 1) := by decide +kernel
theorem d_M_check_56 : decode prog_7_method_38_code 56 = .ok (.iinc 2 1, 3) := by decide +kernel
theorem d_M_check_59 : decode prog_7_method_38_code 59 = .ok (.goto (-27), 3) := by decide +kernel
theorem d_M_check_62 : decode prog_7_method_38_code 62 = .ok (.iinc 1 1, 3) := by decide +kernel
theorem d_M_check_65 : decode prog_7_method_38_code 65 = .ok (.goto (-47), 3) := by decide +kernel
theorem d_M_check_68 : decode prog_7_method_38_code 68 = .ok (.iconst 0, 1) := by decide +kernel
theorem d_M_check_69 : decode prog_7_method_38_code 69 = .ok (.istore_n 1, 1) := by decide +kernel
theorem d_M_check_70 : decode prog_7_method_38_code 70 = .ok (.iload_n 1, 1) := by decide +kernel
theorem d_M_check_71 : decode prog_7_method_38_code 71 = .ok (.aload_n 0, 1) := by decide +kernel
theorem d_M_check_72 : decode prog_7_method_38_code 72 = .ok (.getfield 96, 3) := by decide +kernel
theorem d_M_check_75 : decode prog_7_method_38_code 75 = .ok (.if_icmp .ge 30, 3) := by decide +kernel
theorem d_M_check_78 : decode prog_7_method_38_code 78 = .ok (.aload_n 0, 1) := by decide +kernel
theorem d_M_check_79 : decode prog_7_method_38_code 79 = .ok (.getfield 81, 3) := by decide +kernel
theorem d_M_check_82 : decode prog_7_method_38_code 82 = .ok (.ifCond .ne 23, 3) := by decide +kernel
theorem d_M_check_85 : decode prog_7_method_38_code 85 = .ok (.aload_n 0, 1) := by decide +kernel
theorem d_M_check_86 : decode prog_7_method_38_code 86 = .ok (.iload_n 1, 1) := by decide +kernel
theorem d_M_check_87 : decode prog_7_method_38_code 87 = .ok (.invokevirtual 194, 3) := by decide +kernel
theorem d_M_check_90 : decode prog_7_method_38_code 90 = .ok (.ifCond .eq 9, 3) := by decide +kernel
theorem d_M_check_93 : decode prog_7_method_38_code 93 = .ok (.sipush 500, 3) := by decide +kernel
theorem d_M_check_96 : decode prog_7_method_38_code 96 = .ok (.iload_n 1, 1) := by decide +kernel
theorem d_M_check_97 : decode prog_7_method_38_code 97 = .ok (.iadd, 1) := by decide +kernel
theorem d_M_check_98 : decode prog_7_method_38_code 98 = .ok (.ireturn, 1) := by decide +kernel
theorem d_M_check_99 : decode prog_7_method_38_code 99 = .ok (.iinc 1 1, 3) := by decide +kernel
theorem d_M_check_102 : decode prog_7_method_38_code 102 = .ok (.goto (-32), 3) := by decide +kernel
theorem d_M_check_105 : decode prog_7_method_38_code 105 = .ok (.iconst 0, 1) := by decide +kernel
theorem d_M_check_106 : decode prog_7_method_38_code 106 = .ok (.ireturn, 1) := by decide +kernel
theorem d_M_breaks_0 : decode prog_7_method_36_code 0 = .ok (.aload_n 0, 1) := by decide +kernel
theorem d_M_breaks_1 : decode prog_7_method_36_code 1 = .ok (.getfield 55, 3) := by decide +kernel
theorem d_M_breaks_4 : decode prog_7_method_36_code 4 = .ok (.iload_n 2, 1) := by decide +kernel
theorem d_M_breaks_5 : decode prog_7_method_36_code 5 = .ok (.iaload, 1) := by decide +kernel
theorem d_M_breaks_6 : decode prog_7_method_36_code 6 = .ok (.istore_n 3, 1) := by decide +kernel
theorem d_M_breaks_7 : decode prog_7_method_36_code 7 = .ok (.iload_n 3, 1) := by decide +kernel
theorem d_M_breaks_8 : decode prog_7_method_36_code 8 = .ok (.aload_n 0, 1) := by decide +kernel
theorem d_M_breaks_9 : decode prog_7_method_36_code 9 = .ok (.getfield 40, 3) := by decide +kernel
theorem d_M_breaks_12 : decode prog_7_method_36_code 12 = .ok (.iload_n 2, 1) := by decide +kernel
theorem d_M_breaks_13 : decode prog_7_method_36_code 13 = .ok (.iaload, 1) := by decide +kernel
theorem d_M_breaks_14 : decode prog_7_method_36_code 14 = .ok (.iadd, 1) := by decide +kernel
theorem d_M_breaks_15 : decode prog_7_method_36_code 15 = .ok (.istore 4, 2) := by decide +kernel
theorem d_M_breaks_17 : decode prog_7_method_36_code 17 = .ok (.aload_n 0, 1) := by decide +kernel
theorem d_M_breaks_18 : decode prog_7_method_36_code 18 = .ok (.getfield 58, 3) := by decide +kernel
theorem d_M_breaks_21 : decode prog_7_method_36_code 21 = .ok (.iload_n 2, 1) := by decide +kernel
theorem d_M_breaks_22 : decode prog_7_method_36_code 22 = .ok (.iaload, 1) := by decide +kernel
theorem d_M_breaks_23 : decode prog_7_method_36_code 23 = .ok (.istore 5, 2) := by decide +kernel
theorem d_M_breaks_25 : decode prog_7_method_36_code 25 = .ok (.iload_n 1, 1) := by decide +kernel
theorem d_M_breaks_26 : decode prog_7_method_36_code 26 = .ok (.iconst 1, 1) := by decide +kernel
theorem d_M_breaks_27 : decode prog_7_method_36_code 27 = .ok (.if_icmp .ne 14, 3) := by decide +kernel
theorem d_M_breaks_30 : decode prog_7_method_36_code 30 = .ok (.iload_n 3, 1) := by decide +kernel
theorem d_M_breaks_31 : decode prog_7_method_36_code 31 = .ok (.iconst (-1), 1) := by decide +kernel
theorem d_M_breaks_32 : decode prog_7_method_36_code 32 = .ok (.if_icmp .ne 7, 3) := by decide +kernel
theorem d_M_breaks_35 : decode prog_7_method_36_code 35 = .ok (.iconst 1, 1) := by decide +kernel
theorem d_M_breaks_36 : decode prog_7_method_36_code 36 = .ok (.goto 4, 3) := by decide +kernel
theorem d_M_breaks_39 : decode prog_7_method_36_code 39 = .ok (.iconst 0, 1) := by decide +kernel
theorem d_M_breaks_40 : decode prog_7_method_36_code 40 = .ok (.ireturn, 1) := by decide +kernel
theorem d_M_breaks_41 : decode prog_7_method_36_code 41 = .ok (.iload_n 1, 1) := by decide +kernel
theorem d_M_breaks_42 : decode prog_7_method_36_code 42 = .ok (.iconst 2, 1) := by decide +kernel
theorem d_M_breaks_43 : decode prog_7_method_36_code 43 = .ok (.if_icmp .ne 49, 3) := by decide +kernel
theorem d_M_breaks_46 : decode prog_7_method_36_code 46 = .ok (.aload_n 0, 1) := by decide +kernel
theorem d_M_breaks_47 : decode prog_7_method_36_code 47 = .ok (.iload_n 2, 1) := by decide +kernel
theorem d_M_breaks_48 : decode prog_7_method_36_code 48 = .ok (.invokevirtual 188, 3) := by decide +kernel
theorem d_M_breaks_51 : decode prog_7_method_36_code 51 = .ok (.istore 6, 2) := by decide +kernel
theorem d_M_breaks_53 : decode prog_7_method_36_code 53 = .ok (.iload 6, 2) := by decide +kernel
theorem d_M_breaks_55 : decode prog_7_method_36_code 55 = .ok (.iconst (-1), 1) := by decide +kernel
theorem d_M_breaks_56 : decode prog_7_method_36_code 56 = .ok (.if_icmp .eq 34, 3) := by decide +kernel
theorem d_M_breaks_59 : decode prog_7_method_36_code 59 = .ok (.iload_n 3, 1) := by decide +kernel
theorem d_M_breaks_60 : decode prog_7_method_36_code 60 = .ok (.aload_n 0, 1) := by decide +kernel
theorem d_M_breaks_61 : decode prog_7_method_36_code 61 = .ok (.getfield 55, 3) := by decide +kernel
theorem d_M_breaks_64 : decode prog_7_method_36_code 64 = .ok (.iload 6, 2) := by decide +kernel
theorem d_M_breaks_66 : decode prog_7_method_36_code 66 = .ok (.iaload, 1) := by decide +kernel
theorem d_M_breaks_67 : decode prog_7_method_36_code 67 = .ok (.aload_n 0, 1) := by decide +kernel
theorem d_M_breaks_68 : decode prog_7_method_36_code 68 = .ok (.getfield 40, 3) := by decide +kernel
theorem d_M_breaks_71 : decode prog_7_method_36_code 71 = .ok (.iload 6, 2) := by decide +kernel
theorem d_M_breaks_73 : decode prog_7_method_36_code 73 = .ok (.iaload, 1) := by decide +kernel
theorem d_M_breaks_74 : decode prog_7_method_36_code 74 = .ok (.iadd, 1) := by decide +kernel
theorem d_M_breaks_75 : decode prog_7_method_36_code 75 = .ok (.aload_n 0, 1) := by decide +kernel
theorem d_M_breaks_76 : decode prog_7_method_36_code 76 = .ok (.getfield 43, 3) := by decide +kernel
theorem d_M_breaks_79 : decode prog_7_method_36_code 79 = .ok (.iload 6, 2) := by decide +kernel
theorem d_M_breaks_81 : decode prog_7_method_36_code 81 = .ok (.iaload, 1) := by decide +kernel
theorem d_M_breaks_82 : decode prog_7_method_36_code 82 = .ok (.iadd, 1) := by decide +kernel
theorem d_M_breaks_83 : decode prog_7_method_36_code 83 = .ok (.if_icmp .ge 7, 3) := by decide +kernel
theorem d_M_breaks_86 : decode prog_7_method_36_code 86 = .ok (.iconst 1, 1) := by decide +kernel
theorem d_M_breaks_87 : decode prog_7_method_36_code 87 = .ok (.goto 4, 3) := by decide +kernel
theorem d_M_breaks_90 : decode prog_7_method_36_code 90 = .ok (.iconst 0, 1) := by decide +kernel
theorem d_M_breaks_91 : decode prog_7_method_36_code 91 = .ok (.ireturn, 1) := by decide +kernel
theorem d_M_breaks_92 : decode prog_7_method_36_code 92 = .ok (.iconst 0, 1) := by decide +kernel
theorem d_M_breaks_93 : decode prog_7_method_36_code 93 = .ok (.istore 6, 2) := by decide +kernel
theorem d_M_breaks_95 : decode prog_7_method_36_code 95 = .ok (.iconst 0, 1) := by decide +kernel
theorem d_M_breaks_96 : decode prog_7_method_36_code 96 = .ok (.istore 7, 2) := by decide +kernel
theorem d_M_breaks_98 : decode prog_7_method_36_code 98 = .ok (.iload 7, 2) := by decide +kernel
theorem d_M_breaks_100 : decode prog_7_method_36_code 100 = .ok (.iload_n 2, 1) := by decide +kernel
theorem d_M_breaks_101 : decode prog_7_method_36_code 101 = .ok (.if_icmp .ge 69, 3) := by decide +kernel
theorem d_M_breaks_104 : decode prog_7_method_36_code 104 = .ok (.iload_n 1, 1) := by decide +kernel
theorem d_M_breaks_105 : decode prog_7_method_36_code 105 = .ok (.iconst 3, 1) := by decide +kernel
theorem d_M_breaks_106 : decode prog_7_method_36_code 106 = .ok (.if_icmp .ne 64, 3) := by decide +kernel
theorem d_M_breaks_109 : decode prog_7_method_36_code 109 = .ok (.iload 6, 2) := by decide +kernel
theorem d_M_breaks_111 : decode prog_7_method_36_code 111 = .ok (.ifCond .ne 46, 3) := by decide +kernel
theorem d_M_breaks_114 : decode prog_7_method_36_code 114 = .ok (.aload_n 0, 1) := by decide +kernel
theorem d_M_breaks_115 : decode prog_7_method_36_code 115 = .ok (.getfield 58, 3) := by decide +kernel
theorem d_M_breaks_118 : decode prog_7_method_36_code 118 = .ok (.iload 7, 2) := by decide +kernel
theorem d_M_breaks_120 : decode prog_7_method_36_code 120 = .ok (.iaload, 1) := by decide +kernel
theorem d_M_breaks_121 : decode prog_7_method_36_code 121 = .ok (.iload 5, 2) := by decide +kernel
theorem d_M_breaks_123 : decode prog_7_method_36_code 123 = .ok (.if_icmp .ne 38, 3) := by decide +kernel
theorem d_M_breaks_126 : decode prog_7_method_36_code 126 = .ok (.iload_n 3, 1) := by decide +kernel
theorem d_M_breaks_127 : decode prog_7_method_36_code 127 = .ok (.iload 4, 2) := by decide +kernel
theorem d_M_breaks_129 : decode prog_7_method_36_code 129 = .ok (.aload_n 0, 1) := by decide +kernel
theorem d_M_breaks_130 : decode prog_7_method_36_code 130 = .ok (.getfield 55, 3) := by decide +kernel
theorem d_M_breaks_133 : decode prog_7_method_36_code 133 = .ok (.iload 7, 2) := by decide +kernel
theorem d_M_breaks_135 : decode prog_7_method_36_code 135 = .ok (.iaload, 1) := by decide +kernel
theorem d_M_breaks_136 : decode prog_7_method_36_code 136 = .ok (.aload_n 0, 1) := by decide +kernel
theorem d_M_breaks_137 : decode prog_7_method_36_code 137 = .ok (.getfield 55, 3) := by decide +kernel
theorem d_M_breaks_140 : decode prog_7_method_36_code 140 = .ok (.iload 7, 2) := by decide +kernel
theorem d_M_breaks_142 : decode prog_7_method_36_code 142 = .ok (.iaload, 1) := by decide +kernel
theorem d_M_breaks_143 : decode prog_7_method_36_code 143 = .ok (.aload_n 0, 1) := by decide +kernel
theorem d_M_breaks_144 : decode prog_7_method_36_code 144 = .ok (.getfield 40, 3) := by decide +kernel
theorem d_M_breaks_147 : decode prog_7_method_36_code 147 = .ok (.iload 7, 2) := by decide +kernel
theorem d_M_breaks_149 : decode prog_7_method_36_code 149 = .ok (.iaload, 1) := by decide +kernel
theorem d_M_breaks_150 : decode prog_7_method_36_code 150 = .ok (.iadd, 1) := by decide +kernel
theorem d_M_breaks_151 : decode prog_7_method_36_code 151 = .ok (.invokestatic 102, 3) := by decide +kernel
theorem d_M_breaks_154 : decode prog_7_method_36_code 154 = .ok (.ifCond .eq 7, 3) := by decide +kernel
theorem d_M_breaks_157 : decode prog_7_method_36_code 157 = .ok (.iconst 1, 1) := by decide +kernel
theorem d_M_breaks_158 : decode prog_7_method_36_code 158 = .ok (.goto 4, 3) := by decide +kernel
theorem d_M_breaks_161 : decode prog_7_method_36_code 161 = .ok (.iconst 0, 1) := by decide +kernel
theorem d_M_breaks_162 : decode prog_7_method_36_code 162 = .ok (.istore 6, 2) := by decide +kernel
theorem d_M_breaks_164 : decode prog_7_method_36_code 164 = .ok (.iinc 7 1, 3) := by decide +kernel
theorem d_M_breaks_167 : decode prog_7_method_36_code 167 = .ok (.goto (-69), 3) := by decide +kernel
theorem d_M_breaks_170 : decode prog_7_method_36_code 170 = .ok (.bipush 8, 2) := by decide +kernel
theorem d_M_breaks_172 : decode prog_7_method_36_code 172 = .ok (.iload 5, 2) := by decide +kernel
theorem d_M_breaks_174 : decode prog_7_method_36_code 174 = .ok (.imul, 1) := by decide +kernel
theorem d_M_breaks_175 : decode prog_7_method_36_code 175 = .ok (.istore 7, 2) := by decide +kernel
theorem d_M_breaks_177 : decode prog_7_method_36_code 177 = .ok (.iload 7, 2) := by decide +kernel
theorem d_M_breaks_179 : decode prog_7_method_36_code 179 = .ok (.bipush 8, 2) := by decide +kernel
theorem d_M_breaks_181 : decode prog_7_method_36_code 181 = .ok (.iload 5, 2) := by decide +kernel
theorem d_M_breaks_183 : decode prog_7_method_36_code 183 = .ok (.imul, 1) := by decide +kernel
theorem d_M_breaks_184 : decode prog_7_method_36_code 184 = .ok (.aload_n 0, 1) := by decide +kernel
theorem d_M_breaks_185 : decode prog_7_method_36_code 185 = .ok (.getfield 13, 3) := by decide +kernel
theorem d_M_breaks_188 : decode prog_7_method_36_code 188 = .ok (.iload 5, 2) := by decide +kernel
theorem d_M_breaks_190 : decode prog_7_method_36_code 190 = .ok (.iaload, 1) := by decide +kernel
theorem d_M_breaks_191 : decode prog_7_method_36_code 191 = .ok (.iadd, 1) := by decide +kernel
theorem d_M_breaks_192 : decode prog_7_method_36_code 192 = .ok (.if_icmp .ge 49, 3) := by decide +kernel
theorem d_M_breaks_195 : decode prog_7_method_36_code 195 = .ok (.iload_n 1, 1) := by decide +kernel
theorem d_M_breaks_196 : decode prog_7_method_36_code 196 = .ok (.iconst 4, 1) := by decide +kernel
theorem d_M_breaks_197 : decode prog_7_method_36_code 197 = .ok (.if_icmp .ne 44, 3) := by decide +kernel
theorem d_M_breaks_200 : decode prog_7_method_36_code 200 = .ok (.iload 6, 2) := by decide +kernel
theorem d_M_breaks_202 : decode prog_7_method_36_code 202 = .ok (.ifCond .ne 26, 3) := by decide +kernel
theorem d_M_breaks_205 : decode prog_7_method_36_code 205 = .ok (.iload_n 3, 1) := by decide +kernel
theorem d_M_breaks_206 : decode prog_7_method_36_code 206 = .ok (.iload 4, 2) := by decide +kernel
theorem d_M_breaks_208 : decode prog_7_method_36_code 208 = .ok (.aload_n 0, 1) := by decide +kernel
theorem d_M_breaks_209 : decode prog_7_method_36_code 209 = .ok (.getfield 16, 3) := by decide +kernel
theorem d_M_breaks_212 : decode prog_7_method_36_code 212 = .ok (.iload 7, 2) := by decide +kernel
theorem d_M_breaks_214 : decode prog_7_method_36_code 214 = .ok (.iaload, 1) := by decide +kernel
theorem d_M_breaks_215 : decode prog_7_method_36_code 215 = .ok (.aload_n 0, 1) := by decide +kernel
theorem d_M_breaks_216 : decode prog_7_method_36_code 216 = .ok (.getfield 19, 3) := by decide +kernel
theorem d_M_breaks_219 : decode prog_7_method_36_code 219 = .ok (.iload 7, 2) := by decide +kernel
theorem d_M_breaks_221 : decode prog_7_method_36_code 221 = .ok (.iaload, 1) := by decide +kernel
theorem d_M_breaks_222 : decode prog_7_method_36_code 222 = .ok (.invokestatic 102, 3) := by decide +kernel
theorem d_M_breaks_225 : decode prog_7_method_36_code 225 = .ok (.ifCond .eq 7, 3) := by decide +kernel
theorem d_M_breaks_228 : decode prog_7_method_36_code 228 = .ok (.iconst 1, 1) := by decide +kernel
theorem d_M_breaks_229 : decode prog_7_method_36_code 229 = .ok (.goto 4, 3) := by decide +kernel
theorem d_M_breaks_232 : decode prog_7_method_36_code 232 = .ok (.iconst 0, 1) := by decide +kernel
theorem d_M_breaks_233 : decode prog_7_method_36_code 233 = .ok (.istore 6, 2) := by decide +kernel
theorem d_M_breaks_235 : decode prog_7_method_36_code 235 = .ok (.iinc 7 1, 3) := by decide +kernel
theorem d_M_breaks_238 : decode prog_7_method_36_code 238 = .ok (.goto (-61), 3) := by decide +kernel
theorem d_M_breaks_241 : decode prog_7_method_36_code 241 = .ok (.iload 6, 2) := by decide +kernel
theorem d_M_breaks_243 : decode prog_7_method_36_code 243 = .ok (.ireturn, 1) := by decide +kernel
theorem d_M_before_0 : decode prog_7_method_35_code 0 = .ok (.iconst (-1), 1) := by decide +kernel
theorem d_M_before_1 : decode prog_7_method_35_code 1 = .ok (.istore_n 2, 1) := by decide +kernel
theorem d_M_before_2 : decode prog_7_method_35_code 2 = .ok (.iconst 0, 1) := by decide +kernel
theorem d_M_before_3 : decode prog_7_method_35_code 3 = .ok (.istore_n 3, 1) := by decide +kernel
theorem d_M_before_4 : decode prog_7_method_35_code 4 = .ok (.iload_n 3, 1) := by decide +kernel
theorem d_M_before_5 : decode prog_7_method_35_code 5 = .ok (.iload_n 1, 1) := by decide +kernel
theorem d_M_before_6 : decode prog_7_method_35_code 6 = .ok (.if_icmp .ge 30, 3) := by decide +kernel
theorem d_M_before_9 : decode prog_7_method_35_code 9 = .ok (.aload_n 0, 1) := by decide +kernel
theorem d_M_before_10 : decode prog_7_method_35_code 10 = .ok (.getfield 34, 3) := by decide +kernel
theorem d_M_before_13 : decode prog_7_method_35_code 13 = .ok (.iload_n 3, 1) := by decide +kernel
theorem d_M_before_14 : decode prog_7_method_35_code 14 = .ok (.iaload, 1) := by decide +kernel
theorem d_M_before_15 : decode prog_7_method_35_code 15 = .ok (.aload_n 0, 1) := by decide +kernel
theorem d_M_before_16 : decode prog_7_method_35_code 16 = .ok (.getfield 34, 3) := by decide +kernel
theorem d_M_before_19 : decode prog_7_method_35_code 19 = .ok (.iload_n 1, 1) := by decide +kernel
theorem d_M_before_20 : decode prog_7_method_35_code 20 = .ok (.iaload, 1) := by decide +kernel
theorem d_M_before_21 : decode prog_7_method_35_code 21 = .ok (.if_icmp .ne 7, 3) := by decide +kernel
theorem d_M_before_24 : decode prog_7_method_35_code 24 = .ok (.iload_n 3, 1) := by decide +kernel
theorem d_M_before_25 : decode prog_7_method_35_code 25 = .ok (.goto 4, 3) := by decide +kernel
theorem d_M_before_28 : decode prog_7_method_35_code 28 = .ok (.iload_n 2, 1) := by decide +kernel
theorem d_M_before_29 : decode prog_7_method_35_code 29 = .ok (.istore_n 2, 1) := by decide +kernel
theorem d_M_before_30 : decode prog_7_method_35_code 30 = .ok (.iinc 3 1, 3) := by decide +kernel
theorem d_M_before_33 : decode prog_7_method_35_code 33 = .ok (.goto (-29), 3) := by decide +kernel
theorem d_M_before_36 : decode prog_7_method_35_code 36 = .ok (.iload_n 2, 1) := by decide +kernel
theorem d_M_before_37 : decode prog_7_method_35_code 37 = .ok (.ireturn, 1) := by decide +kernel
theorem d_M_isLate_0 : decode prog_7_method_37_code 0 = .ok (.aload_n 0, 1) := by decide +kernel
theorem d_M_isLate_1 : decode prog_7_method_37_code 1 = .ok (.getfield 28, 3) := by decide +kernel
theorem d_M_isLate_4 : decode prog_7_method_37_code 4 = .ok (.iload_n 1, 1) := by decide +kernel
theorem d_M_isLate_5 : decode prog_7_method_37_code 5 = .ok (.iaload, 1) := by decide +kernel
theorem d_M_isLate_6 : decode prog_7_method_37_code 6 = .ok (.ifCond .ne 7, 3) := by decide +kernel
theorem d_M_isLate_9 : decode prog_7_method_37_code 9 = .ok (.iconst (-1), 1) := by decide +kernel
theorem d_M_isLate_10 : decode prog_7_method_37_code 10 = .ok (.goto 20, 3) := by decide +kernel
theorem d_M_isLate_13 : decode prog_7_method_37_code 13 = .ok (.aload_n 0, 1) := by decide +kernel
theorem d_M_isLate_14 : decode prog_7_method_37_code 14 = .ok (.getfield 31, 3) := by decide +kernel
theorem d_M_isLate_17 : decode prog_7_method_37_code 17 = .ok (.iconst 4, 1) := by decide +kernel
theorem d_M_isLate_18 : decode prog_7_method_37_code 18 = .ok (.iload_n 1, 1) := by decide +kernel
theorem d_M_isLate_19 : decode prog_7_method_37_code 19 = .ok (.imul, 1) := by decide +kernel
theorem d_M_isLate_20 : decode prog_7_method_37_code 20 = .ok (.aload_n 0, 1) := by decide +kernel
theorem d_M_isLate_21 : decode prog_7_method_37_code 21 = .ok (.getfield 28, 3) := by decide +kernel
theorem d_M_isLate_24 : decode prog_7_method_37_code 24 = .ok (.iload_n 1, 1) := by decide +kernel
theorem d_M_isLate_25 : decode prog_7_method_37_code 25 = .ok (.iaload, 1) := by decide +kernel
theorem d_M_isLate_26 : decode prog_7_method_37_code 26 = .ok (.iadd, 1) := by decide +kernel
theorem d_M_isLate_27 : decode prog_7_method_37_code 27 = .ok (.iconst 1, 1) := by decide +kernel
theorem d_M_isLate_28 : decode prog_7_method_37_code 28 = .ok (.isub, 1) := by decide +kernel
theorem d_M_isLate_29 : decode prog_7_method_37_code 29 = .ok (.iaload, 1) := by decide +kernel
theorem d_M_isLate_30 : decode prog_7_method_37_code 30 = .ok (.istore_n 2, 1) := by decide +kernel
theorem d_M_isLate_31 : decode prog_7_method_37_code 31 = .ok (.iload_n 2, 1) := by decide +kernel
theorem d_M_isLate_32 : decode prog_7_method_37_code 32 = .ok (.iconst (-1), 1) := by decide +kernel
theorem d_M_isLate_33 : decode prog_7_method_37_code 33 = .ok (.if_icmp .eq 29, 3) := by decide +kernel
theorem d_M_isLate_36 : decode prog_7_method_37_code 36 = .ok (.aload_n 0, 1) := by decide +kernel
theorem d_M_isLate_37 : decode prog_7_method_37_code 37 = .ok (.getfield 55, 3) := by decide +kernel
theorem d_M_isLate_40 : decode prog_7_method_37_code 40 = .ok (.iload_n 2, 1) := by decide +kernel
theorem d_M_isLate_41 : decode prog_7_method_37_code 41 = .ok (.iaload, 1) := by decide +kernel
theorem d_M_isLate_42 : decode prog_7_method_37_code 42 = .ok (.aload_n 0, 1) := by decide +kernel
theorem d_M_isLate_43 : decode prog_7_method_37_code 43 = .ok (.getfield 40, 3) := by decide +kernel
theorem d_M_isLate_46 : decode prog_7_method_37_code 46 = .ok (.iload_n 2, 1) := by decide +kernel
theorem d_M_isLate_47 : decode prog_7_method_37_code 47 = .ok (.iaload, 1) := by decide +kernel
theorem d_M_isLate_48 : decode prog_7_method_37_code 48 = .ok (.iadd, 1) := by decide +kernel
theorem d_M_isLate_49 : decode prog_7_method_37_code 49 = .ok (.aload_n 0, 1) := by decide +kernel
theorem d_M_isLate_50 : decode prog_7_method_37_code 50 = .ok (.getfield 22, 3) := by decide +kernel
theorem d_M_isLate_53 : decode prog_7_method_37_code 53 = .ok (.iload_n 1, 1) := by decide +kernel
theorem d_M_isLate_54 : decode prog_7_method_37_code 54 = .ok (.iaload, 1) := by decide +kernel
theorem d_M_isLate_55 : decode prog_7_method_37_code 55 = .ok (.if_icmp .le 7, 3) := by decide +kernel
theorem d_M_isLate_58 : decode prog_7_method_37_code 58 = .ok (.iconst 1, 1) := by decide +kernel
theorem d_M_isLate_59 : decode prog_7_method_37_code 59 = .ok (.goto 4, 3) := by decide +kernel
theorem d_M_isLate_62 : decode prog_7_method_37_code 62 = .ok (.iconst 0, 1) := by decide +kernel
theorem d_M_isLate_63 : decode prog_7_method_37_code 63 = .ok (.ireturn, 1) := by decide +kernel
