theorem dX7_init_0 : decode cX7_init 0 = .ok (.aload_n 0, 1) := by decide +kernel
theorem dX7_init_1 : decode cX7_init 1 = .ok (.invokespecial 3, 3) := by decide +kernel
theorem dX7_init_4 : decode cX7_init 4 = .ok (.aload_n 0, 1) := by decide +kernel
theorem dX7_init_5 : decode cX7_init 5 = .ok (.new 9, 3) := by decide +kernel
theorem dX7_init_8 : decode cX7_init 8 = .ok (.dup, 1) := by decide +kernel
theorem dX7_init_9 : decode cX7_init 9 = .ok (.invokespecial 11, 3) := by decide +kernel
theorem dX7_init_12 : decode cX7_init 12 = .ok (.putfield 12, 3) := by decide +kernel
theorem dX7_init_15 : decode cX7_init 15 = .ok (.aload_n 0, 1) := by decide +kernel
theorem dX7_init_16 : decode cX7_init 16 = .ok (.new 9, 3) := by decide +kernel
theorem dX7_init_19 : decode cX7_init 19 = .ok (.dup, 1) := by decide +kernel
theorem dX7_init_20 : decode cX7_init 20 = .ok (.invokespecial 11, 3) := by decide +kernel
theorem dX7_init_23 : decode cX7_init 23 = .ok (.putfield 16, 3) := by decide +kernel
theorem dX7_init_26 : decode cX7_init 26 = .ok (.aload_n 0, 1) := by decide +kernel
theorem dX7_init_27 : decode cX7_init 27 = .ok (.new 19, 3) := by decide +kernel
theorem dX7_init_30 : decode cX7_init 30 = .ok (.dup, 1) := by decide +kernel
theorem dX7_init_31 : decode cX7_init 31 = .ok (.invokespecial 21, 3) := by decide +kernel
theorem dX7_init_34 : decode cX7_init 34 = .ok (.putfield 22, 3) := by decide +kernel
theorem dX7_init_37 : decode cX7_init 37 = .ok (.aload_n 0, 1) := by decide +kernel
theorem dX7_init_38 : decode cX7_init 38 = .ok (.new 26, 3) := by decide +kernel
theorem dX7_init_41 : decode cX7_init 41 = .ok (.dup, 1) := by decide +kernel
theorem dX7_init_42 : decode cX7_init 42 = .ok (.aload_n 0, 1) := by decide +kernel
theorem dX7_init_43 : decode cX7_init 43 = .ok (.getfield 16, 3) := by decide +kernel
theorem dX7_init_46 : decode cX7_init 46 = .ok (.aload_n 0, 1) := by decide +kernel
theorem dX7_init_47 : decode cX7_init 47 = .ok (.getfield 22, 3) := by decide +kernel
theorem dX7_init_50 : decode cX7_init 50 = .ok (.invokespecial 28, 3) := by decide +kernel
theorem dX7_init_53 : decode cX7_init 53 = .ok (.putfield 31, 3) := by decide +kernel
theorem dX7_init_56 : decode cX7_init 56 = .ok (.aload_n 0, 1) := by decide +kernel
theorem dX7_init_57 : decode cX7_init 57 = .ok (.new 35, 3) := by decide +kernel
theorem dX7_init_60 : decode cX7_init 60 = .ok (.dup, 1) := by decide +kernel
theorem dX7_init_61 : decode cX7_init 61 = .ok (.aload_n 0, 1) := by decide +kernel
theorem dX7_init_62 : decode cX7_init 62 = .ok (.getfield 16, 3) := by decide +kernel
theorem dX7_init_65 : decode cX7_init 65 = .ok (.aload_n 0, 1) := by decide +kernel
theorem dX7_init_66 : decode cX7_init 66 = .ok (.getfield 22, 3) := by decide +kernel
theorem dX7_init_69 : decode cX7_init 69 = .ok (.invokespecial 37, 3) := by decide +kernel
theorem dX7_init_72 : decode cX7_init 72 = .ok (.putfield 38, 3) := by decide +kernel
theorem dX7_init_75 : decode cX7_init 75 = .ok (.aload_n 0, 1) := by decide +kernel
theorem dX7_init_76 : decode cX7_init 76 = .ok (.new 42, 3) := by decide +kernel
theorem dX7_init_79 : decode cX7_init 79 = .ok (.dup, 1) := by decide +kernel
theorem dX7_init_80 : decode cX7_init 80 = .ok (.invokespecial 44, 3) := by decide +kernel
theorem dX7_init_83 : decode cX7_init 83 = .ok (.putfield 45, 3) := by decide +kernel
theorem dX7_init_86 : decode cX7_init 86 = .ok (.aload_n 0, 1) := by decide +kernel
theorem dX7_init_87 : decode cX7_init 87 = .ok (.new 49, 3) := by decide +kernel
theorem dX7_init_90 : decode cX7_init 90 = .ok (.dup, 1) := by decide +kernel
theorem dX7_init_91 : decode cX7_init 91 = .ok (.aload_n 0, 1) := by decide +kernel
theorem dX7_init_92 : decode cX7_init 92 = .ok (.getfield 12, 3) := by decide +kernel
theorem dX7_init_95 : decode cX7_init 95 = .ok (.aload_n 0, 1) := by decide +kernel
theorem dX7_init_96 : decode cX7_init 96 = .ok (.getfield 45, 3) := by decide +kernel
theorem dX7_init_99 : decode cX7_init 99 = .ok (.invokespecial 51, 3) := by decide +kernel
theorem dX7_init_102 : decode cX7_init 102 = .ok (.putfield 54, 3) := by decide +kernel
theorem dX7_init_105 : decode cX7_init 105 = .ok (.aload_n 0, 1) := by decide +kernel
theorem dX7_init_106 : decode cX7_init 106 = .ok (.iconst 0, 1) := by decide +kernel
theorem dX7_init_107 : decode cX7_init 107 = .ok (.putfield 58, 3) := by decide +kernel
theorem dX7_init_110 : decode cX7_init 110 = .ok (.return_, 1) := by decide +kernel
theorem dX7_function_0 : decode cX7_function 0 = .ok (.iload_n 1, 1) := by decide +kernel
theorem dX7_function_1 : decode cX7_function 1 = .ok (.ifCond .lt 8, 3) := by decide +kernel
theorem dX7_function_4 : decode cX7_function 4 = .ok (.iload_n 1, 1) := by decide +kernel
theorem dX7_function_5 : decode cX7_function 5 = .ok (.iconst 3, 1) := by decide +kernel
theorem dX7_function_6 : decode cX7_function 6 = .ok (.if_icmp .le 13, 3) := by decide +kernel
theorem dX7_function_9 : decode cX7_function 9 = .ok (.new 62, 3) := by decide +kernel
theorem dX7_function_12 : decode cX7_function 12 = .ok (.dup, 1) := by decide +kernel
theorem dX7_function_13 : decode cX7_function 13 = .ok (.ldc 64, 2) := by decide +kernel
theorem dX7_function_15 : decode cX7_function 15 = .ok (.invokespecial 66, 3) := by decide +kernel
theorem dX7_function_18 : decode cX7_function 18 = .ok (.athrow, 1) := by decide +kernel
theorem dX7_function_19 : decode cX7_function 19 = .ok (.aload_n 0, 1) := by decide +kernel
theorem dX7_function_20 : decode cX7_function 20 = .ok (.getfield 12, 3) := by decide +kernel
theorem dX7_function_23 : decode cX7_function 23 = .ok (.iconst 0, 1) := by decide +kernel
theorem dX7_function_24 : decode cX7_function 24 = .ok (.invokevirtual 69, 3) := by decide +kernel
theorem dX7_function_27 : decode cX7_function 27 = .ok (.ifCond .ne 17, 3) := by decide +kernel
theorem dX7_function_30 : decode cX7_function 30 = .ok (.iload_n 1, 1) := by decide +kernel
theorem dX7_function_31 : decode cX7_function 31 = .ok (.ifCond .eq 13, 3) := by decide +kernel
theorem dX7_function_34 : decode cX7_function 34 = .ok (.new 62, 3) := by decide +kernel
theorem dX7_function_37 : decode cX7_function 37 = .ok (.dup, 1) := by decide +kernel
theorem dX7_function_38 : decode cX7_function 38 = .ok (.ldc 73, 2) := by decide +kernel
theorem dX7_function_40 : decode cX7_function 40 = .ok (.invokespecial 66, 3) := by decide +kernel
theorem dX7_function_43 : decode cX7_function 43 = .ok (.athrow, 1) := by decide +kernel
theorem dX7_function_44 : decode cX7_function 44 = .ok (.aload_n 0, 1) := by decide +kernel
theorem dX7_function_45 : decode cX7_function 45 = .ok (.getfield 12, 3) := by decide +kernel
theorem dX7_function_48 : decode cX7_function 48 = .ok (.getfield 75, 3) := by decide +kernel
theorem dX7_function_51 : decode cX7_function 51 = .ok (.bipush 6, 2) := by decide +kernel
theorem dX7_function_53 : decode cX7_function 53 = .ok (.if_icmp .lt 13, 3) := by decide +kernel
theorem dX7_function_56 : decode cX7_function 56 = .ok (.new 79, 3) := by decide +kernel
theorem dX7_function_59 : decode cX7_function 59 = .ok (.dup, 1) := by decide +kernel
theorem dX7_function_60 : decode cX7_function 60 = .ok (.ldc 81, 2) := by decide +kernel
theorem dX7_function_62 : decode cX7_function 62 = .ok (.invokespecial 83, 3) := by decide +kernel
theorem dX7_function_65 : decode cX7_function 65 = .ok (.athrow, 1) := by decide +kernel
theorem dX7_function_66 : decode cX7_function 66 = .ok (.aload_n 0, 1) := by decide +kernel
theorem dX7_function_67 : decode cX7_function 67 = .ok (.iconst 0, 1) := by decide +kernel
theorem dX7_function_68 : decode cX7_function 68 = .ok (.putfield 58, 3) := by decide +kernel
theorem dX7_function_71 : decode cX7_function 71 = .ok (.aload_n 0, 1) := by decide +kernel
theorem dX7_function_72 : decode cX7_function 72 = .ok (.getfield 12, 3) := by decide +kernel
theorem dX7_function_75 : decode cX7_function 75 = .ok (.iload_n 1, 1) := by decide +kernel
theorem dX7_function_76 : decode cX7_function 76 = .ok (.invokevirtual 84, 3) := by decide +kernel
theorem dX7_function_79 : decode cX7_function 79 = .ok (.ireturn, 1) := by decide +kernel
theorem dX7_code_0 : decode cX7_code 0 = .ok (.aload_n 0, 1) := by decide +kernel
theorem dX7_code_1 : decode cX7_code 1 = .ok (.getfield 12, 3) := by decide +kernel
theorem dX7_code_4 : decode cX7_code 4 = .ok (.iload_n 1, 1) := by decide +kernel
theorem dX7_code_5 : decode cX7_code 5 = .ok (.invokevirtual 69, 3) := by decide +kernel
theorem dX7_code_8 : decode cX7_code 8 = .ok (.ifCond .ne 13, 3) := by decide +kernel
theorem dX7_code_11 : decode cX7_code 11 = .ok (.new 88, 3) := by decide +kernel
theorem dX7_code_14 : decode cX7_code 14 = .ok (.dup, 1) := by decide +kernel
theorem dX7_code_15 : decode cX7_code 15 = .ok (.ldc 90, 2) := by decide +kernel
theorem dX7_code_17 : decode cX7_code 17 = .ok (.invokespecial 92, 3) := by decide +kernel
theorem dX7_code_20 : decode cX7_code 20 = .ok (.athrow, 1) := by decide +kernel
theorem dX7_code_21 : decode cX7_code 21 = .ok (.iload_n 2, 1) := by decide +kernel
theorem dX7_code_22 : decode cX7_code 22 = .ok (.bipush 15, 2) := by decide +kernel
theorem dX7_code_24 : decode cX7_code 24 = .ok (.iand, 1) := by decide +kernel
theorem dX7_code_25 : decode cX7_code 25 = .ok (.istore 7, 2) := by decide +kernel
theorem dX7_code_27 : decode cX7_code 27 = .ok (.iload_n 2, 1) := by decide +kernel
theorem dX7_code_28 : decode cX7_code 28 = .ok (.iconst 4, 1) := by decide +kernel
theorem dX7_code_29 : decode cX7_code 29 = .ok (.ishr, 1) := by decide +kernel
theorem dX7_code_30 : decode cX7_code 30 = .ok (.istore 8, 2) := by decide +kernel
theorem dX7_code_32 : decode cX7_code 32 = .ok (.iload 7, 2) := by decide +kernel
theorem dX7_code_34 : decode cX7_code 34 = .ok (.bipush 12, 2) := by decide +kernel
theorem dX7_code_36 : decode cX7_code 36 = .ok (.if_icmp .gt 15, 3) := by decide +kernel
theorem dX7_code_39 : decode cX7_code 39 = .ok (.iload 8, 2) := by decide +kernel
theorem dX7_code_41 : decode cX7_code 41 = .ok (.ifCond .lt 10, 3) := by decide +kernel
theorem dX7_code_44 : decode cX7_code 44 = .ok (.iload 8, 2) := by decide +kernel
theorem dX7_code_46 : decode cX7_code 46 = .ok (.bipush 6, 2) := by decide +kernel
theorem dX7_code_48 : decode cX7_code 48 = .ok (.if_icmp .lt 13, 3) := by decide +kernel
theorem dX7_code_51 : decode cX7_code 51 = .ok (.new 62, 3) := by decide +kernel
theorem dX7_code_54 : decode cX7_code 54 = .ok (.dup, 1) := by decide +kernel
theorem dX7_code_55 : decode cX7_code 55 = .ok (.ldc 93, 2) := by decide +kernel
theorem dX7_code_57 : decode cX7_code 57 = .ok (.invokespecial 66, 3) := by decide +kernel
theorem dX7_code_60 : decode cX7_code 60 = .ok (.athrow, 1) := by decide +kernel
theorem dX7_code_61 : decode cX7_code 61 = .ok (.getstatic 95, 3) := by decide +kernel
theorem dX7_code_64 : decode cX7_code 64 = .ok (.iload 7, 2) := by decide +kernel
theorem dX7_code_66 : decode cX7_code 66 = .ok (.iaload, 1) := by decide +kernel
theorem dX7_code_67 : decode cX7_code 67 = .ok (.iload 4, 2) := by decide +kernel
theorem dX7_code_69 : decode cX7_code 69 = .ok (.iload 5, 2) := by decide +kernel
theorem dX7_code_71 : decode cX7_code 71 = .ok (.iload 6, 2) := by decide +kernel
theorem dX7_code_73 : decode cX7_code 73 = .ok (.invokestatic 99, 3) := by decide +kernel
theorem dX7_code_76 : decode cX7_code 76 = .ok (.ifCond .eq 13, 3) := by decide +kernel
theorem dX7_code_79 : decode cX7_code 79 = .ok (.aload_n 0, 1) := by decide +kernel
theorem dX7_code_80 : decode cX7_code 80 = .ok (.iload 7, 2) := by decide +kernel
theorem dX7_code_82 : decode cX7_code 82 = .ok (.iload_n 3, 1) := by decide +kernel
theorem dX7_code_83 : decode cX7_code 83 = .ok (.invokevirtual 103, 3) := by decide +kernel
theorem dX7_code_86 : decode cX7_code 86 = .ok (.ifCond .ne 13, 3) := by decide +kernel
theorem dX7_code_89 : decode cX7_code 89 = .ok (.new 62, 3) := by decide +kernel
theorem dX7_code_92 : decode cX7_code 92 = .ok (.dup, 1) := by decide +kernel
theorem dX7_code_93 : decode cX7_code 93 = .ok (.ldc 107, 2) := by decide +kernel
theorem dX7_code_95 : decode cX7_code 95 = .ok (.invokespecial 66, 3) := by decide +kernel
theorem dX7_code_98 : decode cX7_code 98 = .ok (.athrow, 1) := by decide +kernel
theorem dX7_code_99 : decode cX7_code 99 = .ok (.aload_n 0, 1) := by decide +kernel
theorem dX7_code_100 : decode cX7_code 100 = .ok (.getfield 12, 3) := by decide +kernel
theorem dX7_code_103 : decode cX7_code 103 = .ok (.getfield 109, 3) := by decide +kernel
theorem dX7_code_106 : decode cX7_code 106 = .ok (.iload_n 1, 1) := by decide +kernel
theorem dX7_code_107 : decode cX7_code 107 = .ok (.iaload, 1) := by decide +kernel
theorem dX7_code_108 : decode cX7_code 108 = .ok (.bipush 16, 2) := by decide +kernel
theorem dX7_code_110 : decode cX7_code 110 = .ok (.if_icmp .lt 13, 3) := by decide +kernel
theorem dX7_code_113 : decode cX7_code 113 = .ok (.new 79, 3) := by decide +kernel
theorem dX7_code_116 : decode cX7_code 116 = .ok (.dup, 1) := by decide +kernel
theorem dX7_code_117 : decode cX7_code 117 = .ok (.ldc 112, 2) := by decide +kernel
theorem dX7_code_119 : decode cX7_code 119 = .ok (.invokespecial 83, 3) := by decide +kernel
theorem dX7_code_122 : decode cX7_code 122 = .ok (.athrow, 1) := by decide +kernel
theorem dX7_code_123 : decode cX7_code 123 = .ok (.aload_n 0, 1) := by decide +kernel
theorem dX7_code_124 : decode cX7_code 124 = .ok (.iconst 0, 1) := by decide +kernel
theorem dX7_code_125 : decode cX7_code 125 = .ok (.putfield 58, 3) := by decide +kernel
theorem dX7_code_128 : decode cX7_code 128 = .ok (.aload_n 0, 1) := by decide +kernel
theorem dX7_code_129 : decode cX7_code 129 = .ok (.getfield 12, 3) := by decide +kernel
theorem dX7_code_132 : decode cX7_code 132 = .ok (.iload_n 1, 1) := by decide +kernel
theorem dX7_code_133 : decode cX7_code 133 = .ok (.iload 7, 2) := by decide +kernel
theorem dX7_code_135 : decode cX7_code 135 = .ok (.iload 8, 2) := by decide +kernel
theorem dX7_code_137 : decode cX7_code 137 = .ok (.iload_n 3, 1) := by decide +kernel
theorem dX7_code_138 : decode cX7_code 138 = .ok (.invokevirtual 114, 3) := by decide +kernel
theorem dX7_code_141 : decode cX7_code 141 = .ok (.istore 9, 2) := by decide +kernel
theorem dX7_code_143 : decode cX7_code 143 = .ok (.aload_n 0, 1) := by decide +kernel
theorem dX7_code_144 : decode cX7_code 144 = .ok (.getfield 12, 3) := by decide +kernel
theorem dX7_code_147 : decode cX7_code 147 = .ok (.iload_n 1, 1) := by decide +kernel
theorem dX7_code_148 : decode cX7_code 148 = .ok (.iload 9, 2) := by decide +kernel
theorem dX7_code_150 : decode cX7_code 150 = .ok (.iconst 3, 1) := by decide +kernel
theorem dX7_code_151 : decode cX7_code 151 = .ok (.iload 4, 2) := by decide +kernel
theorem dX7_code_153 : decode cX7_code 153 = .ok (.invokevirtual 118, 3) := by decide +kernel
theorem dX7_code_156 : decode cX7_code 156 = .ok (.aload_n 0, 1) := by decide +kernel
theorem dX7_code_157 : decode cX7_code 157 = .ok (.getfield 12, 3) := by decide +kernel
theorem dX7_code_160 : decode cX7_code 160 = .ok (.iload_n 1, 1) := by decide +kernel
theorem dX7_code_161 : decode cX7_code 161 = .ok (.iload 9, 2) := by decide +kernel
theorem dX7_code_163 : decode cX7_code 163 = .ok (.iconst 4, 1) := by decide +kernel
theorem dX7_code_164 : decode cX7_code 164 = .ok (.iload 5, 2) := by decide +kernel
theorem dX7_code_166 : decode cX7_code 166 = .ok (.invokevirtual 118, 3) := by decide +kernel
theorem dX7_code_169 : decode cX7_code 169 = .ok (.aload_n 0, 1) := by decide +kernel
theorem dX7_code_170 : decode cX7_code 170 = .ok (.getfield 12, 3) := by decide +kernel
theorem dX7_code_173 : decode cX7_code 173 = .ok (.iload_n 1, 1) := by decide +kernel
theorem dX7_code_174 : decode cX7_code 174 = .ok (.iload 9, 2) := by decide +kernel
theorem dX7_code_176 : decode cX7_code 176 = .ok (.iconst 5, 1) := by decide +kernel
theorem dX7_code_177 : decode cX7_code 177 = .ok (.iload 6, 2) := by decide +kernel
theorem dX7_code_179 : decode cX7_code 179 = .ok (.invokevirtual 118, 3) := by decide +kernel
theorem dX7_code_182 : decode cX7_code 182 = .ok (.iload 9, 2) := by decide +kernel
theorem dX7_code_184 : decode cX7_code 184 = .ok (.ireturn, 1) := by decide +kernel
theorem dX7_table_0 : decode cX7_table 0 = .ok (.aload_n 0, 1) := by decide +kernel
theorem dX7_table_1 : decode cX7_table 1 = .ok (.getfield 12, 3) := by decide +kernel
theorem dX7_table_4 : decode cX7_table 4 = .ok (.iload_n 1, 1) := by decide +kernel
theorem dX7_table_5 : decode cX7_table 5 = .ok (.invokevirtual 69, 3) := by decide +kernel
theorem dX7_table_8 : decode cX7_table 8 = .ok (.ifCond .ne 13, 3) := by decide +kernel
theorem dX7_table_11 : decode cX7_table 11 = .ok (.new 88, 3) := by decide +kernel
theorem dX7_table_14 : decode cX7_table 14 = .ok (.dup, 1) := by decide +kernel
theorem dX7_table_15 : decode cX7_table 15 = .ok (.ldc 90, 2) := by decide +kernel
theorem dX7_table_17 : decode cX7_table 17 = .ok (.invokespecial 92, 3) := by decide +kernel
theorem dX7_table_20 : decode cX7_table 20 = .ok (.athrow, 1) := by decide +kernel
theorem dX7_table_21 : decode cX7_table 21 = .ok (.aload_n 0, 1) := by decide +kernel
theorem dX7_table_22 : decode cX7_table 22 = .ok (.getfield 12, 3) := by decide +kernel
theorem dX7_table_25 : decode cX7_table 25 = .ok (.getfield 122, 3) := by decide +kernel
theorem dX7_table_28 : decode cX7_table 28 = .ok (.iconst 4, 1) := by decide +kernel
theorem dX7_table_29 : decode cX7_table 29 = .ok (.if_icmp .lt 13, 3) := by decide +kernel
theorem dX7_table_32 : decode cX7_table 32 = .ok (.new 79, 3) := by decide +kernel
theorem dX7_table_35 : decode cX7_table 35 = .ok (.dup, 1) := by decide +kernel
theorem dX7_table_36 : decode cX7_table 36 = .ok (.ldc 125, 2) := by decide +kernel
theorem dX7_table_38 : decode cX7_table 38 = .ok (.invokespecial 83, 3) := by decide +kernel
theorem dX7_table_41 : decode cX7_table 41 = .ok (.athrow, 1) := by decide +kernel
theorem dX7_table_42 : decode cX7_table 42 = .ok (.aload_n 0, 1) := by decide +kernel
theorem dX7_table_43 : decode cX7_table 43 = .ok (.iconst 0, 1) := by decide +kernel
theorem dX7_table_44 : decode cX7_table 44 = .ok (.putfield 58, 3) := by decide +kernel
theorem dX7_table_47 : decode cX7_table 47 = .ok (.aload_n 0, 1) := by decide +kernel
theorem dX7_table_48 : decode cX7_table 48 = .ok (.getfield 12, 3) := by decide +kernel
theorem dX7_table_51 : decode cX7_table 51 = .ok (.iload_n 1, 1) := by decide +kernel
theorem dX7_table_52 : decode cX7_table 52 = .ok (.invokevirtual 127, 3) := by decide +kernel
theorem dX7_table_55 : decode cX7_table 55 = .ok (.ireturn, 1) := by decide +kernel
theorem dX7_input_0 : decode cX7_input 0 = .ok (.aload_n 0, 1) := by decide +kernel
theorem dX7_input_1 : decode cX7_input 1 = .ok (.getfield 54, 3) := by decide +kernel
theorem dX7_input_4 : decode cX7_input 4 = .ok (.iload_n 1, 1) := by decide +kernel
theorem dX7_input_5 : decode cX7_input 5 = .ok (.invokevirtual 130, 3) := by decide +kernel
theorem dX7_input_8 : decode cX7_input 8 = .ok (.ireturn, 1) := by decide +kernel
theorem dX7_empty_0 : decode cX7_empty 0 = .ok (.aload_n 0, 1) := by decide +kernel
theorem dX7_empty_1 : decode cX7_empty 1 = .ok (.getfield 54, 3) := by decide +kernel
theorem dX7_empty_4 : decode cX7_empty 4 = .ok (.invokevirtual 133, 3) := by decide +kernel
theorem dX7_empty_7 : decode cX7_empty 7 = .ok (.return_, 1) := by decide +kernel
theorem dX7_analyse_0 : decode cX7_analyse 0 = .ok (.iload_n 1, 1) := by decide +kernel
theorem dX7_analyse_1 : decode cX7_analyse 1 = .ok (.ifCond .lt 9, 3) := by decide +kernel
theorem dX7_analyse_4 : decode cX7_analyse 4 = .ok (.iload_n 1, 1) := by decide +kernel
theorem dX7_analyse_5 : decode cX7_analyse 5 = .ok (.bipush 6, 2) := by decide +kernel
theorem dX7_analyse_7 : decode cX7_analyse 7 = .ok (.if_icmp .le 13, 3) := by decide +kernel
theorem dX7_analyse_10 : decode cX7_analyse 10 = .ok (.new 62, 3) := by decide +kernel
theorem dX7_analyse_13 : decode cX7_analyse 13 = .ok (.dup, 1) := by decide +kernel
theorem dX7_analyse_14 : decode cX7_analyse 14 = .ok (.ldc 136, 2) := by decide +kernel
theorem dX7_analyse_16 : decode cX7_analyse 16 = .ok (.invokespecial 66, 3) := by decide +kernel
theorem dX7_analyse_19 : decode cX7_analyse 19 = .ok (.athrow, 1) := by decide +kernel
theorem dX7_analyse_20 : decode cX7_analyse 20 = .ok (.aload_n 0, 1) := by decide +kernel
theorem dX7_analyse_21 : decode cX7_analyse 21 = .ok (.getfield 12, 3) := by decide +kernel
theorem dX7_analyse_24 : decode cX7_analyse 24 = .ok (.iconst 0, 1) := by decide +kernel
theorem dX7_analyse_25 : decode cX7_analyse 25 = .ok (.invokevirtual 69, 3) := by decide +kernel
theorem dX7_analyse_28 : decode cX7_analyse 28 = .ok (.ifCond .ne 13, 3) := by decide +kernel
theorem dX7_analyse_31 : decode cX7_analyse 31 = .ok (.new 79, 3) := by decide +kernel
theorem dX7_analyse_34 : decode cX7_analyse 34 = .ok (.dup, 1) := by decide +kernel
theorem dX7_analyse_35 : decode cX7_analyse 35 = .ok (.ldc 138, 2) := by decide +kernel
theorem dX7_analyse_37 : decode cX7_analyse 37 = .ok (.invokespecial 83, 3) := by decide +kernel
theorem dX7_analyse_40 : decode cX7_analyse 40 = .ok (.athrow, 1) := by decide +kernel
theorem dX7_analyse_41 : decode cX7_analyse 41 = .ok (.aload_n 0, 1) := by decide +kernel
theorem dX7_analyse_42 : decode cX7_analyse 42 = .ok (.getfield 16, 3) := by decide +kernel
theorem dX7_analyse_45 : decode cX7_analyse 45 = .ok (.aload_n 0, 1) := by decide +kernel
theorem dX7_analyse_46 : decode cX7_analyse 46 = .ok (.getfield 12, 3) := by decide +kernel
theorem dX7_analyse_49 : decode cX7_analyse 49 = .ok (.invokevirtual 140, 3) := by decide +kernel
theorem dX7_analyse_52 : decode cX7_analyse 52 = .ok (.aload_n 0, 1) := by decide +kernel
theorem dX7_analyse_53 : decode cX7_analyse 53 = .ok (.getfield 31, 3) := by decide +kernel
theorem dX7_analyse_56 : decode cX7_analyse 56 = .ok (.invokevirtual 144, 3) := by decide +kernel
theorem dX7_analyse_59 : decode cX7_analyse 59 = .ok (.iconst 0, 1) := by decide +kernel
theorem dX7_analyse_60 : decode cX7_analyse 60 = .ok (.istore_n 2, 1) := by decide +kernel
theorem dX7_analyse_61 : decode cX7_analyse 61 = .ok (.iload_n 2, 1) := by decide +kernel
theorem dX7_analyse_62 : decode cX7_analyse 62 = .ok (.iload_n 1, 1) := by decide +kernel
theorem dX7_analyse_63 : decode cX7_analyse 63 = .ok (.if_icmp .ge 26, 3) := by decide +kernel
theorem dX7_analyse_66 : decode cX7_analyse 66 = .ok (.aload_n 0, 1) := by decide +kernel
theorem dX7_analyse_67 : decode cX7_analyse 67 = .ok (.getfield 38, 3) := by decide +kernel
theorem dX7_analyse_70 : decode cX7_analyse 70 = .ok (.invokevirtual 147, 3) := by decide +kernel
theorem dX7_analyse_73 : decode cX7_analyse 73 = .ok (.ifCond .eq 16, 3) := by decide +kernel
theorem dX7_analyse_76 : decode cX7_analyse 76 = .ok (.aload_n 0, 1) := by decide +kernel
theorem dX7_analyse_77 : decode cX7_analyse 77 = .ok (.getfield 31, 3) := by decide +kernel
theorem dX7_analyse_80 : decode cX7_analyse 80 = .ok (.invokevirtual 144, 3) := by decide +kernel
theorem dX7_analyse_83 : decode cX7_analyse 83 = .ok (.iinc 2 1, 3) := by decide +kernel
theorem dX7_analyse_86 : decode cX7_analyse 86 = .ok (.goto (-25), 3) := by decide +kernel
theorem dX7_analyse_89 : decode cX7_analyse 89 = .ok (.aload_n 0, 1) := by decide +kernel
theorem dX7_analyse_90 : decode cX7_analyse 90 = .ok (.getfield 38, 3) := by decide +kernel
theorem dX7_analyse_93 : decode cX7_analyse 93 = .ok (.invokevirtual 151, 3) := by decide +kernel
theorem dX7_analyse_96 : decode cX7_analyse 96 = .ok (.aload_n 0, 1) := by decide +kernel
theorem dX7_analyse_97 : decode cX7_analyse 97 = .ok (.iconst 1, 1) := by decide +kernel
theorem dX7_analyse_98 : decode cX7_analyse 98 = .ok (.putfield 58, 3) := by decide +kernel
theorem dX7_analyse_101 : decode cX7_analyse 101 = .ok (.aload_n 0, 1) := by decide +kernel
theorem dX7_analyse_102 : decode cX7_analyse 102 = .ok (.getfield 22, 3) := by decide +kernel
theorem dX7_analyse_105 : decode cX7_analyse 105 = .ok (.aload_n 0, 1) := by decide +kernel
theorem dX7_analyse_106 : decode cX7_analyse 106 = .ok (.getfield 16, 3) := by decide +kernel
theorem dX7_analyse_109 : decode cX7_analyse 109 = .ok (.getfield 75, 3) := by decide +kernel
theorem dX7_analyse_112 : decode cX7_analyse 112 = .ok (.invokevirtual 154, 3) := by decide +kernel
theorem dX7_analyse_115 : decode cX7_analyse 115 = .ok (.ireturn, 1) := by decide +kernel
theorem dX7_functions_0 : decode cX7_functions 0 = .ok (.aload_n 0, 1) := by decide +kernel
theorem dX7_functions_1 : decode cX7_functions 1 = .ok (.getfield 58, 3) := by decide +kernel
theorem dX7_functions_4 : decode cX7_functions 4 = .ok (.ifCond .eq 13, 3) := by decide +kernel
theorem dX7_functions_7 : decode cX7_functions 7 = .ok (.aload_n 0, 1) := by decide +kernel
theorem dX7_functions_8 : decode cX7_functions 8 = .ok (.getfield 16, 3) := by decide +kernel
theorem dX7_functions_11 : decode cX7_functions 11 = .ok (.getfield 75, 3) := by decide +kernel
theorem dX7_functions_14 : decode cX7_functions 14 = .ok (.goto 10, 3) := by decide +kernel
theorem dX7_functions_17 : decode cX7_functions 17 = .ok (.aload_n 0, 1) := by decide +kernel
theorem dX7_functions_18 : decode cX7_functions 18 = .ok (.getfield 12, 3) := by decide +kernel
theorem dX7_functions_21 : decode cX7_functions 21 = .ok (.getfield 75, 3) := by decide +kernel
theorem dX7_functions_24 : decode cX7_functions 24 = .ok (.ireturn, 1) := by decide +kernel
theorem dX7_kind_0 : decode cX7_kind 0 = .ok (.aload_n 0, 1) := by decide +kernel
theorem dX7_kind_1 : decode cX7_kind 1 = .ok (.iload_n 1, 1) := by decide +kernel
theorem dX7_kind_2 : decode cX7_kind 2 = .ok (.iload_n 2, 1) := by decide +kernel
theorem dX7_kind_3 : decode cX7_kind 3 = .ok (.iload_n 3, 1) := by decide +kernel
theorem dX7_kind_4 : decode cX7_kind 4 = .ok (.invokevirtual 157, 3) := by decide +kernel
theorem dX7_kind_7 : decode cX7_kind 7 = .ok (.istore 4, 2) := by decide +kernel
theorem dX7_kind_9 : decode cX7_kind 9 = .ok (.aload_n 0, 1) := by decide +kernel
theorem dX7_kind_10 : decode cX7_kind 10 = .ok (.getfield 22, 3) := by decide +kernel
theorem dX7_kind_13 : decode cX7_kind 13 = .ok (.getfield 161, 3) := by decide +kernel
theorem dX7_kind_16 : decode cX7_kind 16 = .ok (.iload 4, 2) := by decide +kernel
theorem dX7_kind_18 : decode cX7_kind 18 = .ok (.baload, 1) := by decide +kernel
theorem dX7_kind_19 : decode cX7_kind 19 = .ok (.ifCond .ne 5, 3) := by decide +kernel
theorem dX7_kind_22 : decode cX7_kind 22 = .ok (.iconst 0, 1) := by decide +kernel
theorem dX7_kind_23 : decode cX7_kind 23 = .ok (.ireturn, 1) := by decide +kernel
theorem dX7_kind_24 : decode cX7_kind 24 = .ok (.aload_n 0, 1) := by decide +kernel
theorem dX7_kind_25 : decode cX7_kind 25 = .ok (.getfield 22, 3) := by decide +kernel
theorem dX7_kind_28 : decode cX7_kind 28 = .ok (.iload 4, 2) := by decide +kernel
theorem dX7_kind_30 : decode cX7_kind 30 = .ok (.iload_n 3, 1) := by decide +kernel
theorem dX7_kind_31 : decode cX7_kind 31 = .ok (.invokevirtual 165, 3) := by decide +kernel
theorem dX7_kind_34 : decode cX7_kind 34 = .ok (.ifCond .eq 7, 3) := by decide +kernel
theorem dX7_kind_37 : decode cX7_kind 37 = .ok (.iconst 1, 1) := by decide +kernel
theorem dX7_kind_38 : decode cX7_kind 38 = .ok (.goto 4, 3) := by decide +kernel
theorem dX7_kind_41 : decode cX7_kind 41 = .ok (.iconst 2, 1) := by decide +kernel
theorem dX7_kind_42 : decode cX7_kind 42 = .ok (.ireturn, 1) := by decide +kernel
theorem dX7_number_0 : decode cX7_number 0 = .ok (.aload_n 0, 1) := by decide +kernel
theorem dX7_number_1 : decode cX7_number 1 = .ok (.iload_n 1, 1) := by decide +kernel
theorem dX7_number_2 : decode cX7_number 2 = .ok (.iload_n 2, 1) := by decide +kernel
theorem dX7_number_3 : decode cX7_number 3 = .ok (.iload_n 3, 1) := by decide +kernel
theorem dX7_number_4 : decode cX7_number 4 = .ok (.invokevirtual 157, 3) := by decide +kernel
theorem dX7_number_7 : decode cX7_number 7 = .ok (.istore 4, 2) := by decide +kernel
theorem dX7_number_9 : decode cX7_number 9 = .ok (.aload_n 0, 1) := by decide +kernel
theorem dX7_number_10 : decode cX7_number 10 = .ok (.getfield 22, 3) := by decide +kernel
theorem dX7_number_13 : decode cX7_number 13 = .ok (.getfield 161, 3) := by decide +kernel
theorem dX7_number_16 : decode cX7_number 16 = .ok (.iload 4, 2) := by decide +kernel
theorem dX7_number_18 : decode cX7_number 18 = .ok (.baload, 1) := by decide +kernel
theorem dX7_number_19 : decode cX7_number 19 = .ok (.ifCond .eq 29, 3) := by decide +kernel
theorem dX7_number_22 : decode cX7_number 22 = .ok (.aload_n 0, 1) := by decide +kernel
theorem dX7_number_23 : decode cX7_number 23 = .ok (.getfield 22, 3) := by decide +kernel
theorem dX7_number_26 : decode cX7_number 26 = .ok (.iload 4, 2) := by decide +kernel
theorem dX7_number_28 : decode cX7_number 28 = .ok (.iload_n 3, 1) := by decide +kernel
theorem dX7_number_29 : decode cX7_number 29 = .ok (.invokevirtual 165, 3) := by decide +kernel
theorem dX7_number_32 : decode cX7_number 32 = .ok (.ifCond .eq 16, 3) := by decide +kernel
theorem dX7_number_35 : decode cX7_number 35 = .ok (.aload_n 0, 1) := by decide +kernel
theorem dX7_number_36 : decode cX7_number 36 = .ok (.getfield 22, 3) := by decide +kernel
theorem dX7_number_39 : decode cX7_number 39 = .ok (.iload 4, 2) := by decide +kernel
theorem dX7_number_41 : decode cX7_number 41 = .ok (.iload_n 3, 1) := by decide +kernel
theorem dX7_number_42 : decode cX7_number 42 = .ok (.invokevirtual 168, 3) := by decide +kernel
theorem dX7_number_45 : decode cX7_number 45 = .ok (.goto 4, 3) := by decide +kernel
theorem dX7_number_48 : decode cX7_number 48 = .ok (.iconst 0, 1) := by decide +kernel
theorem dX7_number_49 : decode cX7_number 49 = .ok (.ireturn, 1) := by decide +kernel
theorem dX7_statement_0 : decode cX7_statement 0 = .ok (.aload_n 0, 1) := by decide +kernel
theorem dX7_statement_1 : decode cX7_statement 1 = .ok (.getfield 58, 3) := by decide +kernel
theorem dX7_statement_4 : decode cX7_statement 4 = .ok (.ifCond .ne 13, 3) := by decide +kernel
theorem dX7_statement_7 : decode cX7_statement 7 = .ok (.new 79, 3) := by decide +kernel
theorem dX7_statement_10 : decode cX7_statement 10 = .ok (.dup, 1) := by decide +kernel
theorem dX7_statement_11 : decode cX7_statement 11 = .ok (.ldc 172, 2) := by decide +kernel
theorem dX7_statement_13 : decode cX7_statement 13 = .ok (.invokespecial 83, 3) := by decide +kernel
theorem dX7_statement_16 : decode cX7_statement 16 = .ok (.athrow, 1) := by decide +kernel
theorem dX7_statement_17 : decode cX7_statement 17 = .ok (.aload_n 0, 1) := by decide +kernel
theorem dX7_statement_18 : decode cX7_statement 18 = .ok (.getfield 16, 3) := by decide +kernel
theorem dX7_statement_21 : decode cX7_statement 21 = .ok (.iload_n 1, 1) := by decide +kernel
theorem dX7_statement_22 : decode cX7_statement 22 = .ok (.invokevirtual 69, 3) := by decide +kernel
theorem dX7_statement_25 : decode cX7_statement 25 = .ok (.ifCond .eq 20, 3) := by decide +kernel
theorem dX7_statement_28 : decode cX7_statement 28 = .ok (.iload_n 2, 1) := by decide +kernel
theorem dX7_statement_29 : decode cX7_statement 29 = .ok (.ifCond .lt 16, 3) := by decide +kernel
theorem dX7_statement_32 : decode cX7_statement 32 = .ok (.iload_n 2, 1) := by decide +kernel
theorem dX7_statement_33 : decode cX7_statement 33 = .ok (.aload_n 0, 1) := by decide +kernel
theorem dX7_statement_34 : decode cX7_statement 34 = .ok (.getfield 16, 3) := by decide +kernel
theorem dX7_statement_37 : decode cX7_statement 37 = .ok (.getfield 109, 3) := by decide +kernel
theorem dX7_statement_40 : decode cX7_statement 40 = .ok (.iload_n 1, 1) := by decide +kernel
theorem dX7_statement_41 : decode cX7_statement 41 = .ok (.iaload, 1) := by decide +kernel
theorem dX7_statement_42 : decode cX7_statement 42 = .ok (.if_icmp .lt 13, 3) := by decide +kernel
theorem dX7_statement_45 : decode cX7_statement 45 = .ok (.new 88, 3) := by decide +kernel
theorem dX7_statement_48 : decode cX7_statement 48 = .ok (.dup, 1) := by decide +kernel
theorem dX7_statement_49 : decode cX7_statement 49 = .ok (.ldc 174, 2) := by decide +kernel
theorem dX7_statement_51 : decode cX7_statement 51 = .ok (.invokespecial 92, 3) := by decide +kernel
theorem dX7_statement_54 : decode cX7_statement 54 = .ok (.athrow, 1) := by decide +kernel
theorem dX7_statement_55 : decode cX7_statement 55 = .ok (.iload_n 3, 1) := by decide +kernel
theorem dX7_statement_56 : decode cX7_statement 56 = .ok (.ifCond .lt 9, 3) := by decide +kernel
theorem dX7_statement_59 : decode cX7_statement 59 = .ok (.iload_n 3, 1) := by decide +kernel
theorem dX7_statement_60 : decode cX7_statement 60 = .ok (.bipush 6, 2) := by decide +kernel
theorem dX7_statement_62 : decode cX7_statement 62 = .ok (.if_icmp .lt 13, 3) := by decide +kernel
theorem dX7_statement_65 : decode cX7_statement 65 = .ok (.new 62, 3) := by decide +kernel
theorem dX7_statement_68 : decode cX7_statement 68 = .ok (.dup, 1) := by decide +kernel
theorem dX7_statement_69 : decode cX7_statement 69 = .ok (.ldc 176, 2) := by decide +kernel
theorem dX7_statement_71 : decode cX7_statement 71 = .ok (.invokespecial 66, 3) := by decide +kernel
theorem dX7_statement_74 : decode cX7_statement 74 = .ok (.athrow, 1) := by decide +kernel
theorem dX7_statement_75 : decode cX7_statement 75 = .ok (.aload_n 0, 1) := by decide +kernel
theorem dX7_statement_76 : decode cX7_statement 76 = .ok (.getfield 16, 3) := by decide +kernel
theorem dX7_statement_79 : decode cX7_statement 79 = .ok (.iload_n 1, 1) := by decide +kernel
theorem dX7_statement_80 : decode cX7_statement 80 = .ok (.iload_n 2, 1) := by decide +kernel
theorem dX7_statement_81 : decode cX7_statement 81 = .ok (.iload_n 3, 1) := by decide +kernel
theorem dX7_statement_82 : decode cX7_statement 82 = .ok (.invokevirtual 178, 3) := by decide +kernel
theorem dX7_statement_85 : decode cX7_statement 85 = .ok (.ireturn, 1) := by decide +kernel
theorem dX7_run_0 : decode cX7_run 0 = .ok (.iload_n 2, 1) := by decide +kernel
theorem dX7_run_1 : decode cX7_run 1 = .ok (.ifCond .lt 10, 3) := by decide +kernel
theorem dX7_run_4 : decode cX7_run 4 = .ok (.iload_n 2, 1) := by decide +kernel
theorem dX7_run_5 : decode cX7_run 5 = .ok (.sipush 3000, 3) := by decide +kernel
theorem dX7_run_8 : decode cX7_run 8 = .ok (.if_icmp .le 13, 3) := by decide +kernel
theorem dX7_run_11 : decode cX7_run 11 = .ok (.new 62, 3) := by decide +kernel
theorem dX7_run_14 : decode cX7_run 14 = .ok (.dup, 1) := by decide +kernel
theorem dX7_run_15 : decode cX7_run 15 = .ok (.ldc 181, 2) := by decide +kernel
theorem dX7_run_17 : decode cX7_run 17 = .ok (.invokespecial 66, 3) := by decide +kernel
theorem dX7_run_20 : decode cX7_run 20 = .ok (.athrow, 1) := by decide +kernel
theorem dX7_run_21 : decode cX7_run 21 = .ok (.aload_n 0, 1) := by decide +kernel
theorem dX7_run_22 : decode cX7_run 22 = .ok (.getfield 12, 3) := by decide +kernel
theorem dX7_run_25 : decode cX7_run 25 = .ok (.iconst 0, 1) := by decide +kernel
theorem dX7_run_26 : decode cX7_run 26 = .ok (.invokevirtual 69, 3) := by decide +kernel
theorem dX7_run_29 : decode cX7_run 29 = .ok (.ifCond .ne 13, 3) := by decide +kernel
theorem dX7_run_32 : decode cX7_run 32 = .ok (.new 79, 3) := by decide +kernel
theorem dX7_run_35 : decode cX7_run 35 = .ok (.dup, 1) := by decide +kernel
theorem dX7_run_36 : decode cX7_run 36 = .ok (.ldc 138, 2) := by decide +kernel
theorem dX7_run_38 : decode cX7_run 38 = .ok (.invokespecial 83, 3) := by decide +kernel
theorem dX7_run_41 : decode cX7_run 41 = .ok (.athrow, 1) := by decide +kernel
theorem dX7_run_42 : decode cX7_run 42 = .ok (.iload_n 1, 1) := by decide +kernel
theorem dX7_run_43 : decode cX7_run 43 = .ok (.ifCond .eq 20, 3) := by decide +kernel
theorem dX7_run_46 : decode cX7_run 46 = .ok (.aload_n 0, 1) := by decide +kernel
theorem dX7_run_47 : decode cX7_run 47 = .ok (.getfield 58, 3) := by decide +kernel
theorem dX7_run_50 : decode cX7_run 50 = .ok (.ifCond .ne 13, 3) := by decide +kernel
theorem dX7_run_53 : decode cX7_run 53 = .ok (.new 79, 3) := by decide +kernel
theorem dX7_run_56 : decode cX7_run 56 = .ok (.dup, 1) := by decide +kernel
theorem dX7_run_57 : decode cX7_run 57 = .ok (.ldc 183, 2) := by decide +kernel
theorem dX7_run_59 : decode cX7_run 59 = .ok (.invokespecial 83, 3) := by decide +kernel
theorem dX7_run_62 : decode cX7_run 62 = .ok (.athrow, 1) := by decide +kernel
theorem dX7_run_63 : decode cX7_run 63 = .ok (.aload_n 0, 1) := by decide +kernel
theorem dX7_run_64 : decode cX7_run 64 = .ok (.getfield 54, 3) := by decide +kernel
theorem dX7_run_67 : decode cX7_run 67 = .ok (.iload_n 1, 1) := by decide +kernel
theorem dX7_run_68 : decode cX7_run 68 = .ok (.ifCond .eq 10, 3) := by decide +kernel
theorem dX7_run_71 : decode cX7_run 71 = .ok (.aload_n 0, 1) := by decide +kernel
theorem dX7_run_72 : decode cX7_run 72 = .ok (.getfield 16, 3) := by decide +kernel
theorem dX7_run_75 : decode cX7_run 75 = .ok (.goto 7, 3) := by decide +kernel
theorem dX7_run_78 : decode cX7_run 78 = .ok (.aload_n 0, 1) := by decide +kernel
theorem dX7_run_79 : decode cX7_run 79 = .ok (.getfield 12, 3) := by decide +kernel
theorem dX7_run_82 : decode cX7_run 82 = .ok (.iload_n 2, 1) := by decide +kernel
theorem dX7_run_83 : decode cX7_run 83 = .ok (.invokevirtual 185, 3) := by decide +kernel
theorem dX7_run_86 : decode cX7_run 86 = .ok (.ireturn, 1) := by decide +kernel
theorem dX7_done_0 : decode cX7_done 0 = .ok (.aload_n 0, 1) := by decide +kernel
theorem dX7_done_1 : decode cX7_done 1 = .ok (.getfield 45, 3) := by decide +kernel
theorem dX7_done_4 : decode cX7_done 4 = .ok (.getfield 189, 3) := by decide +kernel
theorem dX7_done_7 : decode cX7_done 7 = .ok (.ireturn, 1) := by decide +kernel
theorem dX7_outputs_0 : decode cX7_outputs 0 = .ok (.aload_n 0, 1) := by decide +kernel
theorem dX7_outputs_1 : decode cX7_outputs 1 = .ok (.getfield 45, 3) := by decide +kernel
theorem dX7_outputs_4 : decode cX7_outputs 4 = .ok (.getfield 192, 3) := by decide +kernel
theorem dX7_outputs_7 : decode cX7_outputs 7 = .ok (.ireturn, 1) := by decide +kernel
theorem dX7_output_0 : decode cX7_output 0 = .ok (.iload_n 1, 1) := by decide +kernel
theorem dX7_output_1 : decode cX7_output 1 = .ok (.ifCond .lt 14, 3) := by decide +kernel
theorem dX7_output_4 : decode cX7_output 4 = .ok (.iload_n 1, 1) := by decide +kernel
theorem dX7_output_5 : decode cX7_output 5 = .ok (.aload_n 0, 1) := by decide +kernel
theorem dX7_output_6 : decode cX7_output 6 = .ok (.getfield 45, 3) := by decide +kernel
theorem dX7_output_9 : decode cX7_output 9 = .ok (.getfield 192, 3) := by decide +kernel
theorem dX7_output_12 : decode cX7_output 12 = .ok (.if_icmp .lt 13, 3) := by decide +kernel
theorem dX7_output_15 : decode cX7_output 15 = .ok (.new 88, 3) := by decide +kernel
theorem dX7_output_18 : decode cX7_output 18 = .ok (.dup, 1) := by decide +kernel
theorem dX7_output_19 : decode cX7_output 19 = .ok (.ldc 195, 2) := by decide +kernel
theorem dX7_output_21 : decode cX7_output 21 = .ok (.invokespecial 92, 3) := by decide +kernel
theorem dX7_output_24 : decode cX7_output 24 = .ok (.athrow, 1) := by decide +kernel
theorem dX7_output_25 : decode cX7_output 25 = .ok (.aload_n 0, 1) := by decide +kernel
theorem dX7_output_26 : decode cX7_output 26 = .ok (.getfield 45, 3) := by decide +kernel
theorem dX7_output_29 : decode cX7_output 29 = .ok (.getfield 197, 3) := by decide +kernel
theorem dX7_output_32 : decode cX7_output 32 = .ok (.iload_n 1, 1) := by decide +kernel
theorem dX7_output_33 : decode cX7_output 33 = .ok (.iaload, 1) := by decide +kernel
theorem dX7_output_34 : decode cX7_output 34 = .ok (.ireturn, 1) := by decide +kernel
theorem dX7_calls_0 : decode cX7_calls 0 = .ok (.iload_n 1, 1) := by decide +kernel
theorem dX7_calls_1 : decode cX7_calls 1 = .ok (.ifCond .lt 9, 3) := by decide +kernel
theorem dX7_calls_4 : decode cX7_calls 4 = .ok (.iload_n 1, 1) := by decide +kernel
theorem dX7_calls_5 : decode cX7_calls 5 = .ok (.bipush 12, 2) := by decide +kernel
theorem dX7_calls_7 : decode cX7_calls 7 = .ok (.if_icmp .lt 13, 3) := by decide +kernel
theorem dX7_calls_10 : decode cX7_calls 10 = .ok (.new 88, 3) := by decide +kernel
theorem dX7_calls_13 : decode cX7_calls 13 = .ok (.dup, 1) := by decide +kernel
theorem dX7_calls_14 : decode cX7_calls 14 = .ok (.ldc 200, 2) := by decide +kernel
theorem dX7_calls_16 : decode cX7_calls 16 = .ok (.invokespecial 92, 3) := by decide +kernel
theorem dX7_calls_19 : decode cX7_calls 19 = .ok (.athrow, 1) := by decide +kernel
theorem dX7_calls_20 : decode cX7_calls 20 = .ok (.aload_n 0, 1) := by decide +kernel
theorem dX7_calls_21 : decode cX7_calls 21 = .ok (.getfield 45, 3) := by decide +kernel
theorem dX7_calls_24 : decode cX7_calls 24 = .ok (.getfield 202, 3) := by decide +kernel
theorem dX7_calls_27 : decode cX7_calls 27 = .ok (.iload_n 1, 1) := by decide +kernel
theorem dX7_calls_28 : decode cX7_calls 28 = .ok (.iaload, 1) := by decide +kernel
theorem dX7_calls_29 : decode cX7_calls 29 = .ok (.ireturn, 1) := by decide +kernel
theorem dX7_same_0 : decode cX7_same 0 = .ok (.iload_n 1, 1) := by decide +kernel
theorem dX7_same_1 : decode cX7_same 1 = .ok (.iload_n 2, 1) := by decide +kernel
theorem dX7_same_2 : decode cX7_same 2 = .ok (.invokestatic 205, 3) := by decide +kernel
theorem dX7_same_5 : decode cX7_same 5 = .ok (.ifCond .ne 13, 3) := by decide +kernel
theorem dX7_same_8 : decode cX7_same 8 = .ok (.new 88, 3) := by decide +kernel
theorem dX7_same_11 : decode cX7_same 11 = .ok (.dup, 1) := by decide +kernel
theorem dX7_same_12 : decode cX7_same 12 = .ok (.ldc 208, 2) := by decide +kernel
theorem dX7_same_14 : decode cX7_same 14 = .ok (.invokespecial 92, 3) := by decide +kernel
theorem dX7_same_17 : decode cX7_same 17 = .ok (.athrow, 1) := by decide +kernel
theorem dX7_same_18 : decode cX7_same 18 = .ok (.aload_n 0, 1) := by decide +kernel
theorem dX7_same_19 : decode cX7_same 19 = .ok (.getfield 45, 3) := by decide +kernel
theorem dX7_same_22 : decode cX7_same 22 = .ok (.getfield 202, 3) := by decide +kernel
theorem dX7_same_25 : decode cX7_same 25 = .ok (.iload_n 1, 1) := by decide +kernel
theorem dX7_same_26 : decode cX7_same 26 = .ok (.iaload, 1) := by decide +kernel
theorem dX7_same_27 : decode cX7_same 27 = .ok (.ifCond .le 23, 3) := by decide +kernel
theorem dX7_same_30 : decode cX7_same 30 = .ok (.aload_n 0, 1) := by decide +kernel
theorem dX7_same_31 : decode cX7_same 31 = .ok (.getfield 45, 3) := by decide +kernel
theorem dX7_same_34 : decode cX7_same 34 = .ok (.getfield 210, 3) := by decide +kernel
theorem dX7_same_37 : decode cX7_same 37 = .ok (.iload_n 1, 1) := by decide +kernel
theorem dX7_same_38 : decode cX7_same 38 = .ok (.iconst 3, 1) := by decide +kernel
theorem dX7_same_39 : decode cX7_same 39 = .ok (.imul, 1) := by decide +kernel
theorem dX7_same_40 : decode cX7_same 40 = .ok (.iload_n 2, 1) := by decide +kernel
theorem dX7_same_41 : decode cX7_same 41 = .ok (.iadd, 1) := by decide +kernel
theorem dX7_same_42 : decode cX7_same 42 = .ok (.baload, 1) := by decide +kernel
theorem dX7_same_43 : decode cX7_same 43 = .ok (.ifCond .ne 7, 3) := by decide +kernel
theorem dX7_same_46 : decode cX7_same 46 = .ok (.iconst 1, 1) := by decide +kernel
theorem dX7_same_47 : decode cX7_same 47 = .ok (.goto 4, 3) := by decide +kernel
theorem dX7_same_50 : decode cX7_same 50 = .ok (.iconst 0, 1) := by decide +kernel
theorem dX7_same_51 : decode cX7_same 51 = .ok (.ireturn, 1) := by decide +kernel
theorem dX7_latest_0 : decode cX7_latest 0 = .ok (.iload_n 1, 1) := by decide +kernel
theorem dX7_latest_1 : decode cX7_latest 1 = .ok (.iload_n 2, 1) := by decide +kernel
theorem dX7_latest_2 : decode cX7_latest 2 = .ok (.invokestatic 205, 3) := by decide +kernel
theorem dX7_latest_5 : decode cX7_latest 5 = .ok (.ifCond .ne 13, 3) := by decide +kernel
theorem dX7_latest_8 : decode cX7_latest 8 = .ok (.new 88, 3) := by decide +kernel
theorem dX7_latest_11 : decode cX7_latest 11 = .ok (.dup, 1) := by decide +kernel
theorem dX7_latest_12 : decode cX7_latest 12 = .ok (.ldc 208, 2) := by decide +kernel
theorem dX7_latest_14 : decode cX7_latest 14 = .ok (.invokespecial 92, 3) := by decide +kernel
theorem dX7_latest_17 : decode cX7_latest 17 = .ok (.athrow, 1) := by decide +kernel
theorem dX7_latest_18 : decode cX7_latest 18 = .ok (.aload_n 0, 1) := by decide +kernel
theorem dX7_latest_19 : decode cX7_latest 19 = .ok (.getfield 45, 3) := by decide +kernel
theorem dX7_latest_22 : decode cX7_latest 22 = .ok (.getfield 213, 3) := by decide +kernel
theorem dX7_latest_25 : decode cX7_latest 25 = .ok (.iload_n 1, 1) := by decide +kernel
theorem dX7_latest_26 : decode cX7_latest 26 = .ok (.iconst 3, 1) := by decide +kernel
theorem dX7_latest_27 : decode cX7_latest 27 = .ok (.imul, 1) := by decide +kernel
theorem dX7_latest_28 : decode cX7_latest 28 = .ok (.iload_n 2, 1) := by decide +kernel
theorem dX7_latest_29 : decode cX7_latest 29 = .ok (.iadd, 1) := by decide +kernel
theorem dX7_latest_30 : decode cX7_latest 30 = .ok (.iaload, 1) := by decide +kernel
theorem dX7_latest_31 : decode cX7_latest 31 = .ok (.ireturn, 1) := by decide +kernel
theorem dX7_askedPlace_0 : decode cX7_askedPlace 0 = .ok (.aload_n 0, 1) := by decide +kernel
theorem dX7_askedPlace_1 : decode cX7_askedPlace 1 = .ok (.getfield 58, 3) := by decide +kernel
theorem dX7_askedPlace_4 : decode cX7_askedPlace 4 = .ok (.ifCond .ne 13, 3) := by decide +kernel
theorem dX7_askedPlace_7 : decode cX7_askedPlace 7 = .ok (.new 79, 3) := by decide +kernel
theorem dX7_askedPlace_10 : decode cX7_askedPlace 10 = .ok (.dup, 1) := by decide +kernel
theorem dX7_askedPlace_11 : decode cX7_askedPlace 11 = .ok (.ldc 172, 2) := by decide +kernel
theorem dX7_askedPlace_13 : decode cX7_askedPlace 13 = .ok (.invokespecial 83, 3) := by decide +kernel
theorem dX7_askedPlace_16 : decode cX7_askedPlace 16 = .ok (.athrow, 1) := by decide +kernel
theorem dX7_askedPlace_17 : decode cX7_askedPlace 17 = .ok (.aload_n 0, 1) := by decide +kernel
theorem dX7_askedPlace_18 : decode cX7_askedPlace 18 = .ok (.getfield 16, 3) := by decide +kernel
theorem dX7_askedPlace_21 : decode cX7_askedPlace 21 = .ok (.iload_n 1, 1) := by decide +kernel
theorem dX7_askedPlace_22 : decode cX7_askedPlace 22 = .ok (.invokevirtual 69, 3) := by decide +kernel
theorem dX7_askedPlace_25 : decode cX7_askedPlace 25 = .ok (.ifCond .eq 23, 3) := by decide +kernel
theorem dX7_askedPlace_28 : decode cX7_askedPlace 28 = .ok (.iload_n 2, 1) := by decide +kernel
theorem dX7_askedPlace_29 : decode cX7_askedPlace 29 = .ok (.ifCond .lt 19, 3) := by decide +kernel
theorem dX7_askedPlace_32 : decode cX7_askedPlace 32 = .ok (.iload_n 2, 1) := by decide +kernel
theorem dX7_askedPlace_33 : decode cX7_askedPlace 33 = .ok (.bipush 17, 2) := by decide +kernel
theorem dX7_askedPlace_35 : decode cX7_askedPlace 35 = .ok (.if_icmp .ge 13, 3) := by decide +kernel
theorem dX7_askedPlace_38 : decode cX7_askedPlace 38 = .ok (.iload_n 3, 1) := by decide +kernel
theorem dX7_askedPlace_39 : decode cX7_askedPlace 39 = .ok (.ifCond .lt 9, 3) := by decide +kernel
theorem dX7_askedPlace_42 : decode cX7_askedPlace 42 = .ok (.iload_n 3, 1) := by decide +kernel
theorem dX7_askedPlace_43 : decode cX7_askedPlace 43 = .ok (.bipush 6, 2) := by decide +kernel
theorem dX7_askedPlace_45 : decode cX7_askedPlace 45 = .ok (.if_icmp .lt 13, 3) := by decide +kernel
theorem dX7_askedPlace_48 : decode cX7_askedPlace 48 = .ok (.new 88, 3) := by decide +kernel
theorem dX7_askedPlace_51 : decode cX7_askedPlace 51 = .ok (.dup, 1) := by decide +kernel
theorem dX7_askedPlace_52 : decode cX7_askedPlace 52 = .ok (.ldc 216, 2) := by decide +kernel
theorem dX7_askedPlace_54 : decode cX7_askedPlace 54 = .ok (.invokespecial 92, 3) := by decide +kernel
theorem dX7_askedPlace_57 : decode cX7_askedPlace 57 = .ok (.athrow, 1) := by decide +kernel
theorem dX7_askedPlace_58 : decode cX7_askedPlace 58 = .ok (.aload_n 0, 1) := by decide +kernel
theorem dX7_askedPlace_59 : decode cX7_askedPlace 59 = .ok (.getfield 16, 3) := by decide +kernel
theorem dX7_askedPlace_62 : decode cX7_askedPlace 62 = .ok (.iload_n 1, 1) := by decide +kernel
theorem dX7_askedPlace_63 : decode cX7_askedPlace 63 = .ok (.iload_n 2, 1) := by decide +kernel
theorem dX7_askedPlace_64 : decode cX7_askedPlace 64 = .ok (.invokevirtual 218, 3) := by decide +kernel
theorem dX7_askedPlace_67 : decode cX7_askedPlace 67 = .ok (.ireturn, 1) := by decide +kernel
theorem dX7_isFitX_0 : decode cX7_isFitX 0 = .ok (.iload_n 1, 1) := by decide +kernel
theorem dX7_isFitX_1 : decode cX7_isFitX 1 = .ok (.tableswitch 65 7 11 #[35, 35, 65, 51, 60], 35) := by decide +kernel
theorem dX7_isFitX_36 : decode cX7_isFitX 36 = .ok (.iload_n 2, 1) := by decide +kernel
theorem dX7_isFitX_37 : decode cX7_isFitX 37 = .ok (.ifCond .lt 13, 3) := by decide +kernel
theorem dX7_isFitX_40 : decode cX7_isFitX 40 = .ok (.iload_n 2, 1) := by decide +kernel
theorem dX7_isFitX_41 : decode cX7_isFitX 41 = .ok (.bipush 16, 2) := by decide +kernel
theorem dX7_isFitX_43 : decode cX7_isFitX 43 = .ok (.if_icmp .gt 7, 3) := by decide +kernel
theorem dX7_isFitX_46 : decode cX7_isFitX 46 = .ok (.iconst 1, 1) := by decide +kernel
theorem dX7_isFitX_47 : decode cX7_isFitX 47 = .ok (.goto 4, 3) := by decide +kernel
theorem dX7_isFitX_50 : decode cX7_isFitX 50 = .ok (.iconst 0, 1) := by decide +kernel
theorem dX7_isFitX_51 : decode cX7_isFitX 51 = .ok (.ireturn, 1) := by decide +kernel
theorem dX7_isFitX_52 : decode cX7_isFitX 52 = .ok (.aload_n 0, 1) := by decide +kernel
theorem dX7_isFitX_53 : decode cX7_isFitX 53 = .ok (.getfield 12, 3) := by decide +kernel
theorem dX7_isFitX_56 : decode cX7_isFitX 56 = .ok (.iload_n 2, 1) := by decide +kernel
theorem dX7_isFitX_57 : decode cX7_isFitX 57 = .ok (.invokevirtual 69, 3) := by decide +kernel
theorem dX7_isFitX_60 : decode cX7_isFitX 60 = .ok (.ireturn, 1) := by decide +kernel
theorem dX7_isFitX_61 : decode cX7_isFitX 61 = .ok (.iload_n 2, 1) := by decide +kernel
theorem dX7_isFitX_62 : decode cX7_isFitX 62 = .ok (.invokestatic 221, 3) := by decide +kernel
theorem dX7_isFitX_65 : decode cX7_isFitX 65 = .ok (.ireturn, 1) := by decide +kernel
theorem dX7_isFitX_66 : decode cX7_isFitX 66 = .ok (.iconst 1, 1) := by decide +kernel
theorem dX7_isFitX_67 : decode cX7_isFitX 67 = .ok (.ireturn, 1) := by decide +kernel
theorem dX7_isTallied_0 : decode cX7_isTallied 0 = .ok (.iload_n 0, 1) := by decide +kernel
theorem dX7_isTallied_1 : decode cX7_isTallied 1 = .ok (.ifCond .lt 22, 3) := by decide +kernel
theorem dX7_isTallied_4 : decode cX7_isTallied 4 = .ok (.iload_n 0, 1) := by decide +kernel
theorem dX7_isTallied_5 : decode cX7_isTallied 5 = .ok (.bipush 12, 2) := by decide +kernel
theorem dX7_isTallied_7 : decode cX7_isTallied 7 = .ok (.if_icmp .ge 16, 3) := by decide +kernel
theorem dX7_isTallied_10 : decode cX7_isTallied 10 = .ok (.iload_n 1, 1) := by decide +kernel
theorem dX7_isTallied_11 : decode cX7_isTallied 11 = .ok (.ifCond .lt 12, 3) := by decide +kernel
theorem dX7_isTallied_14 : decode cX7_isTallied 14 = .ok (.iload_n 1, 1) := by decide +kernel
theorem dX7_isTallied_15 : decode cX7_isTallied 15 = .ok (.iconst 3, 1) := by decide +kernel
theorem dX7_isTallied_16 : decode cX7_isTallied 16 = .ok (.if_icmp .ge 7, 3) := by decide +kernel
theorem dX7_isTallied_19 : decode cX7_isTallied 19 = .ok (.iconst 1, 1) := by decide +kernel
theorem dX7_isTallied_20 : decode cX7_isTallied 20 = .ok (.goto 4, 3) := by decide +kernel
theorem dX7_isTallied_23 : decode cX7_isTallied 23 = .ok (.iconst 0, 1) := by decide +kernel
theorem dX7_isTallied_24 : decode cX7_isTallied 24 = .ok (.ireturn, 1) := by decide +kernel
theorem dX7_areOperands_0 : decode cX7_areOperands 0 = .ok (.iload_n 0, 1) := by decide +kernel
theorem dX7_areOperands_1 : decode cX7_areOperands 1 = .ok (.iconst 1, 1) := by decide +kernel
theorem dX7_areOperands_2 : decode cX7_areOperands 2 = .ok (.if_icmp .lt 10, 3) := by decide +kernel
theorem dX7_areOperands_5 : decode cX7_areOperands 5 = .ok (.iload_n 1, 1) := by decide +kernel
theorem dX7_areOperands_6 : decode cX7_areOperands 6 = .ok (.invokestatic 221, 3) := by decide +kernel
theorem dX7_areOperands_9 : decode cX7_areOperands 9 = .ok (.ifCond .eq 31, 3) := by decide +kernel
theorem dX7_areOperands_12 : decode cX7_areOperands 12 = .ok (.iload_n 0, 1) := by decide +kernel
theorem dX7_areOperands_13 : decode cX7_areOperands 13 = .ok (.iconst 2, 1) := by decide +kernel
theorem dX7_areOperands_14 : decode cX7_areOperands 14 = .ok (.if_icmp .lt 10, 3) := by decide +kernel
theorem dX7_areOperands_17 : decode cX7_areOperands 17 = .ok (.iload_n 2, 1) := by decide +kernel
theorem dX7_areOperands_18 : decode cX7_areOperands 18 = .ok (.invokestatic 221, 3) := by decide +kernel
theorem dX7_areOperands_21 : decode cX7_areOperands 21 = .ok (.ifCond .eq 19, 3) := by decide +kernel
theorem dX7_areOperands_24 : decode cX7_areOperands 24 = .ok (.iload_n 0, 1) := by decide +kernel
theorem dX7_areOperands_25 : decode cX7_areOperands 25 = .ok (.iconst 3, 1) := by decide +kernel
theorem dX7_areOperands_26 : decode cX7_areOperands 26 = .ok (.if_icmp .lt 10, 3) := by decide +kernel
theorem dX7_areOperands_29 : decode cX7_areOperands 29 = .ok (.iload_n 3, 1) := by decide +kernel
theorem dX7_areOperands_30 : decode cX7_areOperands 30 = .ok (.invokestatic 221, 3) := by decide +kernel
theorem dX7_areOperands_33 : decode cX7_areOperands 33 = .ok (.ifCond .eq 7, 3) := by decide +kernel
theorem dX7_areOperands_36 : decode cX7_areOperands 36 = .ok (.iconst 1, 1) := by decide +kernel
theorem dX7_areOperands_37 : decode cX7_areOperands 37 = .ok (.goto 4, 3) := by decide +kernel
theorem dX7_areOperands_40 : decode cX7_areOperands 40 = .ok (.iconst 0, 1) := by decide +kernel
theorem dX7_areOperands_41 : decode cX7_areOperands 41 = .ok (.ireturn, 1) := by decide +kernel
theorem dX7_isOperand_0 : decode cX7_isOperand 0 = .ok (.iload_n 0, 1) := by decide +kernel
theorem dX7_isOperand_1 : decode cX7_isOperand 1 = .ok (.bipush 7, 2) := by decide +kernel
theorem dX7_isOperand_3 : decode cX7_isOperand 3 = .ok (.iand, 1) := by decide +kernel
theorem dX7_isOperand_4 : decode cX7_isOperand 4 = .ok (.bipush 6, 2) := by decide +kernel
theorem dX7_isOperand_6 : decode cX7_isOperand 6 = .ok (.if_icmp .lt 10, 3) := by decide +kernel
theorem dX7_isOperand_9 : decode cX7_isOperand 9 = .ok (.iload_n 0, 1) := by decide +kernel
theorem dX7_isOperand_10 : decode cX7_isOperand 10 = .ok (.invokestatic 224, 3) := by decide +kernel
theorem dX7_isOperand_13 : decode cX7_isOperand 13 = .ok (.ifCond .eq 7, 3) := by decide +kernel
theorem dX7_isOperand_16 : decode cX7_isOperand 16 = .ok (.iconst 1, 1) := by decide +kernel
theorem dX7_isOperand_17 : decode cX7_isOperand 17 = .ok (.goto 4, 3) := by decide +kernel
theorem dX7_isOperand_20 : decode cX7_isOperand 20 = .ok (.iconst 0, 1) := by decide +kernel
theorem dX7_isOperand_21 : decode cX7_isOperand 21 = .ok (.ireturn, 1) := by decide +kernel
theorem dX7_isNumber_0 : decode cX7_isNumber 0 = .ok (.iload_n 0, 1) := by decide +kernel
theorem dX7_isNumber_1 : decode cX7_isNumber 1 = .ok (.bipush 7, 2) := by decide +kernel
theorem dX7_isNumber_3 : decode cX7_isNumber 3 = .ok (.iand, 1) := by decide +kernel
theorem dX7_isNumber_4 : decode cX7_isNumber 4 = .ok (.bipush 7, 2) := by decide +kernel
theorem dX7_isNumber_6 : decode cX7_isNumber 6 = .ok (.if_icmp .ne 7, 3) := by decide +kernel
theorem dX7_isNumber_9 : decode cX7_isNumber 9 = .ok (.iconst 1, 1) := by decide +kernel
theorem dX7_isNumber_10 : decode cX7_isNumber 10 = .ok (.goto 4, 3) := by decide +kernel
theorem dX7_isNumber_13 : decode cX7_isNumber 13 = .ok (.iconst 0, 1) := by decide +kernel
theorem dX7_isNumber_14 : decode cX7_isNumber 14 = .ok (.ireturn, 1) := by decide +kernel
theorem dX7_operandOf_0 : decode cX7_operandOf 0 = .ok (.iload_n 0, 1) := by decide +kernel
theorem dX7_operandOf_1 : decode cX7_operandOf 1 = .ok (.iconst 3, 1) := by decide +kernel
theorem dX7_operandOf_2 : decode cX7_operandOf 2 = .ok (.ishl, 1) := by decide +kernel
theorem dX7_operandOf_3 : decode cX7_operandOf 3 = .ok (.bipush 7, 2) := by decide +kernel
theorem dX7_operandOf_5 : decode cX7_operandOf 5 = .ok (.ior, 1) := by decide +kernel
theorem dX7_operandOf_6 : decode cX7_operandOf 6 = .ok (.ireturn, 1) := by decide +kernel
theorem dX7_compute_0 : decode cX7_compute 0 = .ok (.iload_n 0, 1) := by decide +kernel
theorem dX7_compute_1 : decode cX7_compute 1 = .ok (.tableswitch 54 1 4 #[31, 35, 39, 43], 31) := by decide +kernel
theorem dX7_compute_32 : decode cX7_compute 32 = .ok (.iload_n 1, 1) := by decide +kernel
theorem dX7_compute_33 : decode cX7_compute 33 = .ok (.iload_n 2, 1) := by decide +kernel
theorem dX7_compute_34 : decode cX7_compute 34 = .ok (.iadd, 1) := by decide +kernel
theorem dX7_compute_35 : decode cX7_compute 35 = .ok (.ireturn, 1) := by decide +kernel
theorem dX7_compute_36 : decode cX7_compute 36 = .ok (.iload_n 1, 1) := by decide +kernel
theorem dX7_compute_37 : decode cX7_compute 37 = .ok (.iload_n 2, 1) := by decide +kernel
theorem dX7_compute_38 : decode cX7_compute 38 = .ok (.isub, 1) := by decide +kernel
theorem dX7_compute_39 : decode cX7_compute 39 = .ok (.ireturn, 1) := by decide +kernel
theorem dX7_compute_40 : decode cX7_compute 40 = .ok (.iload_n 1, 1) := by decide +kernel
theorem dX7_compute_41 : decode cX7_compute 41 = .ok (.iload_n 2, 1) := by decide +kernel
theorem dX7_compute_42 : decode cX7_compute 42 = .ok (.imul, 1) := by decide +kernel
theorem dX7_compute_43 : decode cX7_compute 43 = .ok (.ireturn, 1) := by decide +kernel
theorem dX7_compute_44 : decode cX7_compute 44 = .ok (.iload_n 1, 1) := by decide +kernel
theorem dX7_compute_45 : decode cX7_compute 45 = .ok (.iload_n 2, 1) := by decide +kernel
theorem dX7_compute_46 : decode cX7_compute 46 = .ok (.if_icmp .ge 7, 3) := by decide +kernel
theorem dX7_compute_49 : decode cX7_compute 49 = .ok (.iconst 1, 1) := by decide +kernel
theorem dX7_compute_50 : decode cX7_compute 50 = .ok (.goto 4, 3) := by decide +kernel
theorem dX7_compute_53 : decode cX7_compute 53 = .ok (.iconst 0, 1) := by decide +kernel
theorem dX7_compute_54 : decode cX7_compute 54 = .ok (.ireturn, 1) := by decide +kernel
theorem dX7_compute_55 : decode cX7_compute 55 = .ok (.iload_n 1, 1) := by decide +kernel
theorem dX7_compute_56 : decode cX7_compute 56 = .ok (.ireturn, 1) := by decide +kernel
