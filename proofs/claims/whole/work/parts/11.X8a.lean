theorem dX8_init_0 : decode cX8_init 0 = .ok (.aload_n 0, 1) := by decide +kernel
theorem dX8_init_1 : decode cX8_init 1 = .ok (.invokespecial 1, 3) := by decide +kernel
theorem dX8_init_4 : decode cX8_init 4 = .ok (.aload_n 0, 1) := by decide +kernel
theorem dX8_init_5 : decode cX8_init 5 = .ok (.bipush 12, 2) := by decide +kernel
theorem dX8_init_7 : decode cX8_init 7 = .ok (.newarray .int, 2) := by decide +kernel
theorem dX8_init_9 : decode cX8_init 9 = .ok (.putfield 7, 3) := by decide +kernel
theorem dX8_init_12 : decode cX8_init 12 = .ok (.aload_n 0, 1) := by decide +kernel
theorem dX8_init_13 : decode cX8_init 13 = .ok (.bipush 12, 2) := by decide +kernel
theorem dX8_init_15 : decode cX8_init 15 = .ok (.newarray .int, 2) := by decide +kernel
theorem dX8_init_17 : decode cX8_init 17 = .ok (.putfield 13, 3) := by decide +kernel
theorem dX8_init_20 : decode cX8_init 20 = .ok (.aload_n 0, 1) := by decide +kernel
theorem dX8_init_21 : decode cX8_init 21 = .ok (.bipush 12, 2) := by decide +kernel
theorem dX8_init_23 : decode cX8_init 23 = .ok (.newarray .int, 2) := by decide +kernel
theorem dX8_init_25 : decode cX8_init 25 = .ok (.putfield 16, 3) := by decide +kernel
theorem dX8_init_28 : decode cX8_init 28 = .ok (.aload_n 0, 1) := by decide +kernel
theorem dX8_init_29 : decode cX8_init 29 = .ok (.sipush 576, 3) := by decide +kernel
theorem dX8_init_32 : decode cX8_init 32 = .ok (.newarray .int, 2) := by decide +kernel
theorem dX8_init_34 : decode cX8_init 34 = .ok (.putfield 19, 3) := by decide +kernel
theorem dX8_init_37 : decode cX8_init 37 = .ok (.aload_n 0, 1) := by decide +kernel
theorem dX8_init_38 : decode cX8_init 38 = .ok (.sipush 1152, 3) := by decide +kernel
theorem dX8_init_41 : decode cX8_init 41 = .ok (.newarray .int, 2) := by decide +kernel
theorem dX8_init_43 : decode cX8_init 43 = .ok (.putfield 22, 3) := by decide +kernel
theorem dX8_init_46 : decode cX8_init 46 = .ok (.aload_n 0, 1) := by decide +kernel
theorem dX8_init_47 : decode cX8_init 47 = .ok (.sipush 1152, 3) := by decide +kernel
theorem dX8_init_50 : decode cX8_init 50 = .ok (.newarray .int, 2) := by decide +kernel
theorem dX8_init_52 : decode cX8_init 52 = .ok (.putfield 25, 3) := by decide +kernel
theorem dX8_init_55 : decode cX8_init 55 = .ok (.aload_n 0, 1) := by decide +kernel
theorem dX8_init_56 : decode cX8_init 56 = .ok (.iconst 4, 1) := by decide +kernel
theorem dX8_init_57 : decode cX8_init 57 = .ok (.newarray .int, 2) := by decide +kernel
theorem dX8_init_59 : decode cX8_init 59 = .ok (.putfield 28, 3) := by decide +kernel
theorem dX8_init_62 : decode cX8_init 62 = .ok (.aload_n 0, 1) := by decide +kernel
theorem dX8_init_63 : decode cX8_init 63 = .ok (.bipush 12, 2) := by decide +kernel
theorem dX8_init_65 : decode cX8_init 65 = .ok (.newarray .int, 2) := by decide +kernel
theorem dX8_init_67 : decode cX8_init 67 = .ok (.putfield 31, 3) := by decide +kernel
theorem dX8_init_70 : decode cX8_init 70 = .ok (.aload_n 0, 1) := by decide +kernel
theorem dX8_init_71 : decode cX8_init 71 = .ok (.sipush 204, 3) := by decide +kernel
theorem dX8_init_74 : decode cX8_init 74 = .ok (.newarray .boolean, 2) := by decide +kernel
theorem dX8_init_76 : decode cX8_init 76 = .ok (.putfield 34, 3) := by decide +kernel
theorem dX8_init_79 : decode cX8_init 79 = .ok (.aload_n 0, 1) := by decide +kernel
theorem dX8_init_80 : decode cX8_init 80 = .ok (.sipush 1224, 3) := by decide +kernel
theorem dX8_init_83 : decode cX8_init 83 = .ok (.newarray .boolean, 2) := by decide +kernel
theorem dX8_init_85 : decode cX8_init 85 = .ok (.putfield 38, 3) := by decide +kernel
theorem dX8_init_88 : decode cX8_init 88 = .ok (.aload_n 0, 1) := by decide +kernel
theorem dX8_init_89 : decode cX8_init 89 = .ok (.sipush 1224, 3) := by decide +kernel
theorem dX8_init_92 : decode cX8_init 92 = .ok (.newarray .int, 2) := by decide +kernel
theorem dX8_init_94 : decode cX8_init 94 = .ok (.putfield 41, 3) := by decide +kernel
theorem dX8_init_97 : decode cX8_init 97 = .ok (.aload_n 0, 1) := by decide +kernel
theorem dX8_init_98 : decode cX8_init 98 = .ok (.bipush 6, 2) := by decide +kernel
theorem dX8_init_100 : decode cX8_init 100 = .ok (.newarray .boolean, 2) := by decide +kernel
theorem dX8_init_102 : decode cX8_init 102 = .ok (.putfield 44, 3) := by decide +kernel
theorem dX8_init_105 : decode cX8_init 105 = .ok (.aload_n 0, 1) := by decide +kernel
theorem dX8_init_106 : decode cX8_init 106 = .ok (.bipush 6, 2) := by decide +kernel
theorem dX8_init_108 : decode cX8_init 108 = .ok (.newarray .int, 2) := by decide +kernel
theorem dX8_init_110 : decode cX8_init 110 = .ok (.putfield 47, 3) := by decide +kernel
theorem dX8_init_113 : decode cX8_init 113 = .ok (.aload_n 0, 1) := by decide +kernel
theorem dX8_init_114 : decode cX8_init 114 = .ok (.bipush 11, 2) := by decide +kernel
theorem dX8_init_116 : decode cX8_init 116 = .ok (.newarray .int, 2) := by decide +kernel
theorem dX8_init_118 : decode cX8_init 118 = .ok (.putfield 50, 3) := by decide +kernel
theorem dX8_init_121 : decode cX8_init 121 = .ok (.aload_n 0, 1) := by decide +kernel
theorem dX8_init_122 : decode cX8_init 122 = .ok (.bipush 11, 2) := by decide +kernel
theorem dX8_init_124 : decode cX8_init 124 = .ok (.newarray .int, 2) := by decide +kernel
theorem dX8_init_126 : decode cX8_init 126 = .ok (.putfield 53, 3) := by decide +kernel
theorem dX8_init_129 : decode cX8_init 129 = .ok (.aload_n 0, 1) := by decide +kernel
theorem dX8_init_130 : decode cX8_init 130 = .ok (.bipush 11, 2) := by decide +kernel
theorem dX8_init_132 : decode cX8_init 132 = .ok (.newarray .int, 2) := by decide +kernel
theorem dX8_init_134 : decode cX8_init 134 = .ok (.putfield 56, 3) := by decide +kernel
theorem dX8_init_137 : decode cX8_init 137 = .ok (.aload_n 0, 1) := by decide +kernel
theorem dX8_init_138 : decode cX8_init 138 = .ok (.bipush 66, 2) := by decide +kernel
theorem dX8_init_140 : decode cX8_init 140 = .ok (.newarray .int, 2) := by decide +kernel
theorem dX8_init_142 : decode cX8_init 142 = .ok (.putfield 59, 3) := by decide +kernel
theorem dX8_init_145 : decode cX8_init 145 = .ok (.aload_n 0, 1) := by decide +kernel
theorem dX8_init_146 : decode cX8_init 146 = .ok (.bipush 40, 2) := by decide +kernel
theorem dX8_init_148 : decode cX8_init 148 = .ok (.newarray .int, 2) := by decide +kernel
theorem dX8_init_150 : decode cX8_init 150 = .ok (.putfield 62, 3) := by decide +kernel
theorem dX8_init_153 : decode cX8_init 153 = .ok (.aload_n 0, 1) := by decide +kernel
theorem dX8_init_154 : decode cX8_init 154 = .ok (.bipush 12, 2) := by decide +kernel
theorem dX8_init_156 : decode cX8_init 156 = .ok (.newarray .int, 2) := by decide +kernel
theorem dX8_init_158 : decode cX8_init 158 = .ok (.putfield 65, 3) := by decide +kernel
theorem dX8_init_161 : decode cX8_init 161 = .ok (.aload_n 0, 1) := by decide +kernel
theorem dX8_init_162 : decode cX8_init 162 = .ok (.bipush 36, 2) := by decide +kernel
theorem dX8_init_164 : decode cX8_init 164 = .ok (.newarray .int, 2) := by decide +kernel
theorem dX8_init_166 : decode cX8_init 166 = .ok (.putfield 68, 3) := by decide +kernel
theorem dX8_init_169 : decode cX8_init 169 = .ok (.aload_n 0, 1) := by decide +kernel
theorem dX8_init_170 : decode cX8_init 170 = .ok (.bipush 36, 2) := by decide +kernel
theorem dX8_init_172 : decode cX8_init 172 = .ok (.newarray .boolean, 2) := by decide +kernel
theorem dX8_init_174 : decode cX8_init 174 = .ok (.putfield 71, 3) := by decide +kernel
theorem dX8_init_177 : decode cX8_init 177 = .ok (.return_, 1) := by decide +kernel
theorem dX8_thrown_0 : decode cX8_thrown 0 = .ok (.aload_n 0, 1) := by decide +kernel
theorem dX8_thrown_1 : decode cX8_thrown 1 = .ok (.getfield 74, 3) := by decide +kernel
theorem dX8_thrown_4 : decode cX8_thrown 4 = .ok (.ireturn, 1) := by decide +kernel
theorem dX8_fail_0 : decode cX8_fail 0 = .ok (.aload_n 0, 1) := by decide +kernel
theorem dX8_fail_1 : decode cX8_fail 1 = .ok (.iload_n 1, 1) := by decide +kernel
theorem dX8_fail_2 : decode cX8_fail 2 = .ok (.putfield 74, 3) := by decide +kernel
theorem dX8_fail_5 : decode cX8_fail 5 = .ok (.iconst 0, 1) := by decide +kernel
theorem dX8_fail_6 : decode cX8_fail 6 = .ok (.ireturn, 1) := by decide +kernel
theorem dX8_forget_0 : decode cX8_forget 0 = .ok (.aload_n 0, 1) := by decide +kernel
theorem dX8_forget_1 : decode cX8_forget 1 = .ok (.iconst 0, 1) := by decide +kernel
theorem dX8_forget_2 : decode cX8_forget 2 = .ok (.putfield 78, 3) := by decide +kernel
theorem dX8_forget_5 : decode cX8_forget 5 = .ok (.aload_n 0, 1) := by decide +kernel
theorem dX8_forget_6 : decode cX8_forget 6 = .ok (.aload_n 0, 1) := by decide +kernel
theorem dX8_forget_7 : decode cX8_forget 7 = .ok (.getfield 82, 3) := by decide +kernel
theorem dX8_forget_10 : decode cX8_forget 10 = .ok (.putfield 85, 3) := by decide +kernel
theorem dX8_forget_13 : decode cX8_forget 13 = .ok (.return_, 1) := by decide +kernel
theorem dX8_function_0 : decode cX8_function 0 = .ok (.aload_n 0, 1) := by decide +kernel
theorem dX8_function_1 : decode cX8_function 1 = .ok (.iload_n 1, 1) := by decide +kernel
theorem dX8_function_2 : decode cX8_function 2 = .ok (.ifCond .lt 19, 3) := by decide +kernel
theorem dX8_function_5 : decode cX8_function 5 = .ok (.iload_n 1, 1) := by decide +kernel
theorem dX8_function_6 : decode cX8_function 6 = .ok (.iconst 3, 1) := by decide +kernel
theorem dX8_function_7 : decode cX8_function 7 = .ok (.if_icmp .gt 14, 3) := by decide +kernel
theorem dX8_function_10 : decode cX8_function 10 = .ok (.aload_n 0, 1) := by decide +kernel
theorem dX8_function_11 : decode cX8_function 11 = .ok (.getfield 82, 3) := by decide +kernel
theorem dX8_function_14 : decode cX8_function 14 = .ok (.ifCond .ne 11, 3) := by decide +kernel
theorem dX8_function_17 : decode cX8_function 17 = .ok (.iload_n 1, 1) := by decide +kernel
theorem dX8_function_18 : decode cX8_function 18 = .ok (.ifCond .le 7, 3) := by decide +kernel
theorem dX8_function_21 : decode cX8_function 21 = .ok (.iconst 1, 1) := by decide +kernel
theorem dX8_function_22 : decode cX8_function 22 = .ok (.goto 17, 3) := by decide +kernel
theorem dX8_function_25 : decode cX8_function 25 = .ok (.aload_n 0, 1) := by decide +kernel
theorem dX8_function_26 : decode cX8_function 26 = .ok (.getfield 82, 3) := by decide +kernel
theorem dX8_function_29 : decode cX8_function 29 = .ok (.bipush 6, 2) := by decide +kernel
theorem dX8_function_31 : decode cX8_function 31 = .ok (.if_icmp .ne 7, 3) := by decide +kernel
theorem dX8_function_34 : decode cX8_function 34 = .ok (.iconst 2, 1) := by decide +kernel
theorem dX8_function_35 : decode cX8_function 35 = .ok (.goto 4, 3) := by decide +kernel
theorem dX8_function_38 : decode cX8_function 38 = .ok (.iconst 0, 1) := by decide +kernel
theorem dX8_function_39 : decode cX8_function 39 = .ok (.putfield 74, 3) := by decide +kernel
theorem dX8_function_42 : decode cX8_function 42 = .ok (.aload_n 0, 1) := by decide +kernel
theorem dX8_function_43 : decode cX8_function 43 = .ok (.getfield 74, 3) := by decide +kernel
theorem dX8_function_46 : decode cX8_function 46 = .ok (.ifCond .le 5, 3) := by decide +kernel
theorem dX8_function_49 : decode cX8_function 49 = .ok (.iconst 0, 1) := by decide +kernel
theorem dX8_function_50 : decode cX8_function 50 = .ok (.ireturn, 1) := by decide +kernel
theorem dX8_function_51 : decode cX8_function 51 = .ok (.aload_n 0, 1) := by decide +kernel
theorem dX8_function_52 : decode cX8_function 52 = .ok (.getfield 7, 3) := by decide +kernel
theorem dX8_function_55 : decode cX8_function 55 = .ok (.aload_n 0, 1) := by decide +kernel
theorem dX8_function_56 : decode cX8_function 56 = .ok (.getfield 82, 3) := by decide +kernel
theorem dX8_function_59 : decode cX8_function 59 = .ok (.iload_n 1, 1) := by decide +kernel
theorem dX8_function_60 : decode cX8_function 60 = .ok (.iastore, 1) := by decide +kernel
theorem dX8_function_61 : decode cX8_function 61 = .ok (.aload_n 0, 1) := by decide +kernel
theorem dX8_function_62 : decode cX8_function 62 = .ok (.getfield 13, 3) := by decide +kernel
theorem dX8_function_65 : decode cX8_function 65 = .ok (.aload_n 0, 1) := by decide +kernel
theorem dX8_function_66 : decode cX8_function 66 = .ok (.getfield 82, 3) := by decide +kernel
theorem dX8_function_69 : decode cX8_function 69 = .ok (.iconst 0, 1) := by decide +kernel
theorem dX8_function_70 : decode cX8_function 70 = .ok (.iastore, 1) := by decide +kernel
theorem dX8_function_71 : decode cX8_function 71 = .ok (.aload_n 0, 1) := by decide +kernel
theorem dX8_function_72 : decode cX8_function 72 = .ok (.dup, 1) := by decide +kernel
theorem dX8_function_73 : decode cX8_function 73 = .ok (.getfield 82, 3) := by decide +kernel
theorem dX8_function_76 : decode cX8_function 76 = .ok (.iconst 1, 1) := by decide +kernel
theorem dX8_function_77 : decode cX8_function 77 = .ok (.iadd, 1) := by decide +kernel
theorem dX8_function_78 : decode cX8_function 78 = .ok (.putfield 82, 3) := by decide +kernel
theorem dX8_function_81 : decode cX8_function 81 = .ok (.aload_n 0, 1) := by decide +kernel
theorem dX8_function_82 : decode cX8_function 82 = .ok (.invokevirtual 88, 3) := by decide +kernel
theorem dX8_function_85 : decode cX8_function 85 = .ok (.aload_n 0, 1) := by decide +kernel
theorem dX8_function_86 : decode cX8_function 86 = .ok (.getfield 82, 3) := by decide +kernel
theorem dX8_function_89 : decode cX8_function 89 = .ok (.iconst 1, 1) := by decide +kernel
theorem dX8_function_90 : decode cX8_function 90 = .ok (.isub, 1) := by decide +kernel
theorem dX8_function_91 : decode cX8_function 91 = .ok (.ireturn, 1) := by decide +kernel
theorem dX8_isFunction_0 : decode cX8_isFunction 0 = .ok (.iload_n 1, 1) := by decide +kernel
theorem dX8_isFunction_1 : decode cX8_isFunction 1 = .ok (.ifCond .lt 15, 3) := by decide +kernel
theorem dX8_isFunction_4 : decode cX8_isFunction 4 = .ok (.iload_n 1, 1) := by decide +kernel
theorem dX8_isFunction_5 : decode cX8_isFunction 5 = .ok (.aload_n 0, 1) := by decide +kernel
theorem dX8_isFunction_6 : decode cX8_isFunction 6 = .ok (.getfield 82, 3) := by decide +kernel
theorem dX8_isFunction_9 : decode cX8_isFunction 9 = .ok (.if_icmp .ge 7, 3) := by decide +kernel
theorem dX8_isFunction_12 : decode cX8_isFunction 12 = .ok (.iconst 1, 1) := by decide +kernel
theorem dX8_isFunction_13 : decode cX8_isFunction 13 = .ok (.goto 4, 3) := by decide +kernel
theorem dX8_isFunction_16 : decode cX8_isFunction 16 = .ok (.iconst 0, 1) := by decide +kernel
theorem dX8_isFunction_17 : decode cX8_isFunction 17 = .ok (.ireturn, 1) := by decide +kernel
theorem dX8_isOperand_0 : decode cX8_isOperand 0 = .ok (.iload_n 0, 1) := by decide +kernel
theorem dX8_isOperand_1 : decode cX8_isOperand 1 = .ok (.bipush 7, 2) := by decide +kernel
theorem dX8_isOperand_3 : decode cX8_isOperand 3 = .ok (.iand, 1) := by decide +kernel
theorem dX8_isOperand_4 : decode cX8_isOperand 4 = .ok (.bipush 6, 2) := by decide +kernel
theorem dX8_isOperand_6 : decode cX8_isOperand 6 = .ok (.if_icmp .eq 7, 3) := by decide +kernel
theorem dX8_isOperand_9 : decode cX8_isOperand 9 = .ok (.iconst 1, 1) := by decide +kernel
theorem dX8_isOperand_10 : decode cX8_isOperand 10 = .ok (.goto 4, 3) := by decide +kernel
theorem dX8_isOperand_13 : decode cX8_isOperand 13 = .ok (.iconst 0, 1) := by decide +kernel
theorem dX8_isOperand_14 : decode cX8_isOperand 14 = .ok (.ireturn, 1) := by decide +kernel
theorem dX8_uses_0 : decode cX8_uses 0 = .ok (.iload_n 0, 1) := by decide +kernel
theorem dX8_uses_1 : decode cX8_uses 1 = .ok (.tableswitch 69 0 11 #[63, 65, 65, 65, 65, 69, 63, 63, 69, 63, 67, 67], 63) := by decide +kernel
theorem dX8_uses_64 : decode cX8_uses 64 = .ok (.iconst 1, 1) := by decide +kernel
theorem dX8_uses_65 : decode cX8_uses 65 = .ok (.ireturn, 1) := by decide +kernel
theorem dX8_uses_66 : decode cX8_uses 66 = .ok (.iconst 2, 1) := by decide +kernel
theorem dX8_uses_67 : decode cX8_uses 67 = .ok (.ireturn, 1) := by decide +kernel
theorem dX8_uses_68 : decode cX8_uses 68 = .ok (.iconst 3, 1) := by decide +kernel
theorem dX8_uses_69 : decode cX8_uses 69 = .ok (.ireturn, 1) := by decide +kernel
theorem dX8_uses_70 : decode cX8_uses 70 = .ok (.iconst 0, 1) := by decide +kernel
theorem dX8_uses_71 : decode cX8_uses 71 = .ok (.ireturn, 1) := by decide +kernel
theorem dX8_isGood_0 : decode cX8_isGood 0 = .ok (.iload_n 1, 1) := by decide +kernel
theorem dX8_isGood_1 : decode cX8_isGood 1 = .ok (.bipush 12, 2) := by decide +kernel
theorem dX8_isGood_3 : decode cX8_isGood 3 = .ok (.if_icmp .gt 13, 3) := by decide +kernel
theorem dX8_isGood_6 : decode cX8_isGood 6 = .ok (.iload_n 2, 1) := by decide +kernel
theorem dX8_isGood_7 : decode cX8_isGood 7 = .ok (.ifCond .lt 9, 3) := by decide +kernel
theorem dX8_isGood_10 : decode cX8_isGood 10 = .ok (.iload_n 2, 1) := by decide +kernel
theorem dX8_isGood_11 : decode cX8_isGood 11 = .ok (.bipush 6, 2) := by decide +kernel
theorem dX8_isGood_13 : decode cX8_isGood 13 = .ok (.if_icmp .lt 5, 3) := by decide +kernel
theorem dX8_isGood_16 : decode cX8_isGood 16 = .ok (.iconst 0, 1) := by decide +kernel
theorem dX8_isGood_17 : decode cX8_isGood 17 = .ok (.ireturn, 1) := by decide +kernel
theorem dX8_isGood_18 : decode cX8_isGood 18 = .ok (.iload_n 1, 1) := by decide +kernel
theorem dX8_isGood_19 : decode cX8_isGood 19 = .ok (.invokestatic 91, 3) := by decide +kernel
theorem dX8_isGood_22 : decode cX8_isGood 22 = .ok (.istore 7, 2) := by decide +kernel
theorem dX8_isGood_24 : decode cX8_isGood 24 = .ok (.iload 7, 2) := by decide +kernel
theorem dX8_isGood_26 : decode cX8_isGood 26 = .ok (.ifCond .le 11, 3) := by decide +kernel
theorem dX8_isGood_29 : decode cX8_isGood 29 = .ok (.iload 4, 2) := by decide +kernel
theorem dX8_isGood_31 : decode cX8_isGood 31 = .ok (.invokestatic 95, 3) := by decide +kernel
theorem dX8_isGood_34 : decode cX8_isGood 34 = .ok (.ifCond .eq 31, 3) := by decide +kernel
theorem dX8_isGood_37 : decode cX8_isGood 37 = .ok (.iload 7, 2) := by decide +kernel
theorem dX8_isGood_39 : decode cX8_isGood 39 = .ok (.iconst 1, 1) := by decide +kernel
theorem dX8_isGood_40 : decode cX8_isGood 40 = .ok (.if_icmp .le 11, 3) := by decide +kernel
theorem dX8_isGood_43 : decode cX8_isGood 43 = .ok (.iload 5, 2) := by decide +kernel
theorem dX8_isGood_45 : decode cX8_isGood 45 = .ok (.invokestatic 95, 3) := by decide +kernel
theorem dX8_isGood_48 : decode cX8_isGood 48 = .ok (.ifCond .eq 17, 3) := by decide +kernel
theorem dX8_isGood_51 : decode cX8_isGood 51 = .ok (.iload 7, 2) := by decide +kernel
theorem dX8_isGood_53 : decode cX8_isGood 53 = .ok (.iconst 2, 1) := by decide +kernel
theorem dX8_isGood_54 : decode cX8_isGood 54 = .ok (.if_icmp .le 13, 3) := by decide +kernel
theorem dX8_isGood_57 : decode cX8_isGood 57 = .ok (.iload 6, 2) := by decide +kernel
theorem dX8_isGood_59 : decode cX8_isGood 59 = .ok (.invokestatic 95, 3) := by decide +kernel
theorem dX8_isGood_62 : decode cX8_isGood 62 = .ok (.ifCond .ne 5, 3) := by decide +kernel
theorem dX8_isGood_65 : decode cX8_isGood 65 = .ok (.iconst 0, 1) := by decide +kernel
theorem dX8_isGood_66 : decode cX8_isGood 66 = .ok (.ireturn, 1) := by decide +kernel
theorem dX8_isGood_67 : decode cX8_isGood 67 = .ok (.iload_n 1, 1) := by decide +kernel
theorem dX8_isGood_68 : decode cX8_isGood 68 = .ok (.bipush 7, 2) := by decide +kernel
theorem dX8_isGood_70 : decode cX8_isGood 70 = .ok (.if_icmp .eq 9, 3) := by decide +kernel
theorem dX8_isGood_73 : decode cX8_isGood 73 = .ok (.iload_n 1, 1) := by decide +kernel
theorem dX8_isGood_74 : decode cX8_isGood 74 = .ok (.bipush 8, 2) := by decide +kernel
theorem dX8_isGood_76 : decode cX8_isGood 76 = .ok (.if_icmp .ne 19, 3) := by decide +kernel
theorem dX8_isGood_79 : decode cX8_isGood 79 = .ok (.iload_n 3, 1) := by decide +kernel
theorem dX8_isGood_80 : decode cX8_isGood 80 = .ok (.ifCond .lt 13, 3) := by decide +kernel
theorem dX8_isGood_83 : decode cX8_isGood 83 = .ok (.iload_n 3, 1) := by decide +kernel
theorem dX8_isGood_84 : decode cX8_isGood 84 = .ok (.bipush 16, 2) := by decide +kernel
theorem dX8_isGood_86 : decode cX8_isGood 86 = .ok (.if_icmp .gt 7, 3) := by decide +kernel
theorem dX8_isGood_89 : decode cX8_isGood 89 = .ok (.iconst 1, 1) := by decide +kernel
theorem dX8_isGood_90 : decode cX8_isGood 90 = .ok (.goto 4, 3) := by decide +kernel
theorem dX8_isGood_93 : decode cX8_isGood 93 = .ok (.iconst 0, 1) := by decide +kernel
theorem dX8_isGood_94 : decode cX8_isGood 94 = .ok (.ireturn, 1) := by decide +kernel
theorem dX8_isGood_95 : decode cX8_isGood 95 = .ok (.iload_n 1, 1) := by decide +kernel
theorem dX8_isGood_96 : decode cX8_isGood 96 = .ok (.bipush 10, 2) := by decide +kernel
theorem dX8_isGood_98 : decode cX8_isGood 98 = .ok (.if_icmp .ne 11, 3) := by decide +kernel
theorem dX8_isGood_101 : decode cX8_isGood 101 = .ok (.aload_n 0, 1) := by decide +kernel
theorem dX8_isGood_102 : decode cX8_isGood 102 = .ok (.iload_n 3, 1) := by decide +kernel
theorem dX8_isGood_103 : decode cX8_isGood 103 = .ok (.invokevirtual 99, 3) := by decide +kernel
theorem dX8_isGood_106 : decode cX8_isGood 106 = .ok (.goto 21, 3) := by decide +kernel
theorem dX8_isGood_109 : decode cX8_isGood 109 = .ok (.iload_n 1, 1) := by decide +kernel
theorem dX8_isGood_110 : decode cX8_isGood 110 = .ok (.bipush 11, 2) := by decide +kernel
theorem dX8_isGood_112 : decode cX8_isGood 112 = .ok (.if_icmp .ne 10, 3) := by decide +kernel
theorem dX8_isGood_115 : decode cX8_isGood 115 = .ok (.iload_n 3, 1) := by decide +kernel
theorem dX8_isGood_116 : decode cX8_isGood 116 = .ok (.invokestatic 95, 3) := by decide +kernel
theorem dX8_isGood_119 : decode cX8_isGood 119 = .ok (.ifCond .eq 7, 3) := by decide +kernel
theorem dX8_isGood_122 : decode cX8_isGood 122 = .ok (.iconst 1, 1) := by decide +kernel
theorem dX8_isGood_123 : decode cX8_isGood 123 = .ok (.goto 4, 3) := by decide +kernel
theorem dX8_isGood_126 : decode cX8_isGood 126 = .ok (.iconst 0, 1) := by decide +kernel
theorem dX8_isGood_127 : decode cX8_isGood 127 = .ok (.ireturn, 1) := by decide +kernel
theorem dX8_code_0 : decode cX8_code 0 = .ok (.aload_n 0, 1) := by decide +kernel
theorem dX8_code_1 : decode cX8_code 1 = .ok (.aload_n 0, 1) := by decide +kernel
theorem dX8_code_2 : decode cX8_code 2 = .ok (.iload_n 1, 1) := by decide +kernel
theorem dX8_code_3 : decode cX8_code 3 = .ok (.invokevirtual 99, 3) := by decide +kernel
theorem dX8_code_6 : decode cX8_code 6 = .ok (.ifCond .ne 7, 3) := by decide +kernel
theorem dX8_code_9 : decode cX8_code 9 = .ok (.iconst 1, 1) := by decide +kernel
theorem dX8_code_10 : decode cX8_code 10 = .ok (.goto 44, 3) := by decide +kernel
theorem dX8_code_13 : decode cX8_code 13 = .ok (.aload_n 0, 1) := by decide +kernel
theorem dX8_code_14 : decode cX8_code 14 = .ok (.iload_n 2, 1) := by decide +kernel
theorem dX8_code_15 : decode cX8_code 15 = .ok (.bipush 15, 2) := by decide +kernel
theorem dX8_code_17 : decode cX8_code 17 = .ok (.iand, 1) := by decide +kernel
theorem dX8_code_18 : decode cX8_code 18 = .ok (.iload_n 2, 1) := by decide +kernel
theorem dX8_code_19 : decode cX8_code 19 = .ok (.iconst 4, 1) := by decide +kernel
theorem dX8_code_20 : decode cX8_code 20 = .ok (.ishr, 1) := by decide +kernel
theorem dX8_code_21 : decode cX8_code 21 = .ok (.iload_n 3, 1) := by decide +kernel
theorem dX8_code_22 : decode cX8_code 22 = .ok (.iload 4, 2) := by decide +kernel
theorem dX8_code_24 : decode cX8_code 24 = .ok (.iload 5, 2) := by decide +kernel
theorem dX8_code_26 : decode cX8_code 26 = .ok (.iload 6, 2) := by decide +kernel
theorem dX8_code_28 : decode cX8_code 28 = .ok (.invokevirtual 102, 3) := by decide +kernel
theorem dX8_code_31 : decode cX8_code 31 = .ok (.ifCond .ne 7, 3) := by decide +kernel
theorem dX8_code_34 : decode cX8_code 34 = .ok (.iconst 2, 1) := by decide +kernel
theorem dX8_code_35 : decode cX8_code 35 = .ok (.goto 19, 3) := by decide +kernel
theorem dX8_code_38 : decode cX8_code 38 = .ok (.aload_n 0, 1) := by decide +kernel
theorem dX8_code_39 : decode cX8_code 39 = .ok (.getfield 13, 3) := by decide +kernel
theorem dX8_code_42 : decode cX8_code 42 = .ok (.iload_n 1, 1) := by decide +kernel
theorem dX8_code_43 : decode cX8_code 43 = .ok (.iaload, 1) := by decide +kernel
theorem dX8_code_44 : decode cX8_code 44 = .ok (.bipush 16, 2) := by decide +kernel
theorem dX8_code_46 : decode cX8_code 46 = .ok (.if_icmp .ne 7, 3) := by decide +kernel
theorem dX8_code_49 : decode cX8_code 49 = .ok (.iconst 3, 1) := by decide +kernel
theorem dX8_code_50 : decode cX8_code 50 = .ok (.goto 4, 3) := by decide +kernel
theorem dX8_code_53 : decode cX8_code 53 = .ok (.iconst 0, 1) := by decide +kernel
theorem dX8_code_54 : decode cX8_code 54 = .ok (.putfield 74, 3) := by decide +kernel
theorem dX8_code_57 : decode cX8_code 57 = .ok (.aload_n 0, 1) := by decide +kernel
theorem dX8_code_58 : decode cX8_code 58 = .ok (.getfield 74, 3) := by decide +kernel
theorem dX8_code_61 : decode cX8_code 61 = .ok (.ifCond .le 5, 3) := by decide +kernel
theorem dX8_code_64 : decode cX8_code 64 = .ok (.iconst 0, 1) := by decide +kernel
theorem dX8_code_65 : decode cX8_code 65 = .ok (.ireturn, 1) := by decide +kernel
theorem dX8_code_66 : decode cX8_code 66 = .ok (.bipush 96, 2) := by decide +kernel
theorem dX8_code_68 : decode cX8_code 68 = .ok (.iload_n 1, 1) := by decide +kernel
theorem dX8_code_69 : decode cX8_code 69 = .ok (.imul, 1) := by decide +kernel
theorem dX8_code_70 : decode cX8_code 70 = .ok (.bipush 6, 2) := by decide +kernel
theorem dX8_code_72 : decode cX8_code 72 = .ok (.aload_n 0, 1) := by decide +kernel
theorem dX8_code_73 : decode cX8_code 73 = .ok (.getfield 13, 3) := by decide +kernel
theorem dX8_code_76 : decode cX8_code 76 = .ok (.iload_n 1, 1) := by decide +kernel
theorem dX8_code_77 : decode cX8_code 77 = .ok (.iaload, 1) := by decide +kernel
theorem dX8_code_78 : decode cX8_code 78 = .ok (.imul, 1) := by decide +kernel
theorem dX8_code_79 : decode cX8_code 79 = .ok (.iadd, 1) := by decide +kernel
theorem dX8_code_80 : decode cX8_code 80 = .ok (.istore 7, 2) := by decide +kernel
theorem dX8_code_82 : decode cX8_code 82 = .ok (.aload_n 0, 1) := by decide +kernel
theorem dX8_code_83 : decode cX8_code 83 = .ok (.getfield 19, 3) := by decide +kernel
theorem dX8_code_86 : decode cX8_code 86 = .ok (.iload 7, 2) := by decide +kernel
theorem dX8_code_88 : decode cX8_code 88 = .ok (.iload_n 2, 1) := by decide +kernel
theorem dX8_code_89 : decode cX8_code 89 = .ok (.bipush 15, 2) := by decide +kernel
theorem dX8_code_91 : decode cX8_code 91 = .ok (.iand, 1) := by decide +kernel
theorem dX8_code_92 : decode cX8_code 92 = .ok (.iastore, 1) := by decide +kernel
theorem dX8_code_93 : decode cX8_code 93 = .ok (.aload_n 0, 1) := by decide +kernel
theorem dX8_code_94 : decode cX8_code 94 = .ok (.getfield 19, 3) := by decide +kernel
theorem dX8_code_97 : decode cX8_code 97 = .ok (.iload 7, 2) := by decide +kernel
theorem dX8_code_99 : decode cX8_code 99 = .ok (.iconst 1, 1) := by decide +kernel
theorem dX8_code_100 : decode cX8_code 100 = .ok (.iadd, 1) := by decide +kernel
theorem dX8_code_101 : decode cX8_code 101 = .ok (.iload_n 2, 1) := by decide +kernel
theorem dX8_code_102 : decode cX8_code 102 = .ok (.iconst 4, 1) := by decide +kernel
theorem dX8_code_103 : decode cX8_code 103 = .ok (.ishr, 1) := by decide +kernel
theorem dX8_code_104 : decode cX8_code 104 = .ok (.iastore, 1) := by decide +kernel
theorem dX8_code_105 : decode cX8_code 105 = .ok (.aload_n 0, 1) := by decide +kernel
theorem dX8_code_106 : decode cX8_code 106 = .ok (.getfield 19, 3) := by decide +kernel
theorem dX8_code_109 : decode cX8_code 109 = .ok (.iload 7, 2) := by decide +kernel
theorem dX8_code_111 : decode cX8_code 111 = .ok (.iconst 2, 1) := by decide +kernel
theorem dX8_code_112 : decode cX8_code 112 = .ok (.iadd, 1) := by decide +kernel
theorem dX8_code_113 : decode cX8_code 113 = .ok (.iload_n 3, 1) := by decide +kernel
theorem dX8_code_114 : decode cX8_code 114 = .ok (.iastore, 1) := by decide +kernel
theorem dX8_code_115 : decode cX8_code 115 = .ok (.aload_n 0, 1) := by decide +kernel
theorem dX8_code_116 : decode cX8_code 116 = .ok (.getfield 19, 3) := by decide +kernel
theorem dX8_code_119 : decode cX8_code 119 = .ok (.iload 7, 2) := by decide +kernel
theorem dX8_code_121 : decode cX8_code 121 = .ok (.iconst 3, 1) := by decide +kernel
theorem dX8_code_122 : decode cX8_code 122 = .ok (.iadd, 1) := by decide +kernel
theorem dX8_code_123 : decode cX8_code 123 = .ok (.iload 4, 2) := by decide +kernel
theorem dX8_code_125 : decode cX8_code 125 = .ok (.iastore, 1) := by decide +kernel
theorem dX8_code_126 : decode cX8_code 126 = .ok (.aload_n 0, 1) := by decide +kernel
theorem dX8_code_127 : decode cX8_code 127 = .ok (.getfield 19, 3) := by decide +kernel
theorem dX8_code_130 : decode cX8_code 130 = .ok (.iload 7, 2) := by decide +kernel
theorem dX8_code_132 : decode cX8_code 132 = .ok (.iconst 4, 1) := by decide +kernel
theorem dX8_code_133 : decode cX8_code 133 = .ok (.iadd, 1) := by decide +kernel
theorem dX8_code_134 : decode cX8_code 134 = .ok (.iload 5, 2) := by decide +kernel
theorem dX8_code_136 : decode cX8_code 136 = .ok (.iastore, 1) := by decide +kernel
theorem dX8_code_137 : decode cX8_code 137 = .ok (.aload_n 0, 1) := by decide +kernel
theorem dX8_code_138 : decode cX8_code 138 = .ok (.getfield 19, 3) := by decide +kernel
theorem dX8_code_141 : decode cX8_code 141 = .ok (.iload 7, 2) := by decide +kernel
theorem dX8_code_143 : decode cX8_code 143 = .ok (.iconst 5, 1) := by decide +kernel
theorem dX8_code_144 : decode cX8_code 144 = .ok (.iadd, 1) := by decide +kernel
theorem dX8_code_145 : decode cX8_code 145 = .ok (.iload 6, 2) := by decide +kernel
theorem dX8_code_147 : decode cX8_code 147 = .ok (.iastore, 1) := by decide +kernel
theorem dX8_code_148 : decode cX8_code 148 = .ok (.aload_n 0, 1) := by decide +kernel
theorem dX8_code_149 : decode cX8_code 149 = .ok (.getfield 13, 3) := by decide +kernel
theorem dX8_code_152 : decode cX8_code 152 = .ok (.iload_n 1, 1) := by decide +kernel
theorem dX8_code_153 : decode cX8_code 153 = .ok (.dup2, 1) := by decide +kernel
theorem dX8_code_154 : decode cX8_code 154 = .ok (.iaload, 1) := by decide +kernel
theorem dX8_code_155 : decode cX8_code 155 = .ok (.iconst 1, 1) := by decide +kernel
theorem dX8_code_156 : decode cX8_code 156 = .ok (.iadd, 1) := by decide +kernel
theorem dX8_code_157 : decode cX8_code 157 = .ok (.iastore, 1) := by decide +kernel
theorem dX8_code_158 : decode cX8_code 158 = .ok (.aload_n 0, 1) := by decide +kernel
theorem dX8_code_159 : decode cX8_code 159 = .ok (.invokevirtual 88, 3) := by decide +kernel
theorem dX8_code_162 : decode cX8_code 162 = .ok (.aload_n 0, 1) := by decide +kernel
theorem dX8_code_163 : decode cX8_code 163 = .ok (.getfield 13, 3) := by decide +kernel
theorem dX8_code_166 : decode cX8_code 166 = .ok (.iload_n 1, 1) := by decide +kernel
theorem dX8_code_167 : decode cX8_code 167 = .ok (.iaload, 1) := by decide +kernel
theorem dX8_code_168 : decode cX8_code 168 = .ok (.iconst 1, 1) := by decide +kernel
theorem dX8_code_169 : decode cX8_code 169 = .ok (.isub, 1) := by decide +kernel
theorem dX8_code_170 : decode cX8_code 170 = .ok (.ireturn, 1) := by decide +kernel
theorem dX8_table_0 : decode cX8_table 0 = .ok (.aload_n 0, 1) := by decide +kernel
theorem dX8_table_1 : decode cX8_table 1 = .ok (.aload_n 0, 1) := by decide +kernel
theorem dX8_table_2 : decode cX8_table 2 = .ok (.iload_n 1, 1) := by decide +kernel
theorem dX8_table_3 : decode cX8_table 3 = .ok (.invokevirtual 99, 3) := by decide +kernel
theorem dX8_table_6 : decode cX8_table 6 = .ok (.ifCond .ne 7, 3) := by decide +kernel
theorem dX8_table_9 : decode cX8_table 9 = .ok (.iconst 1, 1) := by decide +kernel
theorem dX8_table_10 : decode cX8_table 10 = .ok (.goto 16, 3) := by decide +kernel
theorem dX8_table_13 : decode cX8_table 13 = .ok (.aload_n 0, 1) := by decide +kernel
theorem dX8_table_14 : decode cX8_table 14 = .ok (.getfield 106, 3) := by decide +kernel
theorem dX8_table_17 : decode cX8_table 17 = .ok (.iconst 4, 1) := by decide +kernel
theorem dX8_table_18 : decode cX8_table 18 = .ok (.if_icmp .ne 7, 3) := by decide +kernel
theorem dX8_table_21 : decode cX8_table 21 = .ok (.iconst 2, 1) := by decide +kernel
theorem dX8_table_22 : decode cX8_table 22 = .ok (.goto 4, 3) := by decide +kernel
theorem dX8_table_25 : decode cX8_table 25 = .ok (.iconst 0, 1) := by decide +kernel
theorem dX8_table_26 : decode cX8_table 26 = .ok (.putfield 74, 3) := by decide +kernel
theorem dX8_table_29 : decode cX8_table 29 = .ok (.aload_n 0, 1) := by decide +kernel
theorem dX8_table_30 : decode cX8_table 30 = .ok (.getfield 74, 3) := by decide +kernel
theorem dX8_table_33 : decode cX8_table 33 = .ok (.ifCond .le 5, 3) := by decide +kernel
theorem dX8_table_36 : decode cX8_table 36 = .ok (.iconst 0, 1) := by decide +kernel
theorem dX8_table_37 : decode cX8_table 37 = .ok (.ireturn, 1) := by decide +kernel
theorem dX8_table_38 : decode cX8_table 38 = .ok (.aload_n 0, 1) := by decide +kernel
theorem dX8_table_39 : decode cX8_table 39 = .ok (.getfield 28, 3) := by decide +kernel
theorem dX8_table_42 : decode cX8_table 42 = .ok (.aload_n 0, 1) := by decide +kernel
theorem dX8_table_43 : decode cX8_table 43 = .ok (.getfield 106, 3) := by decide +kernel
theorem dX8_table_46 : decode cX8_table 46 = .ok (.iload_n 1, 1) := by decide +kernel
theorem dX8_table_47 : decode cX8_table 47 = .ok (.iastore, 1) := by decide +kernel
theorem dX8_table_48 : decode cX8_table 48 = .ok (.aload_n 0, 1) := by decide +kernel
theorem dX8_table_49 : decode cX8_table 49 = .ok (.dup, 1) := by decide +kernel
theorem dX8_table_50 : decode cX8_table 50 = .ok (.getfield 106, 3) := by decide +kernel
theorem dX8_table_53 : decode cX8_table 53 = .ok (.iconst 1, 1) := by decide +kernel
theorem dX8_table_54 : decode cX8_table 54 = .ok (.iadd, 1) := by decide +kernel
theorem dX8_table_55 : decode cX8_table 55 = .ok (.putfield 106, 3) := by decide +kernel
theorem dX8_table_58 : decode cX8_table 58 = .ok (.aload_n 0, 1) := by decide +kernel
theorem dX8_table_59 : decode cX8_table 59 = .ok (.invokevirtual 88, 3) := by decide +kernel
theorem dX8_table_62 : decode cX8_table 62 = .ok (.aload_n 0, 1) := by decide +kernel
theorem dX8_table_63 : decode cX8_table 63 = .ok (.getfield 106, 3) := by decide +kernel
theorem dX8_table_66 : decode cX8_table 66 = .ok (.ireturn, 1) := by decide +kernel
theorem dX8_input_0 : decode cX8_input 0 = .ok (.aload_n 0, 1) := by decide +kernel
theorem dX8_input_1 : decode cX8_input 1 = .ok (.iconst 0, 1) := by decide +kernel
theorem dX8_input_2 : decode cX8_input 2 = .ok (.putfield 74, 3) := by decide +kernel
theorem dX8_input_5 : decode cX8_input 5 = .ok (.aload_n 0, 1) := by decide +kernel
theorem dX8_input_6 : decode cX8_input 6 = .ok (.getfield 109, 3) := by decide +kernel
theorem dX8_input_9 : decode cX8_input 9 = .ok (.bipush 12, 2) := by decide +kernel
theorem dX8_input_11 : decode cX8_input 11 = .ok (.if_icmp .ne 5, 3) := by decide +kernel
theorem dX8_input_14 : decode cX8_input 14 = .ok (.iconst (-1), 1) := by decide +kernel
theorem dX8_input_15 : decode cX8_input 15 = .ok (.ireturn, 1) := by decide +kernel
theorem dX8_input_16 : decode cX8_input 16 = .ok (.aload_n 0, 1) := by decide +kernel
theorem dX8_input_17 : decode cX8_input 17 = .ok (.getfield 31, 3) := by decide +kernel
theorem dX8_input_20 : decode cX8_input 20 = .ok (.aload_n 0, 1) := by decide +kernel
theorem dX8_input_21 : decode cX8_input 21 = .ok (.getfield 109, 3) := by decide +kernel
theorem dX8_input_24 : decode cX8_input 24 = .ok (.iload_n 1, 1) := by decide +kernel
theorem dX8_input_25 : decode cX8_input 25 = .ok (.iastore, 1) := by decide +kernel
theorem dX8_input_26 : decode cX8_input 26 = .ok (.aload_n 0, 1) := by decide +kernel
theorem dX8_input_27 : decode cX8_input 27 = .ok (.dup, 1) := by decide +kernel
theorem dX8_input_28 : decode cX8_input 28 = .ok (.getfield 109, 3) := by decide +kernel
theorem dX8_input_31 : decode cX8_input 31 = .ok (.iconst 1, 1) := by decide +kernel
theorem dX8_input_32 : decode cX8_input 32 = .ok (.iadd, 1) := by decide +kernel
theorem dX8_input_33 : decode cX8_input 33 = .ok (.putfield 109, 3) := by decide +kernel
theorem dX8_input_36 : decode cX8_input 36 = .ok (.aload_n 0, 1) := by decide +kernel
theorem dX8_input_37 : decode cX8_input 37 = .ok (.getfield 109, 3) := by decide +kernel
theorem dX8_input_40 : decode cX8_input 40 = .ok (.ireturn, 1) := by decide +kernel
theorem dX8_empty_0 : decode cX8_empty 0 = .ok (.aload_n 0, 1) := by decide +kernel
theorem dX8_empty_1 : decode cX8_empty 1 = .ok (.iconst 0, 1) := by decide +kernel
theorem dX8_empty_2 : decode cX8_empty 2 = .ok (.putfield 74, 3) := by decide +kernel
theorem dX8_empty_5 : decode cX8_empty 5 = .ok (.aload_n 0, 1) := by decide +kernel
theorem dX8_empty_6 : decode cX8_empty 6 = .ok (.iconst 0, 1) := by decide +kernel
theorem dX8_empty_7 : decode cX8_empty 7 = .ok (.putfield 109, 3) := by decide +kernel
theorem dX8_empty_10 : decode cX8_empty 10 = .ok (.return_, 1) := by decide +kernel
theorem dX8_isNumber_0 : decode cX8_isNumber 0 = .ok (.iload_n 0, 1) := by decide +kernel
theorem dX8_isNumber_1 : decode cX8_isNumber 1 = .ok (.bipush 7, 2) := by decide +kernel
theorem dX8_isNumber_3 : decode cX8_isNumber 3 = .ok (.iand, 1) := by decide +kernel
theorem dX8_isNumber_4 : decode cX8_isNumber 4 = .ok (.bipush 7, 2) := by decide +kernel
theorem dX8_isNumber_6 : decode cX8_isNumber 6 = .ok (.if_icmp .ne 7, 3) := by decide +kernel
theorem dX8_isNumber_9 : decode cX8_isNumber 9 = .ok (.iconst 1, 1) := by decide +kernel
theorem dX8_isNumber_10 : decode cX8_isNumber 10 = .ok (.goto 4, 3) := by decide +kernel
theorem dX8_isNumber_13 : decode cX8_isNumber 13 = .ok (.iconst 0, 1) := by decide +kernel
theorem dX8_isNumber_14 : decode cX8_isNumber 14 = .ok (.ireturn, 1) := by decide +kernel
theorem dX8_has_0 : decode cX8_has 0 = .ok (.iload_n 2, 1) := by decide +kernel
theorem dX8_has_1 : decode cX8_has 1 = .ok (.invokestatic 112, 3) := by decide +kernel
theorem dX8_has_4 : decode cX8_has 4 = .ok (.ifCond .ne 20, 3) := by decide +kernel
theorem dX8_has_7 : decode cX8_has 7 = .ok (.aload_n 0, 1) := by decide +kernel
theorem dX8_has_8 : decode cX8_has 8 = .ok (.getfield 38, 3) := by decide +kernel
theorem dX8_has_11 : decode cX8_has 11 = .ok (.bipush 6, 2) := by decide +kernel
theorem dX8_has_13 : decode cX8_has 13 = .ok (.iload_n 1, 1) := by decide +kernel
theorem dX8_has_14 : decode cX8_has 14 = .ok (.imul, 1) := by decide +kernel
theorem dX8_has_15 : decode cX8_has 15 = .ok (.iload_n 2, 1) := by decide +kernel
theorem dX8_has_16 : decode cX8_has 16 = .ok (.bipush 7, 2) := by decide +kernel
theorem dX8_has_18 : decode cX8_has 18 = .ok (.iand, 1) := by decide +kernel
theorem dX8_has_19 : decode cX8_has 19 = .ok (.iadd, 1) := by decide +kernel
theorem dX8_has_20 : decode cX8_has 20 = .ok (.baload, 1) := by decide +kernel
theorem dX8_has_21 : decode cX8_has 21 = .ok (.ifCond .ne 7, 3) := by decide +kernel
theorem dX8_has_24 : decode cX8_has 24 = .ok (.iconst 1, 1) := by decide +kernel
theorem dX8_has_25 : decode cX8_has 25 = .ok (.goto 4, 3) := by decide +kernel
theorem dX8_has_28 : decode cX8_has 28 = .ok (.iconst 0, 1) := by decide +kernel
theorem dX8_has_29 : decode cX8_has 29 = .ok (.ireturn, 1) := by decide +kernel
theorem dX8_valueAt_0 : decode cX8_valueAt 0 = .ok (.iload_n 2, 1) := by decide +kernel
theorem dX8_valueAt_1 : decode cX8_valueAt 1 = .ok (.invokestatic 112, 3) := by decide +kernel
theorem dX8_valueAt_4 : decode cX8_valueAt 4 = .ok (.ifCond .eq 9, 3) := by decide +kernel
theorem dX8_valueAt_7 : decode cX8_valueAt 7 = .ok (.iload_n 2, 1) := by decide +kernel
theorem dX8_valueAt_8 : decode cX8_valueAt 8 = .ok (.iconst 3, 1) := by decide +kernel
theorem dX8_valueAt_9 : decode cX8_valueAt 9 = .ok (.ishr, 1) := by decide +kernel
theorem dX8_valueAt_10 : decode cX8_valueAt 10 = .ok (.goto 17, 3) := by decide +kernel
theorem dX8_valueAt_13 : decode cX8_valueAt 13 = .ok (.aload_n 0, 1) := by decide +kernel
theorem dX8_valueAt_14 : decode cX8_valueAt 14 = .ok (.getfield 41, 3) := by decide +kernel
theorem dX8_valueAt_17 : decode cX8_valueAt 17 = .ok (.bipush 6, 2) := by decide +kernel
theorem dX8_valueAt_19 : decode cX8_valueAt 19 = .ok (.iload_n 1, 1) := by decide +kernel
theorem dX8_valueAt_20 : decode cX8_valueAt 20 = .ok (.imul, 1) := by decide +kernel
theorem dX8_valueAt_21 : decode cX8_valueAt 21 = .ok (.iload_n 2, 1) := by decide +kernel
theorem dX8_valueAt_22 : decode cX8_valueAt 22 = .ok (.bipush 7, 2) := by decide +kernel
theorem dX8_valueAt_24 : decode cX8_valueAt 24 = .ok (.iand, 1) := by decide +kernel
theorem dX8_valueAt_25 : decode cX8_valueAt 25 = .ok (.iadd, 1) := by decide +kernel
theorem dX8_valueAt_26 : decode cX8_valueAt 26 = .ok (.iaload, 1) := by decide +kernel
theorem dX8_valueAt_27 : decode cX8_valueAt 27 = .ok (.ireturn, 1) := by decide +kernel
theorem dX8_come_0 : decode cX8_come 0 = .ok (.bipush 17, 2) := by decide +kernel
theorem dX8_come_2 : decode cX8_come 2 = .ok (.iload_n 1, 1) := by decide +kernel
theorem dX8_come_3 : decode cX8_come 3 = .ok (.imul, 1) := by decide +kernel
theorem dX8_come_4 : decode cX8_come 4 = .ok (.iload_n 2, 1) := by decide +kernel
theorem dX8_come_5 : decode cX8_come 5 = .ok (.aload_n 0, 1) := by decide +kernel
theorem dX8_come_6 : decode cX8_come 6 = .ok (.getfield 13, 3) := by decide +kernel
theorem dX8_come_9 : decode cX8_come 9 = .ok (.iload_n 1, 1) := by decide +kernel
theorem dX8_come_10 : decode cX8_come 10 = .ok (.iaload, 1) := by decide +kernel
theorem dX8_come_11 : decode cX8_come 11 = .ok (.if_icmp .le 12, 3) := by decide +kernel
theorem dX8_come_14 : decode cX8_come 14 = .ok (.aload_n 0, 1) := by decide +kernel
theorem dX8_come_15 : decode cX8_come 15 = .ok (.getfield 13, 3) := by decide +kernel
theorem dX8_come_18 : decode cX8_come 18 = .ok (.iload_n 1, 1) := by decide +kernel
theorem dX8_come_19 : decode cX8_come 19 = .ok (.iaload, 1) := by decide +kernel
theorem dX8_come_20 : decode cX8_come 20 = .ok (.goto 4, 3) := by decide +kernel
theorem dX8_come_23 : decode cX8_come 23 = .ok (.iload_n 2, 1) := by decide +kernel
theorem dX8_come_24 : decode cX8_come 24 = .ok (.iadd, 1) := by decide +kernel
theorem dX8_come_25 : decode cX8_come 25 = .ok (.istore_n 3, 1) := by decide +kernel
theorem dX8_come_26 : decode cX8_come 26 = .ok (.aload_n 0, 1) := by decide +kernel
theorem dX8_come_27 : decode cX8_come 27 = .ok (.getfield 34, 3) := by decide +kernel
theorem dX8_come_30 : decode cX8_come 30 = .ok (.iload_n 3, 1) := by decide +kernel
theorem dX8_come_31 : decode cX8_come 31 = .ok (.baload, 1) := by decide +kernel
theorem dX8_come_32 : decode cX8_come 32 = .ok (.istore 4, 2) := by decide +kernel
theorem dX8_come_34 : decode cX8_come 34 = .ok (.aload_n 0, 1) := by decide +kernel
theorem dX8_come_35 : decode cX8_come 35 = .ok (.aload_n 0, 1) := by decide +kernel
theorem dX8_come_36 : decode cX8_come 36 = .ok (.getfield 115, 3) := by decide +kernel
theorem dX8_come_39 : decode cX8_come 39 = .ok (.ifCond .ne 8, 3) := by decide +kernel
theorem dX8_come_42 : decode cX8_come 42 = .ok (.iload 4, 2) := by decide +kernel
theorem dX8_come_44 : decode cX8_come 44 = .ok (.ifCond .ne 7, 3) := by decide +kernel
theorem dX8_come_47 : decode cX8_come 47 = .ok (.iconst 1, 1) := by decide +kernel
theorem dX8_come_48 : decode cX8_come 48 = .ok (.goto 4, 3) := by decide +kernel
theorem dX8_come_51 : decode cX8_come 51 = .ok (.iconst 0, 1) := by decide +kernel
theorem dX8_come_52 : decode cX8_come 52 = .ok (.putfield 115, 3) := by decide +kernel
theorem dX8_come_55 : decode cX8_come 55 = .ok (.aload_n 0, 1) := by decide +kernel
theorem dX8_come_56 : decode cX8_come 56 = .ok (.getfield 34, 3) := by decide +kernel
theorem dX8_come_59 : decode cX8_come 59 = .ok (.iload_n 3, 1) := by decide +kernel
theorem dX8_come_60 : decode cX8_come 60 = .ok (.iconst 1, 1) := by decide +kernel
theorem dX8_come_61 : decode cX8_come 61 = .ok (.bastore, 1) := by decide +kernel
theorem dX8_come_62 : decode cX8_come 62 = .ok (.iconst 0, 1) := by decide +kernel
theorem dX8_come_63 : decode cX8_come 63 = .ok (.istore 5, 2) := by decide +kernel
theorem dX8_come_65 : decode cX8_come 65 = .ok (.iload 5, 2) := by decide +kernel
theorem dX8_come_67 : decode cX8_come 67 = .ok (.bipush 6, 2) := by decide +kernel
theorem dX8_come_69 : decode cX8_come 69 = .ok (.if_icmp .ge 132, 3) := by decide +kernel
theorem dX8_come_72 : decode cX8_come 72 = .ok (.bipush 6, 2) := by decide +kernel
theorem dX8_come_74 : decode cX8_come 74 = .ok (.iload_n 3, 1) := by decide +kernel
theorem dX8_come_75 : decode cX8_come 75 = .ok (.imul, 1) := by decide +kernel
theorem dX8_come_76 : decode cX8_come 76 = .ok (.iload 5, 2) := by decide +kernel
theorem dX8_come_78 : decode cX8_come 78 = .ok (.iadd, 1) := by decide +kernel
theorem dX8_come_79 : decode cX8_come 79 = .ok (.istore 6, 2) := by decide +kernel
theorem dX8_come_81 : decode cX8_come 81 = .ok (.aload_n 0, 1) := by decide +kernel
theorem dX8_come_82 : decode cX8_come 82 = .ok (.getfield 44, 3) := by decide +kernel
theorem dX8_come_85 : decode cX8_come 85 = .ok (.iload 5, 2) := by decide +kernel
theorem dX8_come_87 : decode cX8_come 87 = .ok (.baload, 1) := by decide +kernel
theorem dX8_come_88 : decode cX8_come 88 = .ok (.ifCond .ne 35, 3) := by decide +kernel
theorem dX8_come_91 : decode cX8_come 91 = .ok (.iload 4, 2) := by decide +kernel
theorem dX8_come_93 : decode cX8_come 93 = .ok (.ifCond .eq 34, 3) := by decide +kernel
theorem dX8_come_96 : decode cX8_come 96 = .ok (.aload_n 0, 1) := by decide +kernel
theorem dX8_come_97 : decode cX8_come 97 = .ok (.getfield 38, 3) := by decide +kernel
theorem dX8_come_100 : decode cX8_come 100 = .ok (.iload 6, 2) := by decide +kernel
theorem dX8_come_102 : decode cX8_come 102 = .ok (.baload, 1) := by decide +kernel
theorem dX8_come_103 : decode cX8_come 103 = .ok (.ifCond .ne 20, 3) := by decide +kernel
theorem dX8_come_106 : decode cX8_come 106 = .ok (.aload_n 0, 1) := by decide +kernel
theorem dX8_come_107 : decode cX8_come 107 = .ok (.getfield 41, 3) := by decide +kernel
theorem dX8_come_110 : decode cX8_come 110 = .ok (.iload 6, 2) := by decide +kernel
theorem dX8_come_112 : decode cX8_come 112 = .ok (.iaload, 1) := by decide +kernel
theorem dX8_come_113 : decode cX8_come 113 = .ok (.aload_n 0, 1) := by decide +kernel
theorem dX8_come_114 : decode cX8_come 114 = .ok (.getfield 47, 3) := by decide +kernel
theorem dX8_come_117 : decode cX8_come 117 = .ok (.iload 5, 2) := by decide +kernel
theorem dX8_come_119 : decode cX8_come 119 = .ok (.iaload, 1) := by decide +kernel
theorem dX8_come_120 : decode cX8_come 120 = .ok (.if_icmp .eq 7, 3) := by decide +kernel
theorem dX8_come_123 : decode cX8_come 123 = .ok (.iconst 1, 1) := by decide +kernel
theorem dX8_come_124 : decode cX8_come 124 = .ok (.goto 4, 3) := by decide +kernel
theorem dX8_come_127 : decode cX8_come 127 = .ok (.iconst 0, 1) := by decide +kernel
theorem dX8_come_128 : decode cX8_come 128 = .ok (.istore 7, 2) := by decide +kernel
theorem dX8_come_130 : decode cX8_come 130 = .ok (.aload_n 0, 1) := by decide +kernel
theorem dX8_come_131 : decode cX8_come 131 = .ok (.aload_n 0, 1) := by decide +kernel
theorem dX8_come_132 : decode cX8_come 132 = .ok (.getfield 115, 3) := by decide +kernel
theorem dX8_come_135 : decode cX8_come 135 = .ok (.ifCond .ne 20, 3) := by decide +kernel
theorem dX8_come_138 : decode cX8_come 138 = .ok (.iload 4, 2) := by decide +kernel
theorem dX8_come_140 : decode cX8_come 140 = .ok (.ifCond .eq 19, 3) := by decide +kernel
theorem dX8_come_143 : decode cX8_come 143 = .ok (.iload 7, 2) := by decide +kernel
theorem dX8_come_145 : decode cX8_come 145 = .ok (.aload_n 0, 1) := by decide +kernel
theorem dX8_come_146 : decode cX8_come 146 = .ok (.getfield 38, 3) := by decide +kernel
theorem dX8_come_149 : decode cX8_come 149 = .ok (.iload 6, 2) := by decide +kernel
theorem dX8_come_151 : decode cX8_come 151 = .ok (.baload, 1) := by decide +kernel
theorem dX8_come_152 : decode cX8_come 152 = .ok (.if_icmp .eq 7, 3) := by decide +kernel
theorem dX8_come_155 : decode cX8_come 155 = .ok (.iconst 1, 1) := by decide +kernel
theorem dX8_come_156 : decode cX8_come 156 = .ok (.goto 4, 3) := by decide +kernel
theorem dX8_come_159 : decode cX8_come 159 = .ok (.iconst 0, 1) := by decide +kernel
theorem dX8_come_160 : decode cX8_come 160 = .ok (.putfield 115, 3) := by decide +kernel
theorem dX8_come_163 : decode cX8_come 163 = .ok (.aload_n 0, 1) := by decide +kernel
theorem dX8_come_164 : decode cX8_come 164 = .ok (.getfield 38, 3) := by decide +kernel
theorem dX8_come_167 : decode cX8_come 167 = .ok (.iload 6, 2) := by decide +kernel
theorem dX8_come_169 : decode cX8_come 169 = .ok (.iload 7, 2) := by decide +kernel
theorem dX8_come_171 : decode cX8_come 171 = .ok (.bastore, 1) := by decide +kernel
theorem dX8_come_172 : decode cX8_come 172 = .ok (.aload_n 0, 1) := by decide +kernel
theorem dX8_come_173 : decode cX8_come 173 = .ok (.getfield 41, 3) := by decide +kernel
theorem dX8_come_176 : decode cX8_come 176 = .ok (.iload 6, 2) := by decide +kernel
theorem dX8_come_178 : decode cX8_come 178 = .ok (.iload 7, 2) := by decide +kernel
theorem dX8_come_180 : decode cX8_come 180 = .ok (.ifCond .eq 7, 3) := by decide +kernel
theorem dX8_come_183 : decode cX8_come 183 = .ok (.iconst 0, 1) := by decide +kernel
theorem dX8_come_184 : decode cX8_come 184 = .ok (.goto 10, 3) := by decide +kernel
theorem dX8_come_187 : decode cX8_come 187 = .ok (.aload_n 0, 1) := by decide +kernel
theorem dX8_come_188 : decode cX8_come 188 = .ok (.getfield 47, 3) := by decide +kernel
theorem dX8_come_191 : decode cX8_come 191 = .ok (.iload 5, 2) := by decide +kernel
theorem dX8_come_193 : decode cX8_come 193 = .ok (.iaload, 1) := by decide +kernel
theorem dX8_come_194 : decode cX8_come 194 = .ok (.iastore, 1) := by decide +kernel
theorem dX8_come_195 : decode cX8_come 195 = .ok (.iinc 5 1, 3) := by decide +kernel
theorem dX8_come_198 : decode cX8_come 198 = .ok (.goto (-133), 3) := by decide +kernel
theorem dX8_come_201 : decode cX8_come 201 = .ok (.return_, 1) := by decide +kernel
theorem dX8_reckon_0 : decode cX8_reckon 0 = .ok (.iload_n 0, 1) := by decide +kernel
theorem dX8_reckon_1 : decode cX8_reckon 1 = .ok (.tableswitch 54 1 4 #[31, 35, 39, 43], 31) := by decide +kernel
theorem dX8_reckon_32 : decode cX8_reckon 32 = .ok (.iload_n 1, 1) := by decide +kernel
theorem dX8_reckon_33 : decode cX8_reckon 33 = .ok (.iload_n 2, 1) := by decide +kernel
theorem dX8_reckon_34 : decode cX8_reckon 34 = .ok (.iadd, 1) := by decide +kernel
theorem dX8_reckon_35 : decode cX8_reckon 35 = .ok (.ireturn, 1) := by decide +kernel
theorem dX8_reckon_36 : decode cX8_reckon 36 = .ok (.iload_n 1, 1) := by decide +kernel
theorem dX8_reckon_37 : decode cX8_reckon 37 = .ok (.iload_n 2, 1) := by decide +kernel
theorem dX8_reckon_38 : decode cX8_reckon 38 = .ok (.isub, 1) := by decide +kernel
theorem dX8_reckon_39 : decode cX8_reckon 39 = .ok (.ireturn, 1) := by decide +kernel
theorem dX8_reckon_40 : decode cX8_reckon 40 = .ok (.iload_n 1, 1) := by decide +kernel
theorem dX8_reckon_41 : decode cX8_reckon 41 = .ok (.iload_n 2, 1) := by decide +kernel
theorem dX8_reckon_42 : decode cX8_reckon 42 = .ok (.imul, 1) := by decide +kernel
theorem dX8_reckon_43 : decode cX8_reckon 43 = .ok (.ireturn, 1) := by decide +kernel
theorem dX8_reckon_44 : decode cX8_reckon 44 = .ok (.iload_n 1, 1) := by decide +kernel
theorem dX8_reckon_45 : decode cX8_reckon 45 = .ok (.iload_n 2, 1) := by decide +kernel
theorem dX8_reckon_46 : decode cX8_reckon 46 = .ok (.if_icmp .ge 7, 3) := by decide +kernel
theorem dX8_reckon_49 : decode cX8_reckon 49 = .ok (.iconst 1, 1) := by decide +kernel
theorem dX8_reckon_50 : decode cX8_reckon 50 = .ok (.goto 4, 3) := by decide +kernel
theorem dX8_reckon_53 : decode cX8_reckon 53 = .ok (.iconst 0, 1) := by decide +kernel
theorem dX8_reckon_54 : decode cX8_reckon 54 = .ok (.ireturn, 1) := by decide +kernel
theorem dX8_reckon_55 : decode cX8_reckon 55 = .ok (.iload_n 1, 1) := by decide +kernel
theorem dX8_reckon_56 : decode cX8_reckon 56 = .ok (.ireturn, 1) := by decide +kernel
theorem dX8_entry_0 : decode cX8_entry 0 = .ok (.iload_n 1, 1) := by decide +kernel
theorem dX8_entry_1 : decode cX8_entry 1 = .ok (.aload_n 0, 1) := by decide +kernel
theorem dX8_entry_2 : decode cX8_entry 2 = .ok (.getfield 106, 3) := by decide +kernel
theorem dX8_entry_5 : decode cX8_entry 5 = .ok (.irem, 1) := by decide +kernel
theorem dX8_entry_6 : decode cX8_entry 6 = .ok (.istore_n 2, 1) := by decide +kernel
theorem dX8_entry_7 : decode cX8_entry 7 = .ok (.aload_n 0, 1) := by decide +kernel
theorem dX8_entry_8 : decode cX8_entry 8 = .ok (.getfield 28, 3) := by decide +kernel
theorem dX8_entry_11 : decode cX8_entry 11 = .ok (.iload_n 2, 1) := by decide +kernel
theorem dX8_entry_12 : decode cX8_entry 12 = .ok (.ifCond .ge 12, 3) := by decide +kernel
theorem dX8_entry_15 : decode cX8_entry 15 = .ok (.iload_n 2, 1) := by decide +kernel
theorem dX8_entry_16 : decode cX8_entry 16 = .ok (.aload_n 0, 1) := by decide +kernel
theorem dX8_entry_17 : decode cX8_entry 17 = .ok (.getfield 106, 3) := by decide +kernel
theorem dX8_entry_20 : decode cX8_entry 20 = .ok (.iadd, 1) := by decide +kernel
theorem dX8_entry_21 : decode cX8_entry 21 = .ok (.goto 4, 3) := by decide +kernel
theorem dX8_entry_24 : decode cX8_entry 24 = .ok (.iload_n 2, 1) := by decide +kernel
theorem dX8_entry_25 : decode cX8_entry 25 = .ok (.iaload, 1) := by decide +kernel
theorem dX8_entry_26 : decode cX8_entry 26 = .ok (.ireturn, 1) := by decide +kernel
theorem dX8_enter_0 : decode cX8_enter 0 = .ok (.iconst 0, 1) := by decide +kernel
theorem dX8_enter_1 : decode cX8_enter 1 = .ok (.istore 4, 2) := by decide +kernel
theorem dX8_enter_3 : decode cX8_enter 3 = .ok (.iload 4, 2) := by decide +kernel
theorem dX8_enter_5 : decode cX8_enter 5 = .ok (.bipush 6, 2) := by decide +kernel
theorem dX8_enter_7 : decode cX8_enter 7 = .ok (.if_icmp .ge 109, 3) := by decide +kernel
theorem dX8_enter_10 : decode cX8_enter 10 = .ok (.iload 4, 2) := by decide +kernel
theorem dX8_enter_12 : decode cX8_enter 12 = .ok (.aload_n 0, 1) := by decide +kernel
theorem dX8_enter_13 : decode cX8_enter 13 = .ok (.getfield 7, 3) := by decide +kernel
theorem dX8_enter_16 : decode cX8_enter 16 = .ok (.iload_n 1, 1) := by decide +kernel
theorem dX8_enter_17 : decode cX8_enter 17 = .ok (.iaload, 1) := by decide +kernel
theorem dX8_enter_18 : decode cX8_enter 18 = .ok (.if_icmp .ge 7, 3) := by decide +kernel
theorem dX8_enter_21 : decode cX8_enter 21 = .ok (.iconst 1, 1) := by decide +kernel
theorem dX8_enter_22 : decode cX8_enter 22 = .ok (.goto 4, 3) := by decide +kernel
theorem dX8_enter_25 : decode cX8_enter 25 = .ok (.iconst 0, 1) := by decide +kernel
theorem dX8_enter_26 : decode cX8_enter 26 = .ok (.istore 5, 2) := by decide +kernel
theorem dX8_enter_28 : decode cX8_enter 28 = .ok (.iload 5, 2) := by decide +kernel
theorem dX8_enter_30 : decode cX8_enter 30 = .ok (.ifCond .eq 17, 3) := by decide +kernel
theorem dX8_enter_33 : decode cX8_enter 33 = .ok (.aload_n 0, 1) := by decide +kernel
theorem dX8_enter_34 : decode cX8_enter 34 = .ok (.getfield 22, 3) := by decide +kernel
theorem dX8_enter_37 : decode cX8_enter 37 = .ok (.iload_n 2, 1) := by decide +kernel
theorem dX8_enter_38 : decode cX8_enter 38 = .ok (.iconst 3, 1) := by decide +kernel
theorem dX8_enter_39 : decode cX8_enter 39 = .ok (.iadd, 1) := by decide +kernel
theorem dX8_enter_40 : decode cX8_enter 40 = .ok (.iload 4, 2) := by decide +kernel
theorem dX8_enter_42 : decode cX8_enter 42 = .ok (.iadd, 1) := by decide +kernel
theorem dX8_enter_43 : decode cX8_enter 43 = .ok (.iaload, 1) := by decide +kernel
theorem dX8_enter_44 : decode cX8_enter 44 = .ok (.goto 4, 3) := by decide +kernel
theorem dX8_enter_47 : decode cX8_enter 47 = .ok (.iconst 0, 1) := by decide +kernel
theorem dX8_enter_48 : decode cX8_enter 48 = .ok (.istore 6, 2) := by decide +kernel
theorem dX8_enter_50 : decode cX8_enter 50 = .ok (.aload_n 0, 1) := by decide +kernel
theorem dX8_enter_51 : decode cX8_enter 51 = .ok (.getfield 44, 3) := by decide +kernel
theorem dX8_enter_54 : decode cX8_enter 54 = .ok (.iload 4, 2) := by decide +kernel
theorem dX8_enter_56 : decode cX8_enter 56 = .ok (.iload 5, 2) := by decide +kernel
theorem dX8_enter_58 : decode cX8_enter 58 = .ok (.ifCond .eq 17, 3) := by decide +kernel
theorem dX8_enter_61 : decode cX8_enter 61 = .ok (.aload_n 0, 1) := by decide +kernel
theorem dX8_enter_62 : decode cX8_enter 62 = .ok (.iload_n 3, 1) := by decide +kernel
theorem dX8_enter_63 : decode cX8_enter 63 = .ok (.iload 6, 2) := by decide +kernel
theorem dX8_enter_65 : decode cX8_enter 65 = .ok (.invokevirtual 118, 3) := by decide +kernel
theorem dX8_enter_68 : decode cX8_enter 68 = .ok (.ifCond .ne 7, 3) := by decide +kernel
theorem dX8_enter_71 : decode cX8_enter 71 = .ok (.iconst 1, 1) := by decide +kernel
theorem dX8_enter_72 : decode cX8_enter 72 = .ok (.goto 4, 3) := by decide +kernel
theorem dX8_enter_75 : decode cX8_enter 75 = .ok (.iconst 0, 1) := by decide +kernel
theorem dX8_enter_76 : decode cX8_enter 76 = .ok (.bastore, 1) := by decide +kernel
theorem dX8_enter_77 : decode cX8_enter 77 = .ok (.aload_n 0, 1) := by decide +kernel
theorem dX8_enter_78 : decode cX8_enter 78 = .ok (.getfield 47, 3) := by decide +kernel
theorem dX8_enter_81 : decode cX8_enter 81 = .ok (.iload 4, 2) := by decide +kernel
theorem dX8_enter_83 : decode cX8_enter 83 = .ok (.iload 5, 2) := by decide +kernel
theorem dX8_enter_85 : decode cX8_enter 85 = .ok (.ifCond .eq 23, 3) := by decide +kernel
theorem dX8_enter_88 : decode cX8_enter 88 = .ok (.aload_n 0, 1) := by decide +kernel
theorem dX8_enter_89 : decode cX8_enter 89 = .ok (.getfield 44, 3) := by decide +kernel
theorem dX8_enter_92 : decode cX8_enter 92 = .ok (.iload 4, 2) := by decide +kernel
theorem dX8_enter_94 : decode cX8_enter 94 = .ok (.baload, 1) := by decide +kernel
theorem dX8_enter_95 : decode cX8_enter 95 = .ok (.ifCond .ne 13, 3) := by decide +kernel
theorem dX8_enter_98 : decode cX8_enter 98 = .ok (.aload_n 0, 1) := by decide +kernel
theorem dX8_enter_99 : decode cX8_enter 99 = .ok (.iload_n 3, 1) := by decide +kernel
theorem dX8_enter_100 : decode cX8_enter 100 = .ok (.iload 6, 2) := by decide +kernel
theorem dX8_enter_102 : decode cX8_enter 102 = .ok (.invokevirtual 122, 3) := by decide +kernel
theorem dX8_enter_105 : decode cX8_enter 105 = .ok (.goto 4, 3) := by decide +kernel
theorem dX8_enter_108 : decode cX8_enter 108 = .ok (.iconst 0, 1) := by decide +kernel
theorem dX8_enter_109 : decode cX8_enter 109 = .ok (.iastore, 1) := by decide +kernel
theorem dX8_enter_110 : decode cX8_enter 110 = .ok (.iinc 4 1, 3) := by decide +kernel
theorem dX8_enter_113 : decode cX8_enter 113 = .ok (.goto (-110), 3) := by decide +kernel
theorem dX8_enter_116 : decode cX8_enter 116 = .ok (.aload_n 0, 1) := by decide +kernel
theorem dX8_enter_117 : decode cX8_enter 117 = .ok (.iload_n 1, 1) := by decide +kernel
theorem dX8_enter_118 : decode cX8_enter 118 = .ok (.iconst 0, 1) := by decide +kernel
theorem dX8_enter_119 : decode cX8_enter 119 = .ok (.invokevirtual 126, 3) := by decide +kernel
theorem dX8_enter_122 : decode cX8_enter 122 = .ok (.return_, 1) := by decide +kernel
theorem dX8_callAll_0 : decode cX8_callAll 0 = .ok (.aload_n 0, 1) := by decide +kernel
theorem dX8_callAll_1 : decode cX8_callAll 1 = .ok (.getfield 22, 3) := by decide +kernel
theorem dX8_callAll_4 : decode cX8_callAll 4 = .ok (.iload_n 1, 1) := by decide +kernel
theorem dX8_callAll_5 : decode cX8_callAll 5 = .ok (.iaload, 1) := by decide +kernel
theorem dX8_callAll_6 : decode cX8_callAll 6 = .ok (.bipush 10, 2) := by decide +kernel
theorem dX8_callAll_8 : decode cX8_callAll 8 = .ok (.if_icmp .ne 20, 3) := by decide +kernel
theorem dX8_callAll_11 : decode cX8_callAll 11 = .ok (.aload_n 0, 1) := by decide +kernel
theorem dX8_callAll_12 : decode cX8_callAll 12 = .ok (.aload_n 0, 1) := by decide +kernel
theorem dX8_callAll_13 : decode cX8_callAll 13 = .ok (.getfield 22, 3) := by decide +kernel
theorem dX8_callAll_16 : decode cX8_callAll 16 = .ok (.iload_n 1, 1) := by decide +kernel
theorem dX8_callAll_17 : decode cX8_callAll 17 = .ok (.iconst 2, 1) := by decide +kernel
theorem dX8_callAll_18 : decode cX8_callAll 18 = .ok (.iadd, 1) := by decide +kernel
theorem dX8_callAll_19 : decode cX8_callAll 19 = .ok (.iaload, 1) := by decide +kernel
theorem dX8_callAll_20 : decode cX8_callAll 20 = .ok (.iload_n 1, 1) := by decide +kernel
theorem dX8_callAll_21 : decode cX8_callAll 21 = .ok (.iload_n 2, 1) := by decide +kernel
theorem dX8_callAll_22 : decode cX8_callAll 22 = .ok (.invokevirtual 130, 3) := by decide +kernel
theorem dX8_callAll_25 : decode cX8_callAll 25 = .ok (.goto 80, 3) := by decide +kernel
theorem dX8_callAll_28 : decode cX8_callAll 28 = .ok (.aload_n 0, 1) := by decide +kernel
theorem dX8_callAll_29 : decode cX8_callAll 29 = .ok (.getfield 106, 3) := by decide +kernel
theorem dX8_callAll_32 : decode cX8_callAll 32 = .ok (.ifCond .le 45, 3) := by decide +kernel
theorem dX8_callAll_35 : decode cX8_callAll 35 = .ok (.aload_n 0, 1) := by decide +kernel
theorem dX8_callAll_36 : decode cX8_callAll 36 = .ok (.iload_n 2, 1) := by decide +kernel
theorem dX8_callAll_37 : decode cX8_callAll 37 = .ok (.aload_n 0, 1) := by decide +kernel
theorem dX8_callAll_38 : decode cX8_callAll 38 = .ok (.getfield 22, 3) := by decide +kernel
theorem dX8_callAll_41 : decode cX8_callAll 41 = .ok (.iload_n 1, 1) := by decide +kernel
theorem dX8_callAll_42 : decode cX8_callAll 42 = .ok (.iconst 2, 1) := by decide +kernel
theorem dX8_callAll_43 : decode cX8_callAll 43 = .ok (.iadd, 1) := by decide +kernel
theorem dX8_callAll_44 : decode cX8_callAll 44 = .ok (.iaload, 1) := by decide +kernel
theorem dX8_callAll_45 : decode cX8_callAll 45 = .ok (.invokevirtual 118, 3) := by decide +kernel
theorem dX8_callAll_48 : decode cX8_callAll 48 = .ok (.ifCond .eq 29, 3) := by decide +kernel
theorem dX8_callAll_51 : decode cX8_callAll 51 = .ok (.aload_n 0, 1) := by decide +kernel
theorem dX8_callAll_52 : decode cX8_callAll 52 = .ok (.aload_n 0, 1) := by decide +kernel
theorem dX8_callAll_53 : decode cX8_callAll 53 = .ok (.aload_n 0, 1) := by decide +kernel
theorem dX8_callAll_54 : decode cX8_callAll 54 = .ok (.iload_n 2, 1) := by decide +kernel
theorem dX8_callAll_55 : decode cX8_callAll 55 = .ok (.aload_n 0, 1) := by decide +kernel
theorem dX8_callAll_56 : decode cX8_callAll 56 = .ok (.getfield 22, 3) := by decide +kernel
theorem dX8_callAll_59 : decode cX8_callAll 59 = .ok (.iload_n 1, 1) := by decide +kernel
theorem dX8_callAll_60 : decode cX8_callAll 60 = .ok (.iconst 2, 1) := by decide +kernel
theorem dX8_callAll_61 : decode cX8_callAll 61 = .ok (.iadd, 1) := by decide +kernel
theorem dX8_callAll_62 : decode cX8_callAll 62 = .ok (.iaload, 1) := by decide +kernel
theorem dX8_callAll_63 : decode cX8_callAll 63 = .ok (.invokevirtual 122, 3) := by decide +kernel
theorem dX8_callAll_66 : decode cX8_callAll 66 = .ok (.invokevirtual 134, 3) := by decide +kernel
theorem dX8_callAll_69 : decode cX8_callAll 69 = .ok (.iload_n 1, 1) := by decide +kernel
theorem dX8_callAll_70 : decode cX8_callAll 70 = .ok (.iload_n 2, 1) := by decide +kernel
theorem dX8_callAll_71 : decode cX8_callAll 71 = .ok (.invokevirtual 130, 3) := by decide +kernel
theorem dX8_callAll_74 : decode cX8_callAll 74 = .ok (.goto 31, 3) := by decide +kernel
theorem dX8_callAll_77 : decode cX8_callAll 77 = .ok (.iconst 0, 1) := by decide +kernel
theorem dX8_callAll_78 : decode cX8_callAll 78 = .ok (.istore_n 3, 1) := by decide +kernel
theorem dX8_callAll_79 : decode cX8_callAll 79 = .ok (.iload_n 3, 1) := by decide +kernel
theorem dX8_callAll_80 : decode cX8_callAll 80 = .ok (.aload_n 0, 1) := by decide +kernel
theorem dX8_callAll_81 : decode cX8_callAll 81 = .ok (.getfield 106, 3) := by decide +kernel
theorem dX8_callAll_84 : decode cX8_callAll 84 = .ok (.if_icmp .ge 21, 3) := by decide +kernel
theorem dX8_callAll_87 : decode cX8_callAll 87 = .ok (.aload_n 0, 1) := by decide +kernel
theorem dX8_callAll_88 : decode cX8_callAll 88 = .ok (.aload_n 0, 1) := by decide +kernel
theorem dX8_callAll_89 : decode cX8_callAll 89 = .ok (.getfield 28, 3) := by decide +kernel
theorem dX8_callAll_92 : decode cX8_callAll 92 = .ok (.iload_n 3, 1) := by decide +kernel
theorem dX8_callAll_93 : decode cX8_callAll 93 = .ok (.iaload, 1) := by decide +kernel
theorem dX8_callAll_94 : decode cX8_callAll 94 = .ok (.iload_n 1, 1) := by decide +kernel
theorem dX8_callAll_95 : decode cX8_callAll 95 = .ok (.iload_n 2, 1) := by decide +kernel
theorem dX8_callAll_96 : decode cX8_callAll 96 = .ok (.invokevirtual 130, 3) := by decide +kernel
theorem dX8_callAll_99 : decode cX8_callAll 99 = .ok (.iinc 3 1, 3) := by decide +kernel
theorem dX8_callAll_102 : decode cX8_callAll 102 = .ok (.goto (-23), 3) := by decide +kernel
theorem dX8_callAll_105 : decode cX8_callAll 105 = .ok (.return_, 1) := by decide +kernel
theorem dX8_change_0 : decode cX8_change 0 = .ok (.iconst 0, 1) := by decide +kernel
theorem dX8_change_1 : decode cX8_change 1 = .ok (.istore_n 3, 1) := by decide +kernel
theorem dX8_change_2 : decode cX8_change 2 = .ok (.iload_n 3, 1) := by decide +kernel
theorem dX8_change_3 : decode cX8_change 3 = .ok (.bipush 6, 2) := by decide +kernel
theorem dX8_change_5 : decode cX8_change 5 = .ok (.if_icmp .ge 43, 3) := by decide +kernel
theorem dX8_change_8 : decode cX8_change 8 = .ok (.aload_n 0, 1) := by decide +kernel
theorem dX8_change_9 : decode cX8_change 9 = .ok (.getfield 44, 3) := by decide +kernel
theorem dX8_change_12 : decode cX8_change 12 = .ok (.iload_n 3, 1) := by decide +kernel
theorem dX8_change_13 : decode cX8_change 13 = .ok (.aload_n 0, 1) := by decide +kernel
theorem dX8_change_14 : decode cX8_change 14 = .ok (.getfield 38, 3) := by decide +kernel
theorem dX8_change_17 : decode cX8_change 17 = .ok (.bipush 6, 2) := by decide +kernel
theorem dX8_change_19 : decode cX8_change 19 = .ok (.iload_n 2, 1) := by decide +kernel
theorem dX8_change_20 : decode cX8_change 20 = .ok (.imul, 1) := by decide +kernel
theorem dX8_change_21 : decode cX8_change 21 = .ok (.iload_n 3, 1) := by decide +kernel
theorem dX8_change_22 : decode cX8_change 22 = .ok (.iadd, 1) := by decide +kernel
theorem dX8_change_23 : decode cX8_change 23 = .ok (.baload, 1) := by decide +kernel
theorem dX8_change_24 : decode cX8_change 24 = .ok (.bastore, 1) := by decide +kernel
theorem dX8_change_25 : decode cX8_change 25 = .ok (.aload_n 0, 1) := by decide +kernel
theorem dX8_change_26 : decode cX8_change 26 = .ok (.getfield 47, 3) := by decide +kernel
theorem dX8_change_29 : decode cX8_change 29 = .ok (.iload_n 3, 1) := by decide +kernel
theorem dX8_change_30 : decode cX8_change 30 = .ok (.aload_n 0, 1) := by decide +kernel
theorem dX8_change_31 : decode cX8_change 31 = .ok (.getfield 41, 3) := by decide +kernel
theorem dX8_change_34 : decode cX8_change 34 = .ok (.bipush 6, 2) := by decide +kernel
theorem dX8_change_36 : decode cX8_change 36 = .ok (.iload_n 2, 1) := by decide +kernel
theorem dX8_change_37 : decode cX8_change 37 = .ok (.imul, 1) := by decide +kernel
theorem dX8_change_38 : decode cX8_change 38 = .ok (.iload_n 3, 1) := by decide +kernel
theorem dX8_change_39 : decode cX8_change 39 = .ok (.iadd, 1) := by decide +kernel
theorem dX8_change_40 : decode cX8_change 40 = .ok (.iaload, 1) := by decide +kernel
theorem dX8_change_41 : decode cX8_change 41 = .ok (.iastore, 1) := by decide +kernel
theorem dX8_change_42 : decode cX8_change 42 = .ok (.iinc 3 1, 3) := by decide +kernel
theorem dX8_change_45 : decode cX8_change 45 = .ok (.goto (-43), 3) := by decide +kernel
theorem dX8_change_48 : decode cX8_change 48 = .ok (.aload_n 0, 1) := by decide +kernel
theorem dX8_change_49 : decode cX8_change 49 = .ok (.getfield 22, 3) := by decide +kernel
theorem dX8_change_52 : decode cX8_change 52 = .ok (.iload_n 1, 1) := by decide +kernel
theorem dX8_change_53 : decode cX8_change 53 = .ok (.iaload, 1) := by decide +kernel
theorem dX8_change_54 : decode cX8_change 54 = .ok (.istore_n 3, 1) := by decide +kernel
theorem dX8_change_55 : decode cX8_change 55 = .ok (.aload_n 0, 1) := by decide +kernel
theorem dX8_change_56 : decode cX8_change 56 = .ok (.getfield 22, 3) := by decide +kernel
theorem dX8_change_59 : decode cX8_change 59 = .ok (.iload_n 1, 1) := by decide +kernel
theorem dX8_change_60 : decode cX8_change 60 = .ok (.iconst 1, 1) := by decide +kernel
theorem dX8_change_61 : decode cX8_change 61 = .ok (.iadd, 1) := by decide +kernel
theorem dX8_change_62 : decode cX8_change 62 = .ok (.iaload, 1) := by decide +kernel
theorem dX8_change_63 : decode cX8_change 63 = .ok (.istore 4, 2) := by decide +kernel
theorem dX8_change_65 : decode cX8_change 65 = .ok (.iload_n 3, 1) := by decide +kernel
theorem dX8_change_66 : decode cX8_change 66 = .ok (.iconst 4, 1) := by decide +kernel
theorem dX8_change_67 : decode cX8_change 67 = .ok (.if_icmp .gt 152, 3) := by decide +kernel
theorem dX8_change_70 : decode cX8_change 70 = .ok (.aload_n 0, 1) := by decide +kernel
theorem dX8_change_71 : decode cX8_change 71 = .ok (.iload_n 2, 1) := by decide +kernel
theorem dX8_change_72 : decode cX8_change 72 = .ok (.aload_n 0, 1) := by decide +kernel
theorem dX8_change_73 : decode cX8_change 73 = .ok (.getfield 22, 3) := by decide +kernel
theorem dX8_change_76 : decode cX8_change 76 = .ok (.iload_n 1, 1) := by decide +kernel
theorem dX8_change_77 : decode cX8_change 77 = .ok (.iconst 3, 1) := by decide +kernel
theorem dX8_change_78 : decode cX8_change 78 = .ok (.iadd, 1) := by decide +kernel
theorem dX8_change_79 : decode cX8_change 79 = .ok (.iaload, 1) := by decide +kernel
theorem dX8_change_80 : decode cX8_change 80 = .ok (.invokevirtual 118, 3) := by decide +kernel
theorem dX8_change_83 : decode cX8_change 83 = .ok (.ifCond .eq 27, 3) := by decide +kernel
theorem dX8_change_86 : decode cX8_change 86 = .ok (.iload_n 3, 1) := by decide +kernel
theorem dX8_change_87 : decode cX8_change 87 = .ok (.ifCond .eq 19, 3) := by decide +kernel
theorem dX8_change_90 : decode cX8_change 90 = .ok (.aload_n 0, 1) := by decide +kernel
theorem dX8_change_91 : decode cX8_change 91 = .ok (.iload_n 2, 1) := by decide +kernel
theorem dX8_change_92 : decode cX8_change 92 = .ok (.aload_n 0, 1) := by decide +kernel
theorem dX8_change_93 : decode cX8_change 93 = .ok (.getfield 22, 3) := by decide +kernel
theorem dX8_change_96 : decode cX8_change 96 = .ok (.iload_n 1, 1) := by decide +kernel
theorem dX8_change_97 : decode cX8_change 97 = .ok (.iconst 4, 1) := by decide +kernel
theorem dX8_change_98 : decode cX8_change 98 = .ok (.iadd, 1) := by decide +kernel
theorem dX8_change_99 : decode cX8_change 99 = .ok (.iaload, 1) := by decide +kernel
theorem dX8_change_100 : decode cX8_change 100 = .ok (.invokevirtual 118, 3) := by decide +kernel
theorem dX8_change_103 : decode cX8_change 103 = .ok (.ifCond .eq 7, 3) := by decide +kernel
theorem dX8_change_106 : decode cX8_change 106 = .ok (.iconst 1, 1) := by decide +kernel
theorem dX8_change_107 : decode cX8_change 107 = .ok (.goto 4, 3) := by decide +kernel
theorem dX8_change_110 : decode cX8_change 110 = .ok (.iconst 0, 1) := by decide +kernel
theorem dX8_change_111 : decode cX8_change 111 = .ok (.istore 5, 2) := by decide +kernel
theorem dX8_change_113 : decode cX8_change 113 = .ok (.iload 5, 2) := by decide +kernel
theorem dX8_change_115 : decode cX8_change 115 = .ok (.ifCond .eq 44, 3) := by decide +kernel
theorem dX8_change_118 : decode cX8_change 118 = .ok (.iload_n 3, 1) := by decide +kernel
theorem dX8_change_119 : decode cX8_change 119 = .ok (.aload_n 0, 1) := by decide +kernel
theorem dX8_change_120 : decode cX8_change 120 = .ok (.iload_n 2, 1) := by decide +kernel
theorem dX8_change_121 : decode cX8_change 121 = .ok (.aload_n 0, 1) := by decide +kernel
theorem dX8_change_122 : decode cX8_change 122 = .ok (.getfield 22, 3) := by decide +kernel
theorem dX8_change_125 : decode cX8_change 125 = .ok (.iload_n 1, 1) := by decide +kernel
theorem dX8_change_126 : decode cX8_change 126 = .ok (.iconst 3, 1) := by decide +kernel
theorem dX8_change_127 : decode cX8_change 127 = .ok (.iadd, 1) := by decide +kernel
theorem dX8_change_128 : decode cX8_change 128 = .ok (.iaload, 1) := by decide +kernel
theorem dX8_change_129 : decode cX8_change 129 = .ok (.invokevirtual 122, 3) := by decide +kernel
theorem dX8_change_132 : decode cX8_change 132 = .ok (.iload_n 3, 1) := by decide +kernel
theorem dX8_change_133 : decode cX8_change 133 = .ok (.ifCond .ne 7, 3) := by decide +kernel
theorem dX8_change_136 : decode cX8_change 136 = .ok (.iconst 0, 1) := by decide +kernel
theorem dX8_change_137 : decode cX8_change 137 = .ok (.goto 16, 3) := by decide +kernel
theorem dX8_change_140 : decode cX8_change 140 = .ok (.aload_n 0, 1) := by decide +kernel
theorem dX8_change_141 : decode cX8_change 141 = .ok (.iload_n 2, 1) := by decide +kernel
theorem dX8_change_142 : decode cX8_change 142 = .ok (.aload_n 0, 1) := by decide +kernel
theorem dX8_change_143 : decode cX8_change 143 = .ok (.getfield 22, 3) := by decide +kernel
theorem dX8_change_146 : decode cX8_change 146 = .ok (.iload_n 1, 1) := by decide +kernel
theorem dX8_change_147 : decode cX8_change 147 = .ok (.iconst 4, 1) := by decide +kernel
theorem dX8_change_148 : decode cX8_change 148 = .ok (.iadd, 1) := by decide +kernel
theorem dX8_change_149 : decode cX8_change 149 = .ok (.iaload, 1) := by decide +kernel
theorem dX8_change_150 : decode cX8_change 150 = .ok (.invokevirtual 122, 3) := by decide +kernel
theorem dX8_change_153 : decode cX8_change 153 = .ok (.invokestatic 137, 3) := by decide +kernel
theorem dX8_change_156 : decode cX8_change 156 = .ok (.goto 4, 3) := by decide +kernel
theorem dX8_change_159 : decode cX8_change 159 = .ok (.iconst 0, 1) := by decide +kernel
theorem dX8_change_160 : decode cX8_change 160 = .ok (.istore 6, 2) := by decide +kernel
theorem dX8_change_162 : decode cX8_change 162 = .ok (.aload_n 0, 1) := by decide +kernel
theorem dX8_change_163 : decode cX8_change 163 = .ok (.getfield 44, 3) := by decide +kernel
theorem dX8_change_166 : decode cX8_change 166 = .ok (.iload 4, 2) := by decide +kernel
theorem dX8_change_168 : decode cX8_change 168 = .ok (.iload 5, 2) := by decide +kernel
theorem dX8_change_170 : decode cX8_change 170 = .ok (.ifCond .eq 17, 3) := by decide +kernel
theorem dX8_change_173 : decode cX8_change 173 = .ok (.iload 6, 2) := by decide +kernel
theorem dX8_change_175 : decode cX8_change 175 = .ok (.ldc 141, 2) := by decide +kernel
theorem dX8_change_177 : decode cX8_change 177 = .ok (.if_icmp .lt 10, 3) := by decide +kernel
theorem dX8_change_180 : decode cX8_change 180 = .ok (.iload 6, 2) := by decide +kernel
theorem dX8_change_182 : decode cX8_change 182 = .ok (.ldc 142, 2) := by decide +kernel
theorem dX8_change_184 : decode cX8_change 184 = .ok (.if_icmp .le 7, 3) := by decide +kernel
theorem dX8_change_187 : decode cX8_change 187 = .ok (.iconst 1, 1) := by decide +kernel
theorem dX8_change_188 : decode cX8_change 188 = .ok (.goto 4, 3) := by decide +kernel
theorem dX8_change_191 : decode cX8_change 191 = .ok (.iconst 0, 1) := by decide +kernel
theorem dX8_change_192 : decode cX8_change 192 = .ok (.bastore, 1) := by decide +kernel
theorem dX8_change_193 : decode cX8_change 193 = .ok (.aload_n 0, 1) := by decide +kernel
theorem dX8_change_194 : decode cX8_change 194 = .ok (.getfield 47, 3) := by decide +kernel
theorem dX8_change_197 : decode cX8_change 197 = .ok (.iload 4, 2) := by decide +kernel
theorem dX8_change_199 : decode cX8_change 199 = .ok (.aload_n 0, 1) := by decide +kernel
theorem dX8_change_200 : decode cX8_change 200 = .ok (.getfield 44, 3) := by decide +kernel
theorem dX8_change_203 : decode cX8_change 203 = .ok (.iload 4, 2) := by decide +kernel
theorem dX8_change_205 : decode cX8_change 205 = .ok (.baload, 1) := by decide +kernel
theorem dX8_change_206 : decode cX8_change 206 = .ok (.ifCond .eq 7, 3) := by decide +kernel
theorem dX8_change_209 : decode cX8_change 209 = .ok (.iconst 0, 1) := by decide +kernel
theorem dX8_change_210 : decode cX8_change 210 = .ok (.goto 5, 3) := by decide +kernel
theorem dX8_change_213 : decode cX8_change 213 = .ok (.iload 6, 2) := by decide +kernel
theorem dX8_change_215 : decode cX8_change 215 = .ok (.iastore, 1) := by decide +kernel
theorem dX8_change_216 : decode cX8_change 216 = .ok (.goto 53, 3) := by decide +kernel
theorem dX8_change_219 : decode cX8_change 219 = .ok (.iload_n 3, 1) := by decide +kernel
theorem dX8_change_220 : decode cX8_change 220 = .ok (.iconst 5, 1) := by decide +kernel
theorem dX8_change_221 : decode cX8_change 221 = .ok (.if_icmp .eq 15, 3) := by decide +kernel
theorem dX8_change_224 : decode cX8_change 224 = .ok (.iload_n 3, 1) := by decide +kernel
theorem dX8_change_225 : decode cX8_change 225 = .ok (.bipush 10, 2) := by decide +kernel
theorem dX8_change_227 : decode cX8_change 227 = .ok (.if_icmp .eq 9, 3) := by decide +kernel
theorem dX8_change_230 : decode cX8_change 230 = .ok (.iload_n 3, 1) := by decide +kernel
theorem dX8_change_231 : decode cX8_change 231 = .ok (.bipush 11, 2) := by decide +kernel
theorem dX8_change_233 : decode cX8_change 233 = .ok (.if_icmp .ne 36, 3) := by decide +kernel
theorem dX8_change_236 : decode cX8_change 236 = .ok (.aload_n 0, 1) := by decide +kernel
theorem dX8_change_237 : decode cX8_change 237 = .ok (.getfield 44, 3) := by decide +kernel
theorem dX8_change_240 : decode cX8_change 240 = .ok (.iload 4, 2) := by decide +kernel
theorem dX8_change_242 : decode cX8_change 242 = .ok (.iload_n 3, 1) := by decide +kernel
theorem dX8_change_243 : decode cX8_change 243 = .ok (.bipush 11, 2) := by decide +kernel
theorem dX8_change_245 : decode cX8_change 245 = .ok (.if_icmp .ne 10, 3) := by decide +kernel
theorem dX8_change_248 : decode cX8_change 248 = .ok (.aload_n 0, 1) := by decide +kernel
theorem dX8_change_249 : decode cX8_change 249 = .ok (.getfield 106, 3) := by decide +kernel
theorem dX8_change_252 : decode cX8_change 252 = .ok (.ifCond .le 7, 3) := by decide +kernel
theorem dX8_change_255 : decode cX8_change 255 = .ok (.iconst 1, 1) := by decide +kernel
theorem dX8_change_256 : decode cX8_change 256 = .ok (.goto 4, 3) := by decide +kernel
theorem dX8_change_259 : decode cX8_change 259 = .ok (.iconst 0, 1) := by decide +kernel
theorem dX8_change_260 : decode cX8_change 260 = .ok (.bastore, 1) := by decide +kernel
theorem dX8_change_261 : decode cX8_change 261 = .ok (.aload_n 0, 1) := by decide +kernel
theorem dX8_change_262 : decode cX8_change 262 = .ok (.getfield 47, 3) := by decide +kernel
theorem dX8_change_265 : decode cX8_change 265 = .ok (.iload 4, 2) := by decide +kernel
theorem dX8_change_267 : decode cX8_change 267 = .ok (.iconst 0, 1) := by decide +kernel
theorem dX8_change_268 : decode cX8_change 268 = .ok (.iastore, 1) := by decide +kernel
theorem dX8_change_269 : decode cX8_change 269 = .ok (.return_, 1) := by decide +kernel
theorem dX8_spread_0 : decode cX8_spread 0 = .ok (.bipush 17, 2) := by decide +kernel
theorem dX8_spread_2 : decode cX8_spread 2 = .ok (.iload_n 1, 1) := by decide +kernel
theorem dX8_spread_3 : decode cX8_spread 3 = .ok (.imul, 1) := by decide +kernel
theorem dX8_spread_4 : decode cX8_spread 4 = .ok (.iload_n 2, 1) := by decide +kernel
theorem dX8_spread_5 : decode cX8_spread 5 = .ok (.iadd, 1) := by decide +kernel
theorem dX8_spread_6 : decode cX8_spread 6 = .ok (.istore_n 3, 1) := by decide +kernel
theorem dX8_spread_7 : decode cX8_spread 7 = .ok (.bipush 96, 2) := by decide +kernel
theorem dX8_spread_9 : decode cX8_spread 9 = .ok (.iload_n 1, 1) := by decide +kernel
theorem dX8_spread_10 : decode cX8_spread 10 = .ok (.imul, 1) := by decide +kernel
theorem dX8_spread_11 : decode cX8_spread 11 = .ok (.bipush 6, 2) := by decide +kernel
theorem dX8_spread_13 : decode cX8_spread 13 = .ok (.iload_n 2, 1) := by decide +kernel
theorem dX8_spread_14 : decode cX8_spread 14 = .ok (.imul, 1) := by decide +kernel
theorem dX8_spread_15 : decode cX8_spread 15 = .ok (.iadd, 1) := by decide +kernel
theorem dX8_spread_16 : decode cX8_spread 16 = .ok (.istore 4, 2) := by decide +kernel
theorem dX8_spread_18 : decode cX8_spread 18 = .ok (.aload_n 0, 1) := by decide +kernel
theorem dX8_spread_19 : decode cX8_spread 19 = .ok (.getfield 22, 3) := by decide +kernel
theorem dX8_spread_22 : decode cX8_spread 22 = .ok (.iload 4, 2) := by decide +kernel
theorem dX8_spread_24 : decode cX8_spread 24 = .ok (.iaload, 1) := by decide +kernel
theorem dX8_spread_25 : decode cX8_spread 25 = .ok (.istore 5, 2) := by decide +kernel
theorem dX8_spread_27 : decode cX8_spread 27 = .ok (.iload 5, 2) := by decide +kernel
theorem dX8_spread_29 : decode cX8_spread 29 = .ok (.bipush 10, 2) := by decide +kernel
theorem dX8_spread_31 : decode cX8_spread 31 = .ok (.if_icmp .eq 10, 3) := by decide +kernel
theorem dX8_spread_34 : decode cX8_spread 34 = .ok (.iload 5, 2) := by decide +kernel
theorem dX8_spread_36 : decode cX8_spread 36 = .ok (.bipush 11, 2) := by decide +kernel
theorem dX8_spread_38 : decode cX8_spread 38 = .ok (.if_icmp .ne 10, 3) := by decide +kernel
theorem dX8_spread_41 : decode cX8_spread 41 = .ok (.aload_n 0, 1) := by decide +kernel
theorem dX8_spread_42 : decode cX8_spread 42 = .ok (.iload 4, 2) := by decide +kernel
theorem dX8_spread_44 : decode cX8_spread 44 = .ok (.iload_n 3, 1) := by decide +kernel
theorem dX8_spread_45 : decode cX8_spread 45 = .ok (.invokevirtual 143, 3) := by decide +kernel
theorem dX8_spread_48 : decode cX8_spread 48 = .ok (.aload_n 0, 1) := by decide +kernel
theorem dX8_spread_49 : decode cX8_spread 49 = .ok (.iload 4, 2) := by decide +kernel
theorem dX8_spread_51 : decode cX8_spread 51 = .ok (.iload_n 3, 1) := by decide +kernel
theorem dX8_spread_52 : decode cX8_spread 52 = .ok (.invokevirtual 146, 3) := by decide +kernel
theorem dX8_spread_55 : decode cX8_spread 55 = .ok (.iload 5, 2) := by decide +kernel
theorem dX8_spread_57 : decode cX8_spread 57 = .ok (.bipush 8, 2) := by decide +kernel
theorem dX8_spread_59 : decode cX8_spread 59 = .ok (.if_icmp .ne 7, 3) := by decide +kernel
theorem dX8_spread_62 : decode cX8_spread 62 = .ok (.iconst 1, 1) := by decide +kernel
theorem dX8_spread_63 : decode cX8_spread 63 = .ok (.goto 4, 3) := by decide +kernel
theorem dX8_spread_66 : decode cX8_spread 66 = .ok (.iconst 0, 1) := by decide +kernel
theorem dX8_spread_67 : decode cX8_spread 67 = .ok (.istore 6, 2) := by decide +kernel
theorem dX8_spread_69 : decode cX8_spread 69 = .ok (.iload 5, 2) := by decide +kernel
theorem dX8_spread_71 : decode cX8_spread 71 = .ok (.bipush 8, 2) := by decide +kernel
theorem dX8_spread_73 : decode cX8_spread 73 = .ok (.if_icmp .eq 14, 3) := by decide +kernel
theorem dX8_spread_76 : decode cX8_spread 76 = .ok (.iload 5, 2) := by decide +kernel
theorem dX8_spread_78 : decode cX8_spread 78 = .ok (.bipush 9, 2) := by decide +kernel
theorem dX8_spread_80 : decode cX8_spread 80 = .ok (.if_icmp .eq 7, 3) := by decide +kernel
theorem dX8_spread_83 : decode cX8_spread 83 = .ok (.iconst 1, 1) := by decide +kernel
theorem dX8_spread_84 : decode cX8_spread 84 = .ok (.goto 4, 3) := by decide +kernel
theorem dX8_spread_87 : decode cX8_spread 87 = .ok (.iconst 0, 1) := by decide +kernel
theorem dX8_spread_88 : decode cX8_spread 88 = .ok (.istore 7, 2) := by decide +kernel
theorem dX8_spread_90 : decode cX8_spread 90 = .ok (.iload 5, 2) := by decide +kernel
theorem dX8_spread_92 : decode cX8_spread 92 = .ok (.bipush 7, 2) := by decide +kernel
theorem dX8_spread_94 : decode cX8_spread 94 = .ok (.if_icmp .ne 77, 3) := by decide +kernel
theorem dX8_spread_97 : decode cX8_spread 97 = .ok (.aload_n 0, 1) := by decide +kernel
theorem dX8_spread_98 : decode cX8_spread 98 = .ok (.iload_n 3, 1) := by decide +kernel
theorem dX8_spread_99 : decode cX8_spread 99 = .ok (.aload_n 0, 1) := by decide +kernel
theorem dX8_spread_100 : decode cX8_spread 100 = .ok (.getfield 22, 3) := by decide +kernel
theorem dX8_spread_103 : decode cX8_spread 103 = .ok (.iload 4, 2) := by decide +kernel
theorem dX8_spread_105 : decode cX8_spread 105 = .ok (.iconst 3, 1) := by decide +kernel
theorem dX8_spread_106 : decode cX8_spread 106 = .ok (.iadd, 1) := by decide +kernel
theorem dX8_spread_107 : decode cX8_spread 107 = .ok (.iaload, 1) := by decide +kernel
theorem dX8_spread_108 : decode cX8_spread 108 = .ok (.invokevirtual 118, 3) := by decide +kernel
theorem dX8_spread_111 : decode cX8_spread 111 = .ok (.istore 8, 2) := by decide +kernel
theorem dX8_spread_113 : decode cX8_spread 113 = .ok (.iload 8, 2) := by decide +kernel
theorem dX8_spread_115 : decode cX8_spread 115 = .ok (.ifCond .eq 24, 3) := by decide +kernel
theorem dX8_spread_118 : decode cX8_spread 118 = .ok (.aload_n 0, 1) := by decide +kernel
theorem dX8_spread_119 : decode cX8_spread 119 = .ok (.iload_n 3, 1) := by decide +kernel
theorem dX8_spread_120 : decode cX8_spread 120 = .ok (.aload_n 0, 1) := by decide +kernel
theorem dX8_spread_121 : decode cX8_spread 121 = .ok (.getfield 22, 3) := by decide +kernel
theorem dX8_spread_124 : decode cX8_spread 124 = .ok (.iload 4, 2) := by decide +kernel
theorem dX8_spread_126 : decode cX8_spread 126 = .ok (.iconst 3, 1) := by decide +kernel
theorem dX8_spread_127 : decode cX8_spread 127 = .ok (.iadd, 1) := by decide +kernel
theorem dX8_spread_128 : decode cX8_spread 128 = .ok (.iaload, 1) := by decide +kernel
theorem dX8_spread_129 : decode cX8_spread 129 = .ok (.invokevirtual 122, 3) := by decide +kernel
theorem dX8_spread_132 : decode cX8_spread 132 = .ok (.ifCond .eq 7, 3) := by decide +kernel
theorem dX8_spread_135 : decode cX8_spread 135 = .ok (.iconst 1, 1) := by decide +kernel
theorem dX8_spread_136 : decode cX8_spread 136 = .ok (.goto 4, 3) := by decide +kernel
theorem dX8_spread_139 : decode cX8_spread 139 = .ok (.iconst 0, 1) := by decide +kernel
theorem dX8_spread_140 : decode cX8_spread 140 = .ok (.istore 9, 2) := by decide +kernel
theorem dX8_spread_142 : decode cX8_spread 142 = .ok (.iload 8, 2) := by decide +kernel
theorem dX8_spread_144 : decode cX8_spread 144 = .ok (.ifCond .eq 8, 3) := by decide +kernel
theorem dX8_spread_147 : decode cX8_spread 147 = .ok (.iload 9, 2) := by decide +kernel
theorem dX8_spread_149 : decode cX8_spread 149 = .ok (.ifCond .eq 7, 3) := by decide +kernel
theorem dX8_spread_152 : decode cX8_spread 152 = .ok (.iconst 1, 1) := by decide +kernel
theorem dX8_spread_153 : decode cX8_spread 153 = .ok (.goto 4, 3) := by decide +kernel
theorem dX8_spread_156 : decode cX8_spread 156 = .ok (.iconst 0, 1) := by decide +kernel
theorem dX8_spread_157 : decode cX8_spread 157 = .ok (.istore 6, 2) := by decide +kernel
theorem dX8_spread_159 : decode cX8_spread 159 = .ok (.iload 9, 2) := by decide +kernel
theorem dX8_spread_161 : decode cX8_spread 161 = .ok (.ifCond .ne 7, 3) := by decide +kernel
theorem dX8_spread_164 : decode cX8_spread 164 = .ok (.iconst 1, 1) := by decide +kernel
theorem dX8_spread_165 : decode cX8_spread 165 = .ok (.goto 4, 3) := by decide +kernel
theorem dX8_spread_168 : decode cX8_spread 168 = .ok (.iconst 0, 1) := by decide +kernel
theorem dX8_spread_169 : decode cX8_spread 169 = .ok (.istore 7, 2) := by decide +kernel
theorem dX8_spread_171 : decode cX8_spread 171 = .ok (.iload 6, 2) := by decide +kernel
theorem dX8_spread_173 : decode cX8_spread 173 = .ok (.ifCond .eq 17, 3) := by decide +kernel
theorem dX8_spread_176 : decode cX8_spread 176 = .ok (.aload_n 0, 1) := by decide +kernel
theorem dX8_spread_177 : decode cX8_spread 177 = .ok (.iload_n 1, 1) := by decide +kernel
theorem dX8_spread_178 : decode cX8_spread 178 = .ok (.aload_n 0, 1) := by decide +kernel
theorem dX8_spread_179 : decode cX8_spread 179 = .ok (.getfield 22, 3) := by decide +kernel
theorem dX8_spread_182 : decode cX8_spread 182 = .ok (.iload 4, 2) := by decide +kernel
theorem dX8_spread_184 : decode cX8_spread 184 = .ok (.iconst 2, 1) := by decide +kernel
theorem dX8_spread_185 : decode cX8_spread 185 = .ok (.iadd, 1) := by decide +kernel
theorem dX8_spread_186 : decode cX8_spread 186 = .ok (.iaload, 1) := by decide +kernel
theorem dX8_spread_187 : decode cX8_spread 187 = .ok (.invokevirtual 126, 3) := by decide +kernel
theorem dX8_spread_190 : decode cX8_spread 190 = .ok (.iload 7, 2) := by decide +kernel
theorem dX8_spread_192 : decode cX8_spread 192 = .ok (.ifCond .eq 11, 3) := by decide +kernel
theorem dX8_spread_195 : decode cX8_spread 195 = .ok (.aload_n 0, 1) := by decide +kernel
theorem dX8_spread_196 : decode cX8_spread 196 = .ok (.iload_n 1, 1) := by decide +kernel
theorem dX8_spread_197 : decode cX8_spread 197 = .ok (.iload_n 2, 1) := by decide +kernel
theorem dX8_spread_198 : decode cX8_spread 198 = .ok (.iconst 1, 1) := by decide +kernel
theorem dX8_spread_199 : decode cX8_spread 199 = .ok (.iadd, 1) := by decide +kernel
theorem dX8_spread_200 : decode cX8_spread 200 = .ok (.invokevirtual 126, 3) := by decide +kernel
theorem dX8_spread_203 : decode cX8_spread 203 = .ok (.return_, 1) := by decide +kernel
theorem dX8_learn_0 : decode cX8_learn 0 = .ok (.iconst 0, 1) := by decide +kernel
theorem dX8_learn_1 : decode cX8_learn 1 = .ok (.istore_n 1, 1) := by decide +kernel
theorem dX8_learn_2 : decode cX8_learn 2 = .ok (.iload_n 1, 1) := by decide +kernel
theorem dX8_learn_3 : decode cX8_learn 3 = .ok (.bipush 17, 2) := by decide +kernel
theorem dX8_learn_5 : decode cX8_learn 5 = .ok (.aload_n 0, 1) := by decide +kernel
theorem dX8_learn_6 : decode cX8_learn 6 = .ok (.getfield 85, 3) := by decide +kernel
theorem dX8_learn_9 : decode cX8_learn 9 = .ok (.imul, 1) := by decide +kernel
theorem dX8_learn_10 : decode cX8_learn 10 = .ok (.if_icmp .ge 16, 3) := by decide +kernel
theorem dX8_learn_13 : decode cX8_learn 13 = .ok (.aload_n 0, 1) := by decide +kernel
theorem dX8_learn_14 : decode cX8_learn 14 = .ok (.getfield 34, 3) := by decide +kernel
theorem dX8_learn_17 : decode cX8_learn 17 = .ok (.iload_n 1, 1) := by decide +kernel
theorem dX8_learn_18 : decode cX8_learn 18 = .ok (.iconst 0, 1) := by decide +kernel
theorem dX8_learn_19 : decode cX8_learn 19 = .ok (.bastore, 1) := by decide +kernel
theorem dX8_learn_20 : decode cX8_learn 20 = .ok (.iinc 1 1, 3) := by decide +kernel
theorem dX8_learn_23 : decode cX8_learn 23 = .ok (.goto (-21), 3) := by decide +kernel
theorem dX8_learn_26 : decode cX8_learn 26 = .ok (.iconst 0, 1) := by decide +kernel
theorem dX8_learn_27 : decode cX8_learn 27 = .ok (.istore_n 1, 1) := by decide +kernel
theorem dX8_learn_28 : decode cX8_learn 28 = .ok (.iload_n 1, 1) := by decide +kernel
theorem dX8_learn_29 : decode cX8_learn 29 = .ok (.bipush 102, 2) := by decide +kernel
theorem dX8_learn_31 : decode cX8_learn 31 = .ok (.aload_n 0, 1) := by decide +kernel
theorem dX8_learn_32 : decode cX8_learn 32 = .ok (.getfield 85, 3) := by decide +kernel
theorem dX8_learn_35 : decode cX8_learn 35 = .ok (.imul, 1) := by decide +kernel
theorem dX8_learn_36 : decode cX8_learn 36 = .ok (.if_icmp .ge 23, 3) := by decide +kernel
theorem dX8_learn_39 : decode cX8_learn 39 = .ok (.aload_n 0, 1) := by decide +kernel
theorem dX8_learn_40 : decode cX8_learn 40 = .ok (.getfield 38, 3) := by decide +kernel
theorem dX8_learn_43 : decode cX8_learn 43 = .ok (.iload_n 1, 1) := by decide +kernel
theorem dX8_learn_44 : decode cX8_learn 44 = .ok (.iconst 0, 1) := by decide +kernel
theorem dX8_learn_45 : decode cX8_learn 45 = .ok (.bastore, 1) := by decide +kernel
theorem dX8_learn_46 : decode cX8_learn 46 = .ok (.aload_n 0, 1) := by decide +kernel
theorem dX8_learn_47 : decode cX8_learn 47 = .ok (.getfield 41, 3) := by decide +kernel
theorem dX8_learn_50 : decode cX8_learn 50 = .ok (.iload_n 1, 1) := by decide +kernel
theorem dX8_learn_51 : decode cX8_learn 51 = .ok (.iconst 0, 1) := by decide +kernel
theorem dX8_learn_52 : decode cX8_learn 52 = .ok (.iastore, 1) := by decide +kernel
theorem dX8_learn_53 : decode cX8_learn 53 = .ok (.iinc 1 1, 3) := by decide +kernel
theorem dX8_learn_56 : decode cX8_learn 56 = .ok (.goto (-28), 3) := by decide +kernel
theorem dX8_learn_59 : decode cX8_learn 59 = .ok (.iconst 0, 1) := by decide +kernel
theorem dX8_learn_60 : decode cX8_learn 60 = .ok (.istore_n 1, 1) := by decide +kernel
theorem dX8_learn_61 : decode cX8_learn 61 = .ok (.iload_n 1, 1) := by decide +kernel
theorem dX8_learn_62 : decode cX8_learn 62 = .ok (.bipush 6, 2) := by decide +kernel
theorem dX8_learn_64 : decode cX8_learn 64 = .ok (.if_icmp .ge 23, 3) := by decide +kernel
theorem dX8_learn_67 : decode cX8_learn 67 = .ok (.aload_n 0, 1) := by decide +kernel
theorem dX8_learn_68 : decode cX8_learn 68 = .ok (.getfield 44, 3) := by decide +kernel
theorem dX8_learn_71 : decode cX8_learn 71 = .ok (.iload_n 1, 1) := by decide +kernel
theorem dX8_learn_72 : decode cX8_learn 72 = .ok (.iconst 0, 1) := by decide +kernel
theorem dX8_learn_73 : decode cX8_learn 73 = .ok (.bastore, 1) := by decide +kernel
theorem dX8_learn_74 : decode cX8_learn 74 = .ok (.aload_n 0, 1) := by decide +kernel
theorem dX8_learn_75 : decode cX8_learn 75 = .ok (.getfield 47, 3) := by decide +kernel
theorem dX8_learn_78 : decode cX8_learn 78 = .ok (.iload_n 1, 1) := by decide +kernel
theorem dX8_learn_79 : decode cX8_learn 79 = .ok (.iconst 0, 1) := by decide +kernel
theorem dX8_learn_80 : decode cX8_learn 80 = .ok (.iastore, 1) := by decide +kernel
theorem dX8_learn_81 : decode cX8_learn 81 = .ok (.iinc 1 1, 3) := by decide +kernel
theorem dX8_learn_84 : decode cX8_learn 84 = .ok (.goto (-23), 3) := by decide +kernel
theorem dX8_learn_87 : decode cX8_learn 87 = .ok (.aload_n 0, 1) := by decide +kernel
theorem dX8_learn_88 : decode cX8_learn 88 = .ok (.iconst 0, 1) := by decide +kernel
theorem dX8_learn_89 : decode cX8_learn 89 = .ok (.iconst 0, 1) := by decide +kernel
theorem dX8_learn_90 : decode cX8_learn 90 = .ok (.invokevirtual 126, 3) := by decide +kernel
theorem dX8_learn_93 : decode cX8_learn 93 = .ok (.aload_n 0, 1) := by decide +kernel
theorem dX8_learn_94 : decode cX8_learn 94 = .ok (.iconst 1, 1) := by decide +kernel
theorem dX8_learn_95 : decode cX8_learn 95 = .ok (.putfield 115, 3) := by decide +kernel
theorem dX8_learn_98 : decode cX8_learn 98 = .ok (.aload_n 0, 1) := by decide +kernel
theorem dX8_learn_99 : decode cX8_learn 99 = .ok (.getfield 115, 3) := by decide +kernel
theorem dX8_learn_102 : decode cX8_learn 102 = .ok (.ifCond .eq 70, 3) := by decide +kernel
theorem dX8_learn_105 : decode cX8_learn 105 = .ok (.aload_n 0, 1) := by decide +kernel
theorem dX8_learn_106 : decode cX8_learn 106 = .ok (.iconst 0, 1) := by decide +kernel
theorem dX8_learn_107 : decode cX8_learn 107 = .ok (.putfield 115, 3) := by decide +kernel
theorem dX8_learn_110 : decode cX8_learn 110 = .ok (.iconst 0, 1) := by decide +kernel
theorem dX8_learn_111 : decode cX8_learn 111 = .ok (.istore_n 1, 1) := by decide +kernel
theorem dX8_learn_112 : decode cX8_learn 112 = .ok (.iload_n 1, 1) := by decide +kernel
theorem dX8_learn_113 : decode cX8_learn 113 = .ok (.bipush 16, 2) := by decide +kernel
theorem dX8_learn_115 : decode cX8_learn 115 = .ok (.aload_n 0, 1) := by decide +kernel
theorem dX8_learn_116 : decode cX8_learn 116 = .ok (.getfield 85, 3) := by decide +kernel
theorem dX8_learn_119 : decode cX8_learn 119 = .ok (.imul, 1) := by decide +kernel
theorem dX8_learn_120 : decode cX8_learn 120 = .ok (.if_icmp .ge 49, 3) := by decide +kernel
theorem dX8_learn_123 : decode cX8_learn 123 = .ok (.iload_n 1, 1) := by decide +kernel
theorem dX8_learn_124 : decode cX8_learn 124 = .ok (.bipush 16, 2) := by decide +kernel
theorem dX8_learn_126 : decode cX8_learn 126 = .ok (.idiv, 1) := by decide +kernel
theorem dX8_learn_127 : decode cX8_learn 127 = .ok (.istore_n 2, 1) := by decide +kernel
theorem dX8_learn_128 : decode cX8_learn 128 = .ok (.iload_n 1, 1) := by decide +kernel
theorem dX8_learn_129 : decode cX8_learn 129 = .ok (.bipush 16, 2) := by decide +kernel
theorem dX8_learn_131 : decode cX8_learn 131 = .ok (.irem, 1) := by decide +kernel
theorem dX8_learn_132 : decode cX8_learn 132 = .ok (.istore_n 3, 1) := by decide +kernel
theorem dX8_learn_133 : decode cX8_learn 133 = .ok (.iload_n 3, 1) := by decide +kernel
theorem dX8_learn_134 : decode cX8_learn 134 = .ok (.aload_n 0, 1) := by decide +kernel
theorem dX8_learn_135 : decode cX8_learn 135 = .ok (.getfield 13, 3) := by decide +kernel
theorem dX8_learn_138 : decode cX8_learn 138 = .ok (.iload_n 2, 1) := by decide +kernel
theorem dX8_learn_139 : decode cX8_learn 139 = .ok (.iaload, 1) := by decide +kernel
theorem dX8_learn_140 : decode cX8_learn 140 = .ok (.if_icmp .ge 23, 3) := by decide +kernel
theorem dX8_learn_143 : decode cX8_learn 143 = .ok (.aload_n 0, 1) := by decide +kernel
theorem dX8_learn_144 : decode cX8_learn 144 = .ok (.getfield 34, 3) := by decide +kernel
theorem dX8_learn_147 : decode cX8_learn 147 = .ok (.bipush 17, 2) := by decide +kernel
theorem dX8_learn_149 : decode cX8_learn 149 = .ok (.iload_n 2, 1) := by decide +kernel
theorem dX8_learn_150 : decode cX8_learn 150 = .ok (.imul, 1) := by decide +kernel
theorem dX8_learn_151 : decode cX8_learn 151 = .ok (.iload_n 3, 1) := by decide +kernel
theorem dX8_learn_152 : decode cX8_learn 152 = .ok (.iadd, 1) := by decide +kernel
theorem dX8_learn_153 : decode cX8_learn 153 = .ok (.baload, 1) := by decide +kernel
theorem dX8_learn_154 : decode cX8_learn 154 = .ok (.ifCond .eq 9, 3) := by decide +kernel
theorem dX8_learn_157 : decode cX8_learn 157 = .ok (.aload_n 0, 1) := by decide +kernel
theorem dX8_learn_158 : decode cX8_learn 158 = .ok (.iload_n 2, 1) := by decide +kernel
theorem dX8_learn_159 : decode cX8_learn 159 = .ok (.iload_n 3, 1) := by decide +kernel
theorem dX8_learn_160 : decode cX8_learn 160 = .ok (.invokevirtual 149, 3) := by decide +kernel
theorem dX8_learn_163 : decode cX8_learn 163 = .ok (.iinc 1 1, 3) := by decide +kernel
theorem dX8_learn_166 : decode cX8_learn 166 = .ok (.goto (-54), 3) := by decide +kernel
theorem dX8_learn_169 : decode cX8_learn 169 = .ok (.goto (-71), 3) := by decide +kernel
theorem dX8_learn_172 : decode cX8_learn 172 = .ok (.return_, 1) := by decide +kernel
theorem dX8_isCall_0 : decode cX8_isCall 0 = .ok (.iload_n 1, 1) := by decide +kernel
theorem dX8_isCall_1 : decode cX8_isCall 1 = .ok (.bipush 16, 2) := by decide +kernel
theorem dX8_isCall_3 : decode cX8_isCall 3 = .ok (.idiv, 1) := by decide +kernel
theorem dX8_isCall_4 : decode cX8_isCall 4 = .ok (.istore_n 2, 1) := by decide +kernel
theorem dX8_isCall_5 : decode cX8_isCall 5 = .ok (.iload_n 1, 1) := by decide +kernel
theorem dX8_isCall_6 : decode cX8_isCall 6 = .ok (.bipush 16, 2) := by decide +kernel
theorem dX8_isCall_8 : decode cX8_isCall 8 = .ok (.irem, 1) := by decide +kernel
theorem dX8_isCall_9 : decode cX8_isCall 9 = .ok (.istore_n 3, 1) := by decide +kernel
theorem dX8_isCall_10 : decode cX8_isCall 10 = .ok (.iload_n 3, 1) := by decide +kernel
theorem dX8_isCall_11 : decode cX8_isCall 11 = .ok (.aload_n 0, 1) := by decide +kernel
theorem dX8_isCall_12 : decode cX8_isCall 12 = .ok (.getfield 13, 3) := by decide +kernel
theorem dX8_isCall_15 : decode cX8_isCall 15 = .ok (.iload_n 2, 1) := by decide +kernel
theorem dX8_isCall_16 : decode cX8_isCall 16 = .ok (.iaload, 1) := by decide +kernel
theorem dX8_isCall_17 : decode cX8_isCall 17 = .ok (.if_icmp .ge 49, 3) := by decide +kernel
theorem dX8_isCall_20 : decode cX8_isCall 20 = .ok (.aload_n 0, 1) := by decide +kernel
theorem dX8_isCall_21 : decode cX8_isCall 21 = .ok (.getfield 34, 3) := by decide +kernel
theorem dX8_isCall_24 : decode cX8_isCall 24 = .ok (.bipush 17, 2) := by decide +kernel
theorem dX8_isCall_26 : decode cX8_isCall 26 = .ok (.iload_n 2, 1) := by decide +kernel
theorem dX8_isCall_27 : decode cX8_isCall 27 = .ok (.imul, 1) := by decide +kernel
theorem dX8_isCall_28 : decode cX8_isCall 28 = .ok (.iload_n 3, 1) := by decide +kernel
theorem dX8_isCall_29 : decode cX8_isCall 29 = .ok (.iadd, 1) := by decide +kernel
theorem dX8_isCall_30 : decode cX8_isCall 30 = .ok (.baload, 1) := by decide +kernel
theorem dX8_isCall_31 : decode cX8_isCall 31 = .ok (.ifCond .eq 35, 3) := by decide +kernel
theorem dX8_isCall_34 : decode cX8_isCall 34 = .ok (.aload_n 0, 1) := by decide +kernel
theorem dX8_isCall_35 : decode cX8_isCall 35 = .ok (.getfield 22, 3) := by decide +kernel
theorem dX8_isCall_38 : decode cX8_isCall 38 = .ok (.bipush 6, 2) := by decide +kernel
theorem dX8_isCall_40 : decode cX8_isCall 40 = .ok (.iload_n 1, 1) := by decide +kernel
theorem dX8_isCall_41 : decode cX8_isCall 41 = .ok (.imul, 1) := by decide +kernel
theorem dX8_isCall_42 : decode cX8_isCall 42 = .ok (.iaload, 1) := by decide +kernel
theorem dX8_isCall_43 : decode cX8_isCall 43 = .ok (.bipush 10, 2) := by decide +kernel
theorem dX8_isCall_45 : decode cX8_isCall 45 = .ok (.if_icmp .ne 21, 3) := by decide +kernel
theorem dX8_isCall_48 : decode cX8_isCall 48 = .ok (.aload_n 0, 1) := by decide +kernel
theorem dX8_isCall_49 : decode cX8_isCall 49 = .ok (.getfield 22, 3) := by decide +kernel
theorem dX8_isCall_52 : decode cX8_isCall 52 = .ok (.bipush 6, 2) := by decide +kernel
theorem dX8_isCall_54 : decode cX8_isCall 54 = .ok (.iload_n 1, 1) := by decide +kernel
theorem dX8_isCall_55 : decode cX8_isCall 55 = .ok (.imul, 1) := by decide +kernel
theorem dX8_isCall_56 : decode cX8_isCall 56 = .ok (.iconst 2, 1) := by decide +kernel
theorem dX8_isCall_57 : decode cX8_isCall 57 = .ok (.iadd, 1) := by decide +kernel
theorem dX8_isCall_58 : decode cX8_isCall 58 = .ok (.iaload, 1) := by decide +kernel
theorem dX8_isCall_59 : decode cX8_isCall 59 = .ok (.ifCond .le 7, 3) := by decide +kernel
theorem dX8_isCall_62 : decode cX8_isCall 62 = .ok (.iconst 1, 1) := by decide +kernel
theorem dX8_isCall_63 : decode cX8_isCall 63 = .ok (.goto 4, 3) := by decide +kernel
theorem dX8_isCall_66 : decode cX8_isCall 66 = .ok (.iconst 0, 1) := by decide +kernel
theorem dX8_isCall_67 : decode cX8_isCall 67 = .ok (.ireturn, 1) := by decide +kernel
theorem dX8_placeOf_0 : decode cX8_placeOf 0 = .ok (.bipush 17, 2) := by decide +kernel
theorem dX8_placeOf_2 : decode cX8_placeOf 2 = .ok (.iload_n 0, 1) := by decide +kernel
theorem dX8_placeOf_3 : decode cX8_placeOf 3 = .ok (.bipush 16, 2) := by decide +kernel
theorem dX8_placeOf_5 : decode cX8_placeOf 5 = .ok (.idiv, 1) := by decide +kernel
theorem dX8_placeOf_6 : decode cX8_placeOf 6 = .ok (.imul, 1) := by decide +kernel
theorem dX8_placeOf_7 : decode cX8_placeOf 7 = .ok (.iload_n 0, 1) := by decide +kernel
theorem dX8_placeOf_8 : decode cX8_placeOf 8 = .ok (.bipush 16, 2) := by decide +kernel
theorem dX8_placeOf_10 : decode cX8_placeOf 10 = .ok (.irem, 1) := by decide +kernel
theorem dX8_placeOf_11 : decode cX8_placeOf 11 = .ok (.iadd, 1) := by decide +kernel
theorem dX8_placeOf_12 : decode cX8_placeOf 12 = .ok (.ireturn, 1) := by decide +kernel
theorem dX8_isSpecial_0 : decode cX8_isSpecial 0 = .ok (.aload_n 0, 1) := by decide +kernel
theorem dX8_isSpecial_1 : decode cX8_isSpecial 1 = .ok (.iload_n 1, 1) := by decide +kernel
theorem dX8_isSpecial_2 : decode cX8_isSpecial 2 = .ok (.invokevirtual 152, 3) := by decide +kernel
theorem dX8_isSpecial_5 : decode cX8_isSpecial 5 = .ok (.ifCond .ne 5, 3) := by decide +kernel
theorem dX8_isSpecial_8 : decode cX8_isSpecial 8 = .ok (.iconst 0, 1) := by decide +kernel
theorem dX8_isSpecial_9 : decode cX8_isSpecial 9 = .ok (.ireturn, 1) := by decide +kernel
theorem dX8_isSpecial_10 : decode cX8_isSpecial 10 = .ok (.aload_n 0, 1) := by decide +kernel
theorem dX8_isSpecial_11 : decode cX8_isSpecial 11 = .ok (.getfield 22, 3) := by decide +kernel
theorem dX8_isSpecial_14 : decode cX8_isSpecial 14 = .ok (.bipush 6, 2) := by decide +kernel
theorem dX8_isSpecial_16 : decode cX8_isSpecial 16 = .ok (.iload_n 1, 1) := by decide +kernel
theorem dX8_isSpecial_17 : decode cX8_isSpecial 17 = .ok (.imul, 1) := by decide +kernel
theorem dX8_isSpecial_18 : decode cX8_isSpecial 18 = .ok (.iconst 2, 1) := by decide +kernel
theorem dX8_isSpecial_19 : decode cX8_isSpecial 19 = .ok (.iadd, 1) := by decide +kernel
theorem dX8_isSpecial_20 : decode cX8_isSpecial 20 = .ok (.iaload, 1) := by decide +kernel
theorem dX8_isSpecial_21 : decode cX8_isSpecial 21 = .ok (.istore_n 2, 1) := by decide +kernel
theorem dX8_isSpecial_22 : decode cX8_isSpecial 22 = .ok (.iconst 0, 1) := by decide +kernel
theorem dX8_isSpecial_23 : decode cX8_isSpecial 23 = .ok (.istore_n 3, 1) := by decide +kernel
theorem dX8_isSpecial_24 : decode cX8_isSpecial 24 = .ok (.iconst 0, 1) := by decide +kernel
theorem dX8_isSpecial_25 : decode cX8_isSpecial 25 = .ok (.istore 4, 2) := by decide +kernel
theorem dX8_isSpecial_27 : decode cX8_isSpecial 27 = .ok (.iload 4, 2) := by decide +kernel
theorem dX8_isSpecial_29 : decode cX8_isSpecial 29 = .ok (.aload_n 0, 1) := by decide +kernel
theorem dX8_isSpecial_30 : decode cX8_isSpecial 30 = .ok (.getfield 7, 3) := by decide +kernel
theorem dX8_isSpecial_33 : decode cX8_isSpecial 33 = .ok (.iload_n 2, 1) := by decide +kernel
theorem dX8_isSpecial_34 : decode cX8_isSpecial 34 = .ok (.iaload, 1) := by decide +kernel
theorem dX8_isSpecial_35 : decode cX8_isSpecial 35 = .ok (.if_icmp .ge 59, 3) := by decide +kernel
theorem dX8_isSpecial_38 : decode cX8_isSpecial 38 = .ok (.iload_n 3, 1) := by decide +kernel
theorem dX8_isSpecial_39 : decode cX8_isSpecial 39 = .ok (.ifCond .ne 43, 3) := by decide +kernel
theorem dX8_isSpecial_42 : decode cX8_isSpecial 42 = .ok (.aload_n 0, 1) := by decide +kernel
theorem dX8_isSpecial_43 : decode cX8_isSpecial 43 = .ok (.getfield 38, 3) := by decide +kernel
theorem dX8_isSpecial_46 : decode cX8_isSpecial 46 = .ok (.bipush 102, 2) := by decide +kernel
theorem dX8_isSpecial_48 : decode cX8_isSpecial 48 = .ok (.iload_n 2, 1) := by decide +kernel
theorem dX8_isSpecial_49 : decode cX8_isSpecial 49 = .ok (.imul, 1) := by decide +kernel
theorem dX8_isSpecial_50 : decode cX8_isSpecial 50 = .ok (.iload 4, 2) := by decide +kernel
theorem dX8_isSpecial_52 : decode cX8_isSpecial 52 = .ok (.iadd, 1) := by decide +kernel
theorem dX8_isSpecial_53 : decode cX8_isSpecial 53 = .ok (.baload, 1) := by decide +kernel
theorem dX8_isSpecial_54 : decode cX8_isSpecial 54 = .ok (.ifCond .eq 32, 3) := by decide +kernel
theorem dX8_isSpecial_57 : decode cX8_isSpecial 57 = .ok (.aload_n 0, 1) := by decide +kernel
theorem dX8_isSpecial_58 : decode cX8_isSpecial 58 = .ok (.iload_n 1, 1) := by decide +kernel
theorem dX8_isSpecial_59 : decode cX8_isSpecial 59 = .ok (.invokestatic 155, 3) := by decide +kernel
theorem dX8_isSpecial_62 : decode cX8_isSpecial 62 = .ok (.aload_n 0, 1) := by decide +kernel
theorem dX8_isSpecial_63 : decode cX8_isSpecial 63 = .ok (.getfield 22, 3) := by decide +kernel
theorem dX8_isSpecial_66 : decode cX8_isSpecial 66 = .ok (.bipush 6, 2) := by decide +kernel
theorem dX8_isSpecial_68 : decode cX8_isSpecial 68 = .ok (.iload_n 1, 1) := by decide +kernel
theorem dX8_isSpecial_69 : decode cX8_isSpecial 69 = .ok (.imul, 1) := by decide +kernel
theorem dX8_isSpecial_70 : decode cX8_isSpecial 70 = .ok (.iconst 3, 1) := by decide +kernel
theorem dX8_isSpecial_71 : decode cX8_isSpecial 71 = .ok (.iadd, 1) := by decide +kernel
theorem dX8_isSpecial_72 : decode cX8_isSpecial 72 = .ok (.iload 4, 2) := by decide +kernel
theorem dX8_isSpecial_74 : decode cX8_isSpecial 74 = .ok (.iadd, 1) := by decide +kernel
theorem dX8_isSpecial_75 : decode cX8_isSpecial 75 = .ok (.iaload, 1) := by decide +kernel
theorem dX8_isSpecial_76 : decode cX8_isSpecial 76 = .ok (.invokevirtual 118, 3) := by decide +kernel
theorem dX8_isSpecial_79 : decode cX8_isSpecial 79 = .ok (.ifCond .eq 7, 3) := by decide +kernel
theorem dX8_isSpecial_82 : decode cX8_isSpecial 82 = .ok (.iconst 1, 1) := by decide +kernel
theorem dX8_isSpecial_83 : decode cX8_isSpecial 83 = .ok (.goto 4, 3) := by decide +kernel
theorem dX8_isSpecial_86 : decode cX8_isSpecial 86 = .ok (.iconst 0, 1) := by decide +kernel
theorem dX8_isSpecial_87 : decode cX8_isSpecial 87 = .ok (.istore_n 3, 1) := by decide +kernel
theorem dX8_isSpecial_88 : decode cX8_isSpecial 88 = .ok (.iinc 4 1, 3) := by decide +kernel
theorem dX8_isSpecial_91 : decode cX8_isSpecial 91 = .ok (.goto (-64), 3) := by decide +kernel
theorem dX8_isSpecial_94 : decode cX8_isSpecial 94 = .ok (.iload_n 3, 1) := by decide +kernel
theorem dX8_isSpecial_95 : decode cX8_isSpecial 95 = .ok (.ireturn, 1) := by decide +kernel
theorem dX8_agree_0 : decode cX8_agree 0 = .ok (.aload_n 0, 1) := by decide +kernel
theorem dX8_agree_1 : decode cX8_agree 1 = .ok (.iload_n 2, 1) := by decide +kernel
theorem dX8_agree_2 : decode cX8_agree 2 = .ok (.invokevirtual 152, 3) := by decide +kernel
theorem dX8_agree_5 : decode cX8_agree 5 = .ok (.ifCond .eq 28, 3) := by decide +kernel
theorem dX8_agree_8 : decode cX8_agree 8 = .ok (.aload_n 0, 1) := by decide +kernel
theorem dX8_agree_9 : decode cX8_agree 9 = .ok (.getfield 22, 3) := by decide +kernel
theorem dX8_agree_12 : decode cX8_agree 12 = .ok (.bipush 6, 2) := by decide +kernel
theorem dX8_agree_14 : decode cX8_agree 14 = .ok (.iload_n 2, 1) := by decide +kernel
theorem dX8_agree_15 : decode cX8_agree 15 = .ok (.imul, 1) := by decide +kernel
theorem dX8_agree_16 : decode cX8_agree 16 = .ok (.iconst 2, 1) := by decide +kernel
theorem dX8_agree_17 : decode cX8_agree 17 = .ok (.iadd, 1) := by decide +kernel
theorem dX8_agree_18 : decode cX8_agree 18 = .ok (.iaload, 1) := by decide +kernel
theorem dX8_agree_19 : decode cX8_agree 19 = .ok (.aload_n 0, 1) := by decide +kernel
theorem dX8_agree_20 : decode cX8_agree 20 = .ok (.getfield 22, 3) := by decide +kernel
theorem dX8_agree_23 : decode cX8_agree 23 = .ok (.bipush 6, 2) := by decide +kernel
theorem dX8_agree_25 : decode cX8_agree 25 = .ok (.iload_n 1, 1) := by decide +kernel
theorem dX8_agree_26 : decode cX8_agree 26 = .ok (.imul, 1) := by decide +kernel
theorem dX8_agree_27 : decode cX8_agree 27 = .ok (.iconst 2, 1) := by decide +kernel
theorem dX8_agree_28 : decode cX8_agree 28 = .ok (.iadd, 1) := by decide +kernel
theorem dX8_agree_29 : decode cX8_agree 29 = .ok (.iaload, 1) := by decide +kernel
theorem dX8_agree_30 : decode cX8_agree 30 = .ok (.if_icmp .eq 5, 3) := by decide +kernel
theorem dX8_agree_33 : decode cX8_agree 33 = .ok (.iconst 0, 1) := by decide +kernel
theorem dX8_agree_34 : decode cX8_agree 34 = .ok (.ireturn, 1) := by decide +kernel
theorem dX8_agree_35 : decode cX8_agree 35 = .ok (.iconst 1, 1) := by decide +kernel
theorem dX8_agree_36 : decode cX8_agree 36 = .ok (.istore_n 3, 1) := by decide +kernel
theorem dX8_agree_37 : decode cX8_agree 37 = .ok (.iconst 0, 1) := by decide +kernel
theorem dX8_agree_38 : decode cX8_agree 38 = .ok (.istore 4, 2) := by decide +kernel
theorem dX8_agree_40 : decode cX8_agree 40 = .ok (.iload 4, 2) := by decide +kernel
theorem dX8_agree_42 : decode cX8_agree 42 = .ok (.aload_n 0, 1) := by decide +kernel
theorem dX8_agree_43 : decode cX8_agree 43 = .ok (.getfield 7, 3) := by decide +kernel
theorem dX8_agree_46 : decode cX8_agree 46 = .ok (.aload_n 0, 1) := by decide +kernel
theorem dX8_agree_47 : decode cX8_agree 47 = .ok (.getfield 22, 3) := by decide +kernel
theorem dX8_agree_50 : decode cX8_agree 50 = .ok (.bipush 6, 2) := by decide +kernel
theorem dX8_agree_52 : decode cX8_agree 52 = .ok (.iload_n 1, 1) := by decide +kernel
theorem dX8_agree_53 : decode cX8_agree 53 = .ok (.imul, 1) := by decide +kernel
theorem dX8_agree_54 : decode cX8_agree 54 = .ok (.iconst 2, 1) := by decide +kernel
theorem dX8_agree_55 : decode cX8_agree 55 = .ok (.iadd, 1) := by decide +kernel
theorem dX8_agree_56 : decode cX8_agree 56 = .ok (.iaload, 1) := by decide +kernel
theorem dX8_agree_57 : decode cX8_agree 57 = .ok (.iaload, 1) := by decide +kernel
theorem dX8_agree_58 : decode cX8_agree 58 = .ok (.if_icmp .ge 106, 3) := by decide +kernel
theorem dX8_agree_61 : decode cX8_agree 61 = .ok (.aload_n 0, 1) := by decide +kernel
theorem dX8_agree_62 : decode cX8_agree 62 = .ok (.getfield 22, 3) := by decide +kernel
theorem dX8_agree_65 : decode cX8_agree 65 = .ok (.bipush 6, 2) := by decide +kernel
theorem dX8_agree_67 : decode cX8_agree 67 = .ok (.iload_n 1, 1) := by decide +kernel
theorem dX8_agree_68 : decode cX8_agree 68 = .ok (.imul, 1) := by decide +kernel
theorem dX8_agree_69 : decode cX8_agree 69 = .ok (.iconst 3, 1) := by decide +kernel
theorem dX8_agree_70 : decode cX8_agree 70 = .ok (.iadd, 1) := by decide +kernel
theorem dX8_agree_71 : decode cX8_agree 71 = .ok (.iload 4, 2) := by decide +kernel
theorem dX8_agree_73 : decode cX8_agree 73 = .ok (.iadd, 1) := by decide +kernel
theorem dX8_agree_74 : decode cX8_agree 74 = .ok (.iaload, 1) := by decide +kernel
theorem dX8_agree_75 : decode cX8_agree 75 = .ok (.istore 5, 2) := by decide +kernel
theorem dX8_agree_77 : decode cX8_agree 77 = .ok (.aload_n 0, 1) := by decide +kernel
theorem dX8_agree_78 : decode cX8_agree 78 = .ok (.getfield 22, 3) := by decide +kernel
theorem dX8_agree_81 : decode cX8_agree 81 = .ok (.bipush 6, 2) := by decide +kernel
theorem dX8_agree_83 : decode cX8_agree 83 = .ok (.iload_n 2, 1) := by decide +kernel
theorem dX8_agree_84 : decode cX8_agree 84 = .ok (.imul, 1) := by decide +kernel
theorem dX8_agree_85 : decode cX8_agree 85 = .ok (.iconst 3, 1) := by decide +kernel
theorem dX8_agree_86 : decode cX8_agree 86 = .ok (.iadd, 1) := by decide +kernel
theorem dX8_agree_87 : decode cX8_agree 87 = .ok (.iload 4, 2) := by decide +kernel
theorem dX8_agree_89 : decode cX8_agree 89 = .ok (.iadd, 1) := by decide +kernel
theorem dX8_agree_90 : decode cX8_agree 90 = .ok (.iaload, 1) := by decide +kernel
theorem dX8_agree_91 : decode cX8_agree 91 = .ok (.istore 6, 2) := by decide +kernel
theorem dX8_agree_93 : decode cX8_agree 93 = .ok (.aload_n 0, 1) := by decide +kernel
theorem dX8_agree_94 : decode cX8_agree 94 = .ok (.iload_n 1, 1) := by decide +kernel
theorem dX8_agree_95 : decode cX8_agree 95 = .ok (.invokestatic 155, 3) := by decide +kernel
theorem dX8_agree_98 : decode cX8_agree 98 = .ok (.iload 5, 2) := by decide +kernel
theorem dX8_agree_100 : decode cX8_agree 100 = .ok (.invokevirtual 118, 3) := by decide +kernel
theorem dX8_agree_103 : decode cX8_agree 103 = .ok (.istore 7, 2) := by decide +kernel
theorem dX8_agree_105 : decode cX8_agree 105 = .ok (.iload_n 3, 1) := by decide +kernel
theorem dX8_agree_106 : decode cX8_agree 106 = .ok (.ifCond .eq 50, 3) := by decide +kernel
theorem dX8_agree_109 : decode cX8_agree 109 = .ok (.iload 7, 2) := by decide +kernel
theorem dX8_agree_111 : decode cX8_agree 111 = .ok (.aload_n 0, 1) := by decide +kernel
theorem dX8_agree_112 : decode cX8_agree 112 = .ok (.iload_n 2, 1) := by decide +kernel
theorem dX8_agree_113 : decode cX8_agree 113 = .ok (.invokestatic 155, 3) := by decide +kernel
theorem dX8_agree_116 : decode cX8_agree 116 = .ok (.iload 6, 2) := by decide +kernel
theorem dX8_agree_118 : decode cX8_agree 118 = .ok (.invokevirtual 118, 3) := by decide +kernel
theorem dX8_agree_121 : decode cX8_agree 121 = .ok (.if_icmp .ne 35, 3) := by decide +kernel
theorem dX8_agree_124 : decode cX8_agree 124 = .ok (.iload 7, 2) := by decide +kernel
theorem dX8_agree_126 : decode cX8_agree 126 = .ok (.ifCond .eq 26, 3) := by decide +kernel
theorem dX8_agree_129 : decode cX8_agree 129 = .ok (.aload_n 0, 1) := by decide +kernel
theorem dX8_agree_130 : decode cX8_agree 130 = .ok (.iload_n 1, 1) := by decide +kernel
theorem dX8_agree_131 : decode cX8_agree 131 = .ok (.invokestatic 155, 3) := by decide +kernel
theorem dX8_agree_134 : decode cX8_agree 134 = .ok (.iload 5, 2) := by decide +kernel
theorem dX8_agree_136 : decode cX8_agree 136 = .ok (.invokevirtual 122, 3) := by decide +kernel
theorem dX8_agree_139 : decode cX8_agree 139 = .ok (.aload_n 0, 1) := by decide +kernel
theorem dX8_agree_140 : decode cX8_agree 140 = .ok (.iload_n 2, 1) := by decide +kernel
theorem dX8_agree_141 : decode cX8_agree 141 = .ok (.invokestatic 155, 3) := by decide +kernel
theorem dX8_agree_144 : decode cX8_agree 144 = .ok (.iload 6, 2) := by decide +kernel
theorem dX8_agree_146 : decode cX8_agree 146 = .ok (.invokevirtual 122, 3) := by decide +kernel
theorem dX8_agree_149 : decode cX8_agree 149 = .ok (.if_icmp .ne 7, 3) := by decide +kernel
theorem dX8_agree_152 : decode cX8_agree 152 = .ok (.iconst 1, 1) := by decide +kernel
theorem dX8_agree_153 : decode cX8_agree 153 = .ok (.goto 4, 3) := by decide +kernel
theorem dX8_agree_156 : decode cX8_agree 156 = .ok (.iconst 0, 1) := by decide +kernel
theorem dX8_agree_157 : decode cX8_agree 157 = .ok (.istore_n 3, 1) := by decide +kernel
theorem dX8_agree_158 : decode cX8_agree 158 = .ok (.iinc 4 1, 3) := by decide +kernel
theorem dX8_agree_161 : decode cX8_agree 161 = .ok (.goto (-121), 3) := by decide +kernel
theorem dX8_agree_164 : decode cX8_agree 164 = .ok (.iload_n 3, 1) := by decide +kernel
theorem dX8_agree_165 : decode cX8_agree 165 = .ok (.ireturn, 1) := by decide +kernel
theorem dX8_specialises_0 : decode cX8_specialises 0 = .ok (.iconst 0, 1) := by decide +kernel
theorem dX8_specialises_1 : decode cX8_specialises 1 = .ok (.istore_n 1, 1) := by decide +kernel
theorem dX8_specialises_2 : decode cX8_specialises 2 = .ok (.iload_n 1, 1) := by decide +kernel
theorem dX8_specialises_3 : decode cX8_specialises 3 = .ok (.bipush 16, 2) := by decide +kernel
theorem dX8_specialises_5 : decode cX8_specialises 5 = .ok (.aload_n 0, 1) := by decide +kernel
theorem dX8_specialises_6 : decode cX8_specialises 6 = .ok (.getfield 85, 3) := by decide +kernel
theorem dX8_specialises_9 : decode cX8_specialises 9 = .ok (.imul, 1) := by decide +kernel
theorem dX8_specialises_10 : decode cX8_specialises 10 = .ok (.if_icmp .ge 17, 3) := by decide +kernel
theorem dX8_specialises_13 : decode cX8_specialises 13 = .ok (.aload_n 0, 1) := by decide +kernel
theorem dX8_specialises_14 : decode cX8_specialises 14 = .ok (.iload_n 1, 1) := by decide +kernel
theorem dX8_specialises_15 : decode cX8_specialises 15 = .ok (.invokevirtual 158, 3) := by decide +kernel
theorem dX8_specialises_18 : decode cX8_specialises 18 = .ok (.ifCond .ne 9, 3) := by decide +kernel
theorem dX8_specialises_21 : decode cX8_specialises 21 = .ok (.iinc 1 1, 3) := by decide +kernel
theorem dX8_specialises_24 : decode cX8_specialises 24 = .ok (.goto (-22), 3) := by decide +kernel
theorem dX8_specialises_27 : decode cX8_specialises 27 = .ok (.iload_n 1, 1) := by decide +kernel
theorem dX8_specialises_28 : decode cX8_specialises 28 = .ok (.bipush 16, 2) := by decide +kernel
theorem dX8_specialises_30 : decode cX8_specialises 30 = .ok (.aload_n 0, 1) := by decide +kernel
theorem dX8_specialises_31 : decode cX8_specialises 31 = .ok (.getfield 85, 3) := by decide +kernel
theorem dX8_specialises_34 : decode cX8_specialises 34 = .ok (.imul, 1) := by decide +kernel
theorem dX8_specialises_35 : decode cX8_specialises 35 = .ok (.if_icmp .ne 5, 3) := by decide +kernel
theorem dX8_specialises_38 : decode cX8_specialises 38 = .ok (.iconst 0, 1) := by decide +kernel
theorem dX8_specialises_39 : decode cX8_specialises 39 = .ok (.ireturn, 1) := by decide +kernel
theorem dX8_specialises_40 : decode cX8_specialises 40 = .ok (.aload_n 0, 1) := by decide +kernel
theorem dX8_specialises_41 : decode cX8_specialises 41 = .ok (.getfield 22, 3) := by decide +kernel
theorem dX8_specialises_44 : decode cX8_specialises 44 = .ok (.bipush 6, 2) := by decide +kernel
theorem dX8_specialises_46 : decode cX8_specialises 46 = .ok (.iload_n 1, 1) := by decide +kernel
theorem dX8_specialises_47 : decode cX8_specialises 47 = .ok (.imul, 1) := by decide +kernel
theorem dX8_specialises_48 : decode cX8_specialises 48 = .ok (.iconst 2, 1) := by decide +kernel
theorem dX8_specialises_49 : decode cX8_specialises 49 = .ok (.iadd, 1) := by decide +kernel
theorem dX8_specialises_50 : decode cX8_specialises 50 = .ok (.iaload, 1) := by decide +kernel
theorem dX8_specialises_51 : decode cX8_specialises 51 = .ok (.istore_n 2, 1) := by decide +kernel
theorem dX8_specialises_52 : decode cX8_specialises 52 = .ok (.aload_n 0, 1) := by decide +kernel
theorem dX8_specialises_53 : decode cX8_specialises 53 = .ok (.getfield 7, 3) := by decide +kernel
theorem dX8_specialises_56 : decode cX8_specialises 56 = .ok (.aload_n 0, 1) := by decide +kernel
theorem dX8_specialises_57 : decode cX8_specialises 57 = .ok (.getfield 85, 3) := by decide +kernel
theorem dX8_specialises_60 : decode cX8_specialises 60 = .ok (.aload_n 0, 1) := by decide +kernel
theorem dX8_specialises_61 : decode cX8_specialises 61 = .ok (.getfield 7, 3) := by decide +kernel
theorem dX8_specialises_64 : decode cX8_specialises 64 = .ok (.iload_n 2, 1) := by decide +kernel
theorem dX8_specialises_65 : decode cX8_specialises 65 = .ok (.iaload, 1) := by decide +kernel
theorem dX8_specialises_66 : decode cX8_specialises 66 = .ok (.iastore, 1) := by decide +kernel
theorem dX8_specialises_67 : decode cX8_specialises 67 = .ok (.aload_n 0, 1) := by decide +kernel
theorem dX8_specialises_68 : decode cX8_specialises 68 = .ok (.getfield 13, 3) := by decide +kernel
theorem dX8_specialises_71 : decode cX8_specialises 71 = .ok (.aload_n 0, 1) := by decide +kernel
theorem dX8_specialises_72 : decode cX8_specialises 72 = .ok (.getfield 85, 3) := by decide +kernel
theorem dX8_specialises_75 : decode cX8_specialises 75 = .ok (.aload_n 0, 1) := by decide +kernel
theorem dX8_specialises_76 : decode cX8_specialises 76 = .ok (.getfield 13, 3) := by decide +kernel
theorem dX8_specialises_79 : decode cX8_specialises 79 = .ok (.iload_n 2, 1) := by decide +kernel
theorem dX8_specialises_80 : decode cX8_specialises 80 = .ok (.iaload, 1) := by decide +kernel
theorem dX8_specialises_81 : decode cX8_specialises 81 = .ok (.iastore, 1) := by decide +kernel
theorem dX8_specialises_82 : decode cX8_specialises 82 = .ok (.iconst 0, 1) := by decide +kernel
theorem dX8_specialises_83 : decode cX8_specialises 83 = .ok (.istore_n 3, 1) := by decide +kernel
theorem dX8_specialises_84 : decode cX8_specialises 84 = .ok (.iload_n 3, 1) := by decide +kernel
theorem dX8_specialises_85 : decode cX8_specialises 85 = .ok (.bipush 96, 2) := by decide +kernel
theorem dX8_specialises_87 : decode cX8_specialises 87 = .ok (.if_icmp .ge 34, 3) := by decide +kernel
theorem dX8_specialises_90 : decode cX8_specialises 90 = .ok (.aload_n 0, 1) := by decide +kernel
theorem dX8_specialises_91 : decode cX8_specialises 91 = .ok (.getfield 22, 3) := by decide +kernel
theorem dX8_specialises_94 : decode cX8_specialises 94 = .ok (.bipush 96, 2) := by decide +kernel
theorem dX8_specialises_96 : decode cX8_specialises 96 = .ok (.aload_n 0, 1) := by decide +kernel
theorem dX8_specialises_97 : decode cX8_specialises 97 = .ok (.getfield 85, 3) := by decide +kernel
theorem dX8_specialises_100 : decode cX8_specialises 100 = .ok (.imul, 1) := by decide +kernel
theorem dX8_specialises_101 : decode cX8_specialises 101 = .ok (.iload_n 3, 1) := by decide +kernel
theorem dX8_specialises_102 : decode cX8_specialises 102 = .ok (.iadd, 1) := by decide +kernel
theorem dX8_specialises_103 : decode cX8_specialises 103 = .ok (.aload_n 0, 1) := by decide +kernel
theorem dX8_specialises_104 : decode cX8_specialises 104 = .ok (.getfield 22, 3) := by decide +kernel
theorem dX8_specialises_107 : decode cX8_specialises 107 = .ok (.bipush 96, 2) := by decide +kernel
theorem dX8_specialises_109 : decode cX8_specialises 109 = .ok (.iload_n 2, 1) := by decide +kernel
theorem dX8_specialises_110 : decode cX8_specialises 110 = .ok (.imul, 1) := by decide +kernel
theorem dX8_specialises_111 : decode cX8_specialises 111 = .ok (.iload_n 3, 1) := by decide +kernel
