theorem dX8_specialises_112 : decode cX8_specialises 112 = .ok (.iadd, 1) := by decide +kernel
theorem dX8_specialises_113 : decode cX8_specialises 113 = .ok (.iaload, 1) := by decide +kernel
theorem dX8_specialises_114 : decode cX8_specialises 114 = .ok (.iastore, 1) := by decide +kernel
theorem dX8_specialises_115 : decode cX8_specialises 115 = .ok (.iinc 3 1, 3) := by decide +kernel
theorem dX8_specialises_118 : decode cX8_specialises 118 = .ok (.goto (-34), 3) := by decide +kernel
theorem dX8_specialises_121 : decode cX8_specialises 121 = .ok (.iconst 0, 1) := by decide +kernel
theorem dX8_specialises_122 : decode cX8_specialises 122 = .ok (.istore_n 3, 1) := by decide +kernel
theorem dX8_specialises_123 : decode cX8_specialises 123 = .ok (.iload_n 3, 1) := by decide +kernel
theorem dX8_specialises_124 : decode cX8_specialises 124 = .ok (.bipush 16, 2) := by decide +kernel
theorem dX8_specialises_126 : decode cX8_specialises 126 = .ok (.aload_n 0, 1) := by decide +kernel
theorem dX8_specialises_127 : decode cX8_specialises 127 = .ok (.getfield 85, 3) := by decide +kernel
theorem dX8_specialises_130 : decode cX8_specialises 130 = .ok (.imul, 1) := by decide +kernel
theorem dX8_specialises_131 : decode cX8_specialises 131 = .ok (.if_icmp .ge 38, 3) := by decide +kernel
theorem dX8_specialises_134 : decode cX8_specialises 134 = .ok (.iload_n 3, 1) := by decide +kernel
theorem dX8_specialises_135 : decode cX8_specialises 135 = .ok (.iload_n 1, 1) := by decide +kernel
theorem dX8_specialises_136 : decode cX8_specialises 136 = .ok (.if_icmp .eq 27, 3) := by decide +kernel
theorem dX8_specialises_139 : decode cX8_specialises 139 = .ok (.aload_n 0, 1) := by decide +kernel
theorem dX8_specialises_140 : decode cX8_specialises 140 = .ok (.iload_n 1, 1) := by decide +kernel
theorem dX8_specialises_141 : decode cX8_specialises 141 = .ok (.iload_n 3, 1) := by decide +kernel
theorem dX8_specialises_142 : decode cX8_specialises 142 = .ok (.invokevirtual 161, 3) := by decide +kernel
theorem dX8_specialises_145 : decode cX8_specialises 145 = .ok (.ifCond .eq 18, 3) := by decide +kernel
theorem dX8_specialises_148 : decode cX8_specialises 148 = .ok (.aload_n 0, 1) := by decide +kernel
theorem dX8_specialises_149 : decode cX8_specialises 149 = .ok (.getfield 22, 3) := by decide +kernel
theorem dX8_specialises_152 : decode cX8_specialises 152 = .ok (.bipush 6, 2) := by decide +kernel
theorem dX8_specialises_154 : decode cX8_specialises 154 = .ok (.iload_n 3, 1) := by decide +kernel
theorem dX8_specialises_155 : decode cX8_specialises 155 = .ok (.imul, 1) := by decide +kernel
theorem dX8_specialises_156 : decode cX8_specialises 156 = .ok (.iconst 2, 1) := by decide +kernel
theorem dX8_specialises_157 : decode cX8_specialises 157 = .ok (.iadd, 1) := by decide +kernel
theorem dX8_specialises_158 : decode cX8_specialises 158 = .ok (.aload_n 0, 1) := by decide +kernel
theorem dX8_specialises_159 : decode cX8_specialises 159 = .ok (.getfield 85, 3) := by decide +kernel
theorem dX8_specialises_162 : decode cX8_specialises 162 = .ok (.iastore, 1) := by decide +kernel
theorem dX8_specialises_163 : decode cX8_specialises 163 = .ok (.iinc 3 1, 3) := by decide +kernel
theorem dX8_specialises_166 : decode cX8_specialises 166 = .ok (.goto (-43), 3) := by decide +kernel
theorem dX8_specialises_169 : decode cX8_specialises 169 = .ok (.aload_n 0, 1) := by decide +kernel
theorem dX8_specialises_170 : decode cX8_specialises 170 = .ok (.getfield 22, 3) := by decide +kernel
theorem dX8_specialises_173 : decode cX8_specialises 173 = .ok (.bipush 6, 2) := by decide +kernel
theorem dX8_specialises_175 : decode cX8_specialises 175 = .ok (.iload_n 1, 1) := by decide +kernel
theorem dX8_specialises_176 : decode cX8_specialises 176 = .ok (.imul, 1) := by decide +kernel
theorem dX8_specialises_177 : decode cX8_specialises 177 = .ok (.iconst 2, 1) := by decide +kernel
theorem dX8_specialises_178 : decode cX8_specialises 178 = .ok (.iadd, 1) := by decide +kernel
theorem dX8_specialises_179 : decode cX8_specialises 179 = .ok (.aload_n 0, 1) := by decide +kernel
theorem dX8_specialises_180 : decode cX8_specialises 180 = .ok (.getfield 85, 3) := by decide +kernel
theorem dX8_specialises_183 : decode cX8_specialises 183 = .ok (.iastore, 1) := by decide +kernel
theorem dX8_specialises_184 : decode cX8_specialises 184 = .ok (.aload_n 0, 1) := by decide +kernel
theorem dX8_specialises_185 : decode cX8_specialises 185 = .ok (.dup, 1) := by decide +kernel
theorem dX8_specialises_186 : decode cX8_specialises 186 = .ok (.getfield 85, 3) := by decide +kernel
theorem dX8_specialises_189 : decode cX8_specialises 189 = .ok (.iconst 1, 1) := by decide +kernel
theorem dX8_specialises_190 : decode cX8_specialises 190 = .ok (.iadd, 1) := by decide +kernel
theorem dX8_specialises_191 : decode cX8_specialises 191 = .ok (.putfield 85, 3) := by decide +kernel
theorem dX8_specialises_194 : decode cX8_specialises 194 = .ok (.iconst 1, 1) := by decide +kernel
theorem dX8_specialises_195 : decode cX8_specialises 195 = .ok (.ireturn, 1) := by decide +kernel
theorem dX8_analyse_0 : decode cX8_analyse 0 = .ok (.aload_n 0, 1) := by decide +kernel
theorem dX8_analyse_1 : decode cX8_analyse 1 = .ok (.iload_n 1, 1) := by decide +kernel
theorem dX8_analyse_2 : decode cX8_analyse 2 = .ok (.ifCond .lt 9, 3) := by decide +kernel
theorem dX8_analyse_5 : decode cX8_analyse 5 = .ok (.iload_n 1, 1) := by decide +kernel
theorem dX8_analyse_6 : decode cX8_analyse 6 = .ok (.bipush 6, 2) := by decide +kernel
theorem dX8_analyse_8 : decode cX8_analyse 8 = .ok (.if_icmp .le 7, 3) := by decide +kernel
theorem dX8_analyse_11 : decode cX8_analyse 11 = .ok (.iconst 1, 1) := by decide +kernel
theorem dX8_analyse_12 : decode cX8_analyse 12 = .ok (.goto 15, 3) := by decide +kernel
theorem dX8_analyse_15 : decode cX8_analyse 15 = .ok (.aload_n 0, 1) := by decide +kernel
theorem dX8_analyse_16 : decode cX8_analyse 16 = .ok (.getfield 82, 3) := by decide +kernel
theorem dX8_analyse_19 : decode cX8_analyse 19 = .ok (.ifCond .ne 7, 3) := by decide +kernel
theorem dX8_analyse_22 : decode cX8_analyse 22 = .ok (.iconst 2, 1) := by decide +kernel
theorem dX8_analyse_23 : decode cX8_analyse 23 = .ok (.goto 4, 3) := by decide +kernel
theorem dX8_analyse_26 : decode cX8_analyse 26 = .ok (.iconst 0, 1) := by decide +kernel
theorem dX8_analyse_27 : decode cX8_analyse 27 = .ok (.putfield 74, 3) := by decide +kernel
theorem dX8_analyse_30 : decode cX8_analyse 30 = .ok (.aload_n 0, 1) := by decide +kernel
theorem dX8_analyse_31 : decode cX8_analyse 31 = .ok (.getfield 74, 3) := by decide +kernel
theorem dX8_analyse_34 : decode cX8_analyse 34 = .ok (.ifCond .le 5, 3) := by decide +kernel
theorem dX8_analyse_37 : decode cX8_analyse 37 = .ok (.iconst 0, 1) := by decide +kernel
theorem dX8_analyse_38 : decode cX8_analyse 38 = .ok (.ireturn, 1) := by decide +kernel
theorem dX8_analyse_39 : decode cX8_analyse 39 = .ok (.aload_n 0, 1) := by decide +kernel
theorem dX8_analyse_40 : decode cX8_analyse 40 = .ok (.aload_n 0, 1) := by decide +kernel
theorem dX8_analyse_41 : decode cX8_analyse 41 = .ok (.getfield 82, 3) := by decide +kernel
theorem dX8_analyse_44 : decode cX8_analyse 44 = .ok (.putfield 85, 3) := by decide +kernel
theorem dX8_analyse_47 : decode cX8_analyse 47 = .ok (.iconst 0, 1) := by decide +kernel
theorem dX8_analyse_48 : decode cX8_analyse 48 = .ok (.istore_n 2, 1) := by decide +kernel
theorem dX8_analyse_49 : decode cX8_analyse 49 = .ok (.iload_n 2, 1) := by decide +kernel
theorem dX8_analyse_50 : decode cX8_analyse 50 = .ok (.bipush 96, 2) := by decide +kernel
theorem dX8_analyse_52 : decode cX8_analyse 52 = .ok (.aload_n 0, 1) := by decide +kernel
theorem dX8_analyse_53 : decode cX8_analyse 53 = .ok (.getfield 82, 3) := by decide +kernel
theorem dX8_analyse_56 : decode cX8_analyse 56 = .ok (.imul, 1) := by decide +kernel
theorem dX8_analyse_57 : decode cX8_analyse 57 = .ok (.if_icmp .ge 21, 3) := by decide +kernel
theorem dX8_analyse_60 : decode cX8_analyse 60 = .ok (.aload_n 0, 1) := by decide +kernel
theorem dX8_analyse_61 : decode cX8_analyse 61 = .ok (.getfield 22, 3) := by decide +kernel
theorem dX8_analyse_64 : decode cX8_analyse 64 = .ok (.iload_n 2, 1) := by decide +kernel
theorem dX8_analyse_65 : decode cX8_analyse 65 = .ok (.aload_n 0, 1) := by decide +kernel
theorem dX8_analyse_66 : decode cX8_analyse 66 = .ok (.getfield 19, 3) := by decide +kernel
theorem dX8_analyse_69 : decode cX8_analyse 69 = .ok (.iload_n 2, 1) := by decide +kernel
theorem dX8_analyse_70 : decode cX8_analyse 70 = .ok (.iaload, 1) := by decide +kernel
theorem dX8_analyse_71 : decode cX8_analyse 71 = .ok (.iastore, 1) := by decide +kernel
theorem dX8_analyse_72 : decode cX8_analyse 72 = .ok (.iinc 2 1, 3) := by decide +kernel
theorem dX8_analyse_75 : decode cX8_analyse 75 = .ok (.goto (-26), 3) := by decide +kernel
theorem dX8_analyse_78 : decode cX8_analyse 78 = .ok (.aload_n 0, 1) := by decide +kernel
theorem dX8_analyse_79 : decode cX8_analyse 79 = .ok (.invokevirtual 164, 3) := by decide +kernel
theorem dX8_analyse_82 : decode cX8_analyse 82 = .ok (.aload_n 0, 1) := by decide +kernel
theorem dX8_analyse_83 : decode cX8_analyse 83 = .ok (.getfield 85, 3) := by decide +kernel
theorem dX8_analyse_86 : decode cX8_analyse 86 = .ok (.aload_n 0, 1) := by decide +kernel
theorem dX8_analyse_87 : decode cX8_analyse 87 = .ok (.getfield 82, 3) := by decide +kernel
theorem dX8_analyse_90 : decode cX8_analyse 90 = .ok (.iload_n 1, 1) := by decide +kernel
theorem dX8_analyse_91 : decode cX8_analyse 91 = .ok (.iadd, 1) := by decide +kernel
theorem dX8_analyse_92 : decode cX8_analyse 92 = .ok (.if_icmp .ge 17, 3) := by decide +kernel
theorem dX8_analyse_95 : decode cX8_analyse 95 = .ok (.aload_n 0, 1) := by decide +kernel
theorem dX8_analyse_96 : decode cX8_analyse 96 = .ok (.invokevirtual 167, 3) := by decide +kernel
theorem dX8_analyse_99 : decode cX8_analyse 99 = .ok (.ifCond .eq 10, 3) := by decide +kernel
theorem dX8_analyse_102 : decode cX8_analyse 102 = .ok (.aload_n 0, 1) := by decide +kernel
theorem dX8_analyse_103 : decode cX8_analyse 103 = .ok (.invokevirtual 164, 3) := by decide +kernel
theorem dX8_analyse_106 : decode cX8_analyse 106 = .ok (.goto (-24), 3) := by decide +kernel
theorem dX8_analyse_109 : decode cX8_analyse 109 = .ok (.aload_n 0, 1) := by decide +kernel
theorem dX8_analyse_110 : decode cX8_analyse 110 = .ok (.iconst 1, 1) := by decide +kernel
theorem dX8_analyse_111 : decode cX8_analyse 111 = .ok (.putfield 78, 3) := by decide +kernel
theorem dX8_analyse_114 : decode cX8_analyse 114 = .ok (.iconst 0, 1) := by decide +kernel
theorem dX8_analyse_115 : decode cX8_analyse 115 = .ok (.istore_n 2, 1) := by decide +kernel
theorem dX8_analyse_116 : decode cX8_analyse 116 = .ok (.iconst 0, 1) := by decide +kernel
theorem dX8_analyse_117 : decode cX8_analyse 117 = .ok (.istore_n 3, 1) := by decide +kernel
theorem dX8_analyse_118 : decode cX8_analyse 118 = .ok (.iload_n 3, 1) := by decide +kernel
theorem dX8_analyse_119 : decode cX8_analyse 119 = .ok (.aload_n 0, 1) := by decide +kernel
theorem dX8_analyse_120 : decode cX8_analyse 120 = .ok (.getfield 85, 3) := by decide +kernel
theorem dX8_analyse_123 : decode cX8_analyse 123 = .ok (.if_icmp .ge 84, 3) := by decide +kernel
theorem dX8_analyse_126 : decode cX8_analyse 126 = .ok (.aload_n 0, 1) := by decide +kernel
theorem dX8_analyse_127 : decode cX8_analyse 127 = .ok (.getfield 16, 3) := by decide +kernel
theorem dX8_analyse_130 : decode cX8_analyse 130 = .ok (.iload_n 3, 1) := by decide +kernel
theorem dX8_analyse_131 : decode cX8_analyse 131 = .ok (.aload_n 0, 1) := by decide +kernel
theorem dX8_analyse_132 : decode cX8_analyse 132 = .ok (.getfield 34, 3) := by decide +kernel
theorem dX8_analyse_135 : decode cX8_analyse 135 = .ok (.bipush 17, 2) := by decide +kernel
theorem dX8_analyse_137 : decode cX8_analyse 137 = .ok (.iload_n 3, 1) := by decide +kernel
theorem dX8_analyse_138 : decode cX8_analyse 138 = .ok (.imul, 1) := by decide +kernel
theorem dX8_analyse_139 : decode cX8_analyse 139 = .ok (.baload, 1) := by decide +kernel
theorem dX8_analyse_140 : decode cX8_analyse 140 = .ok (.ifCond .eq 12, 3) := by decide +kernel
theorem dX8_analyse_143 : decode cX8_analyse 143 = .ok (.aload_n 0, 1) := by decide +kernel
theorem dX8_analyse_144 : decode cX8_analyse 144 = .ok (.getfield 13, 3) := by decide +kernel
theorem dX8_analyse_147 : decode cX8_analyse 147 = .ok (.iload_n 3, 1) := by decide +kernel
theorem dX8_analyse_148 : decode cX8_analyse 148 = .ok (.iaload, 1) := by decide +kernel
theorem dX8_analyse_149 : decode cX8_analyse 149 = .ok (.goto 4, 3) := by decide +kernel
theorem dX8_analyse_152 : decode cX8_analyse 152 = .ok (.iconst 0, 1) := by decide +kernel
theorem dX8_analyse_153 : decode cX8_analyse 153 = .ok (.iastore, 1) := by decide +kernel
theorem dX8_analyse_154 : decode cX8_analyse 154 = .ok (.iload_n 2, 1) := by decide +kernel
theorem dX8_analyse_155 : decode cX8_analyse 155 = .ok (.aload_n 0, 1) := by decide +kernel
theorem dX8_analyse_156 : decode cX8_analyse 156 = .ok (.getfield 34, 3) := by decide +kernel
theorem dX8_analyse_159 : decode cX8_analyse 159 = .ok (.bipush 17, 2) := by decide +kernel
theorem dX8_analyse_161 : decode cX8_analyse 161 = .ok (.iload_n 3, 1) := by decide +kernel
theorem dX8_analyse_162 : decode cX8_analyse 162 = .ok (.imul, 1) := by decide +kernel
theorem dX8_analyse_163 : decode cX8_analyse 163 = .ok (.baload, 1) := by decide +kernel
theorem dX8_analyse_164 : decode cX8_analyse 164 = .ok (.ifCond .eq 7, 3) := by decide +kernel
theorem dX8_analyse_167 : decode cX8_analyse 167 = .ok (.iconst 1, 1) := by decide +kernel
theorem dX8_analyse_168 : decode cX8_analyse 168 = .ok (.goto 4, 3) := by decide +kernel
theorem dX8_analyse_171 : decode cX8_analyse 171 = .ok (.iconst 0, 1) := by decide +kernel
theorem dX8_analyse_172 : decode cX8_analyse 172 = .ok (.iadd, 1) := by decide +kernel
theorem dX8_analyse_173 : decode cX8_analyse 173 = .ok (.istore_n 2, 1) := by decide +kernel
theorem dX8_analyse_174 : decode cX8_analyse 174 = .ok (.iconst 0, 1) := by decide +kernel
theorem dX8_analyse_175 : decode cX8_analyse 175 = .ok (.istore 4, 2) := by decide +kernel
theorem dX8_analyse_177 : decode cX8_analyse 177 = .ok (.iload 4, 2) := by decide +kernel
theorem dX8_analyse_179 : decode cX8_analyse 179 = .ok (.aload_n 0, 1) := by decide +kernel
theorem dX8_analyse_180 : decode cX8_analyse 180 = .ok (.getfield 16, 3) := by decide +kernel
theorem dX8_analyse_183 : decode cX8_analyse 183 = .ok (.iload_n 3, 1) := by decide +kernel
theorem dX8_analyse_184 : decode cX8_analyse 184 = .ok (.iaload, 1) := by decide +kernel
theorem dX8_analyse_185 : decode cX8_analyse 185 = .ok (.if_icmp .ge 16, 3) := by decide +kernel
theorem dX8_analyse_188 : decode cX8_analyse 188 = .ok (.aload_n 0, 1) := by decide +kernel
theorem dX8_analyse_189 : decode cX8_analyse 189 = .ok (.iload_n 3, 1) := by decide +kernel
theorem dX8_analyse_190 : decode cX8_analyse 190 = .ok (.iload 4, 2) := by decide +kernel
theorem dX8_analyse_192 : decode cX8_analyse 192 = .ok (.invokevirtual 171, 3) := by decide +kernel
theorem dX8_analyse_195 : decode cX8_analyse 195 = .ok (.iinc 4 1, 3) := by decide +kernel
theorem dX8_analyse_198 : decode cX8_analyse 198 = .ok (.goto (-21), 3) := by decide +kernel
theorem dX8_analyse_201 : decode cX8_analyse 201 = .ok (.iinc 3 1, 3) := by decide +kernel
theorem dX8_analyse_204 : decode cX8_analyse 204 = .ok (.goto (-86), 3) := by decide +kernel
theorem dX8_analyse_207 : decode cX8_analyse 207 = .ok (.iload_n 2, 1) := by decide +kernel
theorem dX8_analyse_208 : decode cX8_analyse 208 = .ok (.ireturn, 1) := by decide +kernel
theorem dX8_operandOf_0 : decode cX8_operandOf 0 = .ok (.iload_n 0, 1) := by decide +kernel
theorem dX8_operandOf_1 : decode cX8_operandOf 1 = .ok (.iconst 3, 1) := by decide +kernel
theorem dX8_operandOf_2 : decode cX8_operandOf 2 = .ok (.ishl, 1) := by decide +kernel
theorem dX8_operandOf_3 : decode cX8_operandOf 3 = .ok (.bipush 7, 2) := by decide +kernel
theorem dX8_operandOf_5 : decode cX8_operandOf 5 = .ok (.ior, 1) := by decide +kernel
theorem dX8_operandOf_6 : decode cX8_operandOf 6 = .ok (.ireturn, 1) := by decide +kernel
theorem dX8_renew_0 : decode cX8_renew 0 = .ok (.bipush 96, 2) := by decide +kernel
theorem dX8_renew_2 : decode cX8_renew 2 = .ok (.iload_n 1, 1) := by decide +kernel
theorem dX8_renew_3 : decode cX8_renew 3 = .ok (.imul, 1) := by decide +kernel
theorem dX8_renew_4 : decode cX8_renew 4 = .ok (.bipush 6, 2) := by decide +kernel
theorem dX8_renew_6 : decode cX8_renew 6 = .ok (.iload_n 2, 1) := by decide +kernel
theorem dX8_renew_7 : decode cX8_renew 7 = .ok (.imul, 1) := by decide +kernel
theorem dX8_renew_8 : decode cX8_renew 8 = .ok (.iadd, 1) := by decide +kernel
theorem dX8_renew_9 : decode cX8_renew 9 = .ok (.istore_n 3, 1) := by decide +kernel
theorem dX8_renew_10 : decode cX8_renew 10 = .ok (.bipush 17, 2) := by decide +kernel
theorem dX8_renew_12 : decode cX8_renew 12 = .ok (.iload_n 1, 1) := by decide +kernel
theorem dX8_renew_13 : decode cX8_renew 13 = .ok (.imul, 1) := by decide +kernel
theorem dX8_renew_14 : decode cX8_renew 14 = .ok (.iload_n 2, 1) := by decide +kernel
theorem dX8_renew_15 : decode cX8_renew 15 = .ok (.iadd, 1) := by decide +kernel
theorem dX8_renew_16 : decode cX8_renew 16 = .ok (.istore 4, 2) := by decide +kernel
theorem dX8_renew_18 : decode cX8_renew 18 = .ok (.iconst 0, 1) := by decide +kernel
theorem dX8_renew_19 : decode cX8_renew 19 = .ok (.istore 5, 2) := by decide +kernel
theorem dX8_renew_21 : decode cX8_renew 21 = .ok (.iload 5, 2) := by decide +kernel
theorem dX8_renew_23 : decode cX8_renew 23 = .ok (.bipush 6, 2) := by decide +kernel
theorem dX8_renew_25 : decode cX8_renew 25 = .ok (.if_icmp .ge 27, 3) := by decide +kernel
theorem dX8_renew_28 : decode cX8_renew 28 = .ok (.aload_n 0, 1) := by decide +kernel
theorem dX8_renew_29 : decode cX8_renew 29 = .ok (.getfield 25, 3) := by decide +kernel
theorem dX8_renew_32 : decode cX8_renew 32 = .ok (.iload_n 3, 1) := by decide +kernel
theorem dX8_renew_33 : decode cX8_renew 33 = .ok (.iload 5, 2) := by decide +kernel
theorem dX8_renew_35 : decode cX8_renew 35 = .ok (.iadd, 1) := by decide +kernel
theorem dX8_renew_36 : decode cX8_renew 36 = .ok (.aload_n 0, 1) := by decide +kernel
theorem dX8_renew_37 : decode cX8_renew 37 = .ok (.getfield 22, 3) := by decide +kernel
theorem dX8_renew_40 : decode cX8_renew 40 = .ok (.iload_n 3, 1) := by decide +kernel
theorem dX8_renew_41 : decode cX8_renew 41 = .ok (.iload 5, 2) := by decide +kernel
theorem dX8_renew_43 : decode cX8_renew 43 = .ok (.iadd, 1) := by decide +kernel
theorem dX8_renew_44 : decode cX8_renew 44 = .ok (.iaload, 1) := by decide +kernel
theorem dX8_renew_45 : decode cX8_renew 45 = .ok (.iastore, 1) := by decide +kernel
theorem dX8_renew_46 : decode cX8_renew 46 = .ok (.iinc 5 1, 3) := by decide +kernel
theorem dX8_renew_49 : decode cX8_renew 49 = .ok (.goto (-28), 3) := by decide +kernel
theorem dX8_renew_52 : decode cX8_renew 52 = .ok (.aload_n 0, 1) := by decide +kernel
theorem dX8_renew_53 : decode cX8_renew 53 = .ok (.getfield 22, 3) := by decide +kernel
theorem dX8_renew_56 : decode cX8_renew 56 = .ok (.iload_n 3, 1) := by decide +kernel
theorem dX8_renew_57 : decode cX8_renew 57 = .ok (.iaload, 1) := by decide +kernel
theorem dX8_renew_58 : decode cX8_renew 58 = .ok (.istore 5, 2) := by decide +kernel
theorem dX8_renew_60 : decode cX8_renew 60 = .ok (.aload_n 0, 1) := by decide +kernel
theorem dX8_renew_61 : decode cX8_renew 61 = .ok (.getfield 34, 3) := by decide +kernel
theorem dX8_renew_64 : decode cX8_renew 64 = .ok (.iload 4, 2) := by decide +kernel
theorem dX8_renew_66 : decode cX8_renew 66 = .ok (.baload, 1) := by decide +kernel
theorem dX8_renew_67 : decode cX8_renew 67 = .ok (.ifCond .ne 12, 3) := by decide +kernel
theorem dX8_renew_70 : decode cX8_renew 70 = .ok (.aload_n 0, 1) := by decide +kernel
theorem dX8_renew_71 : decode cX8_renew 71 = .ok (.getfield 25, 3) := by decide +kernel
theorem dX8_renew_74 : decode cX8_renew 74 = .ok (.iload_n 3, 1) := by decide +kernel
theorem dX8_renew_75 : decode cX8_renew 75 = .ok (.bipush 12, 2) := by decide +kernel
theorem dX8_renew_77 : decode cX8_renew 77 = .ok (.iastore, 1) := by decide +kernel
theorem dX8_renew_78 : decode cX8_renew 78 = .ok (.return_, 1) := by decide +kernel
theorem dX8_renew_79 : decode cX8_renew 79 = .ok (.iconst 2, 1) := by decide +kernel
theorem dX8_renew_80 : decode cX8_renew 80 = .ok (.istore 6, 2) := by decide +kernel
theorem dX8_renew_82 : decode cX8_renew 82 = .ok (.iload 6, 2) := by decide +kernel
theorem dX8_renew_84 : decode cX8_renew 84 = .ok (.bipush 6, 2) := by decide +kernel
theorem dX8_renew_86 : decode cX8_renew 86 = .ok (.if_icmp .ge 99, 3) := by decide +kernel
theorem dX8_renew_89 : decode cX8_renew 89 = .ok (.iload 6, 2) := by decide +kernel
theorem dX8_renew_91 : decode cX8_renew 91 = .ok (.iconst 2, 1) := by decide +kernel
theorem dX8_renew_92 : decode cX8_renew 92 = .ok (.if_icmp .ne 18, 3) := by decide +kernel
theorem dX8_renew_95 : decode cX8_renew 95 = .ok (.iload 5, 2) := by decide +kernel
theorem dX8_renew_97 : decode cX8_renew 97 = .ok (.bipush 11, 2) := by decide +kernel
theorem dX8_renew_99 : decode cX8_renew 99 = .ok (.if_icmp .ne 7, 3) := by decide +kernel
theorem dX8_renew_102 : decode cX8_renew 102 = .ok (.iconst 1, 1) := by decide +kernel
theorem dX8_renew_103 : decode cX8_renew 103 = .ok (.goto 24, 3) := by decide +kernel
theorem dX8_renew_106 : decode cX8_renew 106 = .ok (.iconst 0, 1) := by decide +kernel
theorem dX8_renew_107 : decode cX8_renew 107 = .ok (.goto 20, 3) := by decide +kernel
theorem dX8_renew_110 : decode cX8_renew 110 = .ok (.iload 6, 2) := by decide +kernel
theorem dX8_renew_112 : decode cX8_renew 112 = .ok (.iconst 3, 1) := by decide +kernel
theorem dX8_renew_113 : decode cX8_renew 113 = .ok (.isub, 1) := by decide +kernel
theorem dX8_renew_114 : decode cX8_renew 114 = .ok (.iload 5, 2) := by decide +kernel
theorem dX8_renew_116 : decode cX8_renew 116 = .ok (.invokestatic 91, 3) := by decide +kernel
theorem dX8_renew_119 : decode cX8_renew 119 = .ok (.if_icmp .ge 7, 3) := by decide +kernel
theorem dX8_renew_122 : decode cX8_renew 122 = .ok (.iconst 1, 1) := by decide +kernel
theorem dX8_renew_123 : decode cX8_renew 123 = .ok (.goto 4, 3) := by decide +kernel
theorem dX8_renew_126 : decode cX8_renew 126 = .ok (.iconst 0, 1) := by decide +kernel
theorem dX8_renew_127 : decode cX8_renew 127 = .ok (.istore 7, 2) := by decide +kernel
theorem dX8_renew_129 : decode cX8_renew 129 = .ok (.iload 7, 2) := by decide +kernel
theorem dX8_renew_131 : decode cX8_renew 131 = .ok (.ifCond .eq 48, 3) := by decide +kernel
theorem dX8_renew_134 : decode cX8_renew 134 = .ok (.aload_n 0, 1) := by decide +kernel
theorem dX8_renew_135 : decode cX8_renew 135 = .ok (.iload 4, 2) := by decide +kernel
theorem dX8_renew_137 : decode cX8_renew 137 = .ok (.aload_n 0, 1) := by decide +kernel
theorem dX8_renew_138 : decode cX8_renew 138 = .ok (.getfield 22, 3) := by decide +kernel
theorem dX8_renew_141 : decode cX8_renew 141 = .ok (.iload_n 3, 1) := by decide +kernel
theorem dX8_renew_142 : decode cX8_renew 142 = .ok (.iload 6, 2) := by decide +kernel
theorem dX8_renew_144 : decode cX8_renew 144 = .ok (.iadd, 1) := by decide +kernel
theorem dX8_renew_145 : decode cX8_renew 145 = .ok (.iaload, 1) := by decide +kernel
theorem dX8_renew_146 : decode cX8_renew 146 = .ok (.invokevirtual 118, 3) := by decide +kernel
theorem dX8_renew_149 : decode cX8_renew 149 = .ok (.ifCond .eq 30, 3) := by decide +kernel
theorem dX8_renew_152 : decode cX8_renew 152 = .ok (.aload_n 0, 1) := by decide +kernel
theorem dX8_renew_153 : decode cX8_renew 153 = .ok (.getfield 25, 3) := by decide +kernel
theorem dX8_renew_156 : decode cX8_renew 156 = .ok (.iload_n 3, 1) := by decide +kernel
theorem dX8_renew_157 : decode cX8_renew 157 = .ok (.iload 6, 2) := by decide +kernel
theorem dX8_renew_159 : decode cX8_renew 159 = .ok (.iadd, 1) := by decide +kernel
theorem dX8_renew_160 : decode cX8_renew 160 = .ok (.aload_n 0, 1) := by decide +kernel
theorem dX8_renew_161 : decode cX8_renew 161 = .ok (.iload 4, 2) := by decide +kernel
theorem dX8_renew_163 : decode cX8_renew 163 = .ok (.aload_n 0, 1) := by decide +kernel
theorem dX8_renew_164 : decode cX8_renew 164 = .ok (.getfield 22, 3) := by decide +kernel
theorem dX8_renew_167 : decode cX8_renew 167 = .ok (.iload_n 3, 1) := by decide +kernel
theorem dX8_renew_168 : decode cX8_renew 168 = .ok (.iload 6, 2) := by decide +kernel
theorem dX8_renew_170 : decode cX8_renew 170 = .ok (.iadd, 1) := by decide +kernel
theorem dX8_renew_171 : decode cX8_renew 171 = .ok (.iaload, 1) := by decide +kernel
theorem dX8_renew_172 : decode cX8_renew 172 = .ok (.invokevirtual 122, 3) := by decide +kernel
theorem dX8_renew_175 : decode cX8_renew 175 = .ok (.invokestatic 174, 3) := by decide +kernel
theorem dX8_renew_178 : decode cX8_renew 178 = .ok (.iastore, 1) := by decide +kernel
theorem dX8_renew_179 : decode cX8_renew 179 = .ok (.iinc 6 1, 3) := by decide +kernel
theorem dX8_renew_182 : decode cX8_renew 182 = .ok (.goto (-100), 3) := by decide +kernel
theorem dX8_renew_185 : decode cX8_renew 185 = .ok (.iload 5, 2) := by decide +kernel
theorem dX8_renew_187 : decode cX8_renew 187 = .ok (.bipush 7, 2) := by decide +kernel
theorem dX8_renew_189 : decode cX8_renew 189 = .ok (.if_icmp .ne 43, 3) := by decide +kernel
theorem dX8_renew_192 : decode cX8_renew 192 = .ok (.aload_n 0, 1) := by decide +kernel
theorem dX8_renew_193 : decode cX8_renew 193 = .ok (.getfield 25, 3) := by decide +kernel
theorem dX8_renew_196 : decode cX8_renew 196 = .ok (.iload_n 3, 1) := by decide +kernel
theorem dX8_renew_197 : decode cX8_renew 197 = .ok (.iconst 3, 1) := by decide +kernel
theorem dX8_renew_198 : decode cX8_renew 198 = .ok (.iadd, 1) := by decide +kernel
theorem dX8_renew_199 : decode cX8_renew 199 = .ok (.iaload, 1) := by decide +kernel
theorem dX8_renew_200 : decode cX8_renew 200 = .ok (.invokestatic 112, 3) := by decide +kernel
theorem dX8_renew_203 : decode cX8_renew 203 = .ok (.ifCond .eq 29, 3) := by decide +kernel
theorem dX8_renew_206 : decode cX8_renew 206 = .ok (.aload_n 0, 1) := by decide +kernel
theorem dX8_renew_207 : decode cX8_renew 207 = .ok (.getfield 25, 3) := by decide +kernel
theorem dX8_renew_210 : decode cX8_renew 210 = .ok (.iload_n 3, 1) := by decide +kernel
theorem dX8_renew_211 : decode cX8_renew 211 = .ok (.aload_n 0, 1) := by decide +kernel
theorem dX8_renew_212 : decode cX8_renew 212 = .ok (.getfield 25, 3) := by decide +kernel
theorem dX8_renew_215 : decode cX8_renew 215 = .ok (.iload_n 3, 1) := by decide +kernel
theorem dX8_renew_216 : decode cX8_renew 216 = .ok (.iconst 3, 1) := by decide +kernel
theorem dX8_renew_217 : decode cX8_renew 217 = .ok (.iadd, 1) := by decide +kernel
theorem dX8_renew_218 : decode cX8_renew 218 = .ok (.iaload, 1) := by decide +kernel
theorem dX8_renew_219 : decode cX8_renew 219 = .ok (.iconst 3, 1) := by decide +kernel
theorem dX8_renew_220 : decode cX8_renew 220 = .ok (.ishr, 1) := by decide +kernel
theorem dX8_renew_221 : decode cX8_renew 221 = .ok (.ifCond .eq 8, 3) := by decide +kernel
theorem dX8_renew_224 : decode cX8_renew 224 = .ok (.bipush 8, 2) := by decide +kernel
theorem dX8_renew_226 : decode cX8_renew 226 = .ok (.goto 5, 3) := by decide +kernel
theorem dX8_renew_229 : decode cX8_renew 229 = .ok (.bipush 12, 2) := by decide +kernel
theorem dX8_renew_231 : decode cX8_renew 231 = .ok (.iastore, 1) := by decide +kernel
theorem dX8_renew_232 : decode cX8_renew 232 = .ok (.iload 5, 2) := by decide +kernel
theorem dX8_renew_234 : decode cX8_renew 234 = .ok (.bipush 11, 2) := by decide +kernel
theorem dX8_renew_236 : decode cX8_renew 236 = .ok (.if_icmp .ne 17, 3) := by decide +kernel
theorem dX8_renew_239 : decode cX8_renew 239 = .ok (.aload_n 0, 1) := by decide +kernel
theorem dX8_renew_240 : decode cX8_renew 240 = .ok (.getfield 25, 3) := by decide +kernel
theorem dX8_renew_243 : decode cX8_renew 243 = .ok (.iload_n 3, 1) := by decide +kernel
theorem dX8_renew_244 : decode cX8_renew 244 = .ok (.iconst 2, 1) := by decide +kernel
theorem dX8_renew_245 : decode cX8_renew 245 = .ok (.iadd, 1) := by decide +kernel
theorem dX8_renew_246 : decode cX8_renew 246 = .ok (.iaload, 1) := by decide +kernel
theorem dX8_renew_247 : decode cX8_renew 247 = .ok (.invokestatic 112, 3) := by decide +kernel
theorem dX8_renew_250 : decode cX8_renew 250 = .ok (.ifCond .ne 4, 3) := by decide +kernel
theorem dX8_renew_253 : decode cX8_renew 253 = .ok (.return_, 1) := by decide +kernel
theorem dX8_renew_254 : decode cX8_renew 254 = .ok (.aload_n 0, 1) := by decide +kernel
theorem dX8_renew_255 : decode cX8_renew 255 = .ok (.getfield 25, 3) := by decide +kernel
theorem dX8_renew_258 : decode cX8_renew 258 = .ok (.iload_n 3, 1) := by decide +kernel
theorem dX8_renew_259 : decode cX8_renew 259 = .ok (.aload_n 0, 1) := by decide +kernel
theorem dX8_renew_260 : decode cX8_renew 260 = .ok (.getfield 106, 3) := by decide +kernel
theorem dX8_renew_263 : decode cX8_renew 263 = .ok (.ifCond .ne 7, 3) := by decide +kernel
theorem dX8_renew_266 : decode cX8_renew 266 = .ok (.iconst 0, 1) := by decide +kernel
theorem dX8_renew_267 : decode cX8_renew 267 = .ok (.goto 5, 3) := by decide +kernel
theorem dX8_renew_270 : decode cX8_renew 270 = .ok (.bipush 10, 2) := by decide +kernel
theorem dX8_renew_272 : decode cX8_renew 272 = .ok (.iastore, 1) := by decide +kernel
theorem dX8_renew_273 : decode cX8_renew 273 = .ok (.aload_n 0, 1) := by decide +kernel
theorem dX8_renew_274 : decode cX8_renew 274 = .ok (.getfield 106, 3) := by decide +kernel
theorem dX8_renew_277 : decode cX8_renew 277 = .ok (.ifCond .ne 18, 3) := by decide +kernel
theorem dX8_renew_280 : decode cX8_renew 280 = .ok (.aload_n 0, 1) := by decide +kernel
theorem dX8_renew_281 : decode cX8_renew 281 = .ok (.getfield 25, 3) := by decide +kernel
theorem dX8_renew_284 : decode cX8_renew 284 = .ok (.iload_n 3, 1) := by decide +kernel
theorem dX8_renew_285 : decode cX8_renew 285 = .ok (.iconst 3, 1) := by decide +kernel
theorem dX8_renew_286 : decode cX8_renew 286 = .ok (.iadd, 1) := by decide +kernel
theorem dX8_renew_287 : decode cX8_renew 287 = .ok (.iconst 0, 1) := by decide +kernel
theorem dX8_renew_288 : decode cX8_renew 288 = .ok (.invokestatic 174, 3) := by decide +kernel
theorem dX8_renew_291 : decode cX8_renew 291 = .ok (.iastore, 1) := by decide +kernel
theorem dX8_renew_292 : decode cX8_renew 292 = .ok (.goto 25, 3) := by decide +kernel
theorem dX8_renew_295 : decode cX8_renew 295 = .ok (.aload_n 0, 1) := by decide +kernel
theorem dX8_renew_296 : decode cX8_renew 296 = .ok (.getfield 25, 3) := by decide +kernel
theorem dX8_renew_299 : decode cX8_renew 299 = .ok (.iload_n 3, 1) := by decide +kernel
theorem dX8_renew_300 : decode cX8_renew 300 = .ok (.iconst 2, 1) := by decide +kernel
theorem dX8_renew_301 : decode cX8_renew 301 = .ok (.iadd, 1) := by decide +kernel
theorem dX8_renew_302 : decode cX8_renew 302 = .ok (.aload_n 0, 1) := by decide +kernel
theorem dX8_renew_303 : decode cX8_renew 303 = .ok (.aload_n 0, 1) := by decide +kernel
theorem dX8_renew_304 : decode cX8_renew 304 = .ok (.getfield 25, 3) := by decide +kernel
theorem dX8_renew_307 : decode cX8_renew 307 = .ok (.iload_n 3, 1) := by decide +kernel
theorem dX8_renew_308 : decode cX8_renew 308 = .ok (.iconst 2, 1) := by decide +kernel
theorem dX8_renew_309 : decode cX8_renew 309 = .ok (.iadd, 1) := by decide +kernel
theorem dX8_renew_310 : decode cX8_renew 310 = .ok (.iaload, 1) := by decide +kernel
theorem dX8_renew_311 : decode cX8_renew 311 = .ok (.iconst 3, 1) := by decide +kernel
theorem dX8_renew_312 : decode cX8_renew 312 = .ok (.ishr, 1) := by decide +kernel
theorem dX8_renew_313 : decode cX8_renew 313 = .ok (.invokevirtual 134, 3) := by decide +kernel
theorem dX8_renew_316 : decode cX8_renew 316 = .ok (.iastore, 1) := by decide +kernel
theorem dX8_renew_317 : decode cX8_renew 317 = .ok (.return_, 1) := by decide +kernel
theorem dX8_functions_0 : decode cX8_functions 0 = .ok (.aload_n 0, 1) := by decide +kernel
theorem dX8_functions_1 : decode cX8_functions 1 = .ok (.iconst 0, 1) := by decide +kernel
theorem dX8_functions_2 : decode cX8_functions 2 = .ok (.putfield 74, 3) := by decide +kernel
theorem dX8_functions_5 : decode cX8_functions 5 = .ok (.aload_n 0, 1) := by decide +kernel
theorem dX8_functions_6 : decode cX8_functions 6 = .ok (.getfield 85, 3) := by decide +kernel
theorem dX8_functions_9 : decode cX8_functions 9 = .ok (.ireturn, 1) := by decide +kernel
theorem dX8_find_0 : decode cX8_find 0 = .ok (.aload_n 0, 1) := by decide +kernel
theorem dX8_find_1 : decode cX8_find 1 = .ok (.aload_n 0, 1) := by decide +kernel
theorem dX8_find_2 : decode cX8_find 2 = .ok (.getfield 78, 3) := by decide +kernel
theorem dX8_find_5 : decode cX8_find 5 = .ok (.ifCond .ne 7, 3) := by decide +kernel
theorem dX8_find_8 : decode cX8_find 8 = .ok (.iconst 1, 1) := by decide +kernel
theorem dX8_find_9 : decode cX8_find 9 = .ok (.goto 40, 3) := by decide +kernel
theorem dX8_find_12 : decode cX8_find 12 = .ok (.iload_n 1, 1) := by decide +kernel
theorem dX8_find_13 : decode cX8_find 13 = .ok (.ifCond .lt 31, 3) := by decide +kernel
theorem dX8_find_16 : decode cX8_find 16 = .ok (.iload_n 1, 1) := by decide +kernel
theorem dX8_find_17 : decode cX8_find 17 = .ok (.aload_n 0, 1) := by decide +kernel
theorem dX8_find_18 : decode cX8_find 18 = .ok (.getfield 85, 3) := by decide +kernel
theorem dX8_find_21 : decode cX8_find 21 = .ok (.if_icmp .ge 23, 3) := by decide +kernel
theorem dX8_find_24 : decode cX8_find 24 = .ok (.iload_n 2, 1) := by decide +kernel
theorem dX8_find_25 : decode cX8_find 25 = .ok (.ifCond .lt 19, 3) := by decide +kernel
theorem dX8_find_28 : decode cX8_find 28 = .ok (.iload_n 2, 1) := by decide +kernel
theorem dX8_find_29 : decode cX8_find 29 = .ok (.bipush 16, 2) := by decide +kernel
theorem dX8_find_31 : decode cX8_find 31 = .ok (.if_icmp .gt 13, 3) := by decide +kernel
theorem dX8_find_34 : decode cX8_find 34 = .ok (.iload_n 3, 1) := by decide +kernel
theorem dX8_find_35 : decode cX8_find 35 = .ok (.ifCond .lt 9, 3) := by decide +kernel
theorem dX8_find_38 : decode cX8_find 38 = .ok (.iload_n 3, 1) := by decide +kernel
theorem dX8_find_39 : decode cX8_find 39 = .ok (.bipush 6, 2) := by decide +kernel
theorem dX8_find_41 : decode cX8_find 41 = .ok (.if_icmp .lt 7, 3) := by decide +kernel
theorem dX8_find_44 : decode cX8_find 44 = .ok (.iconst 2, 1) := by decide +kernel
theorem dX8_find_45 : decode cX8_find 45 = .ok (.goto 4, 3) := by decide +kernel
theorem dX8_find_48 : decode cX8_find 48 = .ok (.iconst 0, 1) := by decide +kernel
theorem dX8_find_49 : decode cX8_find 49 = .ok (.putfield 74, 3) := by decide +kernel
theorem dX8_find_52 : decode cX8_find 52 = .ok (.aload_n 0, 1) := by decide +kernel
theorem dX8_find_53 : decode cX8_find 53 = .ok (.getfield 74, 3) := by decide +kernel
theorem dX8_find_56 : decode cX8_find 56 = .ok (.ifCond .le 7, 3) := by decide +kernel
theorem dX8_find_59 : decode cX8_find 59 = .ok (.iconst 0, 1) := by decide +kernel
theorem dX8_find_60 : decode cX8_find 60 = .ok (.goto 33, 3) := by decide +kernel
theorem dX8_find_63 : decode cX8_find 63 = .ok (.bipush 6, 2) := by decide +kernel
theorem dX8_find_65 : decode cX8_find 65 = .ok (.bipush 17, 2) := by decide +kernel
theorem dX8_find_67 : decode cX8_find 67 = .ok (.iload_n 1, 1) := by decide +kernel
theorem dX8_find_68 : decode cX8_find 68 = .ok (.imul, 1) := by decide +kernel
theorem dX8_find_69 : decode cX8_find 69 = .ok (.iload_n 2, 1) := by decide +kernel
theorem dX8_find_70 : decode cX8_find 70 = .ok (.aload_n 0, 1) := by decide +kernel
theorem dX8_find_71 : decode cX8_find 71 = .ok (.getfield 13, 3) := by decide +kernel
theorem dX8_find_74 : decode cX8_find 74 = .ok (.iload_n 1, 1) := by decide +kernel
theorem dX8_find_75 : decode cX8_find 75 = .ok (.iaload, 1) := by decide +kernel
theorem dX8_find_76 : decode cX8_find 76 = .ok (.if_icmp .le 12, 3) := by decide +kernel
theorem dX8_find_79 : decode cX8_find 79 = .ok (.aload_n 0, 1) := by decide +kernel
theorem dX8_find_80 : decode cX8_find 80 = .ok (.getfield 13, 3) := by decide +kernel
theorem dX8_find_83 : decode cX8_find 83 = .ok (.iload_n 1, 1) := by decide +kernel
theorem dX8_find_84 : decode cX8_find 84 = .ok (.iaload, 1) := by decide +kernel
theorem dX8_find_85 : decode cX8_find 85 = .ok (.goto 4, 3) := by decide +kernel
theorem dX8_find_88 : decode cX8_find 88 = .ok (.iload_n 2, 1) := by decide +kernel
theorem dX8_find_89 : decode cX8_find 89 = .ok (.iadd, 1) := by decide +kernel
theorem dX8_find_90 : decode cX8_find 90 = .ok (.imul, 1) := by decide +kernel
theorem dX8_find_91 : decode cX8_find 91 = .ok (.iload_n 3, 1) := by decide +kernel
theorem dX8_find_92 : decode cX8_find 92 = .ok (.iadd, 1) := by decide +kernel
theorem dX8_find_93 : decode cX8_find 93 = .ok (.ireturn, 1) := by decide +kernel
theorem dX8_kind_0 : decode cX8_kind 0 = .ok (.aload_n 0, 1) := by decide +kernel
theorem dX8_kind_1 : decode cX8_kind 1 = .ok (.iload_n 1, 1) := by decide +kernel
theorem dX8_kind_2 : decode cX8_kind 2 = .ok (.iload_n 2, 1) := by decide +kernel
theorem dX8_kind_3 : decode cX8_kind 3 = .ok (.iload_n 3, 1) := by decide +kernel
theorem dX8_kind_4 : decode cX8_kind 4 = .ok (.invokevirtual 177, 3) := by decide +kernel
theorem dX8_kind_7 : decode cX8_kind 7 = .ok (.istore 4, 2) := by decide +kernel
theorem dX8_kind_9 : decode cX8_kind 9 = .ok (.aload_n 0, 1) := by decide +kernel
theorem dX8_kind_10 : decode cX8_kind 10 = .ok (.getfield 74, 3) := by decide +kernel
theorem dX8_kind_13 : decode cX8_kind 13 = .ok (.ifCond .gt 16, 3) := by decide +kernel
theorem dX8_kind_16 : decode cX8_kind 16 = .ok (.aload_n 0, 1) := by decide +kernel
theorem dX8_kind_17 : decode cX8_kind 17 = .ok (.getfield 34, 3) := by decide +kernel
theorem dX8_kind_20 : decode cX8_kind 20 = .ok (.iload 4, 2) := by decide +kernel
theorem dX8_kind_22 : decode cX8_kind 22 = .ok (.bipush 6, 2) := by decide +kernel
theorem dX8_kind_24 : decode cX8_kind 24 = .ok (.idiv, 1) := by decide +kernel
theorem dX8_kind_25 : decode cX8_kind 25 = .ok (.baload, 1) := by decide +kernel
theorem dX8_kind_26 : decode cX8_kind 26 = .ok (.ifCond .ne 7, 3) := by decide +kernel
theorem dX8_kind_29 : decode cX8_kind 29 = .ok (.iconst 0, 1) := by decide +kernel
theorem dX8_kind_30 : decode cX8_kind 30 = .ok (.goto 18, 3) := by decide +kernel
theorem dX8_kind_33 : decode cX8_kind 33 = .ok (.aload_n 0, 1) := by decide +kernel
theorem dX8_kind_34 : decode cX8_kind 34 = .ok (.getfield 38, 3) := by decide +kernel
theorem dX8_kind_37 : decode cX8_kind 37 = .ok (.iload 4, 2) := by decide +kernel
theorem dX8_kind_39 : decode cX8_kind 39 = .ok (.baload, 1) := by decide +kernel
theorem dX8_kind_40 : decode cX8_kind 40 = .ok (.ifCond .eq 7, 3) := by decide +kernel
theorem dX8_kind_43 : decode cX8_kind 43 = .ok (.iconst 2, 1) := by decide +kernel
theorem dX8_kind_44 : decode cX8_kind 44 = .ok (.goto 4, 3) := by decide +kernel
theorem dX8_kind_47 : decode cX8_kind 47 = .ok (.iconst 1, 1) := by decide +kernel
theorem dX8_kind_48 : decode cX8_kind 48 = .ok (.ireturn, 1) := by decide +kernel
theorem dX8_number_0 : decode cX8_number 0 = .ok (.aload_n 0, 1) := by decide +kernel
theorem dX8_number_1 : decode cX8_number 1 = .ok (.iload_n 1, 1) := by decide +kernel
theorem dX8_number_2 : decode cX8_number 2 = .ok (.iload_n 2, 1) := by decide +kernel
theorem dX8_number_3 : decode cX8_number 3 = .ok (.iload_n 3, 1) := by decide +kernel
theorem dX8_number_4 : decode cX8_number 4 = .ok (.invokevirtual 177, 3) := by decide +kernel
theorem dX8_number_7 : decode cX8_number 7 = .ok (.istore 4, 2) := by decide +kernel
theorem dX8_number_9 : decode cX8_number 9 = .ok (.aload_n 0, 1) := by decide +kernel
theorem dX8_number_10 : decode cX8_number 10 = .ok (.getfield 74, 3) := by decide +kernel
theorem dX8_number_13 : decode cX8_number 13 = .ok (.ifCond .gt 16, 3) := by decide +kernel
theorem dX8_number_16 : decode cX8_number 16 = .ok (.aload_n 0, 1) := by decide +kernel
theorem dX8_number_17 : decode cX8_number 17 = .ok (.getfield 34, 3) := by decide +kernel
theorem dX8_number_20 : decode cX8_number 20 = .ok (.iload 4, 2) := by decide +kernel
theorem dX8_number_22 : decode cX8_number 22 = .ok (.bipush 6, 2) := by decide +kernel
theorem dX8_number_24 : decode cX8_number 24 = .ok (.idiv, 1) := by decide +kernel
theorem dX8_number_25 : decode cX8_number 25 = .ok (.baload, 1) := by decide +kernel
theorem dX8_number_26 : decode cX8_number 26 = .ok (.ifCond .ne 7, 3) := by decide +kernel
theorem dX8_number_29 : decode cX8_number 29 = .ok (.iconst 0, 1) := by decide +kernel
theorem dX8_number_30 : decode cX8_number 30 = .ok (.goto 10, 3) := by decide +kernel
theorem dX8_number_33 : decode cX8_number 33 = .ok (.aload_n 0, 1) := by decide +kernel
theorem dX8_number_34 : decode cX8_number 34 = .ok (.getfield 41, 3) := by decide +kernel
theorem dX8_number_37 : decode cX8_number 37 = .ok (.iload 4, 2) := by decide +kernel
theorem dX8_number_39 : decode cX8_number 39 = .ok (.iaload, 1) := by decide +kernel
theorem dX8_number_40 : decode cX8_number 40 = .ok (.ireturn, 1) := by decide +kernel
theorem dX8_statement_0 : decode cX8_statement 0 = .ok (.aload_n 0, 1) := by decide +kernel
theorem dX8_statement_1 : decode cX8_statement 1 = .ok (.aload_n 0, 1) := by decide +kernel
theorem dX8_statement_2 : decode cX8_statement 2 = .ok (.getfield 78, 3) := by decide +kernel
theorem dX8_statement_5 : decode cX8_statement 5 = .ok (.ifCond .ne 7, 3) := by decide +kernel
theorem dX8_statement_8 : decode cX8_statement 8 = .ok (.iconst 1, 1) := by decide +kernel
theorem dX8_statement_9 : decode cX8_statement 9 = .ok (.goto 47, 3) := by decide +kernel
theorem dX8_statement_12 : decode cX8_statement 12 = .ok (.iload_n 1, 1) := by decide +kernel
theorem dX8_statement_13 : decode cX8_statement 13 = .ok (.ifCond .lt 25, 3) := by decide +kernel
theorem dX8_statement_16 : decode cX8_statement 16 = .ok (.iload_n 1, 1) := by decide +kernel
theorem dX8_statement_17 : decode cX8_statement 17 = .ok (.aload_n 0, 1) := by decide +kernel
theorem dX8_statement_18 : decode cX8_statement 18 = .ok (.getfield 85, 3) := by decide +kernel
theorem dX8_statement_21 : decode cX8_statement 21 = .ok (.if_icmp .ge 17, 3) := by decide +kernel
theorem dX8_statement_24 : decode cX8_statement 24 = .ok (.iload_n 2, 1) := by decide +kernel
theorem dX8_statement_25 : decode cX8_statement 25 = .ok (.ifCond .lt 13, 3) := by decide +kernel
theorem dX8_statement_28 : decode cX8_statement 28 = .ok (.iload_n 2, 1) := by decide +kernel
theorem dX8_statement_29 : decode cX8_statement 29 = .ok (.aload_n 0, 1) := by decide +kernel
theorem dX8_statement_30 : decode cX8_statement 30 = .ok (.getfield 16, 3) := by decide +kernel
theorem dX8_statement_33 : decode cX8_statement 33 = .ok (.iload_n 1, 1) := by decide +kernel
theorem dX8_statement_34 : decode cX8_statement 34 = .ok (.iaload, 1) := by decide +kernel
theorem dX8_statement_35 : decode cX8_statement 35 = .ok (.if_icmp .lt 7, 3) := by decide +kernel
theorem dX8_statement_38 : decode cX8_statement 38 = .ok (.iconst 2, 1) := by decide +kernel
theorem dX8_statement_39 : decode cX8_statement 39 = .ok (.goto 17, 3) := by decide +kernel
theorem dX8_statement_42 : decode cX8_statement 42 = .ok (.iload_n 3, 1) := by decide +kernel
theorem dX8_statement_43 : decode cX8_statement 43 = .ok (.ifCond .lt 8, 3) := by decide +kernel
theorem dX8_statement_46 : decode cX8_statement 46 = .ok (.iload_n 3, 1) := by decide +kernel
theorem dX8_statement_47 : decode cX8_statement 47 = .ok (.iconst 5, 1) := by decide +kernel
theorem dX8_statement_48 : decode cX8_statement 48 = .ok (.if_icmp .le 7, 3) := by decide +kernel
theorem dX8_statement_51 : decode cX8_statement 51 = .ok (.iconst 3, 1) := by decide +kernel
theorem dX8_statement_52 : decode cX8_statement 52 = .ok (.goto 4, 3) := by decide +kernel
theorem dX8_statement_55 : decode cX8_statement 55 = .ok (.iconst 0, 1) := by decide +kernel
theorem dX8_statement_56 : decode cX8_statement 56 = .ok (.putfield 74, 3) := by decide +kernel
theorem dX8_statement_59 : decode cX8_statement 59 = .ok (.aload_n 0, 1) := by decide +kernel
theorem dX8_statement_60 : decode cX8_statement 60 = .ok (.getfield 74, 3) := by decide +kernel
theorem dX8_statement_63 : decode cX8_statement 63 = .ok (.ifCond .le 7, 3) := by decide +kernel
theorem dX8_statement_66 : decode cX8_statement 66 = .ok (.iconst 0, 1) := by decide +kernel
theorem dX8_statement_67 : decode cX8_statement 67 = .ok (.goto 19, 3) := by decide +kernel
theorem dX8_statement_70 : decode cX8_statement 70 = .ok (.aload_n 0, 1) := by decide +kernel
theorem dX8_statement_71 : decode cX8_statement 71 = .ok (.getfield 25, 3) := by decide +kernel
theorem dX8_statement_74 : decode cX8_statement 74 = .ok (.bipush 96, 2) := by decide +kernel
theorem dX8_statement_76 : decode cX8_statement 76 = .ok (.iload_n 1, 1) := by decide +kernel
theorem dX8_statement_77 : decode cX8_statement 77 = .ok (.imul, 1) := by decide +kernel
theorem dX8_statement_78 : decode cX8_statement 78 = .ok (.bipush 6, 2) := by decide +kernel
theorem dX8_statement_80 : decode cX8_statement 80 = .ok (.iload_n 2, 1) := by decide +kernel
theorem dX8_statement_81 : decode cX8_statement 81 = .ok (.imul, 1) := by decide +kernel
theorem dX8_statement_82 : decode cX8_statement 82 = .ok (.iadd, 1) := by decide +kernel
theorem dX8_statement_83 : decode cX8_statement 83 = .ok (.iload_n 3, 1) := by decide +kernel
theorem dX8_statement_84 : decode cX8_statement 84 = .ok (.iadd, 1) := by decide +kernel
theorem dX8_statement_85 : decode cX8_statement 85 = .ok (.iaload, 1) := by decide +kernel
theorem dX8_statement_86 : decode cX8_statement 86 = .ok (.ireturn, 1) := by decide +kernel
theorem dX8_valueOf_0 : decode cX8_valueOf 0 = .ok (.iload_n 1, 1) := by decide +kernel
theorem dX8_valueOf_1 : decode cX8_valueOf 1 = .ok (.invokestatic 112, 3) := by decide +kernel
theorem dX8_valueOf_4 : decode cX8_valueOf 4 = .ok (.ifCond .eq 9, 3) := by decide +kernel
theorem dX8_valueOf_7 : decode cX8_valueOf 7 = .ok (.iload_n 1, 1) := by decide +kernel
theorem dX8_valueOf_8 : decode cX8_valueOf 8 = .ok (.iconst 3, 1) := by decide +kernel
theorem dX8_valueOf_9 : decode cX8_valueOf 9 = .ok (.ishr, 1) := by decide +kernel
theorem dX8_valueOf_10 : decode cX8_valueOf 10 = .ok (.goto 22, 3) := by decide +kernel
theorem dX8_valueOf_13 : decode cX8_valueOf 13 = .ok (.aload_n 0, 1) := by decide +kernel
theorem dX8_valueOf_14 : decode cX8_valueOf 14 = .ok (.getfield 59, 3) := by decide +kernel
theorem dX8_valueOf_17 : decode cX8_valueOf 17 = .ok (.bipush 6, 2) := by decide +kernel
theorem dX8_valueOf_19 : decode cX8_valueOf 19 = .ok (.aload_n 0, 1) := by decide +kernel
theorem dX8_valueOf_20 : decode cX8_valueOf 20 = .ok (.getfield 180, 3) := by decide +kernel
theorem dX8_valueOf_23 : decode cX8_valueOf 23 = .ok (.iconst 1, 1) := by decide +kernel
theorem dX8_valueOf_24 : decode cX8_valueOf 24 = .ok (.isub, 1) := by decide +kernel
theorem dX8_valueOf_25 : decode cX8_valueOf 25 = .ok (.imul, 1) := by decide +kernel
theorem dX8_valueOf_26 : decode cX8_valueOf 26 = .ok (.iload_n 1, 1) := by decide +kernel
theorem dX8_valueOf_27 : decode cX8_valueOf 27 = .ok (.bipush 7, 2) := by decide +kernel
theorem dX8_valueOf_29 : decode cX8_valueOf 29 = .ok (.iand, 1) := by decide +kernel
theorem dX8_valueOf_30 : decode cX8_valueOf 30 = .ok (.iadd, 1) := by decide +kernel
theorem dX8_valueOf_31 : decode cX8_valueOf 31 = .ok (.iaload, 1) := by decide +kernel
theorem dX8_valueOf_32 : decode cX8_valueOf 32 = .ok (.ireturn, 1) := by decide +kernel
theorem dX8_note_0 : decode cX8_note 0 = .ok (.aload_n 0, 1) := by decide +kernel
theorem dX8_note_1 : decode cX8_note 1 = .ok (.getfield 71, 3) := by decide +kernel
theorem dX8_note_4 : decode cX8_note 4 = .ok (.iconst 3, 1) := by decide +kernel
theorem dX8_note_5 : decode cX8_note 5 = .ok (.iload_n 1, 1) := by decide +kernel
theorem dX8_note_6 : decode cX8_note 6 = .ok (.imul, 1) := by decide +kernel
theorem dX8_note_7 : decode cX8_note 7 = .ok (.iload_n 2, 1) := by decide +kernel
theorem dX8_note_8 : decode cX8_note 8 = .ok (.iadd, 1) := by decide +kernel
theorem dX8_note_9 : decode cX8_note 9 = .ok (.aload_n 0, 1) := by decide +kernel
theorem dX8_note_10 : decode cX8_note 10 = .ok (.getfield 71, 3) := by decide +kernel
theorem dX8_note_13 : decode cX8_note 13 = .ok (.iconst 3, 1) := by decide +kernel
theorem dX8_note_14 : decode cX8_note 14 = .ok (.iload_n 1, 1) := by decide +kernel
theorem dX8_note_15 : decode cX8_note 15 = .ok (.imul, 1) := by decide +kernel
theorem dX8_note_16 : decode cX8_note 16 = .ok (.iload_n 2, 1) := by decide +kernel
theorem dX8_note_17 : decode cX8_note 17 = .ok (.iadd, 1) := by decide +kernel
theorem dX8_note_18 : decode cX8_note 18 = .ok (.baload, 1) := by decide +kernel
theorem dX8_note_19 : decode cX8_note 19 = .ok (.ifCond .ne 26, 3) := by decide +kernel
theorem dX8_note_22 : decode cX8_note 22 = .ok (.aload_n 0, 1) := by decide +kernel
theorem dX8_note_23 : decode cX8_note 23 = .ok (.getfield 65, 3) := by decide +kernel
theorem dX8_note_26 : decode cX8_note 26 = .ok (.iload_n 1, 1) := by decide +kernel
theorem dX8_note_27 : decode cX8_note 27 = .ok (.iaload, 1) := by decide +kernel
theorem dX8_note_28 : decode cX8_note 28 = .ok (.ifCond .le 21, 3) := by decide +kernel
theorem dX8_note_31 : decode cX8_note 31 = .ok (.aload_n 0, 1) := by decide +kernel
theorem dX8_note_32 : decode cX8_note 32 = .ok (.getfield 68, 3) := by decide +kernel
theorem dX8_note_35 : decode cX8_note 35 = .ok (.iconst 3, 1) := by decide +kernel
theorem dX8_note_36 : decode cX8_note 36 = .ok (.iload_n 1, 1) := by decide +kernel
theorem dX8_note_37 : decode cX8_note 37 = .ok (.imul, 1) := by decide +kernel
theorem dX8_note_38 : decode cX8_note 38 = .ok (.iload_n 2, 1) := by decide +kernel
theorem dX8_note_39 : decode cX8_note 39 = .ok (.iadd, 1) := by decide +kernel
theorem dX8_note_40 : decode cX8_note 40 = .ok (.iaload, 1) := by decide +kernel
theorem dX8_note_41 : decode cX8_note 41 = .ok (.iload_n 3, 1) := by decide +kernel
theorem dX8_note_42 : decode cX8_note 42 = .ok (.if_icmp .eq 7, 3) := by decide +kernel
theorem dX8_note_45 : decode cX8_note 45 = .ok (.iconst 1, 1) := by decide +kernel
theorem dX8_note_46 : decode cX8_note 46 = .ok (.goto 4, 3) := by decide +kernel
theorem dX8_note_49 : decode cX8_note 49 = .ok (.iconst 0, 1) := by decide +kernel
theorem dX8_note_50 : decode cX8_note 50 = .ok (.bastore, 1) := by decide +kernel
theorem dX8_note_51 : decode cX8_note 51 = .ok (.aload_n 0, 1) := by decide +kernel
theorem dX8_note_52 : decode cX8_note 52 = .ok (.getfield 68, 3) := by decide +kernel
theorem dX8_note_55 : decode cX8_note 55 = .ok (.iconst 3, 1) := by decide +kernel
theorem dX8_note_56 : decode cX8_note 56 = .ok (.iload_n 1, 1) := by decide +kernel
theorem dX8_note_57 : decode cX8_note 57 = .ok (.imul, 1) := by decide +kernel
theorem dX8_note_58 : decode cX8_note 58 = .ok (.iload_n 2, 1) := by decide +kernel
theorem dX8_note_59 : decode cX8_note 59 = .ok (.iadd, 1) := by decide +kernel
theorem dX8_note_60 : decode cX8_note 60 = .ok (.iload_n 3, 1) := by decide +kernel
theorem dX8_note_61 : decode cX8_note 61 = .ok (.iastore, 1) := by decide +kernel
theorem dX8_note_62 : decode cX8_note 62 = .ok (.return_, 1) := by decide +kernel
theorem dX8_begin_0 : decode cX8_begin 0 = .ok (.aload_n 0, 1) := by decide +kernel
theorem dX8_begin_1 : decode cX8_begin 1 = .ok (.getfield 180, 3) := by decide +kernel
theorem dX8_begin_4 : decode cX8_begin 4 = .ok (.bipush 11, 2) := by decide +kernel
theorem dX8_begin_6 : decode cX8_begin 6 = .ok (.if_icmp .ne 5, 3) := by decide +kernel
theorem dX8_begin_9 : decode cX8_begin 9 = .ok (.iconst 0, 1) := by decide +kernel
theorem dX8_begin_10 : decode cX8_begin 10 = .ok (.ireturn, 1) := by decide +kernel
theorem dX8_begin_11 : decode cX8_begin 11 = .ok (.iconst 0, 1) := by decide +kernel
theorem dX8_begin_12 : decode cX8_begin 12 = .ok (.istore 4, 2) := by decide +kernel
theorem dX8_begin_14 : decode cX8_begin 14 = .ok (.iload 4, 2) := by decide +kernel
theorem dX8_begin_16 : decode cX8_begin 16 = .ok (.bipush 6, 2) := by decide +kernel
theorem dX8_begin_18 : decode cX8_begin 18 = .ok (.if_icmp .ge 88, 3) := by decide +kernel
theorem dX8_begin_21 : decode cX8_begin 21 = .ok (.iload_n 3, 1) := by decide +kernel
theorem dX8_begin_22 : decode cX8_begin 22 = .ok (.ifCond .lt 18, 3) := by decide +kernel
theorem dX8_begin_25 : decode cX8_begin 25 = .ok (.iload 4, 2) := by decide +kernel
theorem dX8_begin_27 : decode cX8_begin 27 = .ok (.aload_n 0, 1) := by decide +kernel
theorem dX8_begin_28 : decode cX8_begin 28 = .ok (.getfield 7, 3) := by decide +kernel
theorem dX8_begin_31 : decode cX8_begin 31 = .ok (.iload_n 2, 1) := by decide +kernel
theorem dX8_begin_32 : decode cX8_begin 32 = .ok (.iaload, 1) := by decide +kernel
theorem dX8_begin_33 : decode cX8_begin 33 = .ok (.if_icmp .ge 7, 3) := by decide +kernel
theorem dX8_begin_36 : decode cX8_begin 36 = .ok (.iconst 1, 1) := by decide +kernel
theorem dX8_begin_37 : decode cX8_begin 37 = .ok (.goto 4, 3) := by decide +kernel
theorem dX8_begin_40 : decode cX8_begin 40 = .ok (.iconst 0, 1) := by decide +kernel
theorem dX8_begin_41 : decode cX8_begin 41 = .ok (.istore 5, 2) := by decide +kernel
theorem dX8_begin_43 : decode cX8_begin 43 = .ok (.aload_n 0, 1) := by decide +kernel
theorem dX8_begin_44 : decode cX8_begin 44 = .ok (.getfield 59, 3) := by decide +kernel
theorem dX8_begin_47 : decode cX8_begin 47 = .ok (.bipush 6, 2) := by decide +kernel
theorem dX8_begin_49 : decode cX8_begin 49 = .ok (.aload_n 0, 1) := by decide +kernel
theorem dX8_begin_50 : decode cX8_begin 50 = .ok (.getfield 180, 3) := by decide +kernel
theorem dX8_begin_53 : decode cX8_begin 53 = .ok (.imul, 1) := by decide +kernel
theorem dX8_begin_54 : decode cX8_begin 54 = .ok (.iload 4, 2) := by decide +kernel
theorem dX8_begin_56 : decode cX8_begin 56 = .ok (.iadd, 1) := by decide +kernel
theorem dX8_begin_57 : decode cX8_begin 57 = .ok (.iload 5, 2) := by decide +kernel
theorem dX8_begin_59 : decode cX8_begin 59 = .ok (.ifCond .eq 39, 3) := by decide +kernel
theorem dX8_begin_62 : decode cX8_begin 62 = .ok (.aload_n 0, 1) := by decide +kernel
theorem dX8_begin_63 : decode cX8_begin 63 = .ok (.iload_n 1, 1) := by decide +kernel
theorem dX8_begin_64 : decode cX8_begin 64 = .ok (.ifCond .eq 17, 3) := by decide +kernel
theorem dX8_begin_67 : decode cX8_begin 67 = .ok (.aload_n 0, 1) := by decide +kernel
theorem dX8_begin_68 : decode cX8_begin 68 = .ok (.getfield 25, 3) := by decide +kernel
theorem dX8_begin_71 : decode cX8_begin 71 = .ok (.iload_n 3, 1) := by decide +kernel
theorem dX8_begin_72 : decode cX8_begin 72 = .ok (.iconst 3, 1) := by decide +kernel
theorem dX8_begin_73 : decode cX8_begin 73 = .ok (.iadd, 1) := by decide +kernel
theorem dX8_begin_74 : decode cX8_begin 74 = .ok (.iload 4, 2) := by decide +kernel
theorem dX8_begin_76 : decode cX8_begin 76 = .ok (.iadd, 1) := by decide +kernel
theorem dX8_begin_77 : decode cX8_begin 77 = .ok (.iaload, 1) := by decide +kernel
theorem dX8_begin_78 : decode cX8_begin 78 = .ok (.goto 14, 3) := by decide +kernel
theorem dX8_begin_81 : decode cX8_begin 81 = .ok (.aload_n 0, 1) := by decide +kernel
theorem dX8_begin_82 : decode cX8_begin 82 = .ok (.getfield 19, 3) := by decide +kernel
theorem dX8_begin_85 : decode cX8_begin 85 = .ok (.iload_n 3, 1) := by decide +kernel
theorem dX8_begin_86 : decode cX8_begin 86 = .ok (.iconst 3, 1) := by decide +kernel
theorem dX8_begin_87 : decode cX8_begin 87 = .ok (.iadd, 1) := by decide +kernel
theorem dX8_begin_88 : decode cX8_begin 88 = .ok (.iload 4, 2) := by decide +kernel
theorem dX8_begin_90 : decode cX8_begin 90 = .ok (.iadd, 1) := by decide +kernel
theorem dX8_begin_91 : decode cX8_begin 91 = .ok (.iaload, 1) := by decide +kernel
theorem dX8_begin_92 : decode cX8_begin 92 = .ok (.invokevirtual 183, 3) := by decide +kernel
theorem dX8_begin_95 : decode cX8_begin 95 = .ok (.goto 4, 3) := by decide +kernel
theorem dX8_begin_98 : decode cX8_begin 98 = .ok (.iconst 0, 1) := by decide +kernel
theorem dX8_begin_99 : decode cX8_begin 99 = .ok (.iastore, 1) := by decide +kernel
theorem dX8_begin_100 : decode cX8_begin 100 = .ok (.iinc 4 1, 3) := by decide +kernel
theorem dX8_begin_103 : decode cX8_begin 103 = .ok (.goto (-89), 3) := by decide +kernel
theorem dX8_begin_106 : decode cX8_begin 106 = .ok (.iconst 0, 1) := by decide +kernel
theorem dX8_begin_107 : decode cX8_begin 107 = .ok (.istore 4, 2) := by decide +kernel
theorem dX8_begin_109 : decode cX8_begin 109 = .ok (.iload 4, 2) := by decide +kernel
theorem dX8_begin_111 : decode cX8_begin 111 = .ok (.iconst 3, 1) := by decide +kernel
theorem dX8_begin_112 : decode cX8_begin 112 = .ok (.if_icmp .ge 46, 3) := by decide +kernel
theorem dX8_begin_115 : decode cX8_begin 115 = .ok (.aload_n 0, 1) := by decide +kernel
theorem dX8_begin_116 : decode cX8_begin 116 = .ok (.iload_n 2, 1) := by decide +kernel
theorem dX8_begin_117 : decode cX8_begin 117 = .ok (.iload 4, 2) := by decide +kernel
theorem dX8_begin_119 : decode cX8_begin 119 = .ok (.iload 4, 2) := by decide +kernel
theorem dX8_begin_121 : decode cX8_begin 121 = .ok (.aload_n 0, 1) := by decide +kernel
theorem dX8_begin_122 : decode cX8_begin 122 = .ok (.getfield 7, 3) := by decide +kernel
theorem dX8_begin_125 : decode cX8_begin 125 = .ok (.iload_n 2, 1) := by decide +kernel
theorem dX8_begin_126 : decode cX8_begin 126 = .ok (.iaload, 1) := by decide +kernel
theorem dX8_begin_127 : decode cX8_begin 127 = .ok (.if_icmp .ge 21, 3) := by decide +kernel
theorem dX8_begin_130 : decode cX8_begin 130 = .ok (.aload_n 0, 1) := by decide +kernel
theorem dX8_begin_131 : decode cX8_begin 131 = .ok (.getfield 59, 3) := by decide +kernel
theorem dX8_begin_134 : decode cX8_begin 134 = .ok (.bipush 6, 2) := by decide +kernel
theorem dX8_begin_136 : decode cX8_begin 136 = .ok (.aload_n 0, 1) := by decide +kernel
theorem dX8_begin_137 : decode cX8_begin 137 = .ok (.getfield 180, 3) := by decide +kernel
theorem dX8_begin_140 : decode cX8_begin 140 = .ok (.imul, 1) := by decide +kernel
theorem dX8_begin_141 : decode cX8_begin 141 = .ok (.iload 4, 2) := by decide +kernel
theorem dX8_begin_143 : decode cX8_begin 143 = .ok (.iadd, 1) := by decide +kernel
theorem dX8_begin_144 : decode cX8_begin 144 = .ok (.iaload, 1) := by decide +kernel
theorem dX8_begin_145 : decode cX8_begin 145 = .ok (.goto 4, 3) := by decide +kernel
theorem dX8_begin_148 : decode cX8_begin 148 = .ok (.iconst 0, 1) := by decide +kernel
theorem dX8_begin_149 : decode cX8_begin 149 = .ok (.invokevirtual 186, 3) := by decide +kernel
theorem dX8_begin_152 : decode cX8_begin 152 = .ok (.iinc 4 1, 3) := by decide +kernel
theorem dX8_begin_155 : decode cX8_begin 155 = .ok (.goto (-46), 3) := by decide +kernel
theorem dX8_begin_158 : decode cX8_begin 158 = .ok (.aload_n 0, 1) := by decide +kernel
theorem dX8_begin_159 : decode cX8_begin 159 = .ok (.getfield 65, 3) := by decide +kernel
theorem dX8_begin_162 : decode cX8_begin 162 = .ok (.iload_n 2, 1) := by decide +kernel
theorem dX8_begin_163 : decode cX8_begin 163 = .ok (.dup2, 1) := by decide +kernel
theorem dX8_begin_164 : decode cX8_begin 164 = .ok (.iaload, 1) := by decide +kernel
theorem dX8_begin_165 : decode cX8_begin 165 = .ok (.iconst 1, 1) := by decide +kernel
theorem dX8_begin_166 : decode cX8_begin 166 = .ok (.iadd, 1) := by decide +kernel
theorem dX8_begin_167 : decode cX8_begin 167 = .ok (.iastore, 1) := by decide +kernel
theorem dX8_begin_168 : decode cX8_begin 168 = .ok (.aload_n 0, 1) := by decide +kernel
theorem dX8_begin_169 : decode cX8_begin 169 = .ok (.getfield 53, 3) := by decide +kernel
theorem dX8_begin_172 : decode cX8_begin 172 = .ok (.aload_n 0, 1) := by decide +kernel
theorem dX8_begin_173 : decode cX8_begin 173 = .ok (.getfield 180, 3) := by decide +kernel
theorem dX8_begin_176 : decode cX8_begin 176 = .ok (.iload_n 2, 1) := by decide +kernel
theorem dX8_begin_177 : decode cX8_begin 177 = .ok (.iastore, 1) := by decide +kernel
theorem dX8_begin_178 : decode cX8_begin 178 = .ok (.aload_n 0, 1) := by decide +kernel
theorem dX8_begin_179 : decode cX8_begin 179 = .ok (.getfield 50, 3) := by decide +kernel
theorem dX8_begin_182 : decode cX8_begin 182 = .ok (.aload_n 0, 1) := by decide +kernel
theorem dX8_begin_183 : decode cX8_begin 183 = .ok (.getfield 180, 3) := by decide +kernel
theorem dX8_begin_186 : decode cX8_begin 186 = .ok (.iconst 0, 1) := by decide +kernel
theorem dX8_begin_187 : decode cX8_begin 187 = .ok (.iastore, 1) := by decide +kernel
theorem dX8_begin_188 : decode cX8_begin 188 = .ok (.aload_n 0, 1) := by decide +kernel
theorem dX8_begin_189 : decode cX8_begin 189 = .ok (.getfield 56, 3) := by decide +kernel
theorem dX8_begin_192 : decode cX8_begin 192 = .ok (.aload_n 0, 1) := by decide +kernel
theorem dX8_begin_193 : decode cX8_begin 193 = .ok (.getfield 180, 3) := by decide +kernel
theorem dX8_begin_196 : decode cX8_begin 196 = .ok (.iload_n 3, 1) := by decide +kernel
theorem dX8_begin_197 : decode cX8_begin 197 = .ok (.ifCond .ge 7, 3) := by decide +kernel
theorem dX8_begin_200 : decode cX8_begin 200 = .ok (.iconst 0, 1) := by decide +kernel
theorem dX8_begin_201 : decode cX8_begin 201 = .ok (.goto 26, 3) := by decide +kernel
theorem dX8_begin_204 : decode cX8_begin 204 = .ok (.iload_n 1, 1) := by decide +kernel
theorem dX8_begin_205 : decode cX8_begin 205 = .ok (.ifCond .eq 14, 3) := by decide +kernel
theorem dX8_begin_208 : decode cX8_begin 208 = .ok (.aload_n 0, 1) := by decide +kernel
theorem dX8_begin_209 : decode cX8_begin 209 = .ok (.getfield 25, 3) := by decide +kernel
theorem dX8_begin_212 : decode cX8_begin 212 = .ok (.iload_n 3, 1) := by decide +kernel
theorem dX8_begin_213 : decode cX8_begin 213 = .ok (.iconst 1, 1) := by decide +kernel
theorem dX8_begin_214 : decode cX8_begin 214 = .ok (.iadd, 1) := by decide +kernel
theorem dX8_begin_215 : decode cX8_begin 215 = .ok (.iaload, 1) := by decide +kernel
theorem dX8_begin_216 : decode cX8_begin 216 = .ok (.goto 11, 3) := by decide +kernel
theorem dX8_begin_219 : decode cX8_begin 219 = .ok (.aload_n 0, 1) := by decide +kernel
theorem dX8_begin_220 : decode cX8_begin 220 = .ok (.getfield 19, 3) := by decide +kernel
theorem dX8_begin_223 : decode cX8_begin 223 = .ok (.iload_n 3, 1) := by decide +kernel
theorem dX8_begin_224 : decode cX8_begin 224 = .ok (.iconst 1, 1) := by decide +kernel
theorem dX8_begin_225 : decode cX8_begin 225 = .ok (.iadd, 1) := by decide +kernel
theorem dX8_begin_226 : decode cX8_begin 226 = .ok (.iaload, 1) := by decide +kernel
theorem dX8_begin_227 : decode cX8_begin 227 = .ok (.iastore, 1) := by decide +kernel
theorem dX8_begin_228 : decode cX8_begin 228 = .ok (.aload_n 0, 1) := by decide +kernel
theorem dX8_begin_229 : decode cX8_begin 229 = .ok (.dup, 1) := by decide +kernel
theorem dX8_begin_230 : decode cX8_begin 230 = .ok (.getfield 180, 3) := by decide +kernel
theorem dX8_begin_233 : decode cX8_begin 233 = .ok (.iconst 1, 1) := by decide +kernel
theorem dX8_begin_234 : decode cX8_begin 234 = .ok (.iadd, 1) := by decide +kernel
theorem dX8_begin_235 : decode cX8_begin 235 = .ok (.putfield 180, 3) := by decide +kernel
theorem dX8_begin_238 : decode cX8_begin 238 = .ok (.iconst 1, 1) := by decide +kernel
theorem dX8_begin_239 : decode cX8_begin 239 = .ok (.ireturn, 1) := by decide +kernel
theorem dX8_giveBack_0 : decode cX8_giveBack 0 = .ok (.aload_n 0, 1) := by decide +kernel
theorem dX8_giveBack_1 : decode cX8_giveBack 1 = .ok (.dup, 1) := by decide +kernel
theorem dX8_giveBack_2 : decode cX8_giveBack 2 = .ok (.getfield 180, 3) := by decide +kernel
theorem dX8_giveBack_5 : decode cX8_giveBack 5 = .ok (.iconst 1, 1) := by decide +kernel
theorem dX8_giveBack_6 : decode cX8_giveBack 6 = .ok (.isub, 1) := by decide +kernel
theorem dX8_giveBack_7 : decode cX8_giveBack 7 = .ok (.putfield 180, 3) := by decide +kernel
theorem dX8_giveBack_10 : decode cX8_giveBack 10 = .ok (.aload_n 0, 1) := by decide +kernel
theorem dX8_giveBack_11 : decode cX8_giveBack 11 = .ok (.getfield 180, 3) := by decide +kernel
theorem dX8_giveBack_14 : decode cX8_giveBack 14 = .ok (.ifCond .le 28, 3) := by decide +kernel
theorem dX8_giveBack_17 : decode cX8_giveBack 17 = .ok (.aload_n 0, 1) := by decide +kernel
theorem dX8_giveBack_18 : decode cX8_giveBack 18 = .ok (.getfield 59, 3) := by decide +kernel
theorem dX8_giveBack_21 : decode cX8_giveBack 21 = .ok (.bipush 6, 2) := by decide +kernel
theorem dX8_giveBack_23 : decode cX8_giveBack 23 = .ok (.aload_n 0, 1) := by decide +kernel
theorem dX8_giveBack_24 : decode cX8_giveBack 24 = .ok (.getfield 180, 3) := by decide +kernel
theorem dX8_giveBack_27 : decode cX8_giveBack 27 = .ok (.iconst 1, 1) := by decide +kernel
theorem dX8_giveBack_28 : decode cX8_giveBack 28 = .ok (.isub, 1) := by decide +kernel
theorem dX8_giveBack_29 : decode cX8_giveBack 29 = .ok (.imul, 1) := by decide +kernel
theorem dX8_giveBack_30 : decode cX8_giveBack 30 = .ok (.aload_n 0, 1) := by decide +kernel
theorem dX8_giveBack_31 : decode cX8_giveBack 31 = .ok (.getfield 56, 3) := by decide +kernel
theorem dX8_giveBack_34 : decode cX8_giveBack 34 = .ok (.aload_n 0, 1) := by decide +kernel
theorem dX8_giveBack_35 : decode cX8_giveBack 35 = .ok (.getfield 180, 3) := by decide +kernel
theorem dX8_giveBack_38 : decode cX8_giveBack 38 = .ok (.iaload, 1) := by decide +kernel
theorem dX8_giveBack_39 : decode cX8_giveBack 39 = .ok (.iadd, 1) := by decide +kernel
theorem dX8_giveBack_40 : decode cX8_giveBack 40 = .ok (.iload_n 1, 1) := by decide +kernel
theorem dX8_giveBack_41 : decode cX8_giveBack 41 = .ok (.iastore, 1) := by decide +kernel
theorem dX8_giveBack_42 : decode cX8_giveBack 42 = .ok (.return_, 1) := by decide +kernel
theorem dX8_perform_0 : decode cX8_perform 0 = .ok (.iload_n 1, 1) := by decide +kernel
theorem dX8_perform_1 : decode cX8_perform 1 = .ok (.ifCond .eq 12, 3) := by decide +kernel
theorem dX8_perform_4 : decode cX8_perform 4 = .ok (.aload_n 0, 1) := by decide +kernel
theorem dX8_perform_5 : decode cX8_perform 5 = .ok (.getfield 25, 3) := by decide +kernel
theorem dX8_perform_8 : decode cX8_perform 8 = .ok (.iload_n 2, 1) := by decide +kernel
theorem dX8_perform_9 : decode cX8_perform 9 = .ok (.iaload, 1) := by decide +kernel
theorem dX8_perform_10 : decode cX8_perform 10 = .ok (.goto 9, 3) := by decide +kernel
theorem dX8_perform_13 : decode cX8_perform 13 = .ok (.aload_n 0, 1) := by decide +kernel
theorem dX8_perform_14 : decode cX8_perform 14 = .ok (.getfield 19, 3) := by decide +kernel
theorem dX8_perform_17 : decode cX8_perform 17 = .ok (.iload_n 2, 1) := by decide +kernel
theorem dX8_perform_18 : decode cX8_perform 18 = .ok (.iaload, 1) := by decide +kernel
theorem dX8_perform_19 : decode cX8_perform 19 = .ok (.istore_n 3, 1) := by decide +kernel
theorem dX8_perform_20 : decode cX8_perform 20 = .ok (.bipush 6, 2) := by decide +kernel
theorem dX8_perform_22 : decode cX8_perform 22 = .ok (.aload_n 0, 1) := by decide +kernel
theorem dX8_perform_23 : decode cX8_perform 23 = .ok (.getfield 180, 3) := by decide +kernel
theorem dX8_perform_26 : decode cX8_perform 26 = .ok (.iconst 1, 1) := by decide +kernel
theorem dX8_perform_27 : decode cX8_perform 27 = .ok (.isub, 1) := by decide +kernel
theorem dX8_perform_28 : decode cX8_perform 28 = .ok (.imul, 1) := by decide +kernel
theorem dX8_perform_29 : decode cX8_perform 29 = .ok (.iload_n 1, 1) := by decide +kernel
theorem dX8_perform_30 : decode cX8_perform 30 = .ok (.ifCond .eq 14, 3) := by decide +kernel
theorem dX8_perform_33 : decode cX8_perform 33 = .ok (.aload_n 0, 1) := by decide +kernel
theorem dX8_perform_34 : decode cX8_perform 34 = .ok (.getfield 25, 3) := by decide +kernel
theorem dX8_perform_37 : decode cX8_perform 37 = .ok (.iload_n 2, 1) := by decide +kernel
theorem dX8_perform_38 : decode cX8_perform 38 = .ok (.iconst 1, 1) := by decide +kernel
theorem dX8_perform_39 : decode cX8_perform 39 = .ok (.iadd, 1) := by decide +kernel
theorem dX8_perform_40 : decode cX8_perform 40 = .ok (.iaload, 1) := by decide +kernel
theorem dX8_perform_41 : decode cX8_perform 41 = .ok (.goto 11, 3) := by decide +kernel
theorem dX8_perform_44 : decode cX8_perform 44 = .ok (.aload_n 0, 1) := by decide +kernel
theorem dX8_perform_45 : decode cX8_perform 45 = .ok (.getfield 19, 3) := by decide +kernel
theorem dX8_perform_48 : decode cX8_perform 48 = .ok (.iload_n 2, 1) := by decide +kernel
theorem dX8_perform_49 : decode cX8_perform 49 = .ok (.iconst 1, 1) := by decide +kernel
theorem dX8_perform_50 : decode cX8_perform 50 = .ok (.iadd, 1) := by decide +kernel
theorem dX8_perform_51 : decode cX8_perform 51 = .ok (.iaload, 1) := by decide +kernel
theorem dX8_perform_52 : decode cX8_perform 52 = .ok (.iadd, 1) := by decide +kernel
theorem dX8_perform_53 : decode cX8_perform 53 = .ok (.istore 4, 2) := by decide +kernel
theorem dX8_perform_55 : decode cX8_perform 55 = .ok (.iload_n 1, 1) := by decide +kernel
theorem dX8_perform_56 : decode cX8_perform 56 = .ok (.ifCond .eq 14, 3) := by decide +kernel
theorem dX8_perform_59 : decode cX8_perform 59 = .ok (.aload_n 0, 1) := by decide +kernel
theorem dX8_perform_60 : decode cX8_perform 60 = .ok (.getfield 25, 3) := by decide +kernel
theorem dX8_perform_63 : decode cX8_perform 63 = .ok (.iload_n 2, 1) := by decide +kernel
theorem dX8_perform_64 : decode cX8_perform 64 = .ok (.iconst 2, 1) := by decide +kernel
theorem dX8_perform_65 : decode cX8_perform 65 = .ok (.iadd, 1) := by decide +kernel
theorem dX8_perform_66 : decode cX8_perform 66 = .ok (.iaload, 1) := by decide +kernel
theorem dX8_perform_67 : decode cX8_perform 67 = .ok (.goto 11, 3) := by decide +kernel
theorem dX8_perform_70 : decode cX8_perform 70 = .ok (.aload_n 0, 1) := by decide +kernel
theorem dX8_perform_71 : decode cX8_perform 71 = .ok (.getfield 19, 3) := by decide +kernel
theorem dX8_perform_74 : decode cX8_perform 74 = .ok (.iload_n 2, 1) := by decide +kernel
theorem dX8_perform_75 : decode cX8_perform 75 = .ok (.iconst 2, 1) := by decide +kernel
theorem dX8_perform_76 : decode cX8_perform 76 = .ok (.iadd, 1) := by decide +kernel
theorem dX8_perform_77 : decode cX8_perform 77 = .ok (.iaload, 1) := by decide +kernel
theorem dX8_perform_78 : decode cX8_perform 78 = .ok (.istore 5, 2) := by decide +kernel
theorem dX8_perform_80 : decode cX8_perform 80 = .ok (.iload_n 3, 1) := by decide +kernel
theorem dX8_perform_81 : decode cX8_perform 81 = .ok (.invokestatic 91, 3) := by decide +kernel
theorem dX8_perform_84 : decode cX8_perform 84 = .ok (.ifCond .le 33, 3) := by decide +kernel
theorem dX8_perform_87 : decode cX8_perform 87 = .ok (.aload_n 0, 1) := by decide +kernel
theorem dX8_perform_88 : decode cX8_perform 88 = .ok (.iload_n 1, 1) := by decide +kernel
theorem dX8_perform_89 : decode cX8_perform 89 = .ok (.ifCond .eq 14, 3) := by decide +kernel
theorem dX8_perform_92 : decode cX8_perform 92 = .ok (.aload_n 0, 1) := by decide +kernel
theorem dX8_perform_93 : decode cX8_perform 93 = .ok (.getfield 25, 3) := by decide +kernel
theorem dX8_perform_96 : decode cX8_perform 96 = .ok (.iload_n 2, 1) := by decide +kernel
theorem dX8_perform_97 : decode cX8_perform 97 = .ok (.iconst 3, 1) := by decide +kernel
theorem dX8_perform_98 : decode cX8_perform 98 = .ok (.iadd, 1) := by decide +kernel
theorem dX8_perform_99 : decode cX8_perform 99 = .ok (.iaload, 1) := by decide +kernel
theorem dX8_perform_100 : decode cX8_perform 100 = .ok (.goto 11, 3) := by decide +kernel
theorem dX8_perform_103 : decode cX8_perform 103 = .ok (.aload_n 0, 1) := by decide +kernel
theorem dX8_perform_104 : decode cX8_perform 104 = .ok (.getfield 19, 3) := by decide +kernel
theorem dX8_perform_107 : decode cX8_perform 107 = .ok (.iload_n 2, 1) := by decide +kernel
theorem dX8_perform_108 : decode cX8_perform 108 = .ok (.iconst 3, 1) := by decide +kernel
theorem dX8_perform_109 : decode cX8_perform 109 = .ok (.iadd, 1) := by decide +kernel
theorem dX8_perform_110 : decode cX8_perform 110 = .ok (.iaload, 1) := by decide +kernel
theorem dX8_perform_111 : decode cX8_perform 111 = .ok (.invokevirtual 183, 3) := by decide +kernel
theorem dX8_perform_114 : decode cX8_perform 114 = .ok (.goto 4, 3) := by decide +kernel
theorem dX8_perform_117 : decode cX8_perform 117 = .ok (.iconst 0, 1) := by decide +kernel
theorem dX8_perform_118 : decode cX8_perform 118 = .ok (.istore 6, 2) := by decide +kernel
theorem dX8_perform_120 : decode cX8_perform 120 = .ok (.iload_n 3, 1) := by decide +kernel
theorem dX8_perform_121 : decode cX8_perform 121 = .ok (.invokestatic 91, 3) := by decide +kernel
theorem dX8_perform_124 : decode cX8_perform 124 = .ok (.iconst 1, 1) := by decide +kernel
theorem dX8_perform_125 : decode cX8_perform 125 = .ok (.if_icmp .le 33, 3) := by decide +kernel
theorem dX8_perform_128 : decode cX8_perform 128 = .ok (.aload_n 0, 1) := by decide +kernel
theorem dX8_perform_129 : decode cX8_perform 129 = .ok (.iload_n 1, 1) := by decide +kernel
theorem dX8_perform_130 : decode cX8_perform 130 = .ok (.ifCond .eq 14, 3) := by decide +kernel
theorem dX8_perform_133 : decode cX8_perform 133 = .ok (.aload_n 0, 1) := by decide +kernel
theorem dX8_perform_134 : decode cX8_perform 134 = .ok (.getfield 25, 3) := by decide +kernel
theorem dX8_perform_137 : decode cX8_perform 137 = .ok (.iload_n 2, 1) := by decide +kernel
theorem dX8_perform_138 : decode cX8_perform 138 = .ok (.iconst 4, 1) := by decide +kernel
theorem dX8_perform_139 : decode cX8_perform 139 = .ok (.iadd, 1) := by decide +kernel
theorem dX8_perform_140 : decode cX8_perform 140 = .ok (.iaload, 1) := by decide +kernel
theorem dX8_perform_141 : decode cX8_perform 141 = .ok (.goto 11, 3) := by decide +kernel
theorem dX8_perform_144 : decode cX8_perform 144 = .ok (.aload_n 0, 1) := by decide +kernel
theorem dX8_perform_145 : decode cX8_perform 145 = .ok (.getfield 19, 3) := by decide +kernel
theorem dX8_perform_148 : decode cX8_perform 148 = .ok (.iload_n 2, 1) := by decide +kernel
theorem dX8_perform_149 : decode cX8_perform 149 = .ok (.iconst 4, 1) := by decide +kernel
theorem dX8_perform_150 : decode cX8_perform 150 = .ok (.iadd, 1) := by decide +kernel
theorem dX8_perform_151 : decode cX8_perform 151 = .ok (.iaload, 1) := by decide +kernel
theorem dX8_perform_152 : decode cX8_perform 152 = .ok (.invokevirtual 183, 3) := by decide +kernel
theorem dX8_perform_155 : decode cX8_perform 155 = .ok (.goto 4, 3) := by decide +kernel
theorem dX8_perform_158 : decode cX8_perform 158 = .ok (.iconst 0, 1) := by decide +kernel
theorem dX8_perform_159 : decode cX8_perform 159 = .ok (.istore 7, 2) := by decide +kernel
theorem dX8_perform_161 : decode cX8_perform 161 = .ok (.aload_n 0, 1) := by decide +kernel
theorem dX8_perform_162 : decode cX8_perform 162 = .ok (.getfield 50, 3) := by decide +kernel
theorem dX8_perform_165 : decode cX8_perform 165 = .ok (.aload_n 0, 1) := by decide +kernel
theorem dX8_perform_166 : decode cX8_perform 166 = .ok (.getfield 180, 3) := by decide +kernel
theorem dX8_perform_169 : decode cX8_perform 169 = .ok (.iconst 1, 1) := by decide +kernel
theorem dX8_perform_170 : decode cX8_perform 170 = .ok (.isub, 1) := by decide +kernel
theorem dX8_perform_171 : decode cX8_perform 171 = .ok (.dup2, 1) := by decide +kernel
theorem dX8_perform_172 : decode cX8_perform 172 = .ok (.iaload, 1) := by decide +kernel
theorem dX8_perform_173 : decode cX8_perform 173 = .ok (.iconst 1, 1) := by decide +kernel
theorem dX8_perform_174 : decode cX8_perform 174 = .ok (.iadd, 1) := by decide +kernel
theorem dX8_perform_175 : decode cX8_perform 175 = .ok (.iastore, 1) := by decide +kernel
theorem dX8_perform_176 : decode cX8_perform 176 = .ok (.iload_n 3, 1) := by decide +kernel
theorem dX8_perform_177 : decode cX8_perform 177 = .ok (.tableswitch 203 5 12 #[47, 90, 124, 124, 150, 158, 167, 201], 47) := by decide +kernel
theorem dX8_perform_224 : decode cX8_perform 224 = .ok (.aload_n 0, 1) := by decide +kernel
theorem dX8_perform_225 : decode cX8_perform 225 = .ok (.getfield 59, 3) := by decide +kernel
theorem dX8_perform_228 : decode cX8_perform 228 = .ok (.iload 4, 2) := by decide +kernel
theorem dX8_perform_230 : decode cX8_perform 230 = .ok (.aload_n 0, 1) := by decide +kernel
theorem dX8_perform_231 : decode cX8_perform 231 = .ok (.getfield 189, 3) := by decide +kernel
theorem dX8_perform_234 : decode cX8_perform 234 = .ok (.aload_n 0, 1) := by decide +kernel
theorem dX8_perform_235 : decode cX8_perform 235 = .ok (.getfield 109, 3) := by decide +kernel
theorem dX8_perform_238 : decode cX8_perform 238 = .ok (.if_icmp .ge 15, 3) := by decide +kernel
theorem dX8_perform_241 : decode cX8_perform 241 = .ok (.aload_n 0, 1) := by decide +kernel
theorem dX8_perform_242 : decode cX8_perform 242 = .ok (.getfield 31, 3) := by decide +kernel
theorem dX8_perform_245 : decode cX8_perform 245 = .ok (.aload_n 0, 1) := by decide +kernel
theorem dX8_perform_246 : decode cX8_perform 246 = .ok (.getfield 189, 3) := by decide +kernel
theorem dX8_perform_249 : decode cX8_perform 249 = .ok (.iaload, 1) := by decide +kernel
theorem dX8_perform_250 : decode cX8_perform 250 = .ok (.goto 4, 3) := by decide +kernel
theorem dX8_perform_253 : decode cX8_perform 253 = .ok (.iconst 0, 1) := by decide +kernel
theorem dX8_perform_254 : decode cX8_perform 254 = .ok (.iastore, 1) := by decide +kernel
theorem dX8_perform_255 : decode cX8_perform 255 = .ok (.aload_n 0, 1) := by decide +kernel
theorem dX8_perform_256 : decode cX8_perform 256 = .ok (.dup, 1) := by decide +kernel
theorem dX8_perform_257 : decode cX8_perform 257 = .ok (.getfield 189, 3) := by decide +kernel
theorem dX8_perform_260 : decode cX8_perform 260 = .ok (.iconst 1, 1) := by decide +kernel
theorem dX8_perform_261 : decode cX8_perform 261 = .ok (.iadd, 1) := by decide +kernel
theorem dX8_perform_262 : decode cX8_perform 262 = .ok (.putfield 189, 3) := by decide +kernel
theorem dX8_perform_265 : decode cX8_perform 265 = .ok (.iconst 1, 1) := by decide +kernel
theorem dX8_perform_266 : decode cX8_perform 266 = .ok (.ireturn, 1) := by decide +kernel
theorem dX8_perform_267 : decode cX8_perform 267 = .ok (.aload_n 0, 1) := by decide +kernel
theorem dX8_perform_268 : decode cX8_perform 268 = .ok (.getfield 192, 3) := by decide +kernel
theorem dX8_perform_271 : decode cX8_perform 271 = .ok (.bipush 40, 2) := by decide +kernel
theorem dX8_perform_273 : decode cX8_perform 273 = .ok (.if_icmp .ne 5, 3) := by decide +kernel
theorem dX8_perform_276 : decode cX8_perform 276 = .ok (.iconst 0, 1) := by decide +kernel
theorem dX8_perform_277 : decode cX8_perform 277 = .ok (.ireturn, 1) := by decide +kernel
theorem dX8_perform_278 : decode cX8_perform 278 = .ok (.aload_n 0, 1) := by decide +kernel
theorem dX8_perform_279 : decode cX8_perform 279 = .ok (.getfield 62, 3) := by decide +kernel
theorem dX8_perform_282 : decode cX8_perform 282 = .ok (.aload_n 0, 1) := by decide +kernel
theorem dX8_perform_283 : decode cX8_perform 283 = .ok (.getfield 192, 3) := by decide +kernel
theorem dX8_perform_286 : decode cX8_perform 286 = .ok (.iload 6, 2) := by decide +kernel
theorem dX8_perform_288 : decode cX8_perform 288 = .ok (.iastore, 1) := by decide +kernel
theorem dX8_perform_289 : decode cX8_perform 289 = .ok (.aload_n 0, 1) := by decide +kernel
theorem dX8_perform_290 : decode cX8_perform 290 = .ok (.dup, 1) := by decide +kernel
theorem dX8_perform_291 : decode cX8_perform 291 = .ok (.getfield 192, 3) := by decide +kernel
theorem dX8_perform_294 : decode cX8_perform 294 = .ok (.iconst 1, 1) := by decide +kernel
theorem dX8_perform_295 : decode cX8_perform 295 = .ok (.iadd, 1) := by decide +kernel
theorem dX8_perform_296 : decode cX8_perform 296 = .ok (.putfield 192, 3) := by decide +kernel
theorem dX8_perform_299 : decode cX8_perform 299 = .ok (.iconst 1, 1) := by decide +kernel
theorem dX8_perform_300 : decode cX8_perform 300 = .ok (.ireturn, 1) := by decide +kernel
theorem dX8_perform_301 : decode cX8_perform 301 = .ok (.iload_n 3, 1) := by decide +kernel
theorem dX8_perform_302 : decode cX8_perform 302 = .ok (.bipush 8, 2) := by decide +kernel
theorem dX8_perform_304 : decode cX8_perform 304 = .ok (.if_icmp .eq 8, 3) := by decide +kernel
theorem dX8_perform_307 : decode cX8_perform 307 = .ok (.iload 6, 2) := by decide +kernel
theorem dX8_perform_309 : decode cX8_perform 309 = .ok (.ifCond .eq 16, 3) := by decide +kernel
theorem dX8_perform_312 : decode cX8_perform 312 = .ok (.aload_n 0, 1) := by decide +kernel
theorem dX8_perform_313 : decode cX8_perform 313 = .ok (.getfield 50, 3) := by decide +kernel
theorem dX8_perform_316 : decode cX8_perform 316 = .ok (.aload_n 0, 1) := by decide +kernel
theorem dX8_perform_317 : decode cX8_perform 317 = .ok (.getfield 180, 3) := by decide +kernel
theorem dX8_perform_320 : decode cX8_perform 320 = .ok (.iconst 1, 1) := by decide +kernel
theorem dX8_perform_321 : decode cX8_perform 321 = .ok (.isub, 1) := by decide +kernel
theorem dX8_perform_322 : decode cX8_perform 322 = .ok (.iload 5, 2) := by decide +kernel
theorem dX8_perform_324 : decode cX8_perform 324 = .ok (.iastore, 1) := by decide +kernel
theorem dX8_perform_325 : decode cX8_perform 325 = .ok (.iconst 1, 1) := by decide +kernel
theorem dX8_perform_326 : decode cX8_perform 326 = .ok (.ireturn, 1) := by decide +kernel
theorem dX8_perform_327 : decode cX8_perform 327 = .ok (.aload_n 0, 1) := by decide +kernel
theorem dX8_perform_328 : decode cX8_perform 328 = .ok (.iload 6, 2) := by decide +kernel
theorem dX8_perform_330 : decode cX8_perform 330 = .ok (.invokevirtual 195, 3) := by decide +kernel
theorem dX8_perform_333 : decode cX8_perform 333 = .ok (.iconst 1, 1) := by decide +kernel
theorem dX8_perform_334 : decode cX8_perform 334 = .ok (.ireturn, 1) := by decide +kernel
theorem dX8_perform_335 : decode cX8_perform 335 = .ok (.aload_n 0, 1) := by decide +kernel
theorem dX8_perform_336 : decode cX8_perform 336 = .ok (.iload_n 1, 1) := by decide +kernel
theorem dX8_perform_337 : decode cX8_perform 337 = .ok (.iload 5, 2) := by decide +kernel
theorem dX8_perform_339 : decode cX8_perform 339 = .ok (.iload_n 2, 1) := by decide +kernel
theorem dX8_perform_340 : decode cX8_perform 340 = .ok (.invokevirtual 199, 3) := by decide +kernel
theorem dX8_perform_343 : decode cX8_perform 343 = .ok (.ireturn, 1) := by decide +kernel
theorem dX8_perform_344 : decode cX8_perform 344 = .ok (.aload_n 0, 1) := by decide +kernel
theorem dX8_perform_345 : decode cX8_perform 345 = .ok (.getfield 106, 3) := by decide +kernel
theorem dX8_perform_348 : decode cX8_perform 348 = .ok (.ifCond .le 20, 3) := by decide +kernel
theorem dX8_perform_351 : decode cX8_perform 351 = .ok (.aload_n 0, 1) := by decide +kernel
theorem dX8_perform_352 : decode cX8_perform 352 = .ok (.iload_n 1, 1) := by decide +kernel
theorem dX8_perform_353 : decode cX8_perform 353 = .ok (.aload_n 0, 1) := by decide +kernel
theorem dX8_perform_354 : decode cX8_perform 354 = .ok (.aload_n 0, 1) := by decide +kernel
theorem dX8_perform_355 : decode cX8_perform 355 = .ok (.iload 5, 2) := by decide +kernel
theorem dX8_perform_357 : decode cX8_perform 357 = .ok (.invokevirtual 183, 3) := by decide +kernel
theorem dX8_perform_360 : decode cX8_perform 360 = .ok (.invokevirtual 134, 3) := by decide +kernel
theorem dX8_perform_363 : decode cX8_perform 363 = .ok (.iload_n 2, 1) := by decide +kernel
theorem dX8_perform_364 : decode cX8_perform 364 = .ok (.invokevirtual 199, 3) := by decide +kernel
theorem dX8_perform_367 : decode cX8_perform 367 = .ok (.ireturn, 1) := by decide +kernel
theorem dX8_perform_368 : decode cX8_perform 368 = .ok (.aload_n 0, 1) := by decide +kernel
theorem dX8_perform_369 : decode cX8_perform 369 = .ok (.getfield 59, 3) := by decide +kernel
theorem dX8_perform_372 : decode cX8_perform 372 = .ok (.iload 4, 2) := by decide +kernel
theorem dX8_perform_374 : decode cX8_perform 374 = .ok (.iconst 0, 1) := by decide +kernel
theorem dX8_perform_375 : decode cX8_perform 375 = .ok (.iastore, 1) := by decide +kernel
theorem dX8_perform_376 : decode cX8_perform 376 = .ok (.iconst 1, 1) := by decide +kernel
theorem dX8_perform_377 : decode cX8_perform 377 = .ok (.ireturn, 1) := by decide +kernel
theorem dX8_perform_378 : decode cX8_perform 378 = .ok (.iconst 1, 1) := by decide +kernel
theorem dX8_perform_379 : decode cX8_perform 379 = .ok (.ireturn, 1) := by decide +kernel
theorem dX8_perform_380 : decode cX8_perform 380 = .ok (.aload_n 0, 1) := by decide +kernel
theorem dX8_perform_381 : decode cX8_perform 381 = .ok (.getfield 59, 3) := by decide +kernel
theorem dX8_perform_384 : decode cX8_perform 384 = .ok (.iload 4, 2) := by decide +kernel
theorem dX8_perform_386 : decode cX8_perform 386 = .ok (.iload_n 3, 1) := by decide +kernel
theorem dX8_perform_387 : decode cX8_perform 387 = .ok (.iload 6, 2) := by decide +kernel
theorem dX8_perform_389 : decode cX8_perform 389 = .ok (.iload 7, 2) := by decide +kernel
theorem dX8_perform_391 : decode cX8_perform 391 = .ok (.invokestatic 137, 3) := by decide +kernel
theorem dX8_perform_394 : decode cX8_perform 394 = .ok (.iastore, 1) := by decide +kernel
theorem dX8_perform_395 : decode cX8_perform 395 = .ok (.iconst 1, 1) := by decide +kernel
theorem dX8_perform_396 : decode cX8_perform 396 = .ok (.ireturn, 1) := by decide +kernel
theorem dX8_run_0 : decode cX8_run 0 = .ok (.aload_n 0, 1) := by decide +kernel
theorem dX8_run_1 : decode cX8_run 1 = .ok (.iload_n 2, 1) := by decide +kernel
theorem dX8_run_2 : decode cX8_run 2 = .ok (.ifCond .lt 10, 3) := by decide +kernel
theorem dX8_run_5 : decode cX8_run 5 = .ok (.iload_n 2, 1) := by decide +kernel
theorem dX8_run_6 : decode cX8_run 6 = .ok (.sipush 3000, 3) := by decide +kernel
theorem dX8_run_9 : decode cX8_run 9 = .ok (.if_icmp .le 7, 3) := by decide +kernel
theorem dX8_run_12 : decode cX8_run 12 = .ok (.iconst 1, 1) := by decide +kernel
theorem dX8_run_13 : decode cX8_run 13 = .ok (.goto 26, 3) := by decide +kernel
theorem dX8_run_16 : decode cX8_run 16 = .ok (.aload_n 0, 1) := by decide +kernel
theorem dX8_run_17 : decode cX8_run 17 = .ok (.getfield 82, 3) := by decide +kernel
theorem dX8_run_20 : decode cX8_run 20 = .ok (.ifCond .eq 14, 3) := by decide +kernel
theorem dX8_run_23 : decode cX8_run 23 = .ok (.iload_n 1, 1) := by decide +kernel
theorem dX8_run_24 : decode cX8_run 24 = .ok (.ifCond .eq 14, 3) := by decide +kernel
theorem dX8_run_27 : decode cX8_run 27 = .ok (.aload_n 0, 1) := by decide +kernel
theorem dX8_run_28 : decode cX8_run 28 = .ok (.getfield 78, 3) := by decide +kernel
theorem dX8_run_31 : decode cX8_run 31 = .ok (.ifCond .ne 7, 3) := by decide +kernel
theorem dX8_run_34 : decode cX8_run 34 = .ok (.iconst 2, 1) := by decide +kernel
theorem dX8_run_35 : decode cX8_run 35 = .ok (.goto 4, 3) := by decide +kernel
theorem dX8_run_38 : decode cX8_run 38 = .ok (.iconst 0, 1) := by decide +kernel
theorem dX8_run_39 : decode cX8_run 39 = .ok (.putfield 74, 3) := by decide +kernel
theorem dX8_run_42 : decode cX8_run 42 = .ok (.aload_n 0, 1) := by decide +kernel
theorem dX8_run_43 : decode cX8_run 43 = .ok (.getfield 74, 3) := by decide +kernel
theorem dX8_run_46 : decode cX8_run 46 = .ok (.ifCond .le 5, 3) := by decide +kernel
theorem dX8_run_49 : decode cX8_run 49 = .ok (.iconst 0, 1) := by decide +kernel
theorem dX8_run_50 : decode cX8_run 50 = .ok (.ireturn, 1) := by decide +kernel
theorem dX8_run_51 : decode cX8_run 51 = .ok (.aload_n 0, 1) := by decide +kernel
theorem dX8_run_52 : decode cX8_run 52 = .ok (.iconst 0, 1) := by decide +kernel
theorem dX8_run_53 : decode cX8_run 53 = .ok (.putfield 180, 3) := by decide +kernel
theorem dX8_run_56 : decode cX8_run 56 = .ok (.aload_n 0, 1) := by decide +kernel
theorem dX8_run_57 : decode cX8_run 57 = .ok (.iconst 0, 1) := by decide +kernel
theorem dX8_run_58 : decode cX8_run 58 = .ok (.putfield 203, 3) := by decide +kernel
theorem dX8_run_61 : decode cX8_run 61 = .ok (.aload_n 0, 1) := by decide +kernel
theorem dX8_run_62 : decode cX8_run 62 = .ok (.iconst 0, 1) := by decide +kernel
theorem dX8_run_63 : decode cX8_run 63 = .ok (.putfield 189, 3) := by decide +kernel
theorem dX8_run_66 : decode cX8_run 66 = .ok (.aload_n 0, 1) := by decide +kernel
theorem dX8_run_67 : decode cX8_run 67 = .ok (.iconst 0, 1) := by decide +kernel
theorem dX8_run_68 : decode cX8_run 68 = .ok (.putfield 192, 3) := by decide +kernel
theorem dX8_run_71 : decode cX8_run 71 = .ok (.iconst 0, 1) := by decide +kernel
theorem dX8_run_72 : decode cX8_run 72 = .ok (.istore_n 3, 1) := by decide +kernel
theorem dX8_run_73 : decode cX8_run 73 = .ok (.iload_n 3, 1) := by decide +kernel
theorem dX8_run_74 : decode cX8_run 74 = .ok (.bipush 12, 2) := by decide +kernel
theorem dX8_run_76 : decode cX8_run 76 = .ok (.if_icmp .ge 16, 3) := by decide +kernel
theorem dX8_run_79 : decode cX8_run 79 = .ok (.aload_n 0, 1) := by decide +kernel
theorem dX8_run_80 : decode cX8_run 80 = .ok (.getfield 65, 3) := by decide +kernel
theorem dX8_run_83 : decode cX8_run 83 = .ok (.iload_n 3, 1) := by decide +kernel
theorem dX8_run_84 : decode cX8_run 84 = .ok (.iconst 0, 1) := by decide +kernel
theorem dX8_run_85 : decode cX8_run 85 = .ok (.iastore, 1) := by decide +kernel
theorem dX8_run_86 : decode cX8_run 86 = .ok (.iinc 3 1, 3) := by decide +kernel
theorem dX8_run_89 : decode cX8_run 89 = .ok (.goto (-16), 3) := by decide +kernel
theorem dX8_run_92 : decode cX8_run 92 = .ok (.iconst 0, 1) := by decide +kernel
theorem dX8_run_93 : decode cX8_run 93 = .ok (.istore_n 3, 1) := by decide +kernel
theorem dX8_run_94 : decode cX8_run 94 = .ok (.iload_n 3, 1) := by decide +kernel
theorem dX8_run_95 : decode cX8_run 95 = .ok (.bipush 36, 2) := by decide +kernel
theorem dX8_run_97 : decode cX8_run 97 = .ok (.if_icmp .ge 23, 3) := by decide +kernel
theorem dX8_run_100 : decode cX8_run 100 = .ok (.aload_n 0, 1) := by decide +kernel
theorem dX8_run_101 : decode cX8_run 101 = .ok (.getfield 68, 3) := by decide +kernel
theorem dX8_run_104 : decode cX8_run 104 = .ok (.iload_n 3, 1) := by decide +kernel
theorem dX8_run_105 : decode cX8_run 105 = .ok (.iconst 0, 1) := by decide +kernel
theorem dX8_run_106 : decode cX8_run 106 = .ok (.iastore, 1) := by decide +kernel
theorem dX8_run_107 : decode cX8_run 107 = .ok (.aload_n 0, 1) := by decide +kernel
theorem dX8_run_108 : decode cX8_run 108 = .ok (.getfield 71, 3) := by decide +kernel
theorem dX8_run_111 : decode cX8_run 111 = .ok (.iload_n 3, 1) := by decide +kernel
theorem dX8_run_112 : decode cX8_run 112 = .ok (.iconst 0, 1) := by decide +kernel
theorem dX8_run_113 : decode cX8_run 113 = .ok (.bastore, 1) := by decide +kernel
theorem dX8_run_114 : decode cX8_run 114 = .ok (.iinc 3 1, 3) := by decide +kernel
theorem dX8_run_117 : decode cX8_run 117 = .ok (.goto (-23), 3) := by decide +kernel
theorem dX8_run_120 : decode cX8_run 120 = .ok (.aload_n 0, 1) := by decide +kernel
theorem dX8_run_121 : decode cX8_run 121 = .ok (.aload_n 0, 1) := by decide +kernel
theorem dX8_run_122 : decode cX8_run 122 = .ok (.iload_n 1, 1) := by decide +kernel
theorem dX8_run_123 : decode cX8_run 123 = .ok (.iconst 0, 1) := by decide +kernel
theorem dX8_run_124 : decode cX8_run 124 = .ok (.iconst (-1), 1) := by decide +kernel
theorem dX8_run_125 : decode cX8_run 125 = .ok (.invokevirtual 199, 3) := by decide +kernel
theorem dX8_run_128 : decode cX8_run 128 = .ok (.ifCond .eq 7, 3) := by decide +kernel
theorem dX8_run_131 : decode cX8_run 131 = .ok (.iconst (-1), 1) := by decide +kernel
theorem dX8_run_132 : decode cX8_run 132 = .ok (.goto 4, 3) := by decide +kernel
theorem dX8_run_135 : decode cX8_run 135 = .ok (.iconst 2, 1) := by decide +kernel
theorem dX8_run_136 : decode cX8_run 136 = .ok (.putfield 206, 3) := by decide +kernel
theorem dX8_run_139 : decode cX8_run 139 = .ok (.aload_n 0, 1) := by decide +kernel
theorem dX8_run_140 : decode cX8_run 140 = .ok (.getfield 206, 3) := by decide +kernel
theorem dX8_run_143 : decode cX8_run 143 = .ok (.iconst (-1), 1) := by decide +kernel
theorem dX8_run_144 : decode cX8_run 144 = .ok (.if_icmp .ne 12, 3) := by decide +kernel
theorem dX8_run_147 : decode cX8_run 147 = .ok (.aload_n 0, 1) := by decide +kernel
theorem dX8_run_148 : decode cX8_run 148 = .ok (.iload_n 1, 1) := by decide +kernel
theorem dX8_run_149 : decode cX8_run 149 = .ok (.iload_n 2, 1) := by decide +kernel
theorem dX8_run_150 : decode cX8_run 150 = .ok (.invokevirtual 209, 3) := by decide +kernel
theorem dX8_run_153 : decode cX8_run 153 = .ok (.goto (-14), 3) := by decide +kernel
theorem dX8_run_156 : decode cX8_run 156 = .ok (.aload_n 0, 1) := by decide +kernel
theorem dX8_run_157 : decode cX8_run 157 = .ok (.getfield 206, 3) := by decide +kernel
theorem dX8_run_160 : decode cX8_run 160 = .ok (.ireturn, 1) := by decide +kernel
theorem dX8_go_0 : decode cX8_go 0 = .ok (.aload_n 0, 1) := by decide +kernel
theorem dX8_go_1 : decode cX8_go 1 = .ok (.getfield 180, 3) := by decide +kernel
theorem dX8_go_4 : decode cX8_go 4 = .ok (.ifCond .ne 9, 3) := by decide +kernel
theorem dX8_go_7 : decode cX8_go 7 = .ok (.aload_n 0, 1) := by decide +kernel
theorem dX8_go_8 : decode cX8_go 8 = .ok (.iconst 1, 1) := by decide +kernel
theorem dX8_go_9 : decode cX8_go 9 = .ok (.putfield 206, 3) := by decide +kernel
theorem dX8_go_12 : decode cX8_go 12 = .ok (.return_, 1) := by decide +kernel
theorem dX8_go_13 : decode cX8_go 13 = .ok (.aload_n 0, 1) := by decide +kernel
theorem dX8_go_14 : decode cX8_go 14 = .ok (.getfield 53, 3) := by decide +kernel
theorem dX8_go_17 : decode cX8_go 17 = .ok (.aload_n 0, 1) := by decide +kernel
theorem dX8_go_18 : decode cX8_go 18 = .ok (.getfield 180, 3) := by decide +kernel
theorem dX8_go_21 : decode cX8_go 21 = .ok (.iconst 1, 1) := by decide +kernel
theorem dX8_go_22 : decode cX8_go 22 = .ok (.isub, 1) := by decide +kernel
theorem dX8_go_23 : decode cX8_go 23 = .ok (.iaload, 1) := by decide +kernel
theorem dX8_go_24 : decode cX8_go 24 = .ok (.istore_n 3, 1) := by decide +kernel
theorem dX8_go_25 : decode cX8_go 25 = .ok (.aload_n 0, 1) := by decide +kernel
theorem dX8_go_26 : decode cX8_go 26 = .ok (.getfield 50, 3) := by decide +kernel
theorem dX8_go_29 : decode cX8_go 29 = .ok (.aload_n 0, 1) := by decide +kernel
theorem dX8_go_30 : decode cX8_go 30 = .ok (.getfield 180, 3) := by decide +kernel
theorem dX8_go_33 : decode cX8_go 33 = .ok (.iconst 1, 1) := by decide +kernel
theorem dX8_go_34 : decode cX8_go 34 = .ok (.isub, 1) := by decide +kernel
theorem dX8_go_35 : decode cX8_go 35 = .ok (.iaload, 1) := by decide +kernel
theorem dX8_go_36 : decode cX8_go 36 = .ok (.istore 4, 2) := by decide +kernel
theorem dX8_go_38 : decode cX8_go 38 = .ok (.iload 4, 2) := by decide +kernel
theorem dX8_go_40 : decode cX8_go 40 = .ok (.iload_n 1, 1) := by decide +kernel
theorem dX8_go_41 : decode cX8_go 41 = .ok (.ifCond .eq 12, 3) := by decide +kernel
theorem dX8_go_44 : decode cX8_go 44 = .ok (.aload_n 0, 1) := by decide +kernel
theorem dX8_go_45 : decode cX8_go 45 = .ok (.getfield 16, 3) := by decide +kernel
theorem dX8_go_48 : decode cX8_go 48 = .ok (.iload_n 3, 1) := by decide +kernel
theorem dX8_go_49 : decode cX8_go 49 = .ok (.iaload, 1) := by decide +kernel
theorem dX8_go_50 : decode cX8_go 50 = .ok (.goto 9, 3) := by decide +kernel
theorem dX8_go_53 : decode cX8_go 53 = .ok (.aload_n 0, 1) := by decide +kernel
theorem dX8_go_54 : decode cX8_go 54 = .ok (.getfield 13, 3) := by decide +kernel
theorem dX8_go_57 : decode cX8_go 57 = .ok (.iload_n 3, 1) := by decide +kernel
theorem dX8_go_58 : decode cX8_go 58 = .ok (.iaload, 1) := by decide +kernel
theorem dX8_go_59 : decode cX8_go 59 = .ok (.if_icmp .lt 11, 3) := by decide +kernel
theorem dX8_go_62 : decode cX8_go 62 = .ok (.aload_n 0, 1) := by decide +kernel
theorem dX8_go_63 : decode cX8_go 63 = .ok (.iconst 0, 1) := by decide +kernel
theorem dX8_go_64 : decode cX8_go 64 = .ok (.invokevirtual 195, 3) := by decide +kernel
theorem dX8_go_67 : decode cX8_go 67 = .ok (.goto 55, 3) := by decide +kernel
theorem dX8_go_70 : decode cX8_go 70 = .ok (.aload_n 0, 1) := by decide +kernel
theorem dX8_go_71 : decode cX8_go 71 = .ok (.getfield 203, 3) := by decide +kernel
theorem dX8_go_74 : decode cX8_go 74 = .ok (.iload_n 2, 1) := by decide +kernel
theorem dX8_go_75 : decode cX8_go 75 = .ok (.if_icmp .ne 11, 3) := by decide +kernel
theorem dX8_go_78 : decode cX8_go 78 = .ok (.aload_n 0, 1) := by decide +kernel
theorem dX8_go_79 : decode cX8_go 79 = .ok (.iconst 0, 1) := by decide +kernel
theorem dX8_go_80 : decode cX8_go 80 = .ok (.putfield 206, 3) := by decide +kernel
theorem dX8_go_83 : decode cX8_go 83 = .ok (.goto 39, 3) := by decide +kernel
theorem dX8_go_86 : decode cX8_go 86 = .ok (.aload_n 0, 1) := by decide +kernel
theorem dX8_go_87 : decode cX8_go 87 = .ok (.iload_n 1, 1) := by decide +kernel
theorem dX8_go_88 : decode cX8_go 88 = .ok (.bipush 96, 2) := by decide +kernel
theorem dX8_go_90 : decode cX8_go 90 = .ok (.iload_n 3, 1) := by decide +kernel
theorem dX8_go_91 : decode cX8_go 91 = .ok (.imul, 1) := by decide +kernel
theorem dX8_go_92 : decode cX8_go 92 = .ok (.bipush 6, 2) := by decide +kernel
theorem dX8_go_94 : decode cX8_go 94 = .ok (.iload 4, 2) := by decide +kernel
theorem dX8_go_96 : decode cX8_go 96 = .ok (.imul, 1) := by decide +kernel
theorem dX8_go_97 : decode cX8_go 97 = .ok (.iadd, 1) := by decide +kernel
theorem dX8_go_98 : decode cX8_go 98 = .ok (.invokevirtual 213, 3) := by decide +kernel
theorem dX8_go_101 : decode cX8_go 101 = .ok (.ifCond .ne 11, 3) := by decide +kernel
theorem dX8_go_104 : decode cX8_go 104 = .ok (.aload_n 0, 1) := by decide +kernel
theorem dX8_go_105 : decode cX8_go 105 = .ok (.iconst 2, 1) := by decide +kernel
theorem dX8_go_106 : decode cX8_go 106 = .ok (.putfield 206, 3) := by decide +kernel
theorem dX8_go_109 : decode cX8_go 109 = .ok (.goto 13, 3) := by decide +kernel
theorem dX8_go_112 : decode cX8_go 112 = .ok (.aload_n 0, 1) := by decide +kernel
theorem dX8_go_113 : decode cX8_go 113 = .ok (.dup, 1) := by decide +kernel
theorem dX8_go_114 : decode cX8_go 114 = .ok (.getfield 203, 3) := by decide +kernel
theorem dX8_go_117 : decode cX8_go 117 = .ok (.iconst 1, 1) := by decide +kernel
theorem dX8_go_118 : decode cX8_go 118 = .ok (.iadd, 1) := by decide +kernel
theorem dX8_go_119 : decode cX8_go 119 = .ok (.putfield 203, 3) := by decide +kernel
theorem dX8_go_122 : decode cX8_go 122 = .ok (.return_, 1) := by decide +kernel
theorem dX8_done_0 : decode cX8_done 0 = .ok (.aload_n 0, 1) := by decide +kernel
theorem dX8_done_1 : decode cX8_done 1 = .ok (.iconst 0, 1) := by decide +kernel
theorem dX8_done_2 : decode cX8_done 2 = .ok (.putfield 74, 3) := by decide +kernel
theorem dX8_done_5 : decode cX8_done 5 = .ok (.aload_n 0, 1) := by decide +kernel
theorem dX8_done_6 : decode cX8_done 6 = .ok (.getfield 203, 3) := by decide +kernel
theorem dX8_done_9 : decode cX8_done 9 = .ok (.ireturn, 1) := by decide +kernel
theorem dX8_outputs_0 : decode cX8_outputs 0 = .ok (.aload_n 0, 1) := by decide +kernel
theorem dX8_outputs_1 : decode cX8_outputs 1 = .ok (.iconst 0, 1) := by decide +kernel
theorem dX8_outputs_2 : decode cX8_outputs 2 = .ok (.putfield 74, 3) := by decide +kernel
theorem dX8_outputs_5 : decode cX8_outputs 5 = .ok (.aload_n 0, 1) := by decide +kernel
theorem dX8_outputs_6 : decode cX8_outputs 6 = .ok (.getfield 192, 3) := by decide +kernel
theorem dX8_outputs_9 : decode cX8_outputs 9 = .ok (.ireturn, 1) := by decide +kernel
theorem dX8_output_0 : decode cX8_output 0 = .ok (.aload_n 0, 1) := by decide +kernel
theorem dX8_output_1 : decode cX8_output 1 = .ok (.iconst 0, 1) := by decide +kernel
theorem dX8_output_2 : decode cX8_output 2 = .ok (.putfield 74, 3) := by decide +kernel
theorem dX8_output_5 : decode cX8_output 5 = .ok (.iload_n 1, 1) := by decide +kernel
theorem dX8_output_6 : decode cX8_output 6 = .ok (.ifCond .lt 11, 3) := by decide +kernel
theorem dX8_output_9 : decode cX8_output 9 = .ok (.iload_n 1, 1) := by decide +kernel
theorem dX8_output_10 : decode cX8_output 10 = .ok (.aload_n 0, 1) := by decide +kernel
theorem dX8_output_11 : decode cX8_output 11 = .ok (.getfield 192, 3) := by decide +kernel
theorem dX8_output_14 : decode cX8_output 14 = .ok (.if_icmp .lt 11, 3) := by decide +kernel
theorem dX8_output_17 : decode cX8_output 17 = .ok (.aload_n 0, 1) := by decide +kernel
theorem dX8_output_18 : decode cX8_output 18 = .ok (.iconst 1, 1) := by decide +kernel
theorem dX8_output_19 : decode cX8_output 19 = .ok (.invokevirtual 217, 3) := by decide +kernel
theorem dX8_output_22 : decode cX8_output 22 = .ok (.goto 9, 3) := by decide +kernel
theorem dX8_output_25 : decode cX8_output 25 = .ok (.aload_n 0, 1) := by decide +kernel
theorem dX8_output_26 : decode cX8_output 26 = .ok (.getfield 62, 3) := by decide +kernel
theorem dX8_output_29 : decode cX8_output 29 = .ok (.iload_n 1, 1) := by decide +kernel
theorem dX8_output_30 : decode cX8_output 30 = .ok (.iaload, 1) := by decide +kernel
theorem dX8_output_31 : decode cX8_output 31 = .ok (.ireturn, 1) := by decide +kernel
theorem dX8_calls_0 : decode cX8_calls 0 = .ok (.aload_n 0, 1) := by decide +kernel
theorem dX8_calls_1 : decode cX8_calls 1 = .ok (.iconst 0, 1) := by decide +kernel
theorem dX8_calls_2 : decode cX8_calls 2 = .ok (.putfield 74, 3) := by decide +kernel
theorem dX8_calls_5 : decode cX8_calls 5 = .ok (.iload_n 1, 1) := by decide +kernel
theorem dX8_calls_6 : decode cX8_calls 6 = .ok (.ifCond .lt 9, 3) := by decide +kernel
theorem dX8_calls_9 : decode cX8_calls 9 = .ok (.iload_n 1, 1) := by decide +kernel
theorem dX8_calls_10 : decode cX8_calls 10 = .ok (.bipush 12, 2) := by decide +kernel
theorem dX8_calls_12 : decode cX8_calls 12 = .ok (.if_icmp .lt 11, 3) := by decide +kernel
theorem dX8_calls_15 : decode cX8_calls 15 = .ok (.aload_n 0, 1) := by decide +kernel
theorem dX8_calls_16 : decode cX8_calls 16 = .ok (.iconst 1, 1) := by decide +kernel
theorem dX8_calls_17 : decode cX8_calls 17 = .ok (.invokevirtual 217, 3) := by decide +kernel
theorem dX8_calls_20 : decode cX8_calls 20 = .ok (.goto 9, 3) := by decide +kernel
theorem dX8_calls_23 : decode cX8_calls 23 = .ok (.aload_n 0, 1) := by decide +kernel
theorem dX8_calls_24 : decode cX8_calls 24 = .ok (.getfield 65, 3) := by decide +kernel
theorem dX8_calls_27 : decode cX8_calls 27 = .ok (.iload_n 1, 1) := by decide +kernel
theorem dX8_calls_28 : decode cX8_calls 28 = .ok (.iaload, 1) := by decide +kernel
theorem dX8_calls_29 : decode cX8_calls 29 = .ok (.ireturn, 1) := by decide +kernel
theorem dX8_isNamed_0 : decode cX8_isNamed 0 = .ok (.iload_n 1, 1) := by decide +kernel
theorem dX8_isNamed_1 : decode cX8_isNamed 1 = .ok (.ifCond .lt 22, 3) := by decide +kernel
theorem dX8_isNamed_4 : decode cX8_isNamed 4 = .ok (.iload_n 1, 1) := by decide +kernel
theorem dX8_isNamed_5 : decode cX8_isNamed 5 = .ok (.bipush 12, 2) := by decide +kernel
theorem dX8_isNamed_7 : decode cX8_isNamed 7 = .ok (.if_icmp .ge 16, 3) := by decide +kernel
theorem dX8_isNamed_10 : decode cX8_isNamed 10 = .ok (.iload_n 2, 1) := by decide +kernel
theorem dX8_isNamed_11 : decode cX8_isNamed 11 = .ok (.ifCond .lt 12, 3) := by decide +kernel
theorem dX8_isNamed_14 : decode cX8_isNamed 14 = .ok (.iload_n 2, 1) := by decide +kernel
theorem dX8_isNamed_15 : decode cX8_isNamed 15 = .ok (.iconst 3, 1) := by decide +kernel
theorem dX8_isNamed_16 : decode cX8_isNamed 16 = .ok (.if_icmp .ge 7, 3) := by decide +kernel
theorem dX8_isNamed_19 : decode cX8_isNamed 19 = .ok (.iconst 1, 1) := by decide +kernel
theorem dX8_isNamed_20 : decode cX8_isNamed 20 = .ok (.goto 4, 3) := by decide +kernel
theorem dX8_isNamed_23 : decode cX8_isNamed 23 = .ok (.iconst 0, 1) := by decide +kernel
theorem dX8_isNamed_24 : decode cX8_isNamed 24 = .ok (.ireturn, 1) := by decide +kernel
theorem dX8_same_0 : decode cX8_same 0 = .ok (.aload_n 0, 1) := by decide +kernel
theorem dX8_same_1 : decode cX8_same 1 = .ok (.aload_n 0, 1) := by decide +kernel
theorem dX8_same_2 : decode cX8_same 2 = .ok (.iload_n 1, 1) := by decide +kernel
theorem dX8_same_3 : decode cX8_same 3 = .ok (.iload_n 2, 1) := by decide +kernel
theorem dX8_same_4 : decode cX8_same 4 = .ok (.invokevirtual 220, 3) := by decide +kernel
theorem dX8_same_7 : decode cX8_same 7 = .ok (.ifCond .eq 7, 3) := by decide +kernel
theorem dX8_same_10 : decode cX8_same 10 = .ok (.iconst 0, 1) := by decide +kernel
theorem dX8_same_11 : decode cX8_same 11 = .ok (.goto 4, 3) := by decide +kernel
theorem dX8_same_14 : decode cX8_same 14 = .ok (.iconst 1, 1) := by decide +kernel
theorem dX8_same_15 : decode cX8_same 15 = .ok (.putfield 74, 3) := by decide +kernel
theorem dX8_same_18 : decode cX8_same 18 = .ok (.aload_n 0, 1) := by decide +kernel
theorem dX8_same_19 : decode cX8_same 19 = .ok (.getfield 74, 3) := by decide +kernel
theorem dX8_same_22 : decode cX8_same 22 = .ok (.ifCond .ne 29, 3) := by decide +kernel
theorem dX8_same_25 : decode cX8_same 25 = .ok (.aload_n 0, 1) := by decide +kernel
theorem dX8_same_26 : decode cX8_same 26 = .ok (.getfield 65, 3) := by decide +kernel
theorem dX8_same_29 : decode cX8_same 29 = .ok (.iload_n 1, 1) := by decide +kernel
theorem dX8_same_30 : decode cX8_same 30 = .ok (.iaload, 1) := by decide +kernel
theorem dX8_same_31 : decode cX8_same 31 = .ok (.ifCond .le 20, 3) := by decide +kernel
theorem dX8_same_34 : decode cX8_same 34 = .ok (.aload_n 0, 1) := by decide +kernel
theorem dX8_same_35 : decode cX8_same 35 = .ok (.getfield 71, 3) := by decide +kernel
theorem dX8_same_38 : decode cX8_same 38 = .ok (.iconst 3, 1) := by decide +kernel
theorem dX8_same_39 : decode cX8_same 39 = .ok (.iload_n 1, 1) := by decide +kernel
theorem dX8_same_40 : decode cX8_same 40 = .ok (.imul, 1) := by decide +kernel
theorem dX8_same_41 : decode cX8_same 41 = .ok (.iload_n 2, 1) := by decide +kernel
theorem dX8_same_42 : decode cX8_same 42 = .ok (.iadd, 1) := by decide +kernel
theorem dX8_same_43 : decode cX8_same 43 = .ok (.baload, 1) := by decide +kernel
theorem dX8_same_44 : decode cX8_same 44 = .ok (.ifCond .ne 7, 3) := by decide +kernel
theorem dX8_same_47 : decode cX8_same 47 = .ok (.iconst 1, 1) := by decide +kernel
theorem dX8_same_48 : decode cX8_same 48 = .ok (.goto 4, 3) := by decide +kernel
theorem dX8_same_51 : decode cX8_same 51 = .ok (.iconst 0, 1) := by decide +kernel
theorem dX8_same_52 : decode cX8_same 52 = .ok (.ireturn, 1) := by decide +kernel
theorem dX8_latest_0 : decode cX8_latest 0 = .ok (.aload_n 0, 1) := by decide +kernel
theorem dX8_latest_1 : decode cX8_latest 1 = .ok (.aload_n 0, 1) := by decide +kernel
theorem dX8_latest_2 : decode cX8_latest 2 = .ok (.iload_n 1, 1) := by decide +kernel
theorem dX8_latest_3 : decode cX8_latest 3 = .ok (.iload_n 2, 1) := by decide +kernel
theorem dX8_latest_4 : decode cX8_latest 4 = .ok (.invokevirtual 220, 3) := by decide +kernel
theorem dX8_latest_7 : decode cX8_latest 7 = .ok (.ifCond .eq 7, 3) := by decide +kernel
theorem dX8_latest_10 : decode cX8_latest 10 = .ok (.iconst 0, 1) := by decide +kernel
theorem dX8_latest_11 : decode cX8_latest 11 = .ok (.goto 4, 3) := by decide +kernel
theorem dX8_latest_14 : decode cX8_latest 14 = .ok (.iconst 1, 1) := by decide +kernel
theorem dX8_latest_15 : decode cX8_latest 15 = .ok (.putfield 74, 3) := by decide +kernel
theorem dX8_latest_18 : decode cX8_latest 18 = .ok (.aload_n 0, 1) := by decide +kernel
theorem dX8_latest_19 : decode cX8_latest 19 = .ok (.getfield 74, 3) := by decide +kernel
theorem dX8_latest_22 : decode cX8_latest 22 = .ok (.ifCond .ne 16, 3) := by decide +kernel
theorem dX8_latest_25 : decode cX8_latest 25 = .ok (.aload_n 0, 1) := by decide +kernel
theorem dX8_latest_26 : decode cX8_latest 26 = .ok (.getfield 68, 3) := by decide +kernel
theorem dX8_latest_29 : decode cX8_latest 29 = .ok (.iconst 3, 1) := by decide +kernel
theorem dX8_latest_30 : decode cX8_latest 30 = .ok (.iload_n 1, 1) := by decide +kernel
theorem dX8_latest_31 : decode cX8_latest 31 = .ok (.imul, 1) := by decide +kernel
theorem dX8_latest_32 : decode cX8_latest 32 = .ok (.iload_n 2, 1) := by decide +kernel
theorem dX8_latest_33 : decode cX8_latest 33 = .ok (.iadd, 1) := by decide +kernel
theorem dX8_latest_34 : decode cX8_latest 34 = .ok (.iaload, 1) := by decide +kernel
theorem dX8_latest_35 : decode cX8_latest 35 = .ok (.goto 4, 3) := by decide +kernel
theorem dX8_latest_38 : decode cX8_latest 38 = .ok (.iconst 0, 1) := by decide +kernel
theorem dX8_latest_39 : decode cX8_latest 39 = .ok (.ireturn, 1) := by decide +kernel
