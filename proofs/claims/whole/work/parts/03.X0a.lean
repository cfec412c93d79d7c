theorem dX0_init_0 : decode cX0_init 0 = .ok (.aload_n 0, 1) := by decide +kernel
theorem dX0_init_1 : decode cX0_init 1 = .ok (.invokespecial 3, 3) := by decide +kernel
theorem dX0_init_4 : decode cX0_init 4 = .ok (.aload_n 0, 1) := by decide +kernel
theorem dX0_init_5 : decode cX0_init 5 = .ok (.aload_n 1, 1) := by decide +kernel
theorem dX0_init_6 : decode cX0_init 6 = .ok (.putfield 9, 3) := by decide +kernel
theorem dX0_init_9 : decode cX0_init 9 = .ok (.aload_n 0, 1) := by decide +kernel
theorem dX0_init_10 : decode cX0_init 10 = .ok (.aload_n 2, 1) := by decide +kernel
theorem dX0_init_11 : decode cX0_init 11 = .ok (.putfield 15, 3) := by decide +kernel
theorem dX0_init_14 : decode cX0_init 14 = .ok (.aload_n 0, 1) := by decide +kernel
theorem dX0_init_15 : decode cX0_init 15 = .ok (.new 19, 3) := by decide +kernel
theorem dX0_init_18 : decode cX0_init 18 = .ok (.dup, 1) := by decide +kernel
theorem dX0_init_19 : decode cX0_init 19 = .ok (.invokespecial 21, 3) := by decide +kernel
theorem dX0_init_22 : decode cX0_init 22 = .ok (.putfield 22, 3) := by decide +kernel
theorem dX0_init_25 : decode cX0_init 25 = .ok (.aload_n 0, 1) := by decide +kernel
theorem dX0_init_26 : decode cX0_init 26 = .ok (.sipush 204, 3) := by decide +kernel
theorem dX0_init_29 : decode cX0_init 29 = .ok (.newarray .boolean, 2) := by decide +kernel
theorem dX0_init_31 : decode cX0_init 31 = .ok (.putfield 26, 3) := by decide +kernel
theorem dX0_init_34 : decode cX0_init 34 = .ok (.aload_n 0, 1) := by decide +kernel
theorem dX0_init_35 : decode cX0_init 35 = .ok (.sipush 204, 3) := by decide +kernel
theorem dX0_init_38 : decode cX0_init 38 = .ok (.newarray .int, 2) := by decide +kernel
theorem dX0_init_40 : decode cX0_init 40 = .ok (.putfield 30, 3) := by decide +kernel
theorem dX0_init_43 : decode cX0_init 43 = .ok (.aload_n 0, 1) := by decide +kernel
theorem dX0_init_44 : decode cX0_init 44 = .ok (.iconst 0, 1) := by decide +kernel
theorem dX0_init_45 : decode cX0_init 45 = .ok (.putfield 34, 3) := by decide +kernel
theorem dX0_init_48 : decode cX0_init 48 = .ok (.return_, 1) := by decide +kernel
theorem dX0_find_0 : decode cX0_find 0 = .ok (.aload_n 0, 1) := by decide +kernel
theorem dX0_find_1 : decode cX0_find 1 = .ok (.getfield 15, 3) := by decide +kernel
theorem dX0_find_4 : decode cX0_find 4 = .ok (.invokevirtual 38, 3) := by decide +kernel
theorem dX0_find_7 : decode cX0_find 7 = .ok (.iconst 0, 1) := by decide +kernel
theorem dX0_find_8 : decode cX0_find 8 = .ok (.istore_n 1, 1) := by decide +kernel
theorem dX0_find_9 : decode cX0_find 9 = .ok (.iload_n 1, 1) := by decide +kernel
theorem dX0_find_10 : decode cX0_find 10 = .ok (.bipush 6, 2) := by decide +kernel
theorem dX0_find_12 : decode cX0_find 12 = .ok (.if_icmp .ge 18, 3) := by decide +kernel
theorem dX0_find_15 : decode cX0_find 15 = .ok (.aload_n 0, 1) := by decide +kernel
theorem dX0_find_16 : decode cX0_find 16 = .ok (.getfield 22, 3) := by decide +kernel
theorem dX0_find_19 : decode cX0_find 19 = .ok (.iload_n 1, 1) := by decide +kernel
theorem dX0_find_20 : decode cX0_find 20 = .ok (.iconst 0, 1) := by decide +kernel
theorem dX0_find_21 : decode cX0_find 21 = .ok (.invokevirtual 43, 3) := by decide +kernel
theorem dX0_find_24 : decode cX0_find 24 = .ok (.iinc 1 1, 3) := by decide +kernel
theorem dX0_find_27 : decode cX0_find 27 = .ok (.goto (-18), 3) := by decide +kernel
theorem dX0_find_30 : decode cX0_find 30 = .ok (.aload_n 0, 1) := by decide +kernel
theorem dX0_find_31 : decode cX0_find 31 = .ok (.iconst 0, 1) := by decide +kernel
theorem dX0_find_32 : decode cX0_find 32 = .ok (.iconst 0, 1) := by decide +kernel
theorem dX0_find_33 : decode cX0_find 33 = .ok (.invokevirtual 47, 3) := by decide +kernel
theorem dX0_find_36 : decode cX0_find 36 = .ok (.iconst 0, 1) := by decide +kernel
theorem dX0_find_37 : decode cX0_find 37 = .ok (.istore_n 1, 1) := by decide +kernel
theorem dX0_find_38 : decode cX0_find 38 = .ok (.iload_n 1, 1) := by decide +kernel
theorem dX0_find_39 : decode cX0_find 39 = .ok (.sipush 1428, 3) := by decide +kernel
theorem dX0_find_42 : decode cX0_find 42 = .ok (.if_icmp .ge 55, 3) := by decide +kernel
theorem dX0_find_45 : decode cX0_find 45 = .ok (.aload_n 0, 1) := by decide +kernel
theorem dX0_find_46 : decode cX0_find 46 = .ok (.getfield 34, 3) := by decide +kernel
theorem dX0_find_49 : decode cX0_find 49 = .ok (.ifCond .le 48, 3) := by decide +kernel
theorem dX0_find_52 : decode cX0_find 52 = .ok (.aload_n 0, 1) := by decide +kernel
theorem dX0_find_53 : decode cX0_find 53 = .ok (.dup, 1) := by decide +kernel
theorem dX0_find_54 : decode cX0_find 54 = .ok (.getfield 34, 3) := by decide +kernel
theorem dX0_find_57 : decode cX0_find 57 = .ok (.iconst 1, 1) := by decide +kernel
theorem dX0_find_58 : decode cX0_find 58 = .ok (.isub, 1) := by decide +kernel
theorem dX0_find_59 : decode cX0_find 59 = .ok (.putfield 34, 3) := by decide +kernel
theorem dX0_find_62 : decode cX0_find 62 = .ok (.aload_n 0, 1) := by decide +kernel
theorem dX0_find_63 : decode cX0_find 63 = .ok (.getfield 30, 3) := by decide +kernel
theorem dX0_find_66 : decode cX0_find 66 = .ok (.aload_n 0, 1) := by decide +kernel
theorem dX0_find_67 : decode cX0_find 67 = .ok (.getfield 34, 3) := by decide +kernel
theorem dX0_find_70 : decode cX0_find 70 = .ok (.iaload, 1) := by decide +kernel
theorem dX0_find_71 : decode cX0_find 71 = .ok (.istore_n 2, 1) := by decide +kernel
theorem dX0_find_72 : decode cX0_find 72 = .ok (.aload_n 0, 1) := by decide +kernel
theorem dX0_find_73 : decode cX0_find 73 = .ok (.getfield 26, 3) := by decide +kernel
theorem dX0_find_76 : decode cX0_find 76 = .ok (.iload_n 2, 1) := by decide +kernel
theorem dX0_find_77 : decode cX0_find 77 = .ok (.iconst 0, 1) := by decide +kernel
theorem dX0_find_78 : decode cX0_find 78 = .ok (.bastore, 1) := by decide +kernel
theorem dX0_find_79 : decode cX0_find 79 = .ok (.aload_n 0, 1) := by decide +kernel
theorem dX0_find_80 : decode cX0_find 80 = .ok (.iload_n 2, 1) := by decide +kernel
theorem dX0_find_81 : decode cX0_find 81 = .ok (.bipush 17, 2) := by decide +kernel
theorem dX0_find_83 : decode cX0_find 83 = .ok (.idiv, 1) := by decide +kernel
theorem dX0_find_84 : decode cX0_find 84 = .ok (.iload_n 2, 1) := by decide +kernel
theorem dX0_find_85 : decode cX0_find 85 = .ok (.bipush 17, 2) := by decide +kernel
theorem dX0_find_87 : decode cX0_find 87 = .ok (.irem, 1) := by decide +kernel
theorem dX0_find_88 : decode cX0_find 88 = .ok (.invokevirtual 50, 3) := by decide +kernel
theorem dX0_find_91 : decode cX0_find 91 = .ok (.iinc 1 1, 3) := by decide +kernel
theorem dX0_find_94 : decode cX0_find 94 = .ok (.goto (-56), 3) := by decide +kernel
theorem dX0_find_97 : decode cX0_find 97 = .ok (.return_, 1) := by decide +kernel
theorem dX0_arriveAt_0 : decode cX0_arriveAt 0 = .ok (.aload_n 0, 1) := by decide +kernel
theorem dX0_arriveAt_1 : decode cX0_arriveAt 1 = .ok (.getfield 9, 3) := by decide +kernel
theorem dX0_arriveAt_4 : decode cX0_arriveAt 4 = .ok (.iload_n 1, 1) := by decide +kernel
theorem dX0_arriveAt_5 : decode cX0_arriveAt 5 = .ok (.iload_n 2, 1) := by decide +kernel
theorem dX0_arriveAt_6 : decode cX0_arriveAt 6 = .ok (.invokevirtual 53, 3) := by decide +kernel
theorem dX0_arriveAt_9 : decode cX0_arriveAt 9 = .ok (.istore_n 3, 1) := by decide +kernel
theorem dX0_arriveAt_10 : decode cX0_arriveAt 10 = .ok (.aload_n 0, 1) := by decide +kernel
theorem dX0_arriveAt_11 : decode cX0_arriveAt 11 = .ok (.getfield 15, 3) := by decide +kernel
theorem dX0_arriveAt_14 : decode cX0_arriveAt 14 = .ok (.iload_n 3, 1) := by decide +kernel
theorem dX0_arriveAt_15 : decode cX0_arriveAt 15 = .ok (.aload_n 0, 1) := by decide +kernel
theorem dX0_arriveAt_16 : decode cX0_arriveAt 16 = .ok (.getfield 22, 3) := by decide +kernel
theorem dX0_arriveAt_19 : decode cX0_arriveAt 19 = .ok (.invokevirtual 59, 3) := by decide +kernel
theorem dX0_arriveAt_22 : decode cX0_arriveAt 22 = .ok (.ifCond .eq 39, 3) := by decide +kernel
theorem dX0_arriveAt_25 : decode cX0_arriveAt 25 = .ok (.aload_n 0, 1) := by decide +kernel
theorem dX0_arriveAt_26 : decode cX0_arriveAt 26 = .ok (.getfield 26, 3) := by decide +kernel
theorem dX0_arriveAt_29 : decode cX0_arriveAt 29 = .ok (.iload_n 3, 1) := by decide +kernel
theorem dX0_arriveAt_30 : decode cX0_arriveAt 30 = .ok (.baload, 1) := by decide +kernel
theorem dX0_arriveAt_31 : decode cX0_arriveAt 31 = .ok (.ifCond .ne 30, 3) := by decide +kernel
theorem dX0_arriveAt_34 : decode cX0_arriveAt 34 = .ok (.aload_n 0, 1) := by decide +kernel
theorem dX0_arriveAt_35 : decode cX0_arriveAt 35 = .ok (.getfield 26, 3) := by decide +kernel
theorem dX0_arriveAt_38 : decode cX0_arriveAt 38 = .ok (.iload_n 3, 1) := by decide +kernel
theorem dX0_arriveAt_39 : decode cX0_arriveAt 39 = .ok (.iconst 1, 1) := by decide +kernel
theorem dX0_arriveAt_40 : decode cX0_arriveAt 40 = .ok (.bastore, 1) := by decide +kernel
theorem dX0_arriveAt_41 : decode cX0_arriveAt 41 = .ok (.aload_n 0, 1) := by decide +kernel
theorem dX0_arriveAt_42 : decode cX0_arriveAt 42 = .ok (.getfield 30, 3) := by decide +kernel
theorem dX0_arriveAt_45 : decode cX0_arriveAt 45 = .ok (.aload_n 0, 1) := by decide +kernel
theorem dX0_arriveAt_46 : decode cX0_arriveAt 46 = .ok (.getfield 34, 3) := by decide +kernel
theorem dX0_arriveAt_49 : decode cX0_arriveAt 49 = .ok (.iload_n 3, 1) := by decide +kernel
theorem dX0_arriveAt_50 : decode cX0_arriveAt 50 = .ok (.iastore, 1) := by decide +kernel
theorem dX0_arriveAt_51 : decode cX0_arriveAt 51 = .ok (.aload_n 0, 1) := by decide +kernel
theorem dX0_arriveAt_52 : decode cX0_arriveAt 52 = .ok (.dup, 1) := by decide +kernel
theorem dX0_arriveAt_53 : decode cX0_arriveAt 53 = .ok (.getfield 34, 3) := by decide +kernel
theorem dX0_arriveAt_56 : decode cX0_arriveAt 56 = .ok (.iconst 1, 1) := by decide +kernel
theorem dX0_arriveAt_57 : decode cX0_arriveAt 57 = .ok (.iadd, 1) := by decide +kernel
theorem dX0_arriveAt_58 : decode cX0_arriveAt 58 = .ok (.putfield 34, 3) := by decide +kernel
theorem dX0_arriveAt_61 : decode cX0_arriveAt 61 = .ok (.return_, 1) := by decide +kernel
theorem dX0_goOnFrom_0 : decode cX0_goOnFrom 0 = .ok (.iload_n 2, 1) := by decide +kernel
theorem dX0_goOnFrom_1 : decode cX0_goOnFrom 1 = .ok (.aload_n 0, 1) := by decide +kernel
theorem dX0_goOnFrom_2 : decode cX0_goOnFrom 2 = .ok (.getfield 9, 3) := by decide +kernel
theorem dX0_goOnFrom_5 : decode cX0_goOnFrom 5 = .ok (.getfield 63, 3) := by decide +kernel
theorem dX0_goOnFrom_8 : decode cX0_goOnFrom 8 = .ok (.iload_n 1, 1) := by decide +kernel
theorem dX0_goOnFrom_9 : decode cX0_goOnFrom 9 = .ok (.iaload, 1) := by decide +kernel
theorem dX0_goOnFrom_10 : decode cX0_goOnFrom 10 = .ok (.if_icmp .lt 4, 3) := by decide +kernel
theorem dX0_goOnFrom_13 : decode cX0_goOnFrom 13 = .ok (.return_, 1) := by decide +kernel
theorem dX0_goOnFrom_14 : decode cX0_goOnFrom 14 = .ok (.aload_n 0, 1) := by decide +kernel
theorem dX0_goOnFrom_15 : decode cX0_goOnFrom 15 = .ok (.getfield 9, 3) := by decide +kernel
theorem dX0_goOnFrom_18 : decode cX0_goOnFrom 18 = .ok (.iload_n 1, 1) := by decide +kernel
theorem dX0_goOnFrom_19 : decode cX0_goOnFrom 19 = .ok (.iload_n 2, 1) := by decide +kernel
theorem dX0_goOnFrom_20 : decode cX0_goOnFrom 20 = .ok (.iconst 0, 1) := by decide +kernel
theorem dX0_goOnFrom_21 : decode cX0_goOnFrom 21 = .ok (.invokevirtual 66, 3) := by decide +kernel
theorem dX0_goOnFrom_24 : decode cX0_goOnFrom 24 = .ok (.istore_n 3, 1) := by decide +kernel
theorem dX0_goOnFrom_25 : decode cX0_goOnFrom 25 = .ok (.iload_n 3, 1) := by decide +kernel
theorem dX0_goOnFrom_26 : decode cX0_goOnFrom 26 = .ok (.bipush 10, 2) := by decide +kernel
theorem dX0_goOnFrom_28 : decode cX0_goOnFrom 28 = .ok (.if_icmp .eq 9, 3) := by decide +kernel
theorem dX0_goOnFrom_31 : decode cX0_goOnFrom 31 = .ok (.iload_n 3, 1) := by decide +kernel
theorem dX0_goOnFrom_32 : decode cX0_goOnFrom 32 = .ok (.bipush 11, 2) := by decide +kernel
theorem dX0_goOnFrom_34 : decode cX0_goOnFrom 34 = .ok (.if_icmp .ne 10, 3) := by decide +kernel
theorem dX0_goOnFrom_37 : decode cX0_goOnFrom 37 = .ok (.aload_n 0, 1) := by decide +kernel
theorem dX0_goOnFrom_38 : decode cX0_goOnFrom 38 = .ok (.iload_n 1, 1) := by decide +kernel
theorem dX0_goOnFrom_39 : decode cX0_goOnFrom 39 = .ok (.iload_n 2, 1) := by decide +kernel
theorem dX0_goOnFrom_40 : decode cX0_goOnFrom 40 = .ok (.iload_n 3, 1) := by decide +kernel
theorem dX0_goOnFrom_41 : decode cX0_goOnFrom 41 = .ok (.invokevirtual 70, 3) := by decide +kernel
theorem dX0_goOnFrom_44 : decode cX0_goOnFrom 44 = .ok (.aload_n 0, 1) := by decide +kernel
theorem dX0_goOnFrom_45 : decode cX0_goOnFrom 45 = .ok (.aload_n 0, 1) := by decide +kernel
theorem dX0_goOnFrom_46 : decode cX0_goOnFrom 46 = .ok (.getfield 9, 3) := by decide +kernel
theorem dX0_goOnFrom_49 : decode cX0_goOnFrom 49 = .ok (.iload_n 1, 1) := by decide +kernel
theorem dX0_goOnFrom_50 : decode cX0_goOnFrom 50 = .ok (.iload_n 2, 1) := by decide +kernel
theorem dX0_goOnFrom_51 : decode cX0_goOnFrom 51 = .ok (.invokevirtual 53, 3) := by decide +kernel
theorem dX0_goOnFrom_54 : decode cX0_goOnFrom 54 = .ok (.invokevirtual 74, 3) := by decide +kernel
theorem dX0_goOnFrom_57 : decode cX0_goOnFrom 57 = .ok (.iload_n 3, 1) := by decide +kernel
theorem dX0_goOnFrom_58 : decode cX0_goOnFrom 58 = .ok (.tableswitch 83 6 12 #[72, 63, 45, 42, 83, 83, 72], 42) := by decide +kernel
theorem dX0_goOnFrom_100 : decode cX0_goOnFrom 100 = .ok (.goto 56, 3) := by decide +kernel
theorem dX0_goOnFrom_103 : decode cX0_goOnFrom 103 = .ok (.aload_n 0, 1) := by decide +kernel
theorem dX0_goOnFrom_104 : decode cX0_goOnFrom 104 = .ok (.iload_n 1, 1) := by decide +kernel
theorem dX0_goOnFrom_105 : decode cX0_goOnFrom 105 = .ok (.aload_n 0, 1) := by decide +kernel
theorem dX0_goOnFrom_106 : decode cX0_goOnFrom 106 = .ok (.getfield 9, 3) := by decide +kernel
theorem dX0_goOnFrom_109 : decode cX0_goOnFrom 109 = .ok (.iload_n 1, 1) := by decide +kernel
theorem dX0_goOnFrom_110 : decode cX0_goOnFrom 110 = .ok (.iload_n 2, 1) := by decide +kernel
theorem dX0_goOnFrom_111 : decode cX0_goOnFrom 111 = .ok (.iconst 2, 1) := by decide +kernel
theorem dX0_goOnFrom_112 : decode cX0_goOnFrom 112 = .ok (.invokevirtual 66, 3) := by decide +kernel
theorem dX0_goOnFrom_115 : decode cX0_goOnFrom 115 = .ok (.invokevirtual 47, 3) := by decide +kernel
theorem dX0_goOnFrom_118 : decode cX0_goOnFrom 118 = .ok (.goto 38, 3) := by decide +kernel
theorem dX0_goOnFrom_121 : decode cX0_goOnFrom 121 = .ok (.aload_n 0, 1) := by decide +kernel
theorem dX0_goOnFrom_122 : decode cX0_goOnFrom 122 = .ok (.iload_n 1, 1) := by decide +kernel
theorem dX0_goOnFrom_123 : decode cX0_goOnFrom 123 = .ok (.iload_n 2, 1) := by decide +kernel
theorem dX0_goOnFrom_124 : decode cX0_goOnFrom 124 = .ok (.invokevirtual 78, 3) := by decide +kernel
theorem dX0_goOnFrom_127 : decode cX0_goOnFrom 127 = .ok (.goto 29, 3) := by decide +kernel
theorem dX0_goOnFrom_130 : decode cX0_goOnFrom 130 = .ok (.aload_n 0, 1) := by decide +kernel
theorem dX0_goOnFrom_131 : decode cX0_goOnFrom 131 = .ok (.iload_n 1, 1) := by decide +kernel
theorem dX0_goOnFrom_132 : decode cX0_goOnFrom 132 = .ok (.iload_n 2, 1) := by decide +kernel
theorem dX0_goOnFrom_133 : decode cX0_goOnFrom 133 = .ok (.iconst 1, 1) := by decide +kernel
theorem dX0_goOnFrom_134 : decode cX0_goOnFrom 134 = .ok (.iadd, 1) := by decide +kernel
theorem dX0_goOnFrom_135 : decode cX0_goOnFrom 135 = .ok (.invokevirtual 47, 3) := by decide +kernel
theorem dX0_goOnFrom_138 : decode cX0_goOnFrom 138 = .ok (.goto 18, 3) := by decide +kernel
theorem dX0_goOnFrom_141 : decode cX0_goOnFrom 141 = .ok (.aload_n 0, 1) := by decide +kernel
theorem dX0_goOnFrom_142 : decode cX0_goOnFrom 142 = .ok (.iload_n 1, 1) := by decide +kernel
theorem dX0_goOnFrom_143 : decode cX0_goOnFrom 143 = .ok (.iload_n 2, 1) := by decide +kernel
theorem dX0_goOnFrom_144 : decode cX0_goOnFrom 144 = .ok (.iload_n 3, 1) := by decide +kernel
theorem dX0_goOnFrom_145 : decode cX0_goOnFrom 145 = .ok (.invokevirtual 81, 3) := by decide +kernel
theorem dX0_goOnFrom_148 : decode cX0_goOnFrom 148 = .ok (.aload_n 0, 1) := by decide +kernel
theorem dX0_goOnFrom_149 : decode cX0_goOnFrom 149 = .ok (.iload_n 1, 1) := by decide +kernel
theorem dX0_goOnFrom_150 : decode cX0_goOnFrom 150 = .ok (.iload_n 2, 1) := by decide +kernel
theorem dX0_goOnFrom_151 : decode cX0_goOnFrom 151 = .ok (.iconst 1, 1) := by decide +kernel
theorem dX0_goOnFrom_152 : decode cX0_goOnFrom 152 = .ok (.iadd, 1) := by decide +kernel
theorem dX0_goOnFrom_153 : decode cX0_goOnFrom 153 = .ok (.invokevirtual 47, 3) := by decide +kernel
theorem dX0_goOnFrom_156 : decode cX0_goOnFrom 156 = .ok (.return_, 1) := by decide +kernel
theorem dX0_takeRegisters_0 : decode cX0_takeRegisters 0 = .ok (.iconst 0, 1) := by decide +kernel
theorem dX0_takeRegisters_1 : decode cX0_takeRegisters 1 = .ok (.istore_n 2, 1) := by decide +kernel
theorem dX0_takeRegisters_2 : decode cX0_takeRegisters 2 = .ok (.iload_n 2, 1) := by decide +kernel
theorem dX0_takeRegisters_3 : decode cX0_takeRegisters 3 = .ok (.bipush 6, 2) := by decide +kernel
theorem dX0_takeRegisters_5 : decode cX0_takeRegisters 5 = .ok (.if_icmp .ge 16, 3) := by decide +kernel
theorem dX0_takeRegisters_8 : decode cX0_takeRegisters 8 = .ok (.aload_n 0, 1) := by decide +kernel
theorem dX0_takeRegisters_9 : decode cX0_takeRegisters 9 = .ok (.iload_n 2, 1) := by decide +kernel
theorem dX0_takeRegisters_10 : decode cX0_takeRegisters 10 = .ok (.iload_n 1, 1) := by decide +kernel
theorem dX0_takeRegisters_11 : decode cX0_takeRegisters 11 = .ok (.iload_n 2, 1) := by decide +kernel
theorem dX0_takeRegisters_12 : decode cX0_takeRegisters 12 = .ok (.invokevirtual 84, 3) := by decide +kernel
theorem dX0_takeRegisters_15 : decode cX0_takeRegisters 15 = .ok (.iinc 2 1, 3) := by decide +kernel
theorem dX0_takeRegisters_18 : decode cX0_takeRegisters 18 = .ok (.goto (-16), 3) := by decide +kernel
theorem dX0_takeRegisters_21 : decode cX0_takeRegisters 21 = .ok (.return_, 1) := by decide +kernel
theorem dX0_takeOperand_0 : decode cX0_takeOperand 0 = .ok (.aload_n 0, 1) := by decide +kernel
theorem dX0_takeOperand_1 : decode cX0_takeOperand 1 = .ok (.getfield 15, 3) := by decide +kernel
theorem dX0_takeOperand_4 : decode cX0_takeOperand 4 = .ok (.iload_n 2, 1) := by decide +kernel
theorem dX0_takeOperand_5 : decode cX0_takeOperand 5 = .ok (.iload_n 3, 1) := by decide +kernel
theorem dX0_takeOperand_6 : decode cX0_takeOperand 6 = .ok (.invokevirtual 87, 3) := by decide +kernel
theorem dX0_takeOperand_9 : decode cX0_takeOperand 9 = .ok (.ifCond .eq 23, 3) := by decide +kernel
theorem dX0_takeOperand_12 : decode cX0_takeOperand 12 = .ok (.aload_n 0, 1) := by decide +kernel
theorem dX0_takeOperand_13 : decode cX0_takeOperand 13 = .ok (.getfield 22, 3) := by decide +kernel
theorem dX0_takeOperand_16 : decode cX0_takeOperand 16 = .ok (.iload_n 1, 1) := by decide +kernel
theorem dX0_takeOperand_17 : decode cX0_takeOperand 17 = .ok (.aload_n 0, 1) := by decide +kernel
theorem dX0_takeOperand_18 : decode cX0_takeOperand 18 = .ok (.getfield 15, 3) := by decide +kernel
theorem dX0_takeOperand_21 : decode cX0_takeOperand 21 = .ok (.iload_n 2, 1) := by decide +kernel
theorem dX0_takeOperand_22 : decode cX0_takeOperand 22 = .ok (.iload_n 3, 1) := by decide +kernel
theorem dX0_takeOperand_23 : decode cX0_takeOperand 23 = .ok (.invokevirtual 91, 3) := by decide +kernel
theorem dX0_takeOperand_26 : decode cX0_takeOperand 26 = .ok (.invokevirtual 43, 3) := by decide +kernel
theorem dX0_takeOperand_29 : decode cX0_takeOperand 29 = .ok (.goto 11, 3) := by decide +kernel
theorem dX0_takeOperand_32 : decode cX0_takeOperand 32 = .ok (.aload_n 0, 1) := by decide +kernel
theorem dX0_takeOperand_33 : decode cX0_takeOperand 33 = .ok (.getfield 22, 3) := by decide +kernel
theorem dX0_takeOperand_36 : decode cX0_takeOperand 36 = .ok (.iload_n 1, 1) := by decide +kernel
theorem dX0_takeOperand_37 : decode cX0_takeOperand 37 = .ok (.invokevirtual 94, 3) := by decide +kernel
theorem dX0_takeOperand_40 : decode cX0_takeOperand 40 = .ok (.return_, 1) := by decide +kernel
theorem dX0_goOnFromIf_0 : decode cX0_goOnFromIf 0 = .ok (.aload_n 0, 1) := by decide +kernel
theorem dX0_goOnFromIf_1 : decode cX0_goOnFromIf 1 = .ok (.getfield 9, 3) := by decide +kernel
theorem dX0_goOnFromIf_4 : decode cX0_goOnFromIf 4 = .ok (.iload_n 1, 1) := by decide +kernel
theorem dX0_goOnFromIf_5 : decode cX0_goOnFromIf 5 = .ok (.iload_n 2, 1) := by decide +kernel
theorem dX0_goOnFromIf_6 : decode cX0_goOnFromIf 6 = .ok (.invokevirtual 53, 3) := by decide +kernel
theorem dX0_goOnFromIf_9 : decode cX0_goOnFromIf 9 = .ok (.istore_n 3, 1) := by decide +kernel
theorem dX0_goOnFromIf_10 : decode cX0_goOnFromIf 10 = .ok (.aload_n 0, 1) := by decide +kernel
theorem dX0_goOnFromIf_11 : decode cX0_goOnFromIf 11 = .ok (.getfield 9, 3) := by decide +kernel
theorem dX0_goOnFromIf_14 : decode cX0_goOnFromIf 14 = .ok (.iload_n 1, 1) := by decide +kernel
theorem dX0_goOnFromIf_15 : decode cX0_goOnFromIf 15 = .ok (.iload_n 2, 1) := by decide +kernel
theorem dX0_goOnFromIf_16 : decode cX0_goOnFromIf 16 = .ok (.iconst 3, 1) := by decide +kernel
theorem dX0_goOnFromIf_17 : decode cX0_goOnFromIf 17 = .ok (.invokevirtual 66, 3) := by decide +kernel
theorem dX0_goOnFromIf_20 : decode cX0_goOnFromIf 20 = .ok (.istore 4, 2) := by decide +kernel
theorem dX0_goOnFromIf_22 : decode cX0_goOnFromIf 22 = .ok (.aload_n 0, 1) := by decide +kernel
theorem dX0_goOnFromIf_23 : decode cX0_goOnFromIf 23 = .ok (.getfield 15, 3) := by decide +kernel
theorem dX0_goOnFromIf_26 : decode cX0_goOnFromIf 26 = .ok (.iload_n 3, 1) := by decide +kernel
theorem dX0_goOnFromIf_27 : decode cX0_goOnFromIf 27 = .ok (.iload 4, 2) := by decide +kernel
theorem dX0_goOnFromIf_29 : decode cX0_goOnFromIf 29 = .ok (.invokevirtual 87, 3) := by decide +kernel
theorem dX0_goOnFromIf_32 : decode cX0_goOnFromIf 32 = .ok (.istore 5, 2) := by decide +kernel
theorem dX0_goOnFromIf_34 : decode cX0_goOnFromIf 34 = .ok (.iload 5, 2) := by decide +kernel
theorem dX0_goOnFromIf_36 : decode cX0_goOnFromIf 36 = .ok (.ifCond .eq 20, 3) := by decide +kernel
theorem dX0_goOnFromIf_39 : decode cX0_goOnFromIf 39 = .ok (.aload_n 0, 1) := by decide +kernel
theorem dX0_goOnFromIf_40 : decode cX0_goOnFromIf 40 = .ok (.getfield 15, 3) := by decide +kernel
theorem dX0_goOnFromIf_43 : decode cX0_goOnFromIf 43 = .ok (.iload_n 3, 1) := by decide +kernel
theorem dX0_goOnFromIf_44 : decode cX0_goOnFromIf 44 = .ok (.iload 4, 2) := by decide +kernel
theorem dX0_goOnFromIf_46 : decode cX0_goOnFromIf 46 = .ok (.invokevirtual 91, 3) := by decide +kernel
theorem dX0_goOnFromIf_49 : decode cX0_goOnFromIf 49 = .ok (.ifCond .ne 7, 3) := by decide +kernel
theorem dX0_goOnFromIf_52 : decode cX0_goOnFromIf 52 = .ok (.iconst 1, 1) := by decide +kernel
theorem dX0_goOnFromIf_53 : decode cX0_goOnFromIf 53 = .ok (.goto 4, 3) := by decide +kernel
theorem dX0_goOnFromIf_56 : decode cX0_goOnFromIf 56 = .ok (.iconst 0, 1) := by decide +kernel
theorem dX0_goOnFromIf_57 : decode cX0_goOnFromIf 57 = .ok (.istore 6, 2) := by decide +kernel
theorem dX0_goOnFromIf_59 : decode cX0_goOnFromIf 59 = .ok (.iload 6, 2) := by decide +kernel
theorem dX0_goOnFromIf_61 : decode cX0_goOnFromIf 61 = .ok (.ifCond .ne 18, 3) := by decide +kernel
theorem dX0_goOnFromIf_64 : decode cX0_goOnFromIf 64 = .ok (.aload_n 0, 1) := by decide +kernel
theorem dX0_goOnFromIf_65 : decode cX0_goOnFromIf 65 = .ok (.iload_n 1, 1) := by decide +kernel
theorem dX0_goOnFromIf_66 : decode cX0_goOnFromIf 66 = .ok (.aload_n 0, 1) := by decide +kernel
theorem dX0_goOnFromIf_67 : decode cX0_goOnFromIf 67 = .ok (.getfield 9, 3) := by decide +kernel
theorem dX0_goOnFromIf_70 : decode cX0_goOnFromIf 70 = .ok (.iload_n 1, 1) := by decide +kernel
theorem dX0_goOnFromIf_71 : decode cX0_goOnFromIf 71 = .ok (.iload_n 2, 1) := by decide +kernel
theorem dX0_goOnFromIf_72 : decode cX0_goOnFromIf 72 = .ok (.iconst 2, 1) := by decide +kernel
theorem dX0_goOnFromIf_73 : decode cX0_goOnFromIf 73 = .ok (.invokevirtual 66, 3) := by decide +kernel
theorem dX0_goOnFromIf_76 : decode cX0_goOnFromIf 76 = .ok (.invokevirtual 47, 3) := by decide +kernel
theorem dX0_goOnFromIf_79 : decode cX0_goOnFromIf 79 = .ok (.iload 6, 2) := by decide +kernel
theorem dX0_goOnFromIf_81 : decode cX0_goOnFromIf 81 = .ok (.ifCond .ne 8, 3) := by decide +kernel
theorem dX0_goOnFromIf_84 : decode cX0_goOnFromIf 84 = .ok (.iload 5, 2) := by decide +kernel
theorem dX0_goOnFromIf_86 : decode cX0_goOnFromIf 86 = .ok (.ifCond .ne 11, 3) := by decide +kernel
theorem dX0_goOnFromIf_89 : decode cX0_goOnFromIf 89 = .ok (.aload_n 0, 1) := by decide +kernel
theorem dX0_goOnFromIf_90 : decode cX0_goOnFromIf 90 = .ok (.iload_n 1, 1) := by decide +kernel
theorem dX0_goOnFromIf_91 : decode cX0_goOnFromIf 91 = .ok (.iload_n 2, 1) := by decide +kernel
theorem dX0_goOnFromIf_92 : decode cX0_goOnFromIf 92 = .ok (.iconst 1, 1) := by decide +kernel
theorem dX0_goOnFromIf_93 : decode cX0_goOnFromIf 93 = .ok (.iadd, 1) := by decide +kernel
theorem dX0_goOnFromIf_94 : decode cX0_goOnFromIf 94 = .ok (.invokevirtual 47, 3) := by decide +kernel
theorem dX0_goOnFromIf_97 : decode cX0_goOnFromIf 97 = .ok (.return_, 1) := by decide +kernel
theorem dX0_putResult_0 : decode cX0_putResult 0 = .ok (.aload_n 0, 1) := by decide +kernel
theorem dX0_putResult_1 : decode cX0_putResult 1 = .ok (.getfield 9, 3) := by decide +kernel
theorem dX0_putResult_4 : decode cX0_putResult 4 = .ok (.iload_n 1, 1) := by decide +kernel
theorem dX0_putResult_5 : decode cX0_putResult 5 = .ok (.iload_n 2, 1) := by decide +kernel
theorem dX0_putResult_6 : decode cX0_putResult 6 = .ok (.iconst 1, 1) := by decide +kernel
theorem dX0_putResult_7 : decode cX0_putResult 7 = .ok (.invokevirtual 66, 3) := by decide +kernel
theorem dX0_putResult_10 : decode cX0_putResult 10 = .ok (.istore 4, 2) := by decide +kernel
theorem dX0_putResult_12 : decode cX0_putResult 12 = .ok (.iload_n 3, 1) := by decide +kernel
theorem dX0_putResult_13 : decode cX0_putResult 13 = .ok (.bipush 11, 2) := by decide +kernel
theorem dX0_putResult_15 : decode cX0_putResult 15 = .ok (.if_icmp .ne 26, 3) := by decide +kernel
theorem dX0_putResult_18 : decode cX0_putResult 18 = .ok (.aload_n 0, 1) := by decide +kernel
theorem dX0_putResult_19 : decode cX0_putResult 19 = .ok (.getfield 9, 3) := by decide +kernel
theorem dX0_putResult_22 : decode cX0_putResult 22 = .ok (.getfield 97, 3) := by decide +kernel
theorem dX0_putResult_25 : decode cX0_putResult 25 = .ok (.ifCond .ne 16, 3) := by decide +kernel
theorem dX0_putResult_28 : decode cX0_putResult 28 = .ok (.aload_n 0, 1) := by decide +kernel
theorem dX0_putResult_29 : decode cX0_putResult 29 = .ok (.getfield 22, 3) := by decide +kernel
theorem dX0_putResult_32 : decode cX0_putResult 32 = .ok (.iload 4, 2) := by decide +kernel
theorem dX0_putResult_34 : decode cX0_putResult 34 = .ok (.iconst 0, 1) := by decide +kernel
theorem dX0_putResult_35 : decode cX0_putResult 35 = .ok (.invokevirtual 43, 3) := by decide +kernel
theorem dX0_putResult_38 : decode cX0_putResult 38 = .ok (.goto 27, 3) := by decide +kernel
theorem dX0_putResult_41 : decode cX0_putResult 41 = .ok (.iload_n 3, 1) := by decide +kernel
theorem dX0_putResult_42 : decode cX0_putResult 42 = .ok (.iconst 4, 1) := by decide +kernel
theorem dX0_putResult_43 : decode cX0_putResult 43 = .ok (.if_icmp .le 15, 3) := by decide +kernel
theorem dX0_putResult_46 : decode cX0_putResult 46 = .ok (.aload_n 0, 1) := by decide +kernel
theorem dX0_putResult_47 : decode cX0_putResult 47 = .ok (.getfield 22, 3) := by decide +kernel
theorem dX0_putResult_50 : decode cX0_putResult 50 = .ok (.iload 4, 2) := by decide +kernel
theorem dX0_putResult_52 : decode cX0_putResult 52 = .ok (.invokevirtual 94, 3) := by decide +kernel
theorem dX0_putResult_55 : decode cX0_putResult 55 = .ok (.goto 10, 3) := by decide +kernel
theorem dX0_putResult_58 : decode cX0_putResult 58 = .ok (.aload_n 0, 1) := by decide +kernel
theorem dX0_putResult_59 : decode cX0_putResult 59 = .ok (.iload_n 1, 1) := by decide +kernel
theorem dX0_putResult_60 : decode cX0_putResult 60 = .ok (.iload_n 2, 1) := by decide +kernel
theorem dX0_putResult_61 : decode cX0_putResult 61 = .ok (.iload_n 3, 1) := by decide +kernel
theorem dX0_putResult_62 : decode cX0_putResult 62 = .ok (.invokevirtual 100, 3) := by decide +kernel
theorem dX0_putResult_65 : decode cX0_putResult 65 = .ok (.return_, 1) := by decide +kernel
theorem dX0_putComputed_0 : decode cX0_putComputed 0 = .ok (.aload_n 0, 1) := by decide +kernel
theorem dX0_putComputed_1 : decode cX0_putComputed 1 = .ok (.getfield 9, 3) := by decide +kernel
theorem dX0_putComputed_4 : decode cX0_putComputed 4 = .ok (.iload_n 1, 1) := by decide +kernel
theorem dX0_putComputed_5 : decode cX0_putComputed 5 = .ok (.iload_n 2, 1) := by decide +kernel
theorem dX0_putComputed_6 : decode cX0_putComputed 6 = .ok (.iconst 1, 1) := by decide +kernel
theorem dX0_putComputed_7 : decode cX0_putComputed 7 = .ok (.invokevirtual 66, 3) := by decide +kernel
theorem dX0_putComputed_10 : decode cX0_putComputed 10 = .ok (.istore 4, 2) := by decide +kernel
theorem dX0_putComputed_12 : decode cX0_putComputed 12 = .ok (.aload_n 0, 1) := by decide +kernel
theorem dX0_putComputed_13 : decode cX0_putComputed 13 = .ok (.getfield 9, 3) := by decide +kernel
theorem dX0_putComputed_16 : decode cX0_putComputed 16 = .ok (.iload_n 1, 1) := by decide +kernel
theorem dX0_putComputed_17 : decode cX0_putComputed 17 = .ok (.iload_n 2, 1) := by decide +kernel
theorem dX0_putComputed_18 : decode cX0_putComputed 18 = .ok (.invokevirtual 53, 3) := by decide +kernel
theorem dX0_putComputed_21 : decode cX0_putComputed 21 = .ok (.istore 5, 2) := by decide +kernel
theorem dX0_putComputed_23 : decode cX0_putComputed 23 = .ok (.aload_n 0, 1) := by decide +kernel
theorem dX0_putComputed_24 : decode cX0_putComputed 24 = .ok (.getfield 9, 3) := by decide +kernel
theorem dX0_putComputed_27 : decode cX0_putComputed 27 = .ok (.iload_n 1, 1) := by decide +kernel
theorem dX0_putComputed_28 : decode cX0_putComputed 28 = .ok (.iload_n 2, 1) := by decide +kernel
theorem dX0_putComputed_29 : decode cX0_putComputed 29 = .ok (.iconst 3, 1) := by decide +kernel
theorem dX0_putComputed_30 : decode cX0_putComputed 30 = .ok (.invokevirtual 66, 3) := by decide +kernel
theorem dX0_putComputed_33 : decode cX0_putComputed 33 = .ok (.istore 6, 2) := by decide +kernel
theorem dX0_putComputed_35 : decode cX0_putComputed 35 = .ok (.iload_n 3, 1) := by decide +kernel
theorem dX0_putComputed_36 : decode cX0_putComputed 36 = .ok (.ifCond .ne 8, 3) := by decide +kernel
theorem dX0_putComputed_39 : decode cX0_putComputed 39 = .ok (.iload 6, 2) := by decide +kernel
theorem dX0_putComputed_41 : decode cX0_putComputed 41 = .ok (.goto 13, 3) := by decide +kernel
theorem dX0_putComputed_44 : decode cX0_putComputed 44 = .ok (.aload_n 0, 1) := by decide +kernel
theorem dX0_putComputed_45 : decode cX0_putComputed 45 = .ok (.getfield 9, 3) := by decide +kernel
theorem dX0_putComputed_48 : decode cX0_putComputed 48 = .ok (.iload_n 1, 1) := by decide +kernel
theorem dX0_putComputed_49 : decode cX0_putComputed 49 = .ok (.iload_n 2, 1) := by decide +kernel
theorem dX0_putComputed_50 : decode cX0_putComputed 50 = .ok (.iconst 4, 1) := by decide +kernel
theorem dX0_putComputed_51 : decode cX0_putComputed 51 = .ok (.invokevirtual 66, 3) := by decide +kernel
theorem dX0_putComputed_54 : decode cX0_putComputed 54 = .ok (.istore 7, 2) := by decide +kernel
theorem dX0_putComputed_56 : decode cX0_putComputed 56 = .ok (.aload_n 0, 1) := by decide +kernel
theorem dX0_putComputed_57 : decode cX0_putComputed 57 = .ok (.getfield 22, 3) := by decide +kernel
theorem dX0_putComputed_60 : decode cX0_putComputed 60 = .ok (.iload 4, 2) := by decide +kernel
theorem dX0_putComputed_62 : decode cX0_putComputed 62 = .ok (.invokevirtual 94, 3) := by decide +kernel
theorem dX0_putComputed_65 : decode cX0_putComputed 65 = .ok (.aload_n 0, 1) := by decide +kernel
theorem dX0_putComputed_66 : decode cX0_putComputed 66 = .ok (.getfield 15, 3) := by decide +kernel
theorem dX0_putComputed_69 : decode cX0_putComputed 69 = .ok (.iload 5, 2) := by decide +kernel
theorem dX0_putComputed_71 : decode cX0_putComputed 71 = .ok (.iload 6, 2) := by decide +kernel
theorem dX0_putComputed_73 : decode cX0_putComputed 73 = .ok (.invokevirtual 87, 3) := by decide +kernel
theorem dX0_putComputed_76 : decode cX0_putComputed 76 = .ok (.ifCond .eq 70, 3) := by decide +kernel
theorem dX0_putComputed_79 : decode cX0_putComputed 79 = .ok (.aload_n 0, 1) := by decide +kernel
theorem dX0_putComputed_80 : decode cX0_putComputed 80 = .ok (.getfield 15, 3) := by decide +kernel
theorem dX0_putComputed_83 : decode cX0_putComputed 83 = .ok (.iload 5, 2) := by decide +kernel
theorem dX0_putComputed_85 : decode cX0_putComputed 85 = .ok (.iload 7, 2) := by decide +kernel
theorem dX0_putComputed_87 : decode cX0_putComputed 87 = .ok (.invokevirtual 87, 3) := by decide +kernel
theorem dX0_putComputed_90 : decode cX0_putComputed 90 = .ok (.ifCond .eq 56, 3) := by decide +kernel
theorem dX0_putComputed_93 : decode cX0_putComputed 93 = .ok (.iload_n 3, 1) := by decide +kernel
theorem dX0_putComputed_94 : decode cX0_putComputed 94 = .ok (.aload_n 0, 1) := by decide +kernel
theorem dX0_putComputed_95 : decode cX0_putComputed 95 = .ok (.getfield 15, 3) := by decide +kernel
theorem dX0_putComputed_98 : decode cX0_putComputed 98 = .ok (.iload 5, 2) := by decide +kernel
theorem dX0_putComputed_100 : decode cX0_putComputed 100 = .ok (.iload 6, 2) := by decide +kernel
theorem dX0_putComputed_102 : decode cX0_putComputed 102 = .ok (.invokevirtual 91, 3) := by decide +kernel
theorem dX0_putComputed_105 : decode cX0_putComputed 105 = .ok (.aload_n 0, 1) := by decide +kernel
theorem dX0_putComputed_106 : decode cX0_putComputed 106 = .ok (.getfield 15, 3) := by decide +kernel
theorem dX0_putComputed_109 : decode cX0_putComputed 109 = .ok (.iload 5, 2) := by decide +kernel
theorem dX0_putComputed_111 : decode cX0_putComputed 111 = .ok (.iload 7, 2) := by decide +kernel
theorem dX0_putComputed_113 : decode cX0_putComputed 113 = .ok (.invokevirtual 91, 3) := by decide +kernel
theorem dX0_putComputed_116 : decode cX0_putComputed 116 = .ok (.invokestatic 103, 3) := by decide +kernel
theorem dX0_putComputed_119 : decode cX0_putComputed 119 = .ok (.istore 8, 2) := by decide +kernel
theorem dX0_putComputed_121 : decode cX0_putComputed 121 = .ok (.iload 8, 2) := by decide +kernel
theorem dX0_putComputed_123 : decode cX0_putComputed 123 = .ok (.ldc 106, 2) := by decide +kernel
theorem dX0_putComputed_125 : decode cX0_putComputed 125 = .ok (.if_icmp .lt 21, 3) := by decide +kernel
theorem dX0_putComputed_128 : decode cX0_putComputed 128 = .ok (.iload 8, 2) := by decide +kernel
theorem dX0_putComputed_130 : decode cX0_putComputed 130 = .ok (.ldc 107, 2) := by decide +kernel
theorem dX0_putComputed_132 : decode cX0_putComputed 132 = .ok (.if_icmp .gt 14, 3) := by decide +kernel
theorem dX0_putComputed_135 : decode cX0_putComputed 135 = .ok (.aload_n 0, 1) := by decide +kernel
theorem dX0_putComputed_136 : decode cX0_putComputed 136 = .ok (.getfield 22, 3) := by decide +kernel
theorem dX0_putComputed_139 : decode cX0_putComputed 139 = .ok (.iload 4, 2) := by decide +kernel
theorem dX0_putComputed_141 : decode cX0_putComputed 141 = .ok (.iload 8, 2) := by decide +kernel
theorem dX0_putComputed_143 : decode cX0_putComputed 143 = .ok (.invokevirtual 43, 3) := by decide +kernel
theorem dX0_putComputed_146 : decode cX0_putComputed 146 = .ok (.return_, 1) := by decide +kernel
theorem dX0_goIntoCalls_0 : decode cX0_goIntoCalls 0 = .ok (.aload_n 0, 1) := by decide +kernel
theorem dX0_goIntoCalls_1 : decode cX0_goIntoCalls 1 = .ok (.getfield 9, 3) := by decide +kernel
theorem dX0_goIntoCalls_4 : decode cX0_goIntoCalls 4 = .ok (.iload_n 1, 1) := by decide +kernel
theorem dX0_goIntoCalls_5 : decode cX0_goIntoCalls 5 = .ok (.iload_n 2, 1) := by decide +kernel
theorem dX0_goIntoCalls_6 : decode cX0_goIntoCalls 6 = .ok (.iconst 2, 1) := by decide +kernel
theorem dX0_goIntoCalls_7 : decode cX0_goIntoCalls 7 = .ok (.invokevirtual 66, 3) := by decide +kernel
theorem dX0_goIntoCalls_10 : decode cX0_goIntoCalls 10 = .ok (.istore 4, 2) := by decide +kernel
theorem dX0_goIntoCalls_12 : decode cX0_goIntoCalls 12 = .ok (.iload_n 3, 1) := by decide +kernel
theorem dX0_goIntoCalls_13 : decode cX0_goIntoCalls 13 = .ok (.bipush 10, 2) := by decide +kernel
theorem dX0_goIntoCalls_15 : decode cX0_goIntoCalls 15 = .ok (.if_icmp .ne 12, 3) := by decide +kernel
theorem dX0_goIntoCalls_18 : decode cX0_goIntoCalls 18 = .ok (.aload_n 0, 1) := by decide +kernel
theorem dX0_goIntoCalls_19 : decode cX0_goIntoCalls 19 = .ok (.iload_n 1, 1) := by decide +kernel
theorem dX0_goIntoCalls_20 : decode cX0_goIntoCalls 20 = .ok (.iload_n 2, 1) := by decide +kernel
theorem dX0_goIntoCalls_21 : decode cX0_goIntoCalls 21 = .ok (.iload 4, 2) := by decide +kernel
theorem dX0_goIntoCalls_23 : decode cX0_goIntoCalls 23 = .ok (.invokevirtual 108, 3) := by decide +kernel
theorem dX0_goIntoCalls_26 : decode cX0_goIntoCalls 26 = .ok (.return_, 1) := by decide +kernel
theorem dX0_goIntoCalls_27 : decode cX0_goIntoCalls 27 = .ok (.aload_n 0, 1) := by decide +kernel
theorem dX0_goIntoCalls_28 : decode cX0_goIntoCalls 28 = .ok (.getfield 9, 3) := by decide +kernel
theorem dX0_goIntoCalls_31 : decode cX0_goIntoCalls 31 = .ok (.iload_n 1, 1) := by decide +kernel
theorem dX0_goIntoCalls_32 : decode cX0_goIntoCalls 32 = .ok (.iload_n 2, 1) := by decide +kernel
theorem dX0_goIntoCalls_33 : decode cX0_goIntoCalls 33 = .ok (.invokevirtual 53, 3) := by decide +kernel
theorem dX0_goIntoCalls_36 : decode cX0_goIntoCalls 36 = .ok (.istore 5, 2) := by decide +kernel
theorem dX0_goIntoCalls_38 : decode cX0_goIntoCalls 38 = .ok (.aload_n 0, 1) := by decide +kernel
theorem dX0_goIntoCalls_39 : decode cX0_goIntoCalls 39 = .ok (.getfield 15, 3) := by decide +kernel
theorem dX0_goIntoCalls_42 : decode cX0_goIntoCalls 42 = .ok (.iload 5, 2) := by decide +kernel
theorem dX0_goIntoCalls_44 : decode cX0_goIntoCalls 44 = .ok (.iload 4, 2) := by decide +kernel
theorem dX0_goIntoCalls_46 : decode cX0_goIntoCalls 46 = .ok (.invokevirtual 87, 3) := by decide +kernel
theorem dX0_goIntoCalls_49 : decode cX0_goIntoCalls 49 = .ok (.ifCond .ne 43, 3) := by decide +kernel
theorem dX0_goIntoCalls_52 : decode cX0_goIntoCalls 52 = .ok (.iconst 0, 1) := by decide +kernel
theorem dX0_goIntoCalls_53 : decode cX0_goIntoCalls 53 = .ok (.istore 6, 2) := by decide +kernel
theorem dX0_goIntoCalls_55 : decode cX0_goIntoCalls 55 = .ok (.iload 6, 2) := by decide +kernel
theorem dX0_goIntoCalls_57 : decode cX0_goIntoCalls 57 = .ok (.aload_n 0, 1) := by decide +kernel
theorem dX0_goIntoCalls_58 : decode cX0_goIntoCalls 58 = .ok (.getfield 9, 3) := by decide +kernel
theorem dX0_goIntoCalls_61 : decode cX0_goIntoCalls 61 = .ok (.getfield 97, 3) := by decide +kernel
theorem dX0_goIntoCalls_64 : decode cX0_goIntoCalls 64 = .ok (.if_icmp .ge 25, 3) := by decide +kernel
theorem dX0_goIntoCalls_67 : decode cX0_goIntoCalls 67 = .ok (.aload_n 0, 1) := by decide +kernel
theorem dX0_goIntoCalls_68 : decode cX0_goIntoCalls 68 = .ok (.iload_n 1, 1) := by decide +kernel
theorem dX0_goIntoCalls_69 : decode cX0_goIntoCalls 69 = .ok (.iload_n 2, 1) := by decide +kernel
theorem dX0_goIntoCalls_70 : decode cX0_goIntoCalls 70 = .ok (.aload_n 0, 1) := by decide +kernel
theorem dX0_goIntoCalls_71 : decode cX0_goIntoCalls 71 = .ok (.getfield 9, 3) := by decide +kernel
theorem dX0_goIntoCalls_74 : decode cX0_goIntoCalls 74 = .ok (.getfield 111, 3) := by decide +kernel
theorem dX0_goIntoCalls_77 : decode cX0_goIntoCalls 77 = .ok (.iload 6, 2) := by decide +kernel
theorem dX0_goIntoCalls_79 : decode cX0_goIntoCalls 79 = .ok (.iaload, 1) := by decide +kernel
theorem dX0_goIntoCalls_80 : decode cX0_goIntoCalls 80 = .ok (.invokevirtual 108, 3) := by decide +kernel
theorem dX0_goIntoCalls_83 : decode cX0_goIntoCalls 83 = .ok (.iinc 6 1, 3) := by decide +kernel
theorem dX0_goIntoCalls_86 : decode cX0_goIntoCalls 86 = .ok (.goto (-31), 3) := by decide +kernel
theorem dX0_goIntoCalls_89 : decode cX0_goIntoCalls 89 = .ok (.goto 37, 3) := by decide +kernel
theorem dX0_goIntoCalls_92 : decode cX0_goIntoCalls 92 = .ok (.aload_n 0, 1) := by decide +kernel
theorem dX0_goIntoCalls_93 : decode cX0_goIntoCalls 93 = .ok (.getfield 9, 3) := by decide +kernel
theorem dX0_goIntoCalls_96 : decode cX0_goIntoCalls 96 = .ok (.getfield 97, 3) := by decide +kernel
theorem dX0_goIntoCalls_99 : decode cX0_goIntoCalls 99 = .ok (.ifCond .le 27, 3) := by decide +kernel
theorem dX0_goIntoCalls_102 : decode cX0_goIntoCalls 102 = .ok (.aload_n 0, 1) := by decide +kernel
theorem dX0_goIntoCalls_103 : decode cX0_goIntoCalls 103 = .ok (.iload_n 1, 1) := by decide +kernel
theorem dX0_goIntoCalls_104 : decode cX0_goIntoCalls 104 = .ok (.iload_n 2, 1) := by decide +kernel
theorem dX0_goIntoCalls_105 : decode cX0_goIntoCalls 105 = .ok (.aload_n 0, 1) := by decide +kernel
theorem dX0_goIntoCalls_106 : decode cX0_goIntoCalls 106 = .ok (.getfield 9, 3) := by decide +kernel
theorem dX0_goIntoCalls_109 : decode cX0_goIntoCalls 109 = .ok (.aload_n 0, 1) := by decide +kernel
theorem dX0_goIntoCalls_110 : decode cX0_goIntoCalls 110 = .ok (.getfield 15, 3) := by decide +kernel
theorem dX0_goIntoCalls_113 : decode cX0_goIntoCalls 113 = .ok (.iload 5, 2) := by decide +kernel
theorem dX0_goIntoCalls_115 : decode cX0_goIntoCalls 115 = .ok (.iload 4, 2) := by decide +kernel
theorem dX0_goIntoCalls_117 : decode cX0_goIntoCalls 117 = .ok (.invokevirtual 91, 3) := by decide +kernel
theorem dX0_goIntoCalls_120 : decode cX0_goIntoCalls 120 = .ok (.invokevirtual 114, 3) := by decide +kernel
theorem dX0_goIntoCalls_123 : decode cX0_goIntoCalls 123 = .ok (.invokevirtual 108, 3) := by decide +kernel
theorem dX0_goIntoCalls_126 : decode cX0_goIntoCalls 126 = .ok (.return_, 1) := by decide +kernel
theorem dX0_goInto_0 : decode cX0_goInto 0 = .ok (.aload_n 0, 1) := by decide +kernel
theorem dX0_goInto_1 : decode cX0_goInto 1 = .ok (.getfield 9, 3) := by decide +kernel
theorem dX0_goInto_4 : decode cX0_goInto 4 = .ok (.iload_n 1, 1) := by decide +kernel
theorem dX0_goInto_5 : decode cX0_goInto 5 = .ok (.iload_n 2, 1) := by decide +kernel
theorem dX0_goInto_6 : decode cX0_goInto 6 = .ok (.invokevirtual 53, 3) := by decide +kernel
theorem dX0_goInto_9 : decode cX0_goInto 9 = .ok (.istore 4, 2) := by decide +kernel
theorem dX0_goInto_11 : decode cX0_goInto 11 = .ok (.iconst 0, 1) := by decide +kernel
theorem dX0_goInto_12 : decode cX0_goInto 12 = .ok (.istore 5, 2) := by decide +kernel
theorem dX0_goInto_14 : decode cX0_goInto 14 = .ok (.iload 5, 2) := by decide +kernel
theorem dX0_goInto_16 : decode cX0_goInto 16 = .ok (.bipush 6, 2) := by decide +kernel
theorem dX0_goInto_18 : decode cX0_goInto 18 = .ok (.if_icmp .ge 57, 3) := by decide +kernel
theorem dX0_goInto_21 : decode cX0_goInto 21 = .ok (.iload 5, 2) := by decide +kernel
theorem dX0_goInto_23 : decode cX0_goInto 23 = .ok (.aload_n 0, 1) := by decide +kernel
theorem dX0_goInto_24 : decode cX0_goInto 24 = .ok (.getfield 9, 3) := by decide +kernel
theorem dX0_goInto_27 : decode cX0_goInto 27 = .ok (.getfield 118, 3) := by decide +kernel
theorem dX0_goInto_30 : decode cX0_goInto 30 = .ok (.iload_n 3, 1) := by decide +kernel
theorem dX0_goInto_31 : decode cX0_goInto 31 = .ok (.iaload, 1) := by decide +kernel
theorem dX0_goInto_32 : decode cX0_goInto 32 = .ok (.if_icmp .ge 27, 3) := by decide +kernel
theorem dX0_goInto_35 : decode cX0_goInto 35 = .ok (.aload_n 0, 1) := by decide +kernel
theorem dX0_goInto_36 : decode cX0_goInto 36 = .ok (.iload 5, 2) := by decide +kernel
theorem dX0_goInto_38 : decode cX0_goInto 38 = .ok (.iload 4, 2) := by decide +kernel
theorem dX0_goInto_40 : decode cX0_goInto 40 = .ok (.aload_n 0, 1) := by decide +kernel
theorem dX0_goInto_41 : decode cX0_goInto 41 = .ok (.getfield 9, 3) := by decide +kernel
theorem dX0_goInto_44 : decode cX0_goInto 44 = .ok (.iload_n 1, 1) := by decide +kernel
theorem dX0_goInto_45 : decode cX0_goInto 45 = .ok (.iload_n 2, 1) := by decide +kernel
theorem dX0_goInto_46 : decode cX0_goInto 46 = .ok (.iconst 3, 1) := by decide +kernel
theorem dX0_goInto_47 : decode cX0_goInto 47 = .ok (.iload 5, 2) := by decide +kernel
theorem dX0_goInto_49 : decode cX0_goInto 49 = .ok (.iadd, 1) := by decide +kernel
theorem dX0_goInto_50 : decode cX0_goInto 50 = .ok (.invokevirtual 66, 3) := by decide +kernel
theorem dX0_goInto_53 : decode cX0_goInto 53 = .ok (.invokevirtual 84, 3) := by decide +kernel
theorem dX0_goInto_56 : decode cX0_goInto 56 = .ok (.goto 13, 3) := by decide +kernel
theorem dX0_goInto_59 : decode cX0_goInto 59 = .ok (.aload_n 0, 1) := by decide +kernel
theorem dX0_goInto_60 : decode cX0_goInto 60 = .ok (.getfield 22, 3) := by decide +kernel
theorem dX0_goInto_63 : decode cX0_goInto 63 = .ok (.iload 5, 2) := by decide +kernel
theorem dX0_goInto_65 : decode cX0_goInto 65 = .ok (.iconst 0, 1) := by decide +kernel
theorem dX0_goInto_66 : decode cX0_goInto 66 = .ok (.invokevirtual 43, 3) := by decide +kernel
theorem dX0_goInto_69 : decode cX0_goInto 69 = .ok (.iinc 5 1, 3) := by decide +kernel
theorem dX0_goInto_72 : decode cX0_goInto 72 = .ok (.goto (-58), 3) := by decide +kernel
theorem dX0_goInto_75 : decode cX0_goInto 75 = .ok (.aload_n 0, 1) := by decide +kernel
theorem dX0_goInto_76 : decode cX0_goInto 76 = .ok (.iload_n 3, 1) := by decide +kernel
theorem dX0_goInto_77 : decode cX0_goInto 77 = .ok (.iconst 0, 1) := by decide +kernel
theorem dX0_goInto_78 : decode cX0_goInto 78 = .ok (.invokevirtual 47, 3) := by decide +kernel
theorem dX0_goInto_81 : decode cX0_goInto 81 = .ok (.return_, 1) := by decide +kernel
