theorem dX1_init_0 : decode cX1_init 0 = .ok (.aload_n 0, 1) := by decide +kernel
theorem dX1_init_1 : decode cX1_init 1 = .ok (.invokespecial 3, 3) := by decide +kernel
theorem dX1_init_4 : decode cX1_init 4 = .ok (.aload_n 0, 1) := by decide +kernel
theorem dX1_init_5 : decode cX1_init 5 = .ok (.sipush 204, 3) := by decide +kernel
theorem dX1_init_8 : decode cX1_init 8 = .ok (.newarray .boolean, 2) := by decide +kernel
theorem dX1_init_10 : decode cX1_init 10 = .ok (.putfield 9, 3) := by decide +kernel
theorem dX1_init_13 : decode cX1_init 13 = .ok (.aload_n 0, 1) := by decide +kernel
theorem dX1_init_14 : decode cX1_init 14 = .ok (.sipush 1224, 3) := by decide +kernel
theorem dX1_init_17 : decode cX1_init 17 = .ok (.newarray .boolean, 2) := by decide +kernel
theorem dX1_init_19 : decode cX1_init 19 = .ok (.putfield 15, 3) := by decide +kernel
theorem dX1_init_22 : decode cX1_init 22 = .ok (.aload_n 0, 1) := by decide +kernel
theorem dX1_init_23 : decode cX1_init 23 = .ok (.sipush 1224, 3) := by decide +kernel
theorem dX1_init_26 : decode cX1_init 26 = .ok (.newarray .int, 2) := by decide +kernel
theorem dX1_init_28 : decode cX1_init 28 = .ok (.putfield 18, 3) := by decide +kernel
theorem dX1_init_31 : decode cX1_init 31 = .ok (.return_, 1) := by decide +kernel
theorem dX1_forget_0 : decode cX1_forget 0 = .ok (.iconst 0, 1) := by decide +kernel
theorem dX1_forget_1 : decode cX1_forget 1 = .ok (.istore_n 1, 1) := by decide +kernel
theorem dX1_forget_2 : decode cX1_forget 2 = .ok (.iload_n 1, 1) := by decide +kernel
theorem dX1_forget_3 : decode cX1_forget 3 = .ok (.aload_n 0, 1) := by decide +kernel
theorem dX1_forget_4 : decode cX1_forget 4 = .ok (.getfield 9, 3) := by decide +kernel
theorem dX1_forget_7 : decode cX1_forget 7 = .ok (.arraylength, 1) := by decide +kernel
theorem dX1_forget_8 : decode cX1_forget 8 = .ok (.if_icmp .ge 16, 3) := by decide +kernel
theorem dX1_forget_11 : decode cX1_forget 11 = .ok (.aload_n 0, 1) := by decide +kernel
theorem dX1_forget_12 : decode cX1_forget 12 = .ok (.getfield 9, 3) := by decide +kernel
theorem dX1_forget_15 : decode cX1_forget 15 = .ok (.iload_n 1, 1) := by decide +kernel
theorem dX1_forget_16 : decode cX1_forget 16 = .ok (.iconst 0, 1) := by decide +kernel
theorem dX1_forget_17 : decode cX1_forget 17 = .ok (.bastore, 1) := by decide +kernel
theorem dX1_forget_18 : decode cX1_forget 18 = .ok (.iinc 1 1, 3) := by decide +kernel
theorem dX1_forget_21 : decode cX1_forget 21 = .ok (.goto (-19), 3) := by decide +kernel
theorem dX1_forget_24 : decode cX1_forget 24 = .ok (.return_, 1) := by decide +kernel
theorem dX1_join_0 : decode cX1_join 0 = .ok (.aload_n 0, 1) := by decide +kernel
theorem dX1_join_1 : decode cX1_join 1 = .ok (.getfield 9, 3) := by decide +kernel
theorem dX1_join_4 : decode cX1_join 4 = .ok (.iload_n 1, 1) := by decide +kernel
theorem dX1_join_5 : decode cX1_join 5 = .ok (.baload, 1) := by decide +kernel
theorem dX1_join_6 : decode cX1_join 6 = .ok (.ifCond .ne 7, 3) := by decide +kernel
theorem dX1_join_9 : decode cX1_join 9 = .ok (.iconst 1, 1) := by decide +kernel
theorem dX1_join_10 : decode cX1_join 10 = .ok (.goto 4, 3) := by decide +kernel
theorem dX1_join_13 : decode cX1_join 13 = .ok (.iconst 0, 1) := by decide +kernel
theorem dX1_join_14 : decode cX1_join 14 = .ok (.istore_n 3, 1) := by decide +kernel
theorem dX1_join_15 : decode cX1_join 15 = .ok (.iload_n 3, 1) := by decide +kernel
theorem dX1_join_16 : decode cX1_join 16 = .ok (.istore 4, 2) := by decide +kernel
theorem dX1_join_18 : decode cX1_join 18 = .ok (.aload_n 0, 1) := by decide +kernel
theorem dX1_join_19 : decode cX1_join 19 = .ok (.getfield 9, 3) := by decide +kernel
theorem dX1_join_22 : decode cX1_join 22 = .ok (.iload_n 1, 1) := by decide +kernel
theorem dX1_join_23 : decode cX1_join 23 = .ok (.iconst 1, 1) := by decide +kernel
theorem dX1_join_24 : decode cX1_join 24 = .ok (.bastore, 1) := by decide +kernel
theorem dX1_join_25 : decode cX1_join 25 = .ok (.iconst 0, 1) := by decide +kernel
theorem dX1_join_26 : decode cX1_join 26 = .ok (.istore 5, 2) := by decide +kernel
theorem dX1_join_28 : decode cX1_join 28 = .ok (.iload 5, 2) := by decide +kernel
theorem dX1_join_30 : decode cX1_join 30 = .ok (.bipush 6, 2) := by decide +kernel
theorem dX1_join_32 : decode cX1_join 32 = .ok (.if_icmp .ge 101, 3) := by decide +kernel
theorem dX1_join_35 : decode cX1_join 35 = .ok (.iload_n 1, 1) := by decide +kernel
theorem dX1_join_36 : decode cX1_join 36 = .ok (.bipush 6, 2) := by decide +kernel
theorem dX1_join_38 : decode cX1_join 38 = .ok (.imul, 1) := by decide +kernel
theorem dX1_join_39 : decode cX1_join 39 = .ok (.iload 5, 2) := by decide +kernel
theorem dX1_join_41 : decode cX1_join 41 = .ok (.iadd, 1) := by decide +kernel
theorem dX1_join_42 : decode cX1_join 42 = .ok (.istore 6, 2) := by decide +kernel
theorem dX1_join_44 : decode cX1_join 44 = .ok (.iload_n 3, 1) := by decide +kernel
theorem dX1_join_45 : decode cX1_join 45 = .ok (.ifCond .eq 34, 3) := by decide +kernel
theorem dX1_join_48 : decode cX1_join 48 = .ok (.aload_n 0, 1) := by decide +kernel
theorem dX1_join_49 : decode cX1_join 49 = .ok (.getfield 15, 3) := by decide +kernel
theorem dX1_join_52 : decode cX1_join 52 = .ok (.iload 6, 2) := by decide +kernel
theorem dX1_join_54 : decode cX1_join 54 = .ok (.aload_n 2, 1) := by decide +kernel
theorem dX1_join_55 : decode cX1_join 55 = .ok (.getfield 22, 3) := by decide +kernel
theorem dX1_join_58 : decode cX1_join 58 = .ok (.iload 5, 2) := by decide +kernel
theorem dX1_join_60 : decode cX1_join 60 = .ok (.baload, 1) := by decide +kernel
theorem dX1_join_61 : decode cX1_join 61 = .ok (.bastore, 1) := by decide +kernel
theorem dX1_join_62 : decode cX1_join 62 = .ok (.aload_n 0, 1) := by decide +kernel
theorem dX1_join_63 : decode cX1_join 63 = .ok (.getfield 18, 3) := by decide +kernel
theorem dX1_join_66 : decode cX1_join 66 = .ok (.iload 6, 2) := by decide +kernel
theorem dX1_join_68 : decode cX1_join 68 = .ok (.aload_n 2, 1) := by decide +kernel
theorem dX1_join_69 : decode cX1_join 69 = .ok (.getfield 25, 3) := by decide +kernel
theorem dX1_join_72 : decode cX1_join 72 = .ok (.iload 5, 2) := by decide +kernel
theorem dX1_join_74 : decode cX1_join 74 = .ok (.iaload, 1) := by decide +kernel
theorem dX1_join_75 : decode cX1_join 75 = .ok (.iastore, 1) := by decide +kernel
theorem dX1_join_76 : decode cX1_join 76 = .ok (.goto 51, 3) := by decide +kernel
theorem dX1_join_79 : decode cX1_join 79 = .ok (.aload_n 0, 1) := by decide +kernel
theorem dX1_join_80 : decode cX1_join 80 = .ok (.getfield 15, 3) := by decide +kernel
theorem dX1_join_83 : decode cX1_join 83 = .ok (.iload 6, 2) := by decide +kernel
theorem dX1_join_85 : decode cX1_join 85 = .ok (.baload, 1) := by decide +kernel
theorem dX1_join_86 : decode cX1_join 86 = .ok (.ifCond .ne 41, 3) := by decide +kernel
theorem dX1_join_89 : decode cX1_join 89 = .ok (.aload_n 2, 1) := by decide +kernel
theorem dX1_join_90 : decode cX1_join 90 = .ok (.getfield 22, 3) := by decide +kernel
theorem dX1_join_93 : decode cX1_join 93 = .ok (.iload 5, 2) := by decide +kernel
theorem dX1_join_95 : decode cX1_join 95 = .ok (.baload, 1) := by decide +kernel
theorem dX1_join_96 : decode cX1_join 96 = .ok (.ifCond .ne 20, 3) := by decide +kernel
theorem dX1_join_99 : decode cX1_join 99 = .ok (.aload_n 2, 1) := by decide +kernel
theorem dX1_join_100 : decode cX1_join 100 = .ok (.getfield 25, 3) := by decide +kernel
theorem dX1_join_103 : decode cX1_join 103 = .ok (.iload 5, 2) := by decide +kernel
theorem dX1_join_105 : decode cX1_join 105 = .ok (.iaload, 1) := by decide +kernel
theorem dX1_join_106 : decode cX1_join 106 = .ok (.aload_n 0, 1) := by decide +kernel
theorem dX1_join_107 : decode cX1_join 107 = .ok (.getfield 18, 3) := by decide +kernel
theorem dX1_join_110 : decode cX1_join 110 = .ok (.iload 6, 2) := by decide +kernel
theorem dX1_join_112 : decode cX1_join 112 = .ok (.iaload, 1) := by decide +kernel
theorem dX1_join_113 : decode cX1_join 113 = .ok (.if_icmp .eq 14, 3) := by decide +kernel
theorem dX1_join_116 : decode cX1_join 116 = .ok (.aload_n 0, 1) := by decide +kernel
theorem dX1_join_117 : decode cX1_join 117 = .ok (.getfield 15, 3) := by decide +kernel
theorem dX1_join_120 : decode cX1_join 120 = .ok (.iload 6, 2) := by decide +kernel
theorem dX1_join_122 : decode cX1_join 122 = .ok (.iconst 1, 1) := by decide +kernel
theorem dX1_join_123 : decode cX1_join 123 = .ok (.bastore, 1) := by decide +kernel
theorem dX1_join_124 : decode cX1_join 124 = .ok (.iconst 1, 1) := by decide +kernel
theorem dX1_join_125 : decode cX1_join 125 = .ok (.istore 4, 2) := by decide +kernel
theorem dX1_join_127 : decode cX1_join 127 = .ok (.iinc 5 1, 3) := by decide +kernel
theorem dX1_join_130 : decode cX1_join 130 = .ok (.goto (-102), 3) := by decide +kernel
theorem dX1_join_133 : decode cX1_join 133 = .ok (.iload 4, 2) := by decide +kernel
theorem dX1_join_135 : decode cX1_join 135 = .ok (.ireturn, 1) := by decide +kernel
theorem dX1_hasNumber_0 : decode cX1_hasNumber 0 = .ok (.iload_n 2, 1) := by decide +kernel
theorem dX1_hasNumber_1 : decode cX1_hasNumber 1 = .ok (.bipush 7, 2) := by decide +kernel
theorem dX1_hasNumber_3 : decode cX1_hasNumber 3 = .ok (.iand, 1) := by decide +kernel
theorem dX1_hasNumber_4 : decode cX1_hasNumber 4 = .ok (.istore_n 3, 1) := by decide +kernel
theorem dX1_hasNumber_5 : decode cX1_hasNumber 5 = .ok (.iload_n 3, 1) := by decide +kernel
theorem dX1_hasNumber_6 : decode cX1_hasNumber 6 = .ok (.bipush 6, 2) := by decide +kernel
theorem dX1_hasNumber_8 : decode cX1_hasNumber 8 = .ok (.if_icmp .ge 17, 3) := by decide +kernel
theorem dX1_hasNumber_11 : decode cX1_hasNumber 11 = .ok (.aload_n 0, 1) := by decide +kernel
theorem dX1_hasNumber_12 : decode cX1_hasNumber 12 = .ok (.getfield 15, 3) := by decide +kernel
theorem dX1_hasNumber_15 : decode cX1_hasNumber 15 = .ok (.iload_n 1, 1) := by decide +kernel
theorem dX1_hasNumber_16 : decode cX1_hasNumber 16 = .ok (.bipush 6, 2) := by decide +kernel
theorem dX1_hasNumber_18 : decode cX1_hasNumber 18 = .ok (.imul, 1) := by decide +kernel
theorem dX1_hasNumber_19 : decode cX1_hasNumber 19 = .ok (.iload_n 3, 1) := by decide +kernel
theorem dX1_hasNumber_20 : decode cX1_hasNumber 20 = .ok (.iadd, 1) := by decide +kernel
theorem dX1_hasNumber_21 : decode cX1_hasNumber 21 = .ok (.baload, 1) := by decide +kernel
theorem dX1_hasNumber_22 : decode cX1_hasNumber 22 = .ok (.ifCond .ne 7, 3) := by decide +kernel
theorem dX1_hasNumber_25 : decode cX1_hasNumber 25 = .ok (.iconst 1, 1) := by decide +kernel
theorem dX1_hasNumber_26 : decode cX1_hasNumber 26 = .ok (.goto 4, 3) := by decide +kernel
theorem dX1_hasNumber_29 : decode cX1_hasNumber 29 = .ok (.iconst 0, 1) := by decide +kernel
theorem dX1_hasNumber_30 : decode cX1_hasNumber 30 = .ok (.ireturn, 1) := by decide +kernel
theorem dX1_numberOf_0 : decode cX1_numberOf 0 = .ok (.iload_n 2, 1) := by decide +kernel
theorem dX1_numberOf_1 : decode cX1_numberOf 1 = .ok (.bipush 7, 2) := by decide +kernel
theorem dX1_numberOf_3 : decode cX1_numberOf 3 = .ok (.iand, 1) := by decide +kernel
theorem dX1_numberOf_4 : decode cX1_numberOf 4 = .ok (.istore_n 3, 1) := by decide +kernel
theorem dX1_numberOf_5 : decode cX1_numberOf 5 = .ok (.iload_n 3, 1) := by decide +kernel
theorem dX1_numberOf_6 : decode cX1_numberOf 6 = .ok (.bipush 6, 2) := by decide +kernel
theorem dX1_numberOf_8 : decode cX1_numberOf 8 = .ok (.if_icmp .ge 17, 3) := by decide +kernel
theorem dX1_numberOf_11 : decode cX1_numberOf 11 = .ok (.aload_n 0, 1) := by decide +kernel
theorem dX1_numberOf_12 : decode cX1_numberOf 12 = .ok (.getfield 18, 3) := by decide +kernel
theorem dX1_numberOf_15 : decode cX1_numberOf 15 = .ok (.iload_n 1, 1) := by decide +kernel
theorem dX1_numberOf_16 : decode cX1_numberOf 16 = .ok (.bipush 6, 2) := by decide +kernel
theorem dX1_numberOf_18 : decode cX1_numberOf 18 = .ok (.imul, 1) := by decide +kernel
theorem dX1_numberOf_19 : decode cX1_numberOf 19 = .ok (.iload_n 3, 1) := by decide +kernel
theorem dX1_numberOf_20 : decode cX1_numberOf 20 = .ok (.iadd, 1) := by decide +kernel
theorem dX1_numberOf_21 : decode cX1_numberOf 21 = .ok (.iaload, 1) := by decide +kernel
theorem dX1_numberOf_22 : decode cX1_numberOf 22 = .ok (.goto 6, 3) := by decide +kernel
theorem dX1_numberOf_25 : decode cX1_numberOf 25 = .ok (.iload_n 2, 1) := by decide +kernel
theorem dX1_numberOf_26 : decode cX1_numberOf 26 = .ok (.iconst 3, 1) := by decide +kernel
theorem dX1_numberOf_27 : decode cX1_numberOf 27 = .ok (.ishr, 1) := by decide +kernel
theorem dX1_numberOf_28 : decode cX1_numberOf 28 = .ok (.ireturn, 1) := by decide +kernel
theorem dX1_isReached_0 : decode cX1_isReached 0 = .ok (.aload_n 0, 1) := by decide +kernel
theorem dX1_isReached_1 : decode cX1_isReached 1 = .ok (.getfield 9, 3) := by decide +kernel
theorem dX1_isReached_4 : decode cX1_isReached 4 = .ok (.iload_n 1, 1) := by decide +kernel
theorem dX1_isReached_5 : decode cX1_isReached 5 = .ok (.bipush 17, 2) := by decide +kernel
theorem dX1_isReached_7 : decode cX1_isReached 7 = .ok (.imul, 1) := by decide +kernel
theorem dX1_isReached_8 : decode cX1_isReached 8 = .ok (.baload, 1) := by decide +kernel
theorem dX1_isReached_9 : decode cX1_isReached 9 = .ok (.ireturn, 1) := by decide +kernel
theorem dX1_countReached_0 : decode cX1_countReached 0 = .ok (.iconst 0, 1) := by decide +kernel
theorem dX1_countReached_1 : decode cX1_countReached 1 = .ok (.istore_n 2, 1) := by decide +kernel
theorem dX1_countReached_2 : decode cX1_countReached 2 = .ok (.iconst 0, 1) := by decide +kernel
theorem dX1_countReached_3 : decode cX1_countReached 3 = .ok (.istore_n 3, 1) := by decide +kernel
theorem dX1_countReached_4 : decode cX1_countReached 4 = .ok (.iload_n 3, 1) := by decide +kernel
theorem dX1_countReached_5 : decode cX1_countReached 5 = .ok (.iload_n 1, 1) := by decide +kernel
theorem dX1_countReached_6 : decode cX1_countReached 6 = .ok (.if_icmp .ge 20, 3) := by decide +kernel
theorem dX1_countReached_9 : decode cX1_countReached 9 = .ok (.aload_n 0, 1) := by decide +kernel
theorem dX1_countReached_10 : decode cX1_countReached 10 = .ok (.iload_n 3, 1) := by decide +kernel
theorem dX1_countReached_11 : decode cX1_countReached 11 = .ok (.invokevirtual 26, 3) := by decide +kernel
theorem dX1_countReached_14 : decode cX1_countReached 14 = .ok (.ifCond .eq 6, 3) := by decide +kernel
theorem dX1_countReached_17 : decode cX1_countReached 17 = .ok (.iinc 2 1, 3) := by decide +kernel
theorem dX1_countReached_20 : decode cX1_countReached 20 = .ok (.iinc 3 1, 3) := by decide +kernel
theorem dX1_countReached_23 : decode cX1_countReached 23 = .ok (.goto (-19), 3) := by decide +kernel
theorem dX1_countReached_26 : decode cX1_countReached 26 = .ok (.iload_n 2, 1) := by decide +kernel
theorem dX1_countReached_27 : decode cX1_countReached 27 = .ok (.ireturn, 1) := by decide +kernel
