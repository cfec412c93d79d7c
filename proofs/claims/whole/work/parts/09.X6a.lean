theorem dX6_init_0 : decode cX6_init 0 = .ok (.aload_n 0, 1) := by decide +kernel
theorem dX6_init_1 : decode cX6_init 1 = .ok (.invokespecial 3, 3) := by decide +kernel
theorem dX6_init_4 : decode cX6_init 4 = .ok (.aload_n 0, 1) := by decide +kernel
theorem dX6_init_5 : decode cX6_init 5 = .ok (.iconst 0, 1) := by decide +kernel
theorem dX6_init_6 : decode cX6_init 6 = .ok (.putfield 9, 3) := by decide +kernel
theorem dX6_init_9 : decode cX6_init 9 = .ok (.aload_n 0, 1) := by decide +kernel
theorem dX6_init_10 : decode cX6_init 10 = .ok (.iconst 0, 1) := by decide +kernel
theorem dX6_init_11 : decode cX6_init 11 = .ok (.putfield 15, 3) := by decide +kernel
theorem dX6_init_14 : decode cX6_init 14 = .ok (.aload_n 0, 1) := by decide +kernel
theorem dX6_init_15 : decode cX6_init 15 = .ok (.bipush 40, 2) := by decide +kernel
theorem dX6_init_17 : decode cX6_init 17 = .ok (.newarray .int, 2) := by decide +kernel
theorem dX6_init_19 : decode cX6_init 19 = .ok (.putfield 18, 3) := by decide +kernel
theorem dX6_init_22 : decode cX6_init 22 = .ok (.aload_n 0, 1) := by decide +kernel
theorem dX6_init_23 : decode cX6_init 23 = .ok (.bipush 12, 2) := by decide +kernel
theorem dX6_init_25 : decode cX6_init 25 = .ok (.newarray .int, 2) := by decide +kernel
theorem dX6_init_27 : decode cX6_init 27 = .ok (.putfield 22, 3) := by decide +kernel
theorem dX6_init_30 : decode cX6_init 30 = .ok (.aload_n 0, 1) := by decide +kernel
theorem dX6_init_31 : decode cX6_init 31 = .ok (.bipush 36, 2) := by decide +kernel
theorem dX6_init_33 : decode cX6_init 33 = .ok (.newarray .int, 2) := by decide +kernel
theorem dX6_init_35 : decode cX6_init 35 = .ok (.putfield 25, 3) := by decide +kernel
theorem dX6_init_38 : decode cX6_init 38 = .ok (.aload_n 0, 1) := by decide +kernel
theorem dX6_init_39 : decode cX6_init 39 = .ok (.bipush 36, 2) := by decide +kernel
theorem dX6_init_41 : decode cX6_init 41 = .ok (.newarray .boolean, 2) := by decide +kernel
theorem dX6_init_43 : decode cX6_init 43 = .ok (.putfield 28, 3) := by decide +kernel
theorem dX6_init_46 : decode cX6_init 46 = .ok (.return_, 1) := by decide +kernel
theorem dX6_begin_0 : decode cX6_begin 0 = .ok (.aload_n 0, 1) := by decide +kernel
theorem dX6_begin_1 : decode cX6_begin 1 = .ok (.iconst 0, 1) := by decide +kernel
theorem dX6_begin_2 : decode cX6_begin 2 = .ok (.putfield 9, 3) := by decide +kernel
theorem dX6_begin_5 : decode cX6_begin 5 = .ok (.aload_n 0, 1) := by decide +kernel
theorem dX6_begin_6 : decode cX6_begin 6 = .ok (.iconst 0, 1) := by decide +kernel
theorem dX6_begin_7 : decode cX6_begin 7 = .ok (.putfield 15, 3) := by decide +kernel
theorem dX6_begin_10 : decode cX6_begin 10 = .ok (.iconst 0, 1) := by decide +kernel
theorem dX6_begin_11 : decode cX6_begin 11 = .ok (.istore_n 1, 1) := by decide +kernel
theorem dX6_begin_12 : decode cX6_begin 12 = .ok (.iload_n 1, 1) := by decide +kernel
theorem dX6_begin_13 : decode cX6_begin 13 = .ok (.bipush 12, 2) := by decide +kernel
theorem dX6_begin_15 : decode cX6_begin 15 = .ok (.if_icmp .ge 16, 3) := by decide +kernel
theorem dX6_begin_18 : decode cX6_begin 18 = .ok (.aload_n 0, 1) := by decide +kernel
theorem dX6_begin_19 : decode cX6_begin 19 = .ok (.getfield 22, 3) := by decide +kernel
theorem dX6_begin_22 : decode cX6_begin 22 = .ok (.iload_n 1, 1) := by decide +kernel
theorem dX6_begin_23 : decode cX6_begin 23 = .ok (.iconst 0, 1) := by decide +kernel
theorem dX6_begin_24 : decode cX6_begin 24 = .ok (.iastore, 1) := by decide +kernel
theorem dX6_begin_25 : decode cX6_begin 25 = .ok (.iinc 1 1, 3) := by decide +kernel
theorem dX6_begin_28 : decode cX6_begin 28 = .ok (.goto (-16), 3) := by decide +kernel
theorem dX6_begin_31 : decode cX6_begin 31 = .ok (.iconst 0, 1) := by decide +kernel
theorem dX6_begin_32 : decode cX6_begin 32 = .ok (.istore_n 1, 1) := by decide +kernel
theorem dX6_begin_33 : decode cX6_begin 33 = .ok (.iload_n 1, 1) := by decide +kernel
theorem dX6_begin_34 : decode cX6_begin 34 = .ok (.aload_n 0, 1) := by decide +kernel
theorem dX6_begin_35 : decode cX6_begin 35 = .ok (.getfield 25, 3) := by decide +kernel
theorem dX6_begin_38 : decode cX6_begin 38 = .ok (.arraylength, 1) := by decide +kernel
theorem dX6_begin_39 : decode cX6_begin 39 = .ok (.if_icmp .ge 23, 3) := by decide +kernel
theorem dX6_begin_42 : decode cX6_begin 42 = .ok (.aload_n 0, 1) := by decide +kernel
theorem dX6_begin_43 : decode cX6_begin 43 = .ok (.getfield 25, 3) := by decide +kernel
theorem dX6_begin_46 : decode cX6_begin 46 = .ok (.iload_n 1, 1) := by decide +kernel
theorem dX6_begin_47 : decode cX6_begin 47 = .ok (.iconst 0, 1) := by decide +kernel
theorem dX6_begin_48 : decode cX6_begin 48 = .ok (.iastore, 1) := by decide +kernel
theorem dX6_begin_49 : decode cX6_begin 49 = .ok (.aload_n 0, 1) := by decide +kernel
theorem dX6_begin_50 : decode cX6_begin 50 = .ok (.getfield 28, 3) := by decide +kernel
theorem dX6_begin_53 : decode cX6_begin 53 = .ok (.iload_n 1, 1) := by decide +kernel
theorem dX6_begin_54 : decode cX6_begin 54 = .ok (.iconst 0, 1) := by decide +kernel
theorem dX6_begin_55 : decode cX6_begin 55 = .ok (.bastore, 1) := by decide +kernel
theorem dX6_begin_56 : decode cX6_begin 56 = .ok (.iinc 1 1, 3) := by decide +kernel
theorem dX6_begin_59 : decode cX6_begin 59 = .ok (.goto (-26), 3) := by decide +kernel
theorem dX6_begin_62 : decode cX6_begin 62 = .ok (.return_, 1) := by decide +kernel
theorem dX6_addOutput_0 : decode cX6_addOutput 0 = .ok (.aload_n 0, 1) := by decide +kernel
theorem dX6_addOutput_1 : decode cX6_addOutput 1 = .ok (.getfield 15, 3) := by decide +kernel
theorem dX6_addOutput_4 : decode cX6_addOutput 4 = .ok (.bipush 40, 2) := by decide +kernel
theorem dX6_addOutput_6 : decode cX6_addOutput 6 = .ok (.if_icmp .lt 5, 3) := by decide +kernel
theorem dX6_addOutput_9 : decode cX6_addOutput 9 = .ok (.iconst 0, 1) := by decide +kernel
theorem dX6_addOutput_10 : decode cX6_addOutput 10 = .ok (.ireturn, 1) := by decide +kernel
theorem dX6_addOutput_11 : decode cX6_addOutput 11 = .ok (.aload_n 0, 1) := by decide +kernel
theorem dX6_addOutput_12 : decode cX6_addOutput 12 = .ok (.getfield 18, 3) := by decide +kernel
theorem dX6_addOutput_15 : decode cX6_addOutput 15 = .ok (.aload_n 0, 1) := by decide +kernel
theorem dX6_addOutput_16 : decode cX6_addOutput 16 = .ok (.getfield 15, 3) := by decide +kernel
theorem dX6_addOutput_19 : decode cX6_addOutput 19 = .ok (.iload_n 1, 1) := by decide +kernel
theorem dX6_addOutput_20 : decode cX6_addOutput 20 = .ok (.iastore, 1) := by decide +kernel
theorem dX6_addOutput_21 : decode cX6_addOutput 21 = .ok (.aload_n 0, 1) := by decide +kernel
theorem dX6_addOutput_22 : decode cX6_addOutput 22 = .ok (.dup, 1) := by decide +kernel
theorem dX6_addOutput_23 : decode cX6_addOutput 23 = .ok (.getfield 15, 3) := by decide +kernel
theorem dX6_addOutput_26 : decode cX6_addOutput 26 = .ok (.iconst 1, 1) := by decide +kernel
theorem dX6_addOutput_27 : decode cX6_addOutput 27 = .ok (.iadd, 1) := by decide +kernel
theorem dX6_addOutput_28 : decode cX6_addOutput 28 = .ok (.putfield 15, 3) := by decide +kernel
theorem dX6_addOutput_31 : decode cX6_addOutput 31 = .ok (.iconst 1, 1) := by decide +kernel
theorem dX6_addOutput_32 : decode cX6_addOutput 32 = .ok (.ireturn, 1) := by decide +kernel
theorem dX6_addCall_0 : decode cX6_addCall 0 = .ok (.iconst 0, 1) := by decide +kernel
theorem dX6_addCall_1 : decode cX6_addCall 1 = .ok (.istore 4, 2) := by decide +kernel
theorem dX6_addCall_3 : decode cX6_addCall 3 = .ok (.iload 4, 2) := by decide +kernel
theorem dX6_addCall_5 : decode cX6_addCall 5 = .ok (.iconst 3, 1) := by decide +kernel
theorem dX6_addCall_6 : decode cX6_addCall 6 = .ok (.if_icmp .ge 63, 3) := by decide +kernel
theorem dX6_addCall_9 : decode cX6_addCall 9 = .ok (.iload_n 1, 1) := by decide +kernel
theorem dX6_addCall_10 : decode cX6_addCall 10 = .ok (.iconst 3, 1) := by decide +kernel
theorem dX6_addCall_11 : decode cX6_addCall 11 = .ok (.imul, 1) := by decide +kernel
theorem dX6_addCall_12 : decode cX6_addCall 12 = .ok (.iload 4, 2) := by decide +kernel
theorem dX6_addCall_14 : decode cX6_addCall 14 = .ok (.iadd, 1) := by decide +kernel
theorem dX6_addCall_15 : decode cX6_addCall 15 = .ok (.istore 5, 2) := by decide +kernel
theorem dX6_addCall_17 : decode cX6_addCall 17 = .ok (.aload_n 2, 1) := by decide +kernel
theorem dX6_addCall_18 : decode cX6_addCall 18 = .ok (.iload_n 3, 1) := by decide +kernel
theorem dX6_addCall_19 : decode cX6_addCall 19 = .ok (.iload 4, 2) := by decide +kernel
theorem dX6_addCall_21 : decode cX6_addCall 21 = .ok (.iadd, 1) := by decide +kernel
theorem dX6_addCall_22 : decode cX6_addCall 22 = .ok (.iaload, 1) := by decide +kernel
theorem dX6_addCall_23 : decode cX6_addCall 23 = .ok (.istore 6, 2) := by decide +kernel
theorem dX6_addCall_25 : decode cX6_addCall 25 = .ok (.aload_n 0, 1) := by decide +kernel
theorem dX6_addCall_26 : decode cX6_addCall 26 = .ok (.getfield 22, 3) := by decide +kernel
theorem dX6_addCall_29 : decode cX6_addCall 29 = .ok (.iload_n 1, 1) := by decide +kernel
theorem dX6_addCall_30 : decode cX6_addCall 30 = .ok (.iaload, 1) := by decide +kernel
theorem dX6_addCall_31 : decode cX6_addCall 31 = .ok (.ifCond .le 23, 3) := by decide +kernel
theorem dX6_addCall_34 : decode cX6_addCall 34 = .ok (.aload_n 0, 1) := by decide +kernel
theorem dX6_addCall_35 : decode cX6_addCall 35 = .ok (.getfield 25, 3) := by decide +kernel
theorem dX6_addCall_38 : decode cX6_addCall 38 = .ok (.iload 5, 2) := by decide +kernel
theorem dX6_addCall_40 : decode cX6_addCall 40 = .ok (.iaload, 1) := by decide +kernel
theorem dX6_addCall_41 : decode cX6_addCall 41 = .ok (.iload 6, 2) := by decide +kernel
theorem dX6_addCall_43 : decode cX6_addCall 43 = .ok (.if_icmp .eq 11, 3) := by decide +kernel
theorem dX6_addCall_46 : decode cX6_addCall 46 = .ok (.aload_n 0, 1) := by decide +kernel
theorem dX6_addCall_47 : decode cX6_addCall 47 = .ok (.getfield 28, 3) := by decide +kernel
theorem dX6_addCall_50 : decode cX6_addCall 50 = .ok (.iload 5, 2) := by decide +kernel
theorem dX6_addCall_52 : decode cX6_addCall 52 = .ok (.iconst 1, 1) := by decide +kernel
theorem dX6_addCall_53 : decode cX6_addCall 53 = .ok (.bastore, 1) := by decide +kernel
theorem dX6_addCall_54 : decode cX6_addCall 54 = .ok (.aload_n 0, 1) := by decide +kernel
theorem dX6_addCall_55 : decode cX6_addCall 55 = .ok (.getfield 25, 3) := by decide +kernel
theorem dX6_addCall_58 : decode cX6_addCall 58 = .ok (.iload 5, 2) := by decide +kernel
theorem dX6_addCall_60 : decode cX6_addCall 60 = .ok (.iload 6, 2) := by decide +kernel
theorem dX6_addCall_62 : decode cX6_addCall 62 = .ok (.iastore, 1) := by decide +kernel
theorem dX6_addCall_63 : decode cX6_addCall 63 = .ok (.iinc 4 1, 3) := by decide +kernel
theorem dX6_addCall_66 : decode cX6_addCall 66 = .ok (.goto (-63), 3) := by decide +kernel
theorem dX6_addCall_69 : decode cX6_addCall 69 = .ok (.aload_n 0, 1) := by decide +kernel
theorem dX6_addCall_70 : decode cX6_addCall 70 = .ok (.getfield 22, 3) := by decide +kernel
theorem dX6_addCall_73 : decode cX6_addCall 73 = .ok (.iload_n 1, 1) := by decide +kernel
theorem dX6_addCall_74 : decode cX6_addCall 74 = .ok (.dup2, 1) := by decide +kernel
theorem dX6_addCall_75 : decode cX6_addCall 75 = .ok (.iaload, 1) := by decide +kernel
theorem dX6_addCall_76 : decode cX6_addCall 76 = .ok (.iconst 1, 1) := by decide +kernel
theorem dX6_addCall_77 : decode cX6_addCall 77 = .ok (.iadd, 1) := by decide +kernel
theorem dX6_addCall_78 : decode cX6_addCall 78 = .ok (.iastore, 1) := by decide +kernel
theorem dX6_addCall_79 : decode cX6_addCall 79 = .ok (.return_, 1) := by decide +kernel
