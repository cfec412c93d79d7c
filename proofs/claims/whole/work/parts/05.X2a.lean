theorem dX2_init_0 : decode cX2_init 0 = .ok (.aload_n 0, 1) := by decide +kernel
theorem dX2_init_1 : decode cX2_init 1 = .ok (.invokespecial 3, 3) := by decide +kernel
theorem dX2_init_4 : decode cX2_init 4 = .ok (.aload_n 0, 1) := by decide +kernel
theorem dX2_init_5 : decode cX2_init 5 = .ok (.aload_n 1, 1) := by decide +kernel
theorem dX2_init_6 : decode cX2_init 6 = .ok (.putfield 9, 3) := by decide +kernel
theorem dX2_init_9 : decode cX2_init 9 = .ok (.aload_n 0, 1) := by decide +kernel
theorem dX2_init_10 : decode cX2_init 10 = .ok (.aload_n 2, 1) := by decide +kernel
theorem dX2_init_11 : decode cX2_init 11 = .ok (.putfield 15, 3) := by decide +kernel
theorem dX2_init_14 : decode cX2_init 14 = .ok (.aload_n 0, 1) := by decide +kernel
theorem dX2_init_15 : decode cX2_init 15 = .ok (.bipush 12, 2) := by decide +kernel
theorem dX2_init_17 : decode cX2_init 17 = .ok (.newarray .int, 2) := by decide +kernel
theorem dX2_init_19 : decode cX2_init 19 = .ok (.putfield 19, 3) := by decide +kernel
theorem dX2_init_22 : decode cX2_init 22 = .ok (.aload_n 0, 1) := by decide +kernel
theorem dX2_init_23 : decode cX2_init 23 = .ok (.iconst 0, 1) := by decide +kernel
theorem dX2_init_24 : decode cX2_init 24 = .ok (.putfield 23, 3) := by decide +kernel
theorem dX2_init_27 : decode cX2_init 27 = .ok (.aload_n 0, 1) := by decide +kernel
theorem dX2_init_28 : decode cX2_init 28 = .ok (.iconst 0, 1) := by decide +kernel
theorem dX2_init_29 : decode cX2_init 29 = .ok (.putfield 27, 3) := by decide +kernel
theorem dX2_init_32 : decode cX2_init 32 = .ok (.aload_n 0, 1) := by decide +kernel
theorem dX2_init_33 : decode cX2_init 33 = .ok (.bipush 11, 2) := by decide +kernel
theorem dX2_init_35 : decode cX2_init 35 = .ok (.newarray .int, 2) := by decide +kernel
theorem dX2_init_37 : decode cX2_init 37 = .ok (.putfield 30, 3) := by decide +kernel
theorem dX2_init_40 : decode cX2_init 40 = .ok (.aload_n 0, 1) := by decide +kernel
theorem dX2_init_41 : decode cX2_init 41 = .ok (.bipush 11, 2) := by decide +kernel
theorem dX2_init_43 : decode cX2_init 43 = .ok (.newarray .int, 2) := by decide +kernel
theorem dX2_init_45 : decode cX2_init 45 = .ok (.putfield 33, 3) := by decide +kernel
theorem dX2_init_48 : decode cX2_init 48 = .ok (.aload_n 0, 1) := by decide +kernel
theorem dX2_init_49 : decode cX2_init 49 = .ok (.bipush 66, 2) := by decide +kernel
theorem dX2_init_51 : decode cX2_init 51 = .ok (.newarray .int, 2) := by decide +kernel
theorem dX2_init_53 : decode cX2_init 53 = .ok (.putfield 36, 3) := by decide +kernel
theorem dX2_init_56 : decode cX2_init 56 = .ok (.aload_n 0, 1) := by decide +kernel
theorem dX2_init_57 : decode cX2_init 57 = .ok (.iconst 0, 1) := by decide +kernel
theorem dX2_init_58 : decode cX2_init 58 = .ok (.putfield 39, 3) := by decide +kernel
theorem dX2_init_61 : decode cX2_init 61 = .ok (.return_, 1) := by decide +kernel
theorem dX2_addInput_0 : decode cX2_addInput 0 = .ok (.aload_n 0, 1) := by decide +kernel
theorem dX2_addInput_1 : decode cX2_addInput 1 = .ok (.getfield 23, 3) := by decide +kernel
theorem dX2_addInput_4 : decode cX2_addInput 4 = .ok (.bipush 12, 2) := by decide +kernel
theorem dX2_addInput_6 : decode cX2_addInput 6 = .ok (.if_icmp .lt 5, 3) := by decide +kernel
theorem dX2_addInput_9 : decode cX2_addInput 9 = .ok (.iconst (-1), 1) := by decide +kernel
theorem dX2_addInput_10 : decode cX2_addInput 10 = .ok (.ireturn, 1) := by decide +kernel
theorem dX2_addInput_11 : decode cX2_addInput 11 = .ok (.aload_n 0, 1) := by decide +kernel
theorem dX2_addInput_12 : decode cX2_addInput 12 = .ok (.getfield 19, 3) := by decide +kernel
theorem dX2_addInput_15 : decode cX2_addInput 15 = .ok (.aload_n 0, 1) := by decide +kernel
theorem dX2_addInput_16 : decode cX2_addInput 16 = .ok (.getfield 23, 3) := by decide +kernel
theorem dX2_addInput_19 : decode cX2_addInput 19 = .ok (.iload_n 1, 1) := by decide +kernel
theorem dX2_addInput_20 : decode cX2_addInput 20 = .ok (.iastore, 1) := by decide +kernel
theorem dX2_addInput_21 : decode cX2_addInput 21 = .ok (.aload_n 0, 1) := by decide +kernel
theorem dX2_addInput_22 : decode cX2_addInput 22 = .ok (.dup, 1) := by decide +kernel
theorem dX2_addInput_23 : decode cX2_addInput 23 = .ok (.getfield 23, 3) := by decide +kernel
theorem dX2_addInput_26 : decode cX2_addInput 26 = .ok (.iconst 1, 1) := by decide +kernel
theorem dX2_addInput_27 : decode cX2_addInput 27 = .ok (.iadd, 1) := by decide +kernel
theorem dX2_addInput_28 : decode cX2_addInput 28 = .ok (.putfield 23, 3) := by decide +kernel
theorem dX2_addInput_31 : decode cX2_addInput 31 = .ok (.aload_n 0, 1) := by decide +kernel
theorem dX2_addInput_32 : decode cX2_addInput 32 = .ok (.getfield 23, 3) := by decide +kernel
theorem dX2_addInput_35 : decode cX2_addInput 35 = .ok (.ireturn, 1) := by decide +kernel
theorem dX2_dropInputs_0 : decode cX2_dropInputs 0 = .ok (.aload_n 0, 1) := by decide +kernel
theorem dX2_dropInputs_1 : decode cX2_dropInputs 1 = .ok (.iconst 0, 1) := by decide +kernel
theorem dX2_dropInputs_2 : decode cX2_dropInputs 2 = .ok (.putfield 23, 3) := by decide +kernel
theorem dX2_dropInputs_5 : decode cX2_dropInputs 5 = .ok (.return_, 1) := by decide +kernel
theorem dX2_execute_0 : decode cX2_execute 0 = .ok (.aload_n 0, 1) := by decide +kernel
theorem dX2_execute_1 : decode cX2_execute 1 = .ok (.aload_n 1, 1) := by decide +kernel
theorem dX2_execute_2 : decode cX2_execute 2 = .ok (.putfield 9, 3) := by decide +kernel
theorem dX2_execute_5 : decode cX2_execute 5 = .ok (.aload_n 0, 1) := by decide +kernel
theorem dX2_execute_6 : decode cX2_execute 6 = .ok (.invokevirtual 42, 3) := by decide +kernel
theorem dX2_execute_9 : decode cX2_execute 9 = .ok (.iconst 0, 1) := by decide +kernel
theorem dX2_execute_10 : decode cX2_execute 10 = .ok (.istore_n 3, 1) := by decide +kernel
theorem dX2_execute_11 : decode cX2_execute 11 = .ok (.iload_n 3, 1) := by decide +kernel
theorem dX2_execute_12 : decode cX2_execute 12 = .ok (.sipush 6002, 3) := by decide +kernel
theorem dX2_execute_15 : decode cX2_execute 15 = .ok (.if_icmp .ge 106, 3) := by decide +kernel
theorem dX2_execute_18 : decode cX2_execute 18 = .ok (.aload_n 0, 1) := by decide +kernel
theorem dX2_execute_19 : decode cX2_execute 19 = .ok (.getfield 39, 3) := by decide +kernel
theorem dX2_execute_22 : decode cX2_execute 22 = .ok (.ifCond .le 99, 3) := by decide +kernel
theorem dX2_execute_25 : decode cX2_execute 25 = .ok (.aload_n 0, 1) := by decide +kernel
theorem dX2_execute_26 : decode cX2_execute 26 = .ok (.getfield 39, 3) := by decide +kernel
theorem dX2_execute_29 : decode cX2_execute 29 = .ok (.iconst 1, 1) := by decide +kernel
theorem dX2_execute_30 : decode cX2_execute 30 = .ok (.isub, 1) := by decide +kernel
theorem dX2_execute_31 : decode cX2_execute 31 = .ok (.istore 4, 2) := by decide +kernel
theorem dX2_execute_33 : decode cX2_execute 33 = .ok (.aload_n 0, 1) := by decide +kernel
theorem dX2_execute_34 : decode cX2_execute 34 = .ok (.getfield 30, 3) := by decide +kernel
theorem dX2_execute_37 : decode cX2_execute 37 = .ok (.iload 4, 2) := by decide +kernel
theorem dX2_execute_39 : decode cX2_execute 39 = .ok (.iaload, 1) := by decide +kernel
theorem dX2_execute_40 : decode cX2_execute 40 = .ok (.istore 5, 2) := by decide +kernel
theorem dX2_execute_42 : decode cX2_execute 42 = .ok (.aload_n 0, 1) := by decide +kernel
theorem dX2_execute_43 : decode cX2_execute 43 = .ok (.getfield 33, 3) := by decide +kernel
theorem dX2_execute_46 : decode cX2_execute 46 = .ok (.iload 4, 2) := by decide +kernel
theorem dX2_execute_48 : decode cX2_execute 48 = .ok (.iaload, 1) := by decide +kernel
theorem dX2_execute_49 : decode cX2_execute 49 = .ok (.istore 6, 2) := by decide +kernel
theorem dX2_execute_51 : decode cX2_execute 51 = .ok (.iload 6, 2) := by decide +kernel
theorem dX2_execute_53 : decode cX2_execute 53 = .ok (.aload_n 0, 1) := by decide +kernel
theorem dX2_execute_54 : decode cX2_execute 54 = .ok (.getfield 9, 3) := by decide +kernel
theorem dX2_execute_57 : decode cX2_execute 57 = .ok (.getfield 45, 3) := by decide +kernel
theorem dX2_execute_60 : decode cX2_execute 60 = .ok (.iload 5, 2) := by decide +kernel
theorem dX2_execute_62 : decode cX2_execute 62 = .ok (.iaload, 1) := by decide +kernel
theorem dX2_execute_63 : decode cX2_execute 63 = .ok (.if_icmp .lt 11, 3) := by decide +kernel
theorem dX2_execute_66 : decode cX2_execute 66 = .ok (.aload_n 0, 1) := by decide +kernel
theorem dX2_execute_67 : decode cX2_execute 67 = .ok (.iconst 0, 1) := by decide +kernel
theorem dX2_execute_68 : decode cX2_execute 68 = .ok (.invokevirtual 50, 3) := by decide +kernel
theorem dX2_execute_71 : decode cX2_execute 71 = .ok (.goto 44, 3) := by decide +kernel
theorem dX2_execute_74 : decode cX2_execute 74 = .ok (.aload_n 0, 1) := by decide +kernel
theorem dX2_execute_75 : decode cX2_execute 75 = .ok (.getfield 15, 3) := by decide +kernel
theorem dX2_execute_78 : decode cX2_execute 78 = .ok (.getfield 54, 3) := by decide +kernel
theorem dX2_execute_81 : decode cX2_execute 81 = .ok (.iload_n 2, 1) := by decide +kernel
theorem dX2_execute_82 : decode cX2_execute 82 = .ok (.if_icmp .lt 5, 3) := by decide +kernel
theorem dX2_execute_85 : decode cX2_execute 85 = .ok (.iconst 0, 1) := by decide +kernel
theorem dX2_execute_86 : decode cX2_execute 86 = .ok (.ireturn, 1) := by decide +kernel
theorem dX2_execute_87 : decode cX2_execute 87 = .ok (.aload_n 0, 1) := by decide +kernel
theorem dX2_execute_88 : decode cX2_execute 88 = .ok (.iload 5, 2) := by decide +kernel
theorem dX2_execute_90 : decode cX2_execute 90 = .ok (.iload 6, 2) := by decide +kernel
theorem dX2_execute_92 : decode cX2_execute 92 = .ok (.iload 4, 2) := by decide +kernel
theorem dX2_execute_94 : decode cX2_execute 94 = .ok (.invokevirtual 59, 3) := by decide +kernel
theorem dX2_execute_97 : decode cX2_execute 97 = .ok (.ifCond .ne 5, 3) := by decide +kernel
theorem dX2_execute_100 : decode cX2_execute 100 = .ok (.iconst 2, 1) := by decide +kernel
theorem dX2_execute_101 : decode cX2_execute 101 = .ok (.ireturn, 1) := by decide +kernel
theorem dX2_execute_102 : decode cX2_execute 102 = .ok (.aload_n 0, 1) := by decide +kernel
theorem dX2_execute_103 : decode cX2_execute 103 = .ok (.getfield 15, 3) := by decide +kernel
theorem dX2_execute_106 : decode cX2_execute 106 = .ok (.dup, 1) := by decide +kernel
theorem dX2_execute_107 : decode cX2_execute 107 = .ok (.getfield 54, 3) := by decide +kernel
theorem dX2_execute_110 : decode cX2_execute 110 = .ok (.iconst 1, 1) := by decide +kernel
theorem dX2_execute_111 : decode cX2_execute 111 = .ok (.iadd, 1) := by decide +kernel
theorem dX2_execute_112 : decode cX2_execute 112 = .ok (.putfield 54, 3) := by decide +kernel
theorem dX2_execute_115 : decode cX2_execute 115 = .ok (.iinc 3 1, 3) := by decide +kernel
theorem dX2_execute_118 : decode cX2_execute 118 = .ok (.goto (-107), 3) := by decide +kernel
theorem dX2_execute_121 : decode cX2_execute 121 = .ok (.iconst 1, 1) := by decide +kernel
theorem dX2_execute_122 : decode cX2_execute 122 = .ok (.ireturn, 1) := by decide +kernel
theorem dX2_begin_0 : decode cX2_begin 0 = .ok (.aload_n 0, 1) := by decide +kernel
theorem dX2_begin_1 : decode cX2_begin 1 = .ok (.getfield 15, 3) := by decide +kernel
theorem dX2_begin_4 : decode cX2_begin 4 = .ok (.invokevirtual 63, 3) := by decide +kernel
theorem dX2_begin_7 : decode cX2_begin 7 = .ok (.aload_n 0, 1) := by decide +kernel
theorem dX2_begin_8 : decode cX2_begin 8 = .ok (.iconst 0, 1) := by decide +kernel
theorem dX2_begin_9 : decode cX2_begin 9 = .ok (.putfield 27, 3) := by decide +kernel
theorem dX2_begin_12 : decode cX2_begin 12 = .ok (.aload_n 0, 1) := by decide +kernel
theorem dX2_begin_13 : decode cX2_begin 13 = .ok (.getfield 30, 3) := by decide +kernel
theorem dX2_begin_16 : decode cX2_begin 16 = .ok (.iconst 0, 1) := by decide +kernel
theorem dX2_begin_17 : decode cX2_begin 17 = .ok (.iconst 0, 1) := by decide +kernel
theorem dX2_begin_18 : decode cX2_begin 18 = .ok (.iastore, 1) := by decide +kernel
theorem dX2_begin_19 : decode cX2_begin 19 = .ok (.aload_n 0, 1) := by decide +kernel
theorem dX2_begin_20 : decode cX2_begin 20 = .ok (.getfield 33, 3) := by decide +kernel
theorem dX2_begin_23 : decode cX2_begin 23 = .ok (.iconst 0, 1) := by decide +kernel
theorem dX2_begin_24 : decode cX2_begin 24 = .ok (.iconst 0, 1) := by decide +kernel
theorem dX2_begin_25 : decode cX2_begin 25 = .ok (.iastore, 1) := by decide +kernel
theorem dX2_begin_26 : decode cX2_begin 26 = .ok (.iconst 0, 1) := by decide +kernel
theorem dX2_begin_27 : decode cX2_begin 27 = .ok (.istore_n 1, 1) := by decide +kernel
theorem dX2_begin_28 : decode cX2_begin 28 = .ok (.iload_n 1, 1) := by decide +kernel
theorem dX2_begin_29 : decode cX2_begin 29 = .ok (.bipush 6, 2) := by decide +kernel
theorem dX2_begin_31 : decode cX2_begin 31 = .ok (.if_icmp .ge 16, 3) := by decide +kernel
theorem dX2_begin_34 : decode cX2_begin 34 = .ok (.aload_n 0, 1) := by decide +kernel
theorem dX2_begin_35 : decode cX2_begin 35 = .ok (.getfield 36, 3) := by decide +kernel
theorem dX2_begin_38 : decode cX2_begin 38 = .ok (.iload_n 1, 1) := by decide +kernel
theorem dX2_begin_39 : decode cX2_begin 39 = .ok (.iconst 0, 1) := by decide +kernel
theorem dX2_begin_40 : decode cX2_begin 40 = .ok (.iastore, 1) := by decide +kernel
theorem dX2_begin_41 : decode cX2_begin 41 = .ok (.iinc 1 1, 3) := by decide +kernel
theorem dX2_begin_44 : decode cX2_begin 44 = .ok (.goto (-16), 3) := by decide +kernel
theorem dX2_begin_47 : decode cX2_begin 47 = .ok (.aload_n 0, 1) := by decide +kernel
theorem dX2_begin_48 : decode cX2_begin 48 = .ok (.iconst 1, 1) := by decide +kernel
theorem dX2_begin_49 : decode cX2_begin 49 = .ok (.putfield 39, 3) := by decide +kernel
theorem dX2_begin_52 : decode cX2_begin 52 = .ok (.aload_n 0, 1) := by decide +kernel
theorem dX2_begin_53 : decode cX2_begin 53 = .ok (.getfield 15, 3) := by decide +kernel
theorem dX2_begin_56 : decode cX2_begin 56 = .ok (.iconst 0, 1) := by decide +kernel
theorem dX2_begin_57 : decode cX2_begin 57 = .ok (.aload_n 0, 1) := by decide +kernel
theorem dX2_begin_58 : decode cX2_begin 58 = .ok (.getfield 36, 3) := by decide +kernel
theorem dX2_begin_61 : decode cX2_begin 61 = .ok (.iconst 0, 1) := by decide +kernel
theorem dX2_begin_62 : decode cX2_begin 62 = .ok (.invokevirtual 64, 3) := by decide +kernel
theorem dX2_begin_65 : decode cX2_begin 65 = .ok (.return_, 1) := by decide +kernel
theorem dX2_doStatement_0 : decode cX2_doStatement 0 = .ok (.aload_n 0, 1) := by decide +kernel
theorem dX2_doStatement_1 : decode cX2_doStatement 1 = .ok (.getfield 9, 3) := by decide +kernel
theorem dX2_doStatement_4 : decode cX2_doStatement 4 = .ok (.iload_n 1, 1) := by decide +kernel
theorem dX2_doStatement_5 : decode cX2_doStatement 5 = .ok (.iload_n 2, 1) := by decide +kernel
theorem dX2_doStatement_6 : decode cX2_doStatement 6 = .ok (.iconst 0, 1) := by decide +kernel
theorem dX2_doStatement_7 : decode cX2_doStatement 7 = .ok (.invokevirtual 68, 3) := by decide +kernel
theorem dX2_doStatement_10 : decode cX2_doStatement 10 = .ok (.istore 4, 2) := by decide +kernel
theorem dX2_doStatement_12 : decode cX2_doStatement 12 = .ok (.aload_n 0, 1) := by decide +kernel
theorem dX2_doStatement_13 : decode cX2_doStatement 13 = .ok (.iload_n 3, 1) := by decide +kernel
theorem dX2_doStatement_14 : decode cX2_doStatement 14 = .ok (.aload_n 0, 1) := by decide +kernel
theorem dX2_doStatement_15 : decode cX2_doStatement 15 = .ok (.getfield 9, 3) := by decide +kernel
theorem dX2_doStatement_18 : decode cX2_doStatement 18 = .ok (.iload_n 1, 1) := by decide +kernel
theorem dX2_doStatement_19 : decode cX2_doStatement 19 = .ok (.iload_n 2, 1) := by decide +kernel
theorem dX2_doStatement_20 : decode cX2_doStatement 20 = .ok (.iconst 3, 1) := by decide +kernel
theorem dX2_doStatement_21 : decode cX2_doStatement 21 = .ok (.invokevirtual 68, 3) := by decide +kernel
theorem dX2_doStatement_24 : decode cX2_doStatement 24 = .ok (.invokevirtual 72, 3) := by decide +kernel
theorem dX2_doStatement_27 : decode cX2_doStatement 27 = .ok (.istore 5, 2) := by decide +kernel
theorem dX2_doStatement_29 : decode cX2_doStatement 29 = .ok (.iload 4, 2) := by decide +kernel
theorem dX2_doStatement_31 : decode cX2_doStatement 31 = .ok (.tableswitch 168 5 12 #[45, 57, 76, 105, 123, 131, 149, 157], 45) := by decide +kernel
theorem dX2_doStatement_76 : decode cX2_doStatement 76 = .ok (.aload_n 0, 1) := by decide +kernel
theorem dX2_doStatement_77 : decode cX2_doStatement 77 = .ok (.iload_n 1, 1) := by decide +kernel
theorem dX2_doStatement_78 : decode cX2_doStatement 78 = .ok (.iload_n 2, 1) := by decide +kernel
theorem dX2_doStatement_79 : decode cX2_doStatement 79 = .ok (.iload_n 3, 1) := by decide +kernel
theorem dX2_doStatement_80 : decode cX2_doStatement 80 = .ok (.aload_n 0, 1) := by decide +kernel
theorem dX2_doStatement_81 : decode cX2_doStatement 81 = .ok (.invokevirtual 76, 3) := by decide +kernel
theorem dX2_doStatement_84 : decode cX2_doStatement 84 = .ok (.invokevirtual 80, 3) := by decide +kernel
theorem dX2_doStatement_87 : decode cX2_doStatement 87 = .ok (.ireturn, 1) := by decide +kernel
theorem dX2_doStatement_88 : decode cX2_doStatement 88 = .ok (.aload_n 0, 1) := by decide +kernel
theorem dX2_doStatement_89 : decode cX2_doStatement 89 = .ok (.getfield 33, 3) := by decide +kernel
theorem dX2_doStatement_92 : decode cX2_doStatement 92 = .ok (.iload_n 3, 1) := by decide +kernel
theorem dX2_doStatement_93 : decode cX2_doStatement 93 = .ok (.iload_n 2, 1) := by decide +kernel
theorem dX2_doStatement_94 : decode cX2_doStatement 94 = .ok (.iconst 1, 1) := by decide +kernel
theorem dX2_doStatement_95 : decode cX2_doStatement 95 = .ok (.iadd, 1) := by decide +kernel
theorem dX2_doStatement_96 : decode cX2_doStatement 96 = .ok (.iastore, 1) := by decide +kernel
theorem dX2_doStatement_97 : decode cX2_doStatement 97 = .ok (.aload_n 0, 1) := by decide +kernel
theorem dX2_doStatement_98 : decode cX2_doStatement 98 = .ok (.getfield 15, 3) := by decide +kernel
theorem dX2_doStatement_101 : decode cX2_doStatement 101 = .ok (.iload 5, 2) := by decide +kernel
theorem dX2_doStatement_103 : decode cX2_doStatement 103 = .ok (.invokevirtual 84, 3) := by decide +kernel
theorem dX2_doStatement_106 : decode cX2_doStatement 106 = .ok (.ireturn, 1) := by decide +kernel
theorem dX2_doStatement_107 : decode cX2_doStatement 107 = .ok (.aload_n 0, 1) := by decide +kernel
theorem dX2_doStatement_108 : decode cX2_doStatement 108 = .ok (.getfield 33, 3) := by decide +kernel
theorem dX2_doStatement_111 : decode cX2_doStatement 111 = .ok (.iload_n 3, 1) := by decide +kernel
theorem dX2_doStatement_112 : decode cX2_doStatement 112 = .ok (.iload 5, 2) := by decide +kernel
theorem dX2_doStatement_114 : decode cX2_doStatement 114 = .ok (.ifCond .eq 16, 3) := by decide +kernel
theorem dX2_doStatement_117 : decode cX2_doStatement 117 = .ok (.aload_n 0, 1) := by decide +kernel
theorem dX2_doStatement_118 : decode cX2_doStatement 118 = .ok (.getfield 9, 3) := by decide +kernel
theorem dX2_doStatement_121 : decode cX2_doStatement 121 = .ok (.iload_n 1, 1) := by decide +kernel
theorem dX2_doStatement_122 : decode cX2_doStatement 122 = .ok (.iload_n 2, 1) := by decide +kernel
theorem dX2_doStatement_123 : decode cX2_doStatement 123 = .ok (.iconst 2, 1) := by decide +kernel
theorem dX2_doStatement_124 : decode cX2_doStatement 124 = .ok (.invokevirtual 68, 3) := by decide +kernel
theorem dX2_doStatement_127 : decode cX2_doStatement 127 = .ok (.goto 6, 3) := by decide +kernel
theorem dX2_doStatement_130 : decode cX2_doStatement 130 = .ok (.iload_n 2, 1) := by decide +kernel
theorem dX2_doStatement_131 : decode cX2_doStatement 131 = .ok (.iconst 1, 1) := by decide +kernel
theorem dX2_doStatement_132 : decode cX2_doStatement 132 = .ok (.iadd, 1) := by decide +kernel
theorem dX2_doStatement_133 : decode cX2_doStatement 133 = .ok (.iastore, 1) := by decide +kernel
theorem dX2_doStatement_134 : decode cX2_doStatement 134 = .ok (.iconst 1, 1) := by decide +kernel
theorem dX2_doStatement_135 : decode cX2_doStatement 135 = .ok (.ireturn, 1) := by decide +kernel
theorem dX2_doStatement_136 : decode cX2_doStatement 136 = .ok (.aload_n 0, 1) := by decide +kernel
theorem dX2_doStatement_137 : decode cX2_doStatement 137 = .ok (.getfield 33, 3) := by decide +kernel
theorem dX2_doStatement_140 : decode cX2_doStatement 140 = .ok (.iload_n 3, 1) := by decide +kernel
theorem dX2_doStatement_141 : decode cX2_doStatement 141 = .ok (.aload_n 0, 1) := by decide +kernel
theorem dX2_doStatement_142 : decode cX2_doStatement 142 = .ok (.getfield 9, 3) := by decide +kernel
theorem dX2_doStatement_145 : decode cX2_doStatement 145 = .ok (.iload_n 1, 1) := by decide +kernel
theorem dX2_doStatement_146 : decode cX2_doStatement 146 = .ok (.iload_n 2, 1) := by decide +kernel
theorem dX2_doStatement_147 : decode cX2_doStatement 147 = .ok (.iconst 2, 1) := by decide +kernel
theorem dX2_doStatement_148 : decode cX2_doStatement 148 = .ok (.invokevirtual 68, 3) := by decide +kernel
theorem dX2_doStatement_151 : decode cX2_doStatement 151 = .ok (.iastore, 1) := by decide +kernel
theorem dX2_doStatement_152 : decode cX2_doStatement 152 = .ok (.iconst 1, 1) := by decide +kernel
theorem dX2_doStatement_153 : decode cX2_doStatement 153 = .ok (.ireturn, 1) := by decide +kernel
theorem dX2_doStatement_154 : decode cX2_doStatement 154 = .ok (.aload_n 0, 1) := by decide +kernel
theorem dX2_doStatement_155 : decode cX2_doStatement 155 = .ok (.iload 5, 2) := by decide +kernel
theorem dX2_doStatement_157 : decode cX2_doStatement 157 = .ok (.invokevirtual 50, 3) := by decide +kernel
theorem dX2_doStatement_160 : decode cX2_doStatement 160 = .ok (.iconst 1, 1) := by decide +kernel
theorem dX2_doStatement_161 : decode cX2_doStatement 161 = .ok (.ireturn, 1) := by decide +kernel
theorem dX2_doStatement_162 : decode cX2_doStatement 162 = .ok (.aload_n 0, 1) := by decide +kernel
theorem dX2_doStatement_163 : decode cX2_doStatement 163 = .ok (.iload_n 1, 1) := by decide +kernel
theorem dX2_doStatement_164 : decode cX2_doStatement 164 = .ok (.iload_n 2, 1) := by decide +kernel
theorem dX2_doStatement_165 : decode cX2_doStatement 165 = .ok (.iload_n 3, 1) := by decide +kernel
theorem dX2_doStatement_166 : decode cX2_doStatement 166 = .ok (.aload_n 0, 1) := by decide +kernel
theorem dX2_doStatement_167 : decode cX2_doStatement 167 = .ok (.getfield 9, 3) := by decide +kernel
theorem dX2_doStatement_170 : decode cX2_doStatement 170 = .ok (.iload_n 1, 1) := by decide +kernel
theorem dX2_doStatement_171 : decode cX2_doStatement 171 = .ok (.iload_n 2, 1) := by decide +kernel
theorem dX2_doStatement_172 : decode cX2_doStatement 172 = .ok (.iconst 2, 1) := by decide +kernel
theorem dX2_doStatement_173 : decode cX2_doStatement 173 = .ok (.invokevirtual 68, 3) := by decide +kernel
theorem dX2_doStatement_176 : decode cX2_doStatement 176 = .ok (.invokevirtual 88, 3) := by decide +kernel
theorem dX2_doStatement_179 : decode cX2_doStatement 179 = .ok (.ireturn, 1) := by decide +kernel
theorem dX2_doStatement_180 : decode cX2_doStatement 180 = .ok (.aload_n 0, 1) := by decide +kernel
theorem dX2_doStatement_181 : decode cX2_doStatement 181 = .ok (.iload_n 1, 1) := by decide +kernel
theorem dX2_doStatement_182 : decode cX2_doStatement 182 = .ok (.iload_n 2, 1) := by decide +kernel
theorem dX2_doStatement_183 : decode cX2_doStatement 183 = .ok (.iload_n 3, 1) := by decide +kernel
theorem dX2_doStatement_184 : decode cX2_doStatement 184 = .ok (.invokevirtual 91, 3) := by decide +kernel
theorem dX2_doStatement_187 : decode cX2_doStatement 187 = .ok (.ireturn, 1) := by decide +kernel
theorem dX2_doStatement_188 : decode cX2_doStatement 188 = .ok (.aload_n 0, 1) := by decide +kernel
theorem dX2_doStatement_189 : decode cX2_doStatement 189 = .ok (.getfield 33, 3) := by decide +kernel
theorem dX2_doStatement_192 : decode cX2_doStatement 192 = .ok (.iload_n 3, 1) := by decide +kernel
theorem dX2_doStatement_193 : decode cX2_doStatement 193 = .ok (.iload_n 2, 1) := by decide +kernel
theorem dX2_doStatement_194 : decode cX2_doStatement 194 = .ok (.iconst 1, 1) := by decide +kernel
theorem dX2_doStatement_195 : decode cX2_doStatement 195 = .ok (.iadd, 1) := by decide +kernel
theorem dX2_doStatement_196 : decode cX2_doStatement 196 = .ok (.iastore, 1) := by decide +kernel
theorem dX2_doStatement_197 : decode cX2_doStatement 197 = .ok (.iconst 1, 1) := by decide +kernel
theorem dX2_doStatement_198 : decode cX2_doStatement 198 = .ok (.ireturn, 1) := by decide +kernel
theorem dX2_doStatement_199 : decode cX2_doStatement 199 = .ok (.aload_n 0, 1) := by decide +kernel
theorem dX2_doStatement_200 : decode cX2_doStatement 200 = .ok (.iload_n 3, 1) := by decide +kernel
theorem dX2_doStatement_201 : decode cX2_doStatement 201 = .ok (.aload_n 0, 1) := by decide +kernel
theorem dX2_doStatement_202 : decode cX2_doStatement 202 = .ok (.getfield 9, 3) := by decide +kernel
theorem dX2_doStatement_205 : decode cX2_doStatement 205 = .ok (.iload_n 1, 1) := by decide +kernel
theorem dX2_doStatement_206 : decode cX2_doStatement 206 = .ok (.iload_n 2, 1) := by decide +kernel
theorem dX2_doStatement_207 : decode cX2_doStatement 207 = .ok (.iconst 4, 1) := by decide +kernel
theorem dX2_doStatement_208 : decode cX2_doStatement 208 = .ok (.invokevirtual 68, 3) := by decide +kernel
theorem dX2_doStatement_211 : decode cX2_doStatement 211 = .ok (.invokevirtual 72, 3) := by decide +kernel
theorem dX2_doStatement_214 : decode cX2_doStatement 214 = .ok (.istore 6, 2) := by decide +kernel
theorem dX2_doStatement_216 : decode cX2_doStatement 216 = .ok (.aload_n 0, 1) := by decide +kernel
theorem dX2_doStatement_217 : decode cX2_doStatement 217 = .ok (.iload_n 1, 1) := by decide +kernel
theorem dX2_doStatement_218 : decode cX2_doStatement 218 = .ok (.iload_n 2, 1) := by decide +kernel
theorem dX2_doStatement_219 : decode cX2_doStatement 219 = .ok (.iload_n 3, 1) := by decide +kernel
theorem dX2_doStatement_220 : decode cX2_doStatement 220 = .ok (.iload 4, 2) := by decide +kernel
theorem dX2_doStatement_222 : decode cX2_doStatement 222 = .ok (.iload 5, 2) := by decide +kernel
theorem dX2_doStatement_224 : decode cX2_doStatement 224 = .ok (.iload 6, 2) := by decide +kernel
theorem dX2_doStatement_226 : decode cX2_doStatement 226 = .ok (.invokestatic 94, 3) := by decide +kernel
theorem dX2_doStatement_229 : decode cX2_doStatement 229 = .ok (.invokevirtual 80, 3) := by decide +kernel
theorem dX2_doStatement_232 : decode cX2_doStatement 232 = .ok (.ireturn, 1) := by decide +kernel
theorem dX2_valueOf_0 : decode cX2_valueOf 0 = .ok (.iload_n 2, 1) := by decide +kernel
theorem dX2_valueOf_1 : decode cX2_valueOf 1 = .ok (.bipush 7, 2) := by decide +kernel
theorem dX2_valueOf_3 : decode cX2_valueOf 3 = .ok (.iand, 1) := by decide +kernel
theorem dX2_valueOf_4 : decode cX2_valueOf 4 = .ok (.istore_n 3, 1) := by decide +kernel
theorem dX2_valueOf_5 : decode cX2_valueOf 5 = .ok (.iload_n 3, 1) := by decide +kernel
theorem dX2_valueOf_6 : decode cX2_valueOf 6 = .ok (.bipush 6, 2) := by decide +kernel
theorem dX2_valueOf_8 : decode cX2_valueOf 8 = .ok (.if_icmp .ge 17, 3) := by decide +kernel
theorem dX2_valueOf_11 : decode cX2_valueOf 11 = .ok (.aload_n 0, 1) := by decide +kernel
theorem dX2_valueOf_12 : decode cX2_valueOf 12 = .ok (.getfield 36, 3) := by decide +kernel
theorem dX2_valueOf_15 : decode cX2_valueOf 15 = .ok (.iload_n 1, 1) := by decide +kernel
theorem dX2_valueOf_16 : decode cX2_valueOf 16 = .ok (.bipush 6, 2) := by decide +kernel
theorem dX2_valueOf_18 : decode cX2_valueOf 18 = .ok (.imul, 1) := by decide +kernel
theorem dX2_valueOf_19 : decode cX2_valueOf 19 = .ok (.iload_n 3, 1) := by decide +kernel
theorem dX2_valueOf_20 : decode cX2_valueOf 20 = .ok (.iadd, 1) := by decide +kernel
theorem dX2_valueOf_21 : decode cX2_valueOf 21 = .ok (.iaload, 1) := by decide +kernel
theorem dX2_valueOf_22 : decode cX2_valueOf 22 = .ok (.goto 6, 3) := by decide +kernel
theorem dX2_valueOf_25 : decode cX2_valueOf 25 = .ok (.iload_n 2, 1) := by decide +kernel
theorem dX2_valueOf_26 : decode cX2_valueOf 26 = .ok (.iconst 3, 1) := by decide +kernel
theorem dX2_valueOf_27 : decode cX2_valueOf 27 = .ok (.ishr, 1) := by decide +kernel
theorem dX2_valueOf_28 : decode cX2_valueOf 28 = .ok (.ireturn, 1) := by decide +kernel
theorem dX2_finish_0 : decode cX2_finish 0 = .ok (.aload_n 0, 1) := by decide +kernel
theorem dX2_finish_1 : decode cX2_finish 1 = .ok (.getfield 36, 3) := by decide +kernel
theorem dX2_finish_4 : decode cX2_finish 4 = .ok (.iload_n 3, 1) := by decide +kernel
theorem dX2_finish_5 : decode cX2_finish 5 = .ok (.bipush 6, 2) := by decide +kernel
theorem dX2_finish_7 : decode cX2_finish 7 = .ok (.imul, 1) := by decide +kernel
theorem dX2_finish_8 : decode cX2_finish 8 = .ok (.aload_n 0, 1) := by decide +kernel
theorem dX2_finish_9 : decode cX2_finish 9 = .ok (.getfield 9, 3) := by decide +kernel
theorem dX2_finish_12 : decode cX2_finish 12 = .ok (.iload_n 1, 1) := by decide +kernel
theorem dX2_finish_13 : decode cX2_finish 13 = .ok (.iload_n 2, 1) := by decide +kernel
theorem dX2_finish_14 : decode cX2_finish 14 = .ok (.iconst 1, 1) := by decide +kernel
theorem dX2_finish_15 : decode cX2_finish 15 = .ok (.invokevirtual 68, 3) := by decide +kernel
theorem dX2_finish_18 : decode cX2_finish 18 = .ok (.iadd, 1) := by decide +kernel
theorem dX2_finish_19 : decode cX2_finish 19 = .ok (.iload 4, 2) := by decide +kernel
theorem dX2_finish_21 : decode cX2_finish 21 = .ok (.iastore, 1) := by decide +kernel
theorem dX2_finish_22 : decode cX2_finish 22 = .ok (.aload_n 0, 1) := by decide +kernel
theorem dX2_finish_23 : decode cX2_finish 23 = .ok (.getfield 33, 3) := by decide +kernel
theorem dX2_finish_26 : decode cX2_finish 26 = .ok (.iload_n 3, 1) := by decide +kernel
theorem dX2_finish_27 : decode cX2_finish 27 = .ok (.iload_n 2, 1) := by decide +kernel
theorem dX2_finish_28 : decode cX2_finish 28 = .ok (.iconst 1, 1) := by decide +kernel
theorem dX2_finish_29 : decode cX2_finish 29 = .ok (.iadd, 1) := by decide +kernel
theorem dX2_finish_30 : decode cX2_finish 30 = .ok (.iastore, 1) := by decide +kernel
theorem dX2_finish_31 : decode cX2_finish 31 = .ok (.iconst 1, 1) := by decide +kernel
theorem dX2_finish_32 : decode cX2_finish 32 = .ok (.ireturn, 1) := by decide +kernel
theorem dX2_nextInput_0 : decode cX2_nextInput 0 = .ok (.aload_n 0, 1) := by decide +kernel
theorem dX2_nextInput_1 : decode cX2_nextInput 1 = .ok (.getfield 27, 3) := by decide +kernel
theorem dX2_nextInput_4 : decode cX2_nextInput 4 = .ok (.aload_n 0, 1) := by decide +kernel
theorem dX2_nextInput_5 : decode cX2_nextInput 5 = .ok (.getfield 23, 3) := by decide +kernel
theorem dX2_nextInput_8 : decode cX2_nextInput 8 = .ok (.if_icmp .lt 5, 3) := by decide +kernel
theorem dX2_nextInput_11 : decode cX2_nextInput 11 = .ok (.iconst 0, 1) := by decide +kernel
theorem dX2_nextInput_12 : decode cX2_nextInput 12 = .ok (.ireturn, 1) := by decide +kernel
theorem dX2_nextInput_13 : decode cX2_nextInput 13 = .ok (.aload_n 0, 1) := by decide +kernel
theorem dX2_nextInput_14 : decode cX2_nextInput 14 = .ok (.getfield 19, 3) := by decide +kernel
theorem dX2_nextInput_17 : decode cX2_nextInput 17 = .ok (.aload_n 0, 1) := by decide +kernel
theorem dX2_nextInput_18 : decode cX2_nextInput 18 = .ok (.getfield 27, 3) := by decide +kernel
theorem dX2_nextInput_21 : decode cX2_nextInput 21 = .ok (.iaload, 1) := by decide +kernel
theorem dX2_nextInput_22 : decode cX2_nextInput 22 = .ok (.istore_n 1, 1) := by decide +kernel
theorem dX2_nextInput_23 : decode cX2_nextInput 23 = .ok (.aload_n 0, 1) := by decide +kernel
theorem dX2_nextInput_24 : decode cX2_nextInput 24 = .ok (.dup, 1) := by decide +kernel
theorem dX2_nextInput_25 : decode cX2_nextInput 25 = .ok (.getfield 27, 3) := by decide +kernel
theorem dX2_nextInput_28 : decode cX2_nextInput 28 = .ok (.iconst 1, 1) := by decide +kernel
theorem dX2_nextInput_29 : decode cX2_nextInput 29 = .ok (.iadd, 1) := by decide +kernel
theorem dX2_nextInput_30 : decode cX2_nextInput 30 = .ok (.putfield 27, 3) := by decide +kernel
theorem dX2_nextInput_33 : decode cX2_nextInput 33 = .ok (.iload_n 1, 1) := by decide +kernel
theorem dX2_nextInput_34 : decode cX2_nextInput 34 = .ok (.ireturn, 1) := by decide +kernel
theorem dX2_doTableCall_0 : decode cX2_doTableCall 0 = .ok (.aload_n 0, 1) := by decide +kernel
theorem dX2_doTableCall_1 : decode cX2_doTableCall 1 = .ok (.getfield 9, 3) := by decide +kernel
theorem dX2_doTableCall_4 : decode cX2_doTableCall 4 = .ok (.aload_n 0, 1) := by decide +kernel
theorem dX2_doTableCall_5 : decode cX2_doTableCall 5 = .ok (.iload_n 3, 1) := by decide +kernel
theorem dX2_doTableCall_6 : decode cX2_doTableCall 6 = .ok (.aload_n 0, 1) := by decide +kernel
theorem dX2_doTableCall_7 : decode cX2_doTableCall 7 = .ok (.getfield 9, 3) := by decide +kernel
theorem dX2_doTableCall_10 : decode cX2_doTableCall 10 = .ok (.iload_n 1, 1) := by decide +kernel
theorem dX2_doTableCall_11 : decode cX2_doTableCall 11 = .ok (.iload_n 2, 1) := by decide +kernel
theorem dX2_doTableCall_12 : decode cX2_doTableCall 12 = .ok (.iconst 2, 1) := by decide +kernel
theorem dX2_doTableCall_13 : decode cX2_doTableCall 13 = .ok (.invokevirtual 68, 3) := by decide +kernel
theorem dX2_doTableCall_16 : decode cX2_doTableCall 16 = .ok (.invokevirtual 72, 3) := by decide +kernel
theorem dX2_doTableCall_19 : decode cX2_doTableCall 19 = .ok (.invokevirtual 97, 3) := by decide +kernel
theorem dX2_doTableCall_22 : decode cX2_doTableCall 22 = .ok (.istore 4, 2) := by decide +kernel
theorem dX2_doTableCall_24 : decode cX2_doTableCall 24 = .ok (.iload 4, 2) := by decide +kernel
theorem dX2_doTableCall_26 : decode cX2_doTableCall 26 = .ok (.iconst (-1), 1) := by decide +kernel
theorem dX2_doTableCall_27 : decode cX2_doTableCall 27 = .ok (.if_icmp .ne 12, 3) := by decide +kernel
theorem dX2_doTableCall_30 : decode cX2_doTableCall 30 = .ok (.aload_n 0, 1) := by decide +kernel
theorem dX2_doTableCall_31 : decode cX2_doTableCall 31 = .ok (.iload_n 1, 1) := by decide +kernel
theorem dX2_doTableCall_32 : decode cX2_doTableCall 32 = .ok (.iload_n 2, 1) := by decide +kernel
theorem dX2_doTableCall_33 : decode cX2_doTableCall 33 = .ok (.iload_n 3, 1) := by decide +kernel
theorem dX2_doTableCall_34 : decode cX2_doTableCall 34 = .ok (.iconst 0, 1) := by decide +kernel
theorem dX2_doTableCall_35 : decode cX2_doTableCall 35 = .ok (.invokevirtual 80, 3) := by decide +kernel
theorem dX2_doTableCall_38 : decode cX2_doTableCall 38 = .ok (.ireturn, 1) := by decide +kernel
theorem dX2_doTableCall_39 : decode cX2_doTableCall 39 = .ok (.aload_n 0, 1) := by decide +kernel
theorem dX2_doTableCall_40 : decode cX2_doTableCall 40 = .ok (.iload_n 1, 1) := by decide +kernel
theorem dX2_doTableCall_41 : decode cX2_doTableCall 41 = .ok (.iload_n 2, 1) := by decide +kernel
theorem dX2_doTableCall_42 : decode cX2_doTableCall 42 = .ok (.iload_n 3, 1) := by decide +kernel
theorem dX2_doTableCall_43 : decode cX2_doTableCall 43 = .ok (.iload 4, 2) := by decide +kernel
theorem dX2_doTableCall_45 : decode cX2_doTableCall 45 = .ok (.invokevirtual 88, 3) := by decide +kernel
theorem dX2_doTableCall_48 : decode cX2_doTableCall 48 = .ok (.ireturn, 1) := by decide +kernel
theorem dX2_enterCall_0 : decode cX2_enterCall 0 = .ok (.aload_n 0, 1) := by decide +kernel
theorem dX2_enterCall_1 : decode cX2_enterCall 1 = .ok (.getfield 39, 3) := by decide +kernel
theorem dX2_enterCall_4 : decode cX2_enterCall 4 = .ok (.bipush 11, 2) := by decide +kernel
theorem dX2_enterCall_6 : decode cX2_enterCall 6 = .ok (.if_icmp .lt 5, 3) := by decide +kernel
theorem dX2_enterCall_9 : decode cX2_enterCall 9 = .ok (.iconst 0, 1) := by decide +kernel
theorem dX2_enterCall_10 : decode cX2_enterCall 10 = .ok (.ireturn, 1) := by decide +kernel
theorem dX2_enterCall_11 : decode cX2_enterCall 11 = .ok (.aload_n 0, 1) := by decide +kernel
theorem dX2_enterCall_12 : decode cX2_enterCall 12 = .ok (.getfield 39, 3) := by decide +kernel
theorem dX2_enterCall_15 : decode cX2_enterCall 15 = .ok (.bipush 6, 2) := by decide +kernel
theorem dX2_enterCall_17 : decode cX2_enterCall 17 = .ok (.imul, 1) := by decide +kernel
theorem dX2_enterCall_18 : decode cX2_enterCall 18 = .ok (.istore 5, 2) := by decide +kernel
theorem dX2_enterCall_20 : decode cX2_enterCall 20 = .ok (.iconst 0, 1) := by decide +kernel
theorem dX2_enterCall_21 : decode cX2_enterCall 21 = .ok (.istore 6, 2) := by decide +kernel
theorem dX2_enterCall_23 : decode cX2_enterCall 23 = .ok (.iload 6, 2) := by decide +kernel
theorem dX2_enterCall_25 : decode cX2_enterCall 25 = .ok (.bipush 6, 2) := by decide +kernel
theorem dX2_enterCall_27 : decode cX2_enterCall 27 = .ok (.if_icmp .ge 56, 3) := by decide +kernel
theorem dX2_enterCall_30 : decode cX2_enterCall 30 = .ok (.aload_n 0, 1) := by decide +kernel
theorem dX2_enterCall_31 : decode cX2_enterCall 31 = .ok (.getfield 36, 3) := by decide +kernel
theorem dX2_enterCall_34 : decode cX2_enterCall 34 = .ok (.iload 5, 2) := by decide +kernel
theorem dX2_enterCall_36 : decode cX2_enterCall 36 = .ok (.iload 6, 2) := by decide +kernel
theorem dX2_enterCall_38 : decode cX2_enterCall 38 = .ok (.iadd, 1) := by decide +kernel
theorem dX2_enterCall_39 : decode cX2_enterCall 39 = .ok (.iload 6, 2) := by decide +kernel
theorem dX2_enterCall_41 : decode cX2_enterCall 41 = .ok (.aload_n 0, 1) := by decide +kernel
theorem dX2_enterCall_42 : decode cX2_enterCall 42 = .ok (.getfield 9, 3) := by decide +kernel
theorem dX2_enterCall_45 : decode cX2_enterCall 45 = .ok (.getfield 101, 3) := by decide +kernel
theorem dX2_enterCall_48 : decode cX2_enterCall 48 = .ok (.iload 4, 2) := by decide +kernel
theorem dX2_enterCall_50 : decode cX2_enterCall 50 = .ok (.iaload, 1) := by decide +kernel
theorem dX2_enterCall_51 : decode cX2_enterCall 51 = .ok (.if_icmp .ge 24, 3) := by decide +kernel
theorem dX2_enterCall_54 : decode cX2_enterCall 54 = .ok (.aload_n 0, 1) := by decide +kernel
theorem dX2_enterCall_55 : decode cX2_enterCall 55 = .ok (.iload_n 3, 1) := by decide +kernel
theorem dX2_enterCall_56 : decode cX2_enterCall 56 = .ok (.aload_n 0, 1) := by decide +kernel
theorem dX2_enterCall_57 : decode cX2_enterCall 57 = .ok (.getfield 9, 3) := by decide +kernel
theorem dX2_enterCall_60 : decode cX2_enterCall 60 = .ok (.iload_n 1, 1) := by decide +kernel
theorem dX2_enterCall_61 : decode cX2_enterCall 61 = .ok (.iload_n 2, 1) := by decide +kernel
theorem dX2_enterCall_62 : decode cX2_enterCall 62 = .ok (.iconst 3, 1) := by decide +kernel
theorem dX2_enterCall_63 : decode cX2_enterCall 63 = .ok (.iload 6, 2) := by decide +kernel
theorem dX2_enterCall_65 : decode cX2_enterCall 65 = .ok (.iadd, 1) := by decide +kernel
theorem dX2_enterCall_66 : decode cX2_enterCall 66 = .ok (.invokevirtual 68, 3) := by decide +kernel
theorem dX2_enterCall_69 : decode cX2_enterCall 69 = .ok (.invokevirtual 72, 3) := by decide +kernel
theorem dX2_enterCall_72 : decode cX2_enterCall 72 = .ok (.goto 4, 3) := by decide +kernel
theorem dX2_enterCall_75 : decode cX2_enterCall 75 = .ok (.iconst 0, 1) := by decide +kernel
theorem dX2_enterCall_76 : decode cX2_enterCall 76 = .ok (.iastore, 1) := by decide +kernel
theorem dX2_enterCall_77 : decode cX2_enterCall 77 = .ok (.iinc 6 1, 3) := by decide +kernel
theorem dX2_enterCall_80 : decode cX2_enterCall 80 = .ok (.goto (-57), 3) := by decide +kernel
theorem dX2_enterCall_83 : decode cX2_enterCall 83 = .ok (.aload_n 0, 1) := by decide +kernel
theorem dX2_enterCall_84 : decode cX2_enterCall 84 = .ok (.getfield 30, 3) := by decide +kernel
theorem dX2_enterCall_87 : decode cX2_enterCall 87 = .ok (.aload_n 0, 1) := by decide +kernel
theorem dX2_enterCall_88 : decode cX2_enterCall 88 = .ok (.getfield 39, 3) := by decide +kernel
theorem dX2_enterCall_91 : decode cX2_enterCall 91 = .ok (.iload 4, 2) := by decide +kernel
theorem dX2_enterCall_93 : decode cX2_enterCall 93 = .ok (.iastore, 1) := by decide +kernel
theorem dX2_enterCall_94 : decode cX2_enterCall 94 = .ok (.aload_n 0, 1) := by decide +kernel
theorem dX2_enterCall_95 : decode cX2_enterCall 95 = .ok (.getfield 33, 3) := by decide +kernel
theorem dX2_enterCall_98 : decode cX2_enterCall 98 = .ok (.aload_n 0, 1) := by decide +kernel
theorem dX2_enterCall_99 : decode cX2_enterCall 99 = .ok (.getfield 39, 3) := by decide +kernel
theorem dX2_enterCall_102 : decode cX2_enterCall 102 = .ok (.iconst 0, 1) := by decide +kernel
theorem dX2_enterCall_103 : decode cX2_enterCall 103 = .ok (.iastore, 1) := by decide +kernel
theorem dX2_enterCall_104 : decode cX2_enterCall 104 = .ok (.aload_n 0, 1) := by decide +kernel
theorem dX2_enterCall_105 : decode cX2_enterCall 105 = .ok (.dup, 1) := by decide +kernel
theorem dX2_enterCall_106 : decode cX2_enterCall 106 = .ok (.getfield 39, 3) := by decide +kernel
theorem dX2_enterCall_109 : decode cX2_enterCall 109 = .ok (.iconst 1, 1) := by decide +kernel
theorem dX2_enterCall_110 : decode cX2_enterCall 110 = .ok (.iadd, 1) := by decide +kernel
theorem dX2_enterCall_111 : decode cX2_enterCall 111 = .ok (.putfield 39, 3) := by decide +kernel
theorem dX2_enterCall_114 : decode cX2_enterCall 114 = .ok (.aload_n 0, 1) := by decide +kernel
theorem dX2_enterCall_115 : decode cX2_enterCall 115 = .ok (.getfield 15, 3) := by decide +kernel
theorem dX2_enterCall_118 : decode cX2_enterCall 118 = .ok (.iload 4, 2) := by decide +kernel
theorem dX2_enterCall_120 : decode cX2_enterCall 120 = .ok (.aload_n 0, 1) := by decide +kernel
theorem dX2_enterCall_121 : decode cX2_enterCall 121 = .ok (.getfield 36, 3) := by decide +kernel
theorem dX2_enterCall_124 : decode cX2_enterCall 124 = .ok (.iload 5, 2) := by decide +kernel
theorem dX2_enterCall_126 : decode cX2_enterCall 126 = .ok (.invokevirtual 64, 3) := by decide +kernel
theorem dX2_enterCall_129 : decode cX2_enterCall 129 = .ok (.iconst 1, 1) := by decide +kernel
theorem dX2_enterCall_130 : decode cX2_enterCall 130 = .ok (.ireturn, 1) := by decide +kernel
theorem dX2_leaveCall_0 : decode cX2_leaveCall 0 = .ok (.aload_n 0, 1) := by decide +kernel
theorem dX2_leaveCall_1 : decode cX2_leaveCall 1 = .ok (.dup, 1) := by decide +kernel
theorem dX2_leaveCall_2 : decode cX2_leaveCall 2 = .ok (.getfield 39, 3) := by decide +kernel
theorem dX2_leaveCall_5 : decode cX2_leaveCall 5 = .ok (.iconst 1, 1) := by decide +kernel
theorem dX2_leaveCall_6 : decode cX2_leaveCall 6 = .ok (.isub, 1) := by decide +kernel
theorem dX2_leaveCall_7 : decode cX2_leaveCall 7 = .ok (.putfield 39, 3) := by decide +kernel
theorem dX2_leaveCall_10 : decode cX2_leaveCall 10 = .ok (.aload_n 0, 1) := by decide +kernel
theorem dX2_leaveCall_11 : decode cX2_leaveCall 11 = .ok (.getfield 39, 3) := by decide +kernel
theorem dX2_leaveCall_14 : decode cX2_leaveCall 14 = .ok (.ifCond .le 29, 3) := by decide +kernel
theorem dX2_leaveCall_17 : decode cX2_leaveCall 17 = .ok (.aload_n 0, 1) := by decide +kernel
theorem dX2_leaveCall_18 : decode cX2_leaveCall 18 = .ok (.getfield 39, 3) := by decide +kernel
theorem dX2_leaveCall_21 : decode cX2_leaveCall 21 = .ok (.iconst 1, 1) := by decide +kernel
theorem dX2_leaveCall_22 : decode cX2_leaveCall 22 = .ok (.isub, 1) := by decide +kernel
theorem dX2_leaveCall_23 : decode cX2_leaveCall 23 = .ok (.istore_n 2, 1) := by decide +kernel
theorem dX2_leaveCall_24 : decode cX2_leaveCall 24 = .ok (.aload_n 0, 1) := by decide +kernel
theorem dX2_leaveCall_25 : decode cX2_leaveCall 25 = .ok (.aload_n 0, 1) := by decide +kernel
theorem dX2_leaveCall_26 : decode cX2_leaveCall 26 = .ok (.getfield 30, 3) := by decide +kernel
theorem dX2_leaveCall_29 : decode cX2_leaveCall 29 = .ok (.iload_n 2, 1) := by decide +kernel
theorem dX2_leaveCall_30 : decode cX2_leaveCall 30 = .ok (.iaload, 1) := by decide +kernel
theorem dX2_leaveCall_31 : decode cX2_leaveCall 31 = .ok (.aload_n 0, 1) := by decide +kernel
theorem dX2_leaveCall_32 : decode cX2_leaveCall 32 = .ok (.getfield 33, 3) := by decide +kernel
theorem dX2_leaveCall_35 : decode cX2_leaveCall 35 = .ok (.iload_n 2, 1) := by decide +kernel
theorem dX2_leaveCall_36 : decode cX2_leaveCall 36 = .ok (.iaload, 1) := by decide +kernel
theorem dX2_leaveCall_37 : decode cX2_leaveCall 37 = .ok (.iload_n 2, 1) := by decide +kernel
theorem dX2_leaveCall_38 : decode cX2_leaveCall 38 = .ok (.iload_n 1, 1) := by decide +kernel
theorem dX2_leaveCall_39 : decode cX2_leaveCall 39 = .ok (.invokevirtual 80, 3) := by decide +kernel
theorem dX2_leaveCall_42 : decode cX2_leaveCall 42 = .ok (.pop, 1) := by decide +kernel
theorem dX2_leaveCall_43 : decode cX2_leaveCall 43 = .ok (.return_, 1) := by decide +kernel
