theorem dX3_init_0 : decode cX3_init 0 = .ok (.aload_n 0, 1) := by decide +kernel
theorem dX3_init_1 : decode cX3_init 1 = .ok (.invokespecial 3, 3) := by decide +kernel
theorem dX3_init_4 : decode cX3_init 4 = .ok (.aload_n 0, 1) := by decide +kernel
theorem dX3_init_5 : decode cX3_init 5 = .ok (.aload_n 1, 1) := by decide +kernel
theorem dX3_init_6 : decode cX3_init 6 = .ok (.putfield 9, 3) := by decide +kernel
theorem dX3_init_9 : decode cX3_init 9 = .ok (.aload_n 0, 1) := by decide +kernel
theorem dX3_init_10 : decode cX3_init 10 = .ok (.aload_n 2, 1) := by decide +kernel
theorem dX3_init_11 : decode cX3_init 11 = .ok (.putfield 15, 3) := by decide +kernel
theorem dX3_init_14 : decode cX3_init 14 = .ok (.return_, 1) := by decide +kernel
theorem dX3_copyForSpecialCall_0 : decode cX3_copyForSpecialCall 0 = .ok (.aload_n 0, 1) := by decide +kernel
theorem dX3_copyForSpecialCall_1 : decode cX3_copyForSpecialCall 1 = .ok (.invokevirtual 19, 3) := by decide +kernel
theorem dX3_copyForSpecialCall_4 : decode cX3_copyForSpecialCall 4 = .ok (.istore_n 1, 1) := by decide +kernel
theorem dX3_copyForSpecialCall_5 : decode cX3_copyForSpecialCall 5 = .ok (.iload_n 1, 1) := by decide +kernel
theorem dX3_copyForSpecialCall_6 : decode cX3_copyForSpecialCall 6 = .ok (.iconst (-1), 1) := by decide +kernel
theorem dX3_copyForSpecialCall_7 : decode cX3_copyForSpecialCall 7 = .ok (.if_icmp .ne 5, 3) := by decide +kernel
theorem dX3_copyForSpecialCall_10 : decode cX3_copyForSpecialCall 10 = .ok (.iconst 0, 1) := by decide +kernel
theorem dX3_copyForSpecialCall_11 : decode cX3_copyForSpecialCall 11 = .ok (.ireturn, 1) := by decide +kernel
theorem dX3_copyForSpecialCall_12 : decode cX3_copyForSpecialCall 12 = .ok (.aload_n 0, 1) := by decide +kernel
theorem dX3_copyForSpecialCall_13 : decode cX3_copyForSpecialCall 13 = .ok (.iload_n 1, 1) := by decide +kernel
theorem dX3_copyForSpecialCall_14 : decode cX3_copyForSpecialCall 14 = .ok (.bipush 16, 2) := by decide +kernel
theorem dX3_copyForSpecialCall_16 : decode cX3_copyForSpecialCall 16 = .ok (.idiv, 1) := by decide +kernel
theorem dX3_copyForSpecialCall_17 : decode cX3_copyForSpecialCall 17 = .ok (.iload_n 1, 1) := by decide +kernel
theorem dX3_copyForSpecialCall_18 : decode cX3_copyForSpecialCall 18 = .ok (.bipush 16, 2) := by decide +kernel
theorem dX3_copyForSpecialCall_20 : decode cX3_copyForSpecialCall 20 = .ok (.irem, 1) := by decide +kernel
theorem dX3_copyForSpecialCall_21 : decode cX3_copyForSpecialCall 21 = .ok (.invokevirtual 23, 3) := by decide +kernel
theorem dX3_copyForSpecialCall_24 : decode cX3_copyForSpecialCall 24 = .ok (.iconst 1, 1) := by decide +kernel
theorem dX3_copyForSpecialCall_25 : decode cX3_copyForSpecialCall 25 = .ok (.ireturn, 1) := by decide +kernel
theorem dX3_firstSpecialCall_0 : decode cX3_firstSpecialCall 0 = .ok (.iconst 0, 1) := by decide +kernel
theorem dX3_firstSpecialCall_1 : decode cX3_firstSpecialCall 1 = .ok (.istore_n 1, 1) := by decide +kernel
theorem dX3_firstSpecialCall_2 : decode cX3_firstSpecialCall 2 = .ok (.iload_n 1, 1) := by decide +kernel
theorem dX3_firstSpecialCall_3 : decode cX3_firstSpecialCall 3 = .ok (.aload_n 0, 1) := by decide +kernel
theorem dX3_firstSpecialCall_4 : decode cX3_firstSpecialCall 4 = .ok (.getfield 9, 3) := by decide +kernel
theorem dX3_firstSpecialCall_7 : decode cX3_firstSpecialCall 7 = .ok (.getfield 27, 3) := by decide +kernel
theorem dX3_firstSpecialCall_10 : decode cX3_firstSpecialCall 10 = .ok (.if_icmp .ge 55, 3) := by decide +kernel
theorem dX3_firstSpecialCall_13 : decode cX3_firstSpecialCall 13 = .ok (.iconst 0, 1) := by decide +kernel
theorem dX3_firstSpecialCall_14 : decode cX3_firstSpecialCall 14 = .ok (.istore_n 2, 1) := by decide +kernel
theorem dX3_firstSpecialCall_15 : decode cX3_firstSpecialCall 15 = .ok (.iload_n 2, 1) := by decide +kernel
theorem dX3_firstSpecialCall_16 : decode cX3_firstSpecialCall 16 = .ok (.aload_n 0, 1) := by decide +kernel
theorem dX3_firstSpecialCall_17 : decode cX3_firstSpecialCall 17 = .ok (.getfield 9, 3) := by decide +kernel
theorem dX3_firstSpecialCall_20 : decode cX3_firstSpecialCall 20 = .ok (.getfield 33, 3) := by decide +kernel
theorem dX3_firstSpecialCall_23 : decode cX3_firstSpecialCall 23 = .ok (.iload_n 1, 1) := by decide +kernel
theorem dX3_firstSpecialCall_24 : decode cX3_firstSpecialCall 24 = .ok (.iaload, 1) := by decide +kernel
theorem dX3_firstSpecialCall_25 : decode cX3_firstSpecialCall 25 = .ok (.if_icmp .ge 34, 3) := by decide +kernel
theorem dX3_firstSpecialCall_28 : decode cX3_firstSpecialCall 28 = .ok (.aload_n 0, 1) := by decide +kernel
theorem dX3_firstSpecialCall_29 : decode cX3_firstSpecialCall 29 = .ok (.iload_n 1, 1) := by decide +kernel
theorem dX3_firstSpecialCall_30 : decode cX3_firstSpecialCall 30 = .ok (.iload_n 2, 1) := by decide +kernel
theorem dX3_firstSpecialCall_31 : decode cX3_firstSpecialCall 31 = .ok (.invokevirtual 37, 3) := by decide +kernel
theorem dX3_firstSpecialCall_34 : decode cX3_firstSpecialCall 34 = .ok (.ifCond .eq 19, 3) := by decide +kernel
theorem dX3_firstSpecialCall_37 : decode cX3_firstSpecialCall 37 = .ok (.aload_n 0, 1) := by decide +kernel
theorem dX3_firstSpecialCall_38 : decode cX3_firstSpecialCall 38 = .ok (.iload_n 1, 1) := by decide +kernel
theorem dX3_firstSpecialCall_39 : decode cX3_firstSpecialCall 39 = .ok (.iload_n 2, 1) := by decide +kernel
theorem dX3_firstSpecialCall_40 : decode cX3_firstSpecialCall 40 = .ok (.invokevirtual 41, 3) := by decide +kernel
theorem dX3_firstSpecialCall_43 : decode cX3_firstSpecialCall 43 = .ok (.ifCond .eq 10, 3) := by decide +kernel
theorem dX3_firstSpecialCall_46 : decode cX3_firstSpecialCall 46 = .ok (.iload_n 1, 1) := by decide +kernel
theorem dX3_firstSpecialCall_47 : decode cX3_firstSpecialCall 47 = .ok (.bipush 16, 2) := by decide +kernel
theorem dX3_firstSpecialCall_49 : decode cX3_firstSpecialCall 49 = .ok (.imul, 1) := by decide +kernel
theorem dX3_firstSpecialCall_50 : decode cX3_firstSpecialCall 50 = .ok (.iload_n 2, 1) := by decide +kernel
theorem dX3_firstSpecialCall_51 : decode cX3_firstSpecialCall 51 = .ok (.iadd, 1) := by decide +kernel
theorem dX3_firstSpecialCall_52 : decode cX3_firstSpecialCall 52 = .ok (.ireturn, 1) := by decide +kernel
theorem dX3_firstSpecialCall_53 : decode cX3_firstSpecialCall 53 = .ok (.iinc 2 1, 3) := by decide +kernel
theorem dX3_firstSpecialCall_56 : decode cX3_firstSpecialCall 56 = .ok (.goto (-41), 3) := by decide +kernel
theorem dX3_firstSpecialCall_59 : decode cX3_firstSpecialCall 59 = .ok (.iinc 1 1, 3) := by decide +kernel
theorem dX3_firstSpecialCall_62 : decode cX3_firstSpecialCall 62 = .ok (.goto (-60), 3) := by decide +kernel
theorem dX3_firstSpecialCall_65 : decode cX3_firstSpecialCall 65 = .ok (.iconst (-1), 1) := by decide +kernel
theorem dX3_firstSpecialCall_66 : decode cX3_firstSpecialCall 66 = .ok (.ireturn, 1) := by decide +kernel
theorem dX3_isCallComeTo_0 : decode cX3_isCallComeTo 0 = .ok (.aload_n 0, 1) := by decide +kernel
theorem dX3_isCallComeTo_1 : decode cX3_isCallComeTo 1 = .ok (.getfield 9, 3) := by decide +kernel
theorem dX3_isCallComeTo_4 : decode cX3_isCallComeTo 4 = .ok (.iload_n 1, 1) := by decide +kernel
theorem dX3_isCallComeTo_5 : decode cX3_isCallComeTo 5 = .ok (.iload_n 2, 1) := by decide +kernel
theorem dX3_isCallComeTo_6 : decode cX3_isCallComeTo 6 = .ok (.iconst 0, 1) := by decide +kernel
theorem dX3_isCallComeTo_7 : decode cX3_isCallComeTo 7 = .ok (.invokevirtual 44, 3) := by decide +kernel
theorem dX3_isCallComeTo_10 : decode cX3_isCallComeTo 10 = .ok (.bipush 10, 2) := by decide +kernel
theorem dX3_isCallComeTo_12 : decode cX3_isCallComeTo 12 = .ok (.if_icmp .ne 27, 3) := by decide +kernel
theorem dX3_isCallComeTo_15 : decode cX3_isCallComeTo 15 = .ok (.aload_n 0, 1) := by decide +kernel
theorem dX3_isCallComeTo_16 : decode cX3_isCallComeTo 16 = .ok (.getfield 15, 3) := by decide +kernel
theorem dX3_isCallComeTo_19 : decode cX3_isCallComeTo 19 = .ok (.getfield 48, 3) := by decide +kernel
theorem dX3_isCallComeTo_22 : decode cX3_isCallComeTo 22 = .ok (.aload_n 0, 1) := by decide +kernel
theorem dX3_isCallComeTo_23 : decode cX3_isCallComeTo 23 = .ok (.getfield 9, 3) := by decide +kernel
theorem dX3_isCallComeTo_26 : decode cX3_isCallComeTo 26 = .ok (.iload_n 1, 1) := by decide +kernel
theorem dX3_isCallComeTo_27 : decode cX3_isCallComeTo 27 = .ok (.iload_n 2, 1) := by decide +kernel
theorem dX3_isCallComeTo_28 : decode cX3_isCallComeTo 28 = .ok (.invokevirtual 54, 3) := by decide +kernel
theorem dX3_isCallComeTo_31 : decode cX3_isCallComeTo 31 = .ok (.baload, 1) := by decide +kernel
theorem dX3_isCallComeTo_32 : decode cX3_isCallComeTo 32 = .ok (.ifCond .eq 7, 3) := by decide +kernel
theorem dX3_isCallComeTo_35 : decode cX3_isCallComeTo 35 = .ok (.iconst 1, 1) := by decide +kernel
theorem dX3_isCallComeTo_36 : decode cX3_isCallComeTo 36 = .ok (.goto 4, 3) := by decide +kernel
theorem dX3_isCallComeTo_39 : decode cX3_isCallComeTo 39 = .ok (.iconst 0, 1) := by decide +kernel
theorem dX3_isCallComeTo_40 : decode cX3_isCallComeTo 40 = .ok (.ireturn, 1) := by decide +kernel
theorem dX3_isSpecial_0 : decode cX3_isSpecial 0 = .ok (.aload_n 0, 1) := by decide +kernel
theorem dX3_isSpecial_1 : decode cX3_isSpecial 1 = .ok (.getfield 9, 3) := by decide +kernel
theorem dX3_isSpecial_4 : decode cX3_isSpecial 4 = .ok (.iload_n 1, 1) := by decide +kernel
theorem dX3_isSpecial_5 : decode cX3_isSpecial 5 = .ok (.iload_n 2, 1) := by decide +kernel
theorem dX3_isSpecial_6 : decode cX3_isSpecial 6 = .ok (.invokevirtual 54, 3) := by decide +kernel
theorem dX3_isSpecial_9 : decode cX3_isSpecial 9 = .ok (.istore_n 3, 1) := by decide +kernel
theorem dX3_isSpecial_10 : decode cX3_isSpecial 10 = .ok (.aload_n 0, 1) := by decide +kernel
theorem dX3_isSpecial_11 : decode cX3_isSpecial 11 = .ok (.getfield 9, 3) := by decide +kernel
theorem dX3_isSpecial_14 : decode cX3_isSpecial 14 = .ok (.iload_n 1, 1) := by decide +kernel
theorem dX3_isSpecial_15 : decode cX3_isSpecial 15 = .ok (.iload_n 2, 1) := by decide +kernel
theorem dX3_isSpecial_16 : decode cX3_isSpecial 16 = .ok (.iconst 2, 1) := by decide +kernel
theorem dX3_isSpecial_17 : decode cX3_isSpecial 17 = .ok (.invokevirtual 44, 3) := by decide +kernel
theorem dX3_isSpecial_20 : decode cX3_isSpecial 20 = .ok (.istore 4, 2) := by decide +kernel
theorem dX3_isSpecial_22 : decode cX3_isSpecial 22 = .ok (.aload_n 0, 1) := by decide +kernel
theorem dX3_isSpecial_23 : decode cX3_isSpecial 23 = .ok (.getfield 9, 3) := by decide +kernel
theorem dX3_isSpecial_26 : decode cX3_isSpecial 26 = .ok (.iload 4, 2) := by decide +kernel
theorem dX3_isSpecial_28 : decode cX3_isSpecial 28 = .ok (.iconst 0, 1) := by decide +kernel
theorem dX3_isSpecial_29 : decode cX3_isSpecial 29 = .ok (.invokevirtual 54, 3) := by decide +kernel
theorem dX3_isSpecial_32 : decode cX3_isSpecial 32 = .ok (.istore 5, 2) := by decide +kernel
theorem dX3_isSpecial_34 : decode cX3_isSpecial 34 = .ok (.iconst 0, 1) := by decide +kernel
theorem dX3_isSpecial_35 : decode cX3_isSpecial 35 = .ok (.istore 6, 2) := by decide +kernel
theorem dX3_isSpecial_37 : decode cX3_isSpecial 37 = .ok (.iload 6, 2) := by decide +kernel
theorem dX3_isSpecial_39 : decode cX3_isSpecial 39 = .ok (.aload_n 0, 1) := by decide +kernel
theorem dX3_isSpecial_40 : decode cX3_isSpecial 40 = .ok (.getfield 9, 3) := by decide +kernel
theorem dX3_isSpecial_43 : decode cX3_isSpecial 43 = .ok (.getfield 58, 3) := by decide +kernel
theorem dX3_isSpecial_46 : decode cX3_isSpecial 46 = .ok (.iload 4, 2) := by decide +kernel
theorem dX3_isSpecial_48 : decode cX3_isSpecial 48 = .ok (.iaload, 1) := by decide +kernel
theorem dX3_isSpecial_49 : decode cX3_isSpecial 49 = .ok (.if_icmp .ge 49, 3) := by decide +kernel
theorem dX3_isSpecial_52 : decode cX3_isSpecial 52 = .ok (.aload_n 0, 1) := by decide +kernel
theorem dX3_isSpecial_53 : decode cX3_isSpecial 53 = .ok (.getfield 15, 3) := by decide +kernel
theorem dX3_isSpecial_56 : decode cX3_isSpecial 56 = .ok (.iload 5, 2) := by decide +kernel
theorem dX3_isSpecial_58 : decode cX3_isSpecial 58 = .ok (.iload 6, 2) := by decide +kernel
theorem dX3_isSpecial_60 : decode cX3_isSpecial 60 = .ok (.invokevirtual 61, 3) := by decide +kernel
theorem dX3_isSpecial_63 : decode cX3_isSpecial 63 = .ok (.ifCond .ne 29, 3) := by decide +kernel
theorem dX3_isSpecial_66 : decode cX3_isSpecial 66 = .ok (.aload_n 0, 1) := by decide +kernel
theorem dX3_isSpecial_67 : decode cX3_isSpecial 67 = .ok (.getfield 15, 3) := by decide +kernel
theorem dX3_isSpecial_70 : decode cX3_isSpecial 70 = .ok (.iload_n 3, 1) := by decide +kernel
theorem dX3_isSpecial_71 : decode cX3_isSpecial 71 = .ok (.aload_n 0, 1) := by decide +kernel
theorem dX3_isSpecial_72 : decode cX3_isSpecial 72 = .ok (.getfield 9, 3) := by decide +kernel
theorem dX3_isSpecial_75 : decode cX3_isSpecial 75 = .ok (.iload_n 1, 1) := by decide +kernel
theorem dX3_isSpecial_76 : decode cX3_isSpecial 76 = .ok (.iload_n 2, 1) := by decide +kernel
theorem dX3_isSpecial_77 : decode cX3_isSpecial 77 = .ok (.iconst 3, 1) := by decide +kernel
theorem dX3_isSpecial_78 : decode cX3_isSpecial 78 = .ok (.iload 6, 2) := by decide +kernel
theorem dX3_isSpecial_80 : decode cX3_isSpecial 80 = .ok (.iadd, 1) := by decide +kernel
theorem dX3_isSpecial_81 : decode cX3_isSpecial 81 = .ok (.invokevirtual 44, 3) := by decide +kernel
theorem dX3_isSpecial_84 : decode cX3_isSpecial 84 = .ok (.invokevirtual 61, 3) := by decide +kernel
theorem dX3_isSpecial_87 : decode cX3_isSpecial 87 = .ok (.ifCond .eq 5, 3) := by decide +kernel
theorem dX3_isSpecial_90 : decode cX3_isSpecial 90 = .ok (.iconst 1, 1) := by decide +kernel
theorem dX3_isSpecial_91 : decode cX3_isSpecial 91 = .ok (.ireturn, 1) := by decide +kernel
theorem dX3_isSpecial_92 : decode cX3_isSpecial 92 = .ok (.iinc 6 1, 3) := by decide +kernel
theorem dX3_isSpecial_95 : decode cX3_isSpecial 95 = .ok (.goto (-58), 3) := by decide +kernel
theorem dX3_isSpecial_98 : decode cX3_isSpecial 98 = .ok (.iconst 0, 1) := by decide +kernel
theorem dX3_isSpecial_99 : decode cX3_isSpecial 99 = .ok (.ireturn, 1) := by decide +kernel
theorem dX3_copyFor_0 : decode cX3_copyFor 0 = .ok (.aload_n 0, 1) := by decide +kernel
theorem dX3_copyFor_1 : decode cX3_copyFor 1 = .ok (.getfield 9, 3) := by decide +kernel
theorem dX3_copyFor_4 : decode cX3_copyFor 4 = .ok (.iload_n 1, 1) := by decide +kernel
theorem dX3_copyFor_5 : decode cX3_copyFor 5 = .ok (.iload_n 2, 1) := by decide +kernel
theorem dX3_copyFor_6 : decode cX3_copyFor 6 = .ok (.iconst 2, 1) := by decide +kernel
theorem dX3_copyFor_7 : decode cX3_copyFor 7 = .ok (.invokevirtual 44, 3) := by decide +kernel
theorem dX3_copyFor_10 : decode cX3_copyFor 10 = .ok (.istore_n 3, 1) := by decide +kernel
theorem dX3_copyFor_11 : decode cX3_copyFor 11 = .ok (.aload_n 0, 1) := by decide +kernel
theorem dX3_copyFor_12 : decode cX3_copyFor 12 = .ok (.getfield 9, 3) := by decide +kernel
theorem dX3_copyFor_15 : decode cX3_copyFor 15 = .ok (.iload_n 3, 1) := by decide +kernel
theorem dX3_copyFor_16 : decode cX3_copyFor 16 = .ok (.invokevirtual 64, 3) := by decide +kernel
theorem dX3_copyFor_19 : decode cX3_copyFor 19 = .ok (.istore 4, 2) := by decide +kernel
theorem dX3_copyFor_21 : decode cX3_copyFor 21 = .ok (.iconst 0, 1) := by decide +kernel
theorem dX3_copyFor_22 : decode cX3_copyFor 22 = .ok (.istore 5, 2) := by decide +kernel
theorem dX3_copyFor_24 : decode cX3_copyFor 24 = .ok (.iload 5, 2) := by decide +kernel
theorem dX3_copyFor_26 : decode cX3_copyFor 26 = .ok (.iload 4, 2) := by decide +kernel
theorem dX3_copyFor_28 : decode cX3_copyFor 28 = .ok (.if_icmp .ge 87, 3) := by decide +kernel
theorem dX3_copyFor_31 : decode cX3_copyFor 31 = .ok (.iconst 0, 1) := by decide +kernel
theorem dX3_copyFor_32 : decode cX3_copyFor 32 = .ok (.istore 6, 2) := by decide +kernel
theorem dX3_copyFor_34 : decode cX3_copyFor 34 = .ok (.iload 6, 2) := by decide +kernel
theorem dX3_copyFor_36 : decode cX3_copyFor 36 = .ok (.aload_n 0, 1) := by decide +kernel
theorem dX3_copyFor_37 : decode cX3_copyFor 37 = .ok (.getfield 9, 3) := by decide +kernel
theorem dX3_copyFor_40 : decode cX3_copyFor 40 = .ok (.getfield 33, 3) := by decide +kernel
theorem dX3_copyFor_43 : decode cX3_copyFor 43 = .ok (.iload 5, 2) := by decide +kernel
theorem dX3_copyFor_45 : decode cX3_copyFor 45 = .ok (.iaload, 1) := by decide +kernel
theorem dX3_copyFor_46 : decode cX3_copyFor 46 = .ok (.if_icmp .ge 63, 3) := by decide +kernel
theorem dX3_copyFor_49 : decode cX3_copyFor 49 = .ok (.aload_n 0, 1) := by decide +kernel
theorem dX3_copyFor_50 : decode cX3_copyFor 50 = .ok (.iload 5, 2) := by decide +kernel
theorem dX3_copyFor_52 : decode cX3_copyFor 52 = .ok (.iload 6, 2) := by decide +kernel
theorem dX3_copyFor_54 : decode cX3_copyFor 54 = .ok (.invokevirtual 37, 3) := by decide +kernel
theorem dX3_copyFor_57 : decode cX3_copyFor 57 = .ok (.ifCond .eq 46, 3) := by decide +kernel
theorem dX3_copyFor_60 : decode cX3_copyFor 60 = .ok (.aload_n 0, 1) := by decide +kernel
theorem dX3_copyFor_61 : decode cX3_copyFor 61 = .ok (.getfield 9, 3) := by decide +kernel
theorem dX3_copyFor_64 : decode cX3_copyFor 64 = .ok (.iload 5, 2) := by decide +kernel
theorem dX3_copyFor_66 : decode cX3_copyFor 66 = .ok (.iload 6, 2) := by decide +kernel
theorem dX3_copyFor_68 : decode cX3_copyFor 68 = .ok (.iconst 2, 1) := by decide +kernel
theorem dX3_copyFor_69 : decode cX3_copyFor 69 = .ok (.invokevirtual 44, 3) := by decide +kernel
theorem dX3_copyFor_72 : decode cX3_copyFor 72 = .ok (.iload_n 3, 1) := by decide +kernel
theorem dX3_copyFor_73 : decode cX3_copyFor 73 = .ok (.if_icmp .ne 30, 3) := by decide +kernel
theorem dX3_copyFor_76 : decode cX3_copyFor 76 = .ok (.aload_n 0, 1) := by decide +kernel
theorem dX3_copyFor_77 : decode cX3_copyFor 77 = .ok (.iload_n 1, 1) := by decide +kernel
theorem dX3_copyFor_78 : decode cX3_copyFor 78 = .ok (.iload_n 2, 1) := by decide +kernel
theorem dX3_copyFor_79 : decode cX3_copyFor 79 = .ok (.iload 5, 2) := by decide +kernel
theorem dX3_copyFor_81 : decode cX3_copyFor 81 = .ok (.iload 6, 2) := by decide +kernel
theorem dX3_copyFor_83 : decode cX3_copyFor 83 = .ok (.invokevirtual 68, 3) := by decide +kernel
theorem dX3_copyFor_86 : decode cX3_copyFor 86 = .ok (.ifCond .eq 17, 3) := by decide +kernel
theorem dX3_copyFor_89 : decode cX3_copyFor 89 = .ok (.aload_n 0, 1) := by decide +kernel
theorem dX3_copyFor_90 : decode cX3_copyFor 90 = .ok (.getfield 9, 3) := by decide +kernel
theorem dX3_copyFor_93 : decode cX3_copyFor 93 = .ok (.iload 5, 2) := by decide +kernel
theorem dX3_copyFor_95 : decode cX3_copyFor 95 = .ok (.iload 6, 2) := by decide +kernel
theorem dX3_copyFor_97 : decode cX3_copyFor 97 = .ok (.iconst 2, 1) := by decide +kernel
theorem dX3_copyFor_98 : decode cX3_copyFor 98 = .ok (.iload 4, 2) := by decide +kernel
theorem dX3_copyFor_100 : decode cX3_copyFor 100 = .ok (.invokevirtual 72, 3) := by decide +kernel
theorem dX3_copyFor_103 : decode cX3_copyFor 103 = .ok (.iinc 6 1, 3) := by decide +kernel
theorem dX3_copyFor_106 : decode cX3_copyFor 106 = .ok (.goto (-72), 3) := by decide +kernel
theorem dX3_copyFor_109 : decode cX3_copyFor 109 = .ok (.iinc 5 1, 3) := by decide +kernel
theorem dX3_copyFor_112 : decode cX3_copyFor 112 = .ok (.goto (-88), 3) := by decide +kernel
theorem dX3_copyFor_115 : decode cX3_copyFor 115 = .ok (.return_, 1) := by decide +kernel
theorem dX3_sayTheSame_0 : decode cX3_sayTheSame 0 = .ok (.aload_n 0, 1) := by decide +kernel
theorem dX3_sayTheSame_1 : decode cX3_sayTheSame 1 = .ok (.getfield 9, 3) := by decide +kernel
theorem dX3_sayTheSame_4 : decode cX3_sayTheSame 4 = .ok (.iload_n 3, 1) := by decide +kernel
theorem dX3_sayTheSame_5 : decode cX3_sayTheSame 5 = .ok (.iload 4, 2) := by decide +kernel
theorem dX3_sayTheSame_7 : decode cX3_sayTheSame 7 = .ok (.iconst 2, 1) := by decide +kernel
theorem dX3_sayTheSame_8 : decode cX3_sayTheSame 8 = .ok (.invokevirtual 44, 3) := by decide +kernel
theorem dX3_sayTheSame_11 : decode cX3_sayTheSame 11 = .ok (.istore 5, 2) := by decide +kernel
theorem dX3_sayTheSame_13 : decode cX3_sayTheSame 13 = .ok (.aload_n 0, 1) := by decide +kernel
theorem dX3_sayTheSame_14 : decode cX3_sayTheSame 14 = .ok (.getfield 9, 3) := by decide +kernel
theorem dX3_sayTheSame_17 : decode cX3_sayTheSame 17 = .ok (.iload_n 1, 1) := by decide +kernel
theorem dX3_sayTheSame_18 : decode cX3_sayTheSame 18 = .ok (.iload_n 2, 1) := by decide +kernel
theorem dX3_sayTheSame_19 : decode cX3_sayTheSame 19 = .ok (.invokevirtual 54, 3) := by decide +kernel
theorem dX3_sayTheSame_22 : decode cX3_sayTheSame 22 = .ok (.istore 6, 2) := by decide +kernel
theorem dX3_sayTheSame_24 : decode cX3_sayTheSame 24 = .ok (.aload_n 0, 1) := by decide +kernel
theorem dX3_sayTheSame_25 : decode cX3_sayTheSame 25 = .ok (.getfield 9, 3) := by decide +kernel
theorem dX3_sayTheSame_28 : decode cX3_sayTheSame 28 = .ok (.iload_n 3, 1) := by decide +kernel
theorem dX3_sayTheSame_29 : decode cX3_sayTheSame 29 = .ok (.iload 4, 2) := by decide +kernel
theorem dX3_sayTheSame_31 : decode cX3_sayTheSame 31 = .ok (.invokevirtual 54, 3) := by decide +kernel
theorem dX3_sayTheSame_34 : decode cX3_sayTheSame 34 = .ok (.istore 7, 2) := by decide +kernel
theorem dX3_sayTheSame_36 : decode cX3_sayTheSame 36 = .ok (.iconst 0, 1) := by decide +kernel
theorem dX3_sayTheSame_37 : decode cX3_sayTheSame 37 = .ok (.istore 8, 2) := by decide +kernel
theorem dX3_sayTheSame_39 : decode cX3_sayTheSame 39 = .ok (.iload 8, 2) := by decide +kernel
theorem dX3_sayTheSame_41 : decode cX3_sayTheSame 41 = .ok (.aload_n 0, 1) := by decide +kernel
theorem dX3_sayTheSame_42 : decode cX3_sayTheSame 42 = .ok (.getfield 9, 3) := by decide +kernel
theorem dX3_sayTheSame_45 : decode cX3_sayTheSame 45 = .ok (.getfield 58, 3) := by decide +kernel
theorem dX3_sayTheSame_48 : decode cX3_sayTheSame 48 = .ok (.iload 5, 2) := by decide +kernel
theorem dX3_sayTheSame_50 : decode cX3_sayTheSame 50 = .ok (.iaload, 1) := by decide +kernel
theorem dX3_sayTheSame_51 : decode cX3_sayTheSame 51 = .ok (.if_icmp .ge 103, 3) := by decide +kernel
theorem dX3_sayTheSame_54 : decode cX3_sayTheSame 54 = .ok (.aload_n 0, 1) := by decide +kernel
theorem dX3_sayTheSame_55 : decode cX3_sayTheSame 55 = .ok (.getfield 9, 3) := by decide +kernel
theorem dX3_sayTheSame_58 : decode cX3_sayTheSame 58 = .ok (.iload_n 1, 1) := by decide +kernel
theorem dX3_sayTheSame_59 : decode cX3_sayTheSame 59 = .ok (.iload_n 2, 1) := by decide +kernel
theorem dX3_sayTheSame_60 : decode cX3_sayTheSame 60 = .ok (.iconst 3, 1) := by decide +kernel
theorem dX3_sayTheSame_61 : decode cX3_sayTheSame 61 = .ok (.iload 8, 2) := by decide +kernel
theorem dX3_sayTheSame_63 : decode cX3_sayTheSame 63 = .ok (.iadd, 1) := by decide +kernel
theorem dX3_sayTheSame_64 : decode cX3_sayTheSame 64 = .ok (.invokevirtual 44, 3) := by decide +kernel
theorem dX3_sayTheSame_67 : decode cX3_sayTheSame 67 = .ok (.istore 9, 2) := by decide +kernel
theorem dX3_sayTheSame_69 : decode cX3_sayTheSame 69 = .ok (.aload_n 0, 1) := by decide +kernel
theorem dX3_sayTheSame_70 : decode cX3_sayTheSame 70 = .ok (.getfield 9, 3) := by decide +kernel
theorem dX3_sayTheSame_73 : decode cX3_sayTheSame 73 = .ok (.iload_n 3, 1) := by decide +kernel
theorem dX3_sayTheSame_74 : decode cX3_sayTheSame 74 = .ok (.iload 4, 2) := by decide +kernel
theorem dX3_sayTheSame_76 : decode cX3_sayTheSame 76 = .ok (.iconst 3, 1) := by decide +kernel
theorem dX3_sayTheSame_77 : decode cX3_sayTheSame 77 = .ok (.iload 8, 2) := by decide +kernel
theorem dX3_sayTheSame_79 : decode cX3_sayTheSame 79 = .ok (.iadd, 1) := by decide +kernel
theorem dX3_sayTheSame_80 : decode cX3_sayTheSame 80 = .ok (.invokevirtual 44, 3) := by decide +kernel
theorem dX3_sayTheSame_83 : decode cX3_sayTheSame 83 = .ok (.istore 10, 2) := by decide +kernel
theorem dX3_sayTheSame_85 : decode cX3_sayTheSame 85 = .ok (.aload_n 0, 1) := by decide +kernel
theorem dX3_sayTheSame_86 : decode cX3_sayTheSame 86 = .ok (.getfield 15, 3) := by decide +kernel
theorem dX3_sayTheSame_89 : decode cX3_sayTheSame 89 = .ok (.iload 6, 2) := by decide +kernel
theorem dX3_sayTheSame_91 : decode cX3_sayTheSame 91 = .ok (.iload 9, 2) := by decide +kernel
theorem dX3_sayTheSame_93 : decode cX3_sayTheSame 93 = .ok (.invokevirtual 61, 3) := by decide +kernel
theorem dX3_sayTheSame_96 : decode cX3_sayTheSame 96 = .ok (.istore 11, 2) := by decide +kernel
theorem dX3_sayTheSame_98 : decode cX3_sayTheSame 98 = .ok (.iload 11, 2) := by decide +kernel
theorem dX3_sayTheSame_100 : decode cX3_sayTheSame 100 = .ok (.aload_n 0, 1) := by decide +kernel
theorem dX3_sayTheSame_101 : decode cX3_sayTheSame 101 = .ok (.getfield 15, 3) := by decide +kernel
theorem dX3_sayTheSame_104 : decode cX3_sayTheSame 104 = .ok (.iload 7, 2) := by decide +kernel
theorem dX3_sayTheSame_106 : decode cX3_sayTheSame 106 = .ok (.iload 10, 2) := by decide +kernel
theorem dX3_sayTheSame_108 : decode cX3_sayTheSame 108 = .ok (.invokevirtual 61, 3) := by decide +kernel
theorem dX3_sayTheSame_111 : decode cX3_sayTheSame 111 = .ok (.if_icmp .eq 5, 3) := by decide +kernel
theorem dX3_sayTheSame_114 : decode cX3_sayTheSame 114 = .ok (.iconst 0, 1) := by decide +kernel
theorem dX3_sayTheSame_115 : decode cX3_sayTheSame 115 = .ok (.ireturn, 1) := by decide +kernel
theorem dX3_sayTheSame_116 : decode cX3_sayTheSame 116 = .ok (.iload 11, 2) := by decide +kernel
theorem dX3_sayTheSame_118 : decode cX3_sayTheSame 118 = .ok (.ifCond .eq 30, 3) := by decide +kernel
theorem dX3_sayTheSame_121 : decode cX3_sayTheSame 121 = .ok (.aload_n 0, 1) := by decide +kernel
theorem dX3_sayTheSame_122 : decode cX3_sayTheSame 122 = .ok (.getfield 15, 3) := by decide +kernel
theorem dX3_sayTheSame_125 : decode cX3_sayTheSame 125 = .ok (.iload 6, 2) := by decide +kernel
theorem dX3_sayTheSame_127 : decode cX3_sayTheSame 127 = .ok (.iload 9, 2) := by decide +kernel
theorem dX3_sayTheSame_129 : decode cX3_sayTheSame 129 = .ok (.invokevirtual 76, 3) := by decide +kernel
theorem dX3_sayTheSame_132 : decode cX3_sayTheSame 132 = .ok (.aload_n 0, 1) := by decide +kernel
theorem dX3_sayTheSame_133 : decode cX3_sayTheSame 133 = .ok (.getfield 15, 3) := by decide +kernel
theorem dX3_sayTheSame_136 : decode cX3_sayTheSame 136 = .ok (.iload 7, 2) := by decide +kernel
theorem dX3_sayTheSame_138 : decode cX3_sayTheSame 138 = .ok (.iload 10, 2) := by decide +kernel
theorem dX3_sayTheSame_140 : decode cX3_sayTheSame 140 = .ok (.invokevirtual 76, 3) := by decide +kernel
theorem dX3_sayTheSame_143 : decode cX3_sayTheSame 143 = .ok (.if_icmp .eq 5, 3) := by decide +kernel
theorem dX3_sayTheSame_146 : decode cX3_sayTheSame 146 = .ok (.iconst 0, 1) := by decide +kernel
theorem dX3_sayTheSame_147 : decode cX3_sayTheSame 147 = .ok (.ireturn, 1) := by decide +kernel
theorem dX3_sayTheSame_148 : decode cX3_sayTheSame 148 = .ok (.iinc 8 1, 3) := by decide +kernel
theorem dX3_sayTheSame_151 : decode cX3_sayTheSame 151 = .ok (.goto (-112), 3) := by decide +kernel
theorem dX3_sayTheSame_154 : decode cX3_sayTheSame 154 = .ok (.iconst 1, 1) := by decide +kernel
theorem dX3_sayTheSame_155 : decode cX3_sayTheSame 155 = .ok (.ireturn, 1) := by decide +kernel
theorem dX3_makeNewProgram_0 : decode cX3_makeNewProgram 0 = .ok (.iconst 0, 1) := by decide +kernel
theorem dX3_makeNewProgram_1 : decode cX3_makeNewProgram 1 = .ok (.istore_n 1, 1) := by decide +kernel
theorem dX3_makeNewProgram_2 : decode cX3_makeNewProgram 2 = .ok (.iload_n 1, 1) := by decide +kernel
theorem dX3_makeNewProgram_3 : decode cX3_makeNewProgram 3 = .ok (.aload_n 0, 1) := by decide +kernel
theorem dX3_makeNewProgram_4 : decode cX3_makeNewProgram 4 = .ok (.getfield 9, 3) := by decide +kernel
theorem dX3_makeNewProgram_7 : decode cX3_makeNewProgram 7 = .ok (.getfield 27, 3) := by decide +kernel
theorem dX3_makeNewProgram_10 : decode cX3_makeNewProgram 10 = .ok (.if_icmp .ge 60, 3) := by decide +kernel
theorem dX3_makeNewProgram_13 : decode cX3_makeNewProgram 13 = .ok (.aload_n 0, 1) := by decide +kernel
theorem dX3_makeNewProgram_14 : decode cX3_makeNewProgram 14 = .ok (.getfield 15, 3) := by decide +kernel
theorem dX3_makeNewProgram_17 : decode cX3_makeNewProgram 17 = .ok (.iload_n 1, 1) := by decide +kernel
theorem dX3_makeNewProgram_18 : decode cX3_makeNewProgram 18 = .ok (.invokevirtual 79, 3) := by decide +kernel
theorem dX3_makeNewProgram_21 : decode cX3_makeNewProgram 21 = .ok (.ifCond .eq 33, 3) := by decide +kernel
theorem dX3_makeNewProgram_24 : decode cX3_makeNewProgram 24 = .ok (.iconst 0, 1) := by decide +kernel
theorem dX3_makeNewProgram_25 : decode cX3_makeNewProgram 25 = .ok (.istore_n 2, 1) := by decide +kernel
theorem dX3_makeNewProgram_26 : decode cX3_makeNewProgram 26 = .ok (.iload_n 2, 1) := by decide +kernel
theorem dX3_makeNewProgram_27 : decode cX3_makeNewProgram 27 = .ok (.aload_n 0, 1) := by decide +kernel
theorem dX3_makeNewProgram_28 : decode cX3_makeNewProgram 28 = .ok (.getfield 9, 3) := by decide +kernel
theorem dX3_makeNewProgram_31 : decode cX3_makeNewProgram 31 = .ok (.getfield 33, 3) := by decide +kernel
theorem dX3_makeNewProgram_34 : decode cX3_makeNewProgram 34 = .ok (.iload_n 1, 1) := by decide +kernel
theorem dX3_makeNewProgram_35 : decode cX3_makeNewProgram 35 = .ok (.iaload, 1) := by decide +kernel
theorem dX3_makeNewProgram_36 : decode cX3_makeNewProgram 36 = .ok (.if_icmp .ge 15, 3) := by decide +kernel
theorem dX3_makeNewProgram_39 : decode cX3_makeNewProgram 39 = .ok (.aload_n 0, 1) := by decide +kernel
theorem dX3_makeNewProgram_40 : decode cX3_makeNewProgram 40 = .ok (.iload_n 1, 1) := by decide +kernel
theorem dX3_makeNewProgram_41 : decode cX3_makeNewProgram 41 = .ok (.iload_n 2, 1) := by decide +kernel
theorem dX3_makeNewProgram_42 : decode cX3_makeNewProgram 42 = .ok (.invokevirtual 83, 3) := by decide +kernel
theorem dX3_makeNewProgram_45 : decode cX3_makeNewProgram 45 = .ok (.iinc 2 1, 3) := by decide +kernel
theorem dX3_makeNewProgram_48 : decode cX3_makeNewProgram 48 = .ok (.goto (-22), 3) := by decide +kernel
theorem dX3_makeNewProgram_51 : decode cX3_makeNewProgram 51 = .ok (.goto 13, 3) := by decide +kernel
theorem dX3_makeNewProgram_54 : decode cX3_makeNewProgram 54 = .ok (.aload_n 0, 1) := by decide +kernel
theorem dX3_makeNewProgram_55 : decode cX3_makeNewProgram 55 = .ok (.getfield 9, 3) := by decide +kernel
theorem dX3_makeNewProgram_58 : decode cX3_makeNewProgram 58 = .ok (.getfield 33, 3) := by decide +kernel
theorem dX3_makeNewProgram_61 : decode cX3_makeNewProgram 61 = .ok (.iload_n 1, 1) := by decide +kernel
theorem dX3_makeNewProgram_62 : decode cX3_makeNewProgram 62 = .ok (.iconst 0, 1) := by decide +kernel
theorem dX3_makeNewProgram_63 : decode cX3_makeNewProgram 63 = .ok (.iastore, 1) := by decide +kernel
theorem dX3_makeNewProgram_64 : decode cX3_makeNewProgram 64 = .ok (.iinc 1 1, 3) := by decide +kernel
theorem dX3_makeNewProgram_67 : decode cX3_makeNewProgram 67 = .ok (.goto (-65), 3) := by decide +kernel
theorem dX3_makeNewProgram_70 : decode cX3_makeNewProgram 70 = .ok (.return_, 1) := by decide +kernel
theorem dX3_renew_0 : decode cX3_renew 0 = .ok (.aload_n 0, 1) := by decide +kernel
theorem dX3_renew_1 : decode cX3_renew 1 = .ok (.getfield 15, 3) := by decide +kernel
theorem dX3_renew_4 : decode cX3_renew 4 = .ok (.getfield 48, 3) := by decide +kernel
theorem dX3_renew_7 : decode cX3_renew 7 = .ok (.aload_n 0, 1) := by decide +kernel
theorem dX3_renew_8 : decode cX3_renew 8 = .ok (.getfield 9, 3) := by decide +kernel
theorem dX3_renew_11 : decode cX3_renew 11 = .ok (.iload_n 1, 1) := by decide +kernel
theorem dX3_renew_12 : decode cX3_renew 12 = .ok (.iload_n 2, 1) := by decide +kernel
theorem dX3_renew_13 : decode cX3_renew 13 = .ok (.invokevirtual 54, 3) := by decide +kernel
theorem dX3_renew_16 : decode cX3_renew 16 = .ok (.baload, 1) := by decide +kernel
theorem dX3_renew_17 : decode cX3_renew 17 = .ok (.ifCond .ne 16, 3) := by decide +kernel
theorem dX3_renew_20 : decode cX3_renew 20 = .ok (.aload_n 0, 1) := by decide +kernel
theorem dX3_renew_21 : decode cX3_renew 21 = .ok (.getfield 9, 3) := by decide +kernel
theorem dX3_renew_24 : decode cX3_renew 24 = .ok (.iload_n 1, 1) := by decide +kernel
theorem dX3_renew_25 : decode cX3_renew 25 = .ok (.iload_n 2, 1) := by decide +kernel
theorem dX3_renew_26 : decode cX3_renew 26 = .ok (.iconst 0, 1) := by decide +kernel
theorem dX3_renew_27 : decode cX3_renew 27 = .ok (.bipush 12, 2) := by decide +kernel
theorem dX3_renew_29 : decode cX3_renew 29 = .ok (.invokevirtual 72, 3) := by decide +kernel
theorem dX3_renew_32 : decode cX3_renew 32 = .ok (.return_, 1) := by decide +kernel
theorem dX3_renew_33 : decode cX3_renew 33 = .ok (.aload_n 0, 1) := by decide +kernel
theorem dX3_renew_34 : decode cX3_renew 34 = .ok (.getfield 9, 3) := by decide +kernel
theorem dX3_renew_37 : decode cX3_renew 37 = .ok (.iload_n 1, 1) := by decide +kernel
theorem dX3_renew_38 : decode cX3_renew 38 = .ok (.iload_n 2, 1) := by decide +kernel
theorem dX3_renew_39 : decode cX3_renew 39 = .ok (.iconst 0, 1) := by decide +kernel
theorem dX3_renew_40 : decode cX3_renew 40 = .ok (.invokevirtual 44, 3) := by decide +kernel
theorem dX3_renew_43 : decode cX3_renew 43 = .ok (.istore_n 3, 1) := by decide +kernel
theorem dX3_renew_44 : decode cX3_renew 44 = .ok (.iconst 0, 1) := by decide +kernel
theorem dX3_renew_45 : decode cX3_renew 45 = .ok (.istore 4, 2) := by decide +kernel
theorem dX3_renew_47 : decode cX3_renew 47 = .ok (.iload 4, 2) := by decide +kernel
theorem dX3_renew_49 : decode cX3_renew 49 = .ok (.getstatic 86, 3) := by decide +kernel
theorem dX3_renew_52 : decode cX3_renew 52 = .ok (.iload_n 3, 1) := by decide +kernel
theorem dX3_renew_53 : decode cX3_renew 53 = .ok (.iaload, 1) := by decide +kernel
theorem dX3_renew_54 : decode cX3_renew 54 = .ok (.if_icmp .ge 19, 3) := by decide +kernel
theorem dX3_renew_57 : decode cX3_renew 57 = .ok (.aload_n 0, 1) := by decide +kernel
theorem dX3_renew_58 : decode cX3_renew 58 = .ok (.iload_n 1, 1) := by decide +kernel
theorem dX3_renew_59 : decode cX3_renew 59 = .ok (.iload_n 2, 1) := by decide +kernel
theorem dX3_renew_60 : decode cX3_renew 60 = .ok (.iconst 3, 1) := by decide +kernel
theorem dX3_renew_61 : decode cX3_renew 61 = .ok (.iload 4, 2) := by decide +kernel
theorem dX3_renew_63 : decode cX3_renew 63 = .ok (.iadd, 1) := by decide +kernel
theorem dX3_renew_64 : decode cX3_renew 64 = .ok (.invokevirtual 89, 3) := by decide +kernel
theorem dX3_renew_67 : decode cX3_renew 67 = .ok (.iinc 4 1, 3) := by decide +kernel
theorem dX3_renew_70 : decode cX3_renew 70 = .ok (.goto (-23), 3) := by decide +kernel
theorem dX3_renew_73 : decode cX3_renew 73 = .ok (.iload_n 3, 1) := by decide +kernel
theorem dX3_renew_74 : decode cX3_renew 74 = .ok (.bipush 7, 2) := by decide +kernel
theorem dX3_renew_76 : decode cX3_renew 76 = .ok (.if_icmp .ne 12, 3) := by decide +kernel
theorem dX3_renew_79 : decode cX3_renew 79 = .ok (.aload_n 0, 1) := by decide +kernel
theorem dX3_renew_80 : decode cX3_renew 80 = .ok (.iload_n 1, 1) := by decide +kernel
theorem dX3_renew_81 : decode cX3_renew 81 = .ok (.iload_n 2, 1) := by decide +kernel
theorem dX3_renew_82 : decode cX3_renew 82 = .ok (.invokevirtual 93, 3) := by decide +kernel
theorem dX3_renew_85 : decode cX3_renew 85 = .ok (.goto 22, 3) := by decide +kernel
theorem dX3_renew_88 : decode cX3_renew 88 = .ok (.iload_n 3, 1) := by decide +kernel
theorem dX3_renew_89 : decode cX3_renew 89 = .ok (.bipush 11, 2) := by decide +kernel
theorem dX3_renew_91 : decode cX3_renew 91 = .ok (.if_icmp .ne 16, 3) := by decide +kernel
theorem dX3_renew_94 : decode cX3_renew 94 = .ok (.aload_n 0, 1) := by decide +kernel
theorem dX3_renew_95 : decode cX3_renew 95 = .ok (.iload_n 1, 1) := by decide +kernel
theorem dX3_renew_96 : decode cX3_renew 96 = .ok (.iload_n 2, 1) := by decide +kernel
theorem dX3_renew_97 : decode cX3_renew 97 = .ok (.iconst 2, 1) := by decide +kernel
theorem dX3_renew_98 : decode cX3_renew 98 = .ok (.invokevirtual 89, 3) := by decide +kernel
theorem dX3_renew_101 : decode cX3_renew 101 = .ok (.aload_n 0, 1) := by decide +kernel
theorem dX3_renew_102 : decode cX3_renew 102 = .ok (.iload_n 1, 1) := by decide +kernel
theorem dX3_renew_103 : decode cX3_renew 103 = .ok (.iload_n 2, 1) := by decide +kernel
theorem dX3_renew_104 : decode cX3_renew 104 = .ok (.invokevirtual 96, 3) := by decide +kernel
theorem dX3_renew_107 : decode cX3_renew 107 = .ok (.return_, 1) := by decide +kernel
theorem dX3_renewOperand_0 : decode cX3_renewOperand 0 = .ok (.aload_n 0, 1) := by decide +kernel
theorem dX3_renewOperand_1 : decode cX3_renewOperand 1 = .ok (.getfield 9, 3) := by decide +kernel
theorem dX3_renewOperand_4 : decode cX3_renewOperand 4 = .ok (.iload_n 1, 1) := by decide +kernel
theorem dX3_renewOperand_5 : decode cX3_renewOperand 5 = .ok (.iload_n 2, 1) := by decide +kernel
theorem dX3_renewOperand_6 : decode cX3_renewOperand 6 = .ok (.invokevirtual 54, 3) := by decide +kernel
theorem dX3_renewOperand_9 : decode cX3_renewOperand 9 = .ok (.istore 4, 2) := by decide +kernel
theorem dX3_renewOperand_11 : decode cX3_renewOperand 11 = .ok (.aload_n 0, 1) := by decide +kernel
theorem dX3_renewOperand_12 : decode cX3_renewOperand 12 = .ok (.getfield 9, 3) := by decide +kernel
theorem dX3_renewOperand_15 : decode cX3_renewOperand 15 = .ok (.iload_n 1, 1) := by decide +kernel
theorem dX3_renewOperand_16 : decode cX3_renewOperand 16 = .ok (.iload_n 2, 1) := by decide +kernel
theorem dX3_renewOperand_17 : decode cX3_renewOperand 17 = .ok (.iload_n 3, 1) := by decide +kernel
theorem dX3_renewOperand_18 : decode cX3_renewOperand 18 = .ok (.invokevirtual 44, 3) := by decide +kernel
theorem dX3_renewOperand_21 : decode cX3_renewOperand 21 = .ok (.istore 5, 2) := by decide +kernel
theorem dX3_renewOperand_23 : decode cX3_renewOperand 23 = .ok (.aload_n 0, 1) := by decide +kernel
theorem dX3_renewOperand_24 : decode cX3_renewOperand 24 = .ok (.getfield 15, 3) := by decide +kernel
theorem dX3_renewOperand_27 : decode cX3_renewOperand 27 = .ok (.iload 4, 2) := by decide +kernel
theorem dX3_renewOperand_29 : decode cX3_renewOperand 29 = .ok (.iload 5, 2) := by decide +kernel
theorem dX3_renewOperand_31 : decode cX3_renewOperand 31 = .ok (.invokevirtual 61, 3) := by decide +kernel
theorem dX3_renewOperand_34 : decode cX3_renewOperand 34 = .ok (.ifCond .eq 27, 3) := by decide +kernel
theorem dX3_renewOperand_37 : decode cX3_renewOperand 37 = .ok (.aload_n 0, 1) := by decide +kernel
theorem dX3_renewOperand_38 : decode cX3_renewOperand 38 = .ok (.getfield 9, 3) := by decide +kernel
theorem dX3_renewOperand_41 : decode cX3_renewOperand 41 = .ok (.iload_n 1, 1) := by decide +kernel
theorem dX3_renewOperand_42 : decode cX3_renewOperand 42 = .ok (.iload_n 2, 1) := by decide +kernel
theorem dX3_renewOperand_43 : decode cX3_renewOperand 43 = .ok (.iload_n 3, 1) := by decide +kernel
theorem dX3_renewOperand_44 : decode cX3_renewOperand 44 = .ok (.aload_n 0, 1) := by decide +kernel
theorem dX3_renewOperand_45 : decode cX3_renewOperand 45 = .ok (.getfield 15, 3) := by decide +kernel
theorem dX3_renewOperand_48 : decode cX3_renewOperand 48 = .ok (.iload 4, 2) := by decide +kernel
theorem dX3_renewOperand_50 : decode cX3_renewOperand 50 = .ok (.iload 5, 2) := by decide +kernel
theorem dX3_renewOperand_52 : decode cX3_renewOperand 52 = .ok (.invokevirtual 76, 3) := by decide +kernel
theorem dX3_renewOperand_55 : decode cX3_renewOperand 55 = .ok (.invokestatic 99, 3) := by decide +kernel
theorem dX3_renewOperand_58 : decode cX3_renewOperand 58 = .ok (.invokevirtual 72, 3) := by decide +kernel
theorem dX3_renewOperand_61 : decode cX3_renewOperand 61 = .ok (.return_, 1) := by decide +kernel
theorem dX3_renewIf_0 : decode cX3_renewIf 0 = .ok (.aload_n 0, 1) := by decide +kernel
theorem dX3_renewIf_1 : decode cX3_renewIf 1 = .ok (.getfield 9, 3) := by decide +kernel
theorem dX3_renewIf_4 : decode cX3_renewIf 4 = .ok (.iload_n 1, 1) := by decide +kernel
theorem dX3_renewIf_5 : decode cX3_renewIf 5 = .ok (.iload_n 2, 1) := by decide +kernel
theorem dX3_renewIf_6 : decode cX3_renewIf 6 = .ok (.iconst 3, 1) := by decide +kernel
theorem dX3_renewIf_7 : decode cX3_renewIf 7 = .ok (.invokevirtual 44, 3) := by decide +kernel
theorem dX3_renewIf_10 : decode cX3_renewIf 10 = .ok (.istore_n 3, 1) := by decide +kernel
theorem dX3_renewIf_11 : decode cX3_renewIf 11 = .ok (.iload_n 3, 1) := by decide +kernel
theorem dX3_renewIf_12 : decode cX3_renewIf 12 = .ok (.invokestatic 102, 3) := by decide +kernel
theorem dX3_renewIf_15 : decode cX3_renewIf 15 = .ok (.ifCond .eq 26, 3) := by decide +kernel
theorem dX3_renewIf_18 : decode cX3_renewIf 18 = .ok (.aload_n 0, 1) := by decide +kernel
theorem dX3_renewIf_19 : decode cX3_renewIf 19 = .ok (.getfield 9, 3) := by decide +kernel
theorem dX3_renewIf_22 : decode cX3_renewIf 22 = .ok (.iload_n 1, 1) := by decide +kernel
theorem dX3_renewIf_23 : decode cX3_renewIf 23 = .ok (.iload_n 2, 1) := by decide +kernel
theorem dX3_renewIf_24 : decode cX3_renewIf 24 = .ok (.iconst 0, 1) := by decide +kernel
theorem dX3_renewIf_25 : decode cX3_renewIf 25 = .ok (.iload_n 3, 1) := by decide +kernel
theorem dX3_renewIf_26 : decode cX3_renewIf 26 = .ok (.iconst 3, 1) := by decide +kernel
theorem dX3_renewIf_27 : decode cX3_renewIf 27 = .ok (.ishr, 1) := by decide +kernel
theorem dX3_renewIf_28 : decode cX3_renewIf 28 = .ok (.ifCond .eq 8, 3) := by decide +kernel
theorem dX3_renewIf_31 : decode cX3_renewIf 31 = .ok (.bipush 8, 2) := by decide +kernel
theorem dX3_renewIf_33 : decode cX3_renewIf 33 = .ok (.goto 5, 3) := by decide +kernel
theorem dX3_renewIf_36 : decode cX3_renewIf 36 = .ok (.bipush 12, 2) := by decide +kernel
theorem dX3_renewIf_38 : decode cX3_renewIf 38 = .ok (.invokevirtual 72, 3) := by decide +kernel
theorem dX3_renewIf_41 : decode cX3_renewIf 41 = .ok (.return_, 1) := by decide +kernel
theorem dX3_renewTableCall_0 : decode cX3_renewTableCall 0 = .ok (.aload_n 0, 1) := by decide +kernel
theorem dX3_renewTableCall_1 : decode cX3_renewTableCall 1 = .ok (.getfield 9, 3) := by decide +kernel
theorem dX3_renewTableCall_4 : decode cX3_renewTableCall 4 = .ok (.iload_n 1, 1) := by decide +kernel
theorem dX3_renewTableCall_5 : decode cX3_renewTableCall 5 = .ok (.iload_n 2, 1) := by decide +kernel
theorem dX3_renewTableCall_6 : decode cX3_renewTableCall 6 = .ok (.iconst 2, 1) := by decide +kernel
theorem dX3_renewTableCall_7 : decode cX3_renewTableCall 7 = .ok (.invokevirtual 44, 3) := by decide +kernel
theorem dX3_renewTableCall_10 : decode cX3_renewTableCall 10 = .ok (.istore_n 3, 1) := by decide +kernel
theorem dX3_renewTableCall_11 : decode cX3_renewTableCall 11 = .ok (.iload_n 3, 1) := by decide +kernel
theorem dX3_renewTableCall_12 : decode cX3_renewTableCall 12 = .ok (.invokestatic 102, 3) := by decide +kernel
theorem dX3_renewTableCall_15 : decode cX3_renewTableCall 15 = .ok (.ifCond .ne 4, 3) := by decide +kernel
theorem dX3_renewTableCall_18 : decode cX3_renewTableCall 18 = .ok (.return_, 1) := by decide +kernel
theorem dX3_renewTableCall_19 : decode cX3_renewTableCall 19 = .ok (.aload_n 0, 1) := by decide +kernel
theorem dX3_renewTableCall_20 : decode cX3_renewTableCall 20 = .ok (.getfield 9, 3) := by decide +kernel
theorem dX3_renewTableCall_23 : decode cX3_renewTableCall 23 = .ok (.iload_n 3, 1) := by decide +kernel
theorem dX3_renewTableCall_24 : decode cX3_renewTableCall 24 = .ok (.iconst 3, 1) := by decide +kernel
theorem dX3_renewTableCall_25 : decode cX3_renewTableCall 25 = .ok (.ishr, 1) := by decide +kernel
theorem dX3_renewTableCall_26 : decode cX3_renewTableCall 26 = .ok (.invokevirtual 105, 3) := by decide +kernel
theorem dX3_renewTableCall_29 : decode cX3_renewTableCall 29 = .ok (.istore 4, 2) := by decide +kernel
theorem dX3_renewTableCall_31 : decode cX3_renewTableCall 31 = .ok (.iload 4, 2) := by decide +kernel
theorem dX3_renewTableCall_33 : decode cX3_renewTableCall 33 = .ok (.iconst (-1), 1) := by decide +kernel
theorem dX3_renewTableCall_34 : decode cX3_renewTableCall 34 = .ok (.if_icmp .ne 31, 3) := by decide +kernel
theorem dX3_renewTableCall_37 : decode cX3_renewTableCall 37 = .ok (.aload_n 0, 1) := by decide +kernel
theorem dX3_renewTableCall_38 : decode cX3_renewTableCall 38 = .ok (.getfield 9, 3) := by decide +kernel
theorem dX3_renewTableCall_41 : decode cX3_renewTableCall 41 = .ok (.iload_n 1, 1) := by decide +kernel
theorem dX3_renewTableCall_42 : decode cX3_renewTableCall 42 = .ok (.iload_n 2, 1) := by decide +kernel
theorem dX3_renewTableCall_43 : decode cX3_renewTableCall 43 = .ok (.iconst 0, 1) := by decide +kernel
theorem dX3_renewTableCall_44 : decode cX3_renewTableCall 44 = .ok (.iconst 0, 1) := by decide +kernel
theorem dX3_renewTableCall_45 : decode cX3_renewTableCall 45 = .ok (.invokevirtual 72, 3) := by decide +kernel
theorem dX3_renewTableCall_48 : decode cX3_renewTableCall 48 = .ok (.aload_n 0, 1) := by decide +kernel
theorem dX3_renewTableCall_49 : decode cX3_renewTableCall 49 = .ok (.getfield 9, 3) := by decide +kernel
theorem dX3_renewTableCall_52 : decode cX3_renewTableCall 52 = .ok (.iload_n 1, 1) := by decide +kernel
theorem dX3_renewTableCall_53 : decode cX3_renewTableCall 53 = .ok (.iload_n 2, 1) := by decide +kernel
theorem dX3_renewTableCall_54 : decode cX3_renewTableCall 54 = .ok (.iconst 3, 1) := by decide +kernel
theorem dX3_renewTableCall_55 : decode cX3_renewTableCall 55 = .ok (.iconst 0, 1) := by decide +kernel
theorem dX3_renewTableCall_56 : decode cX3_renewTableCall 56 = .ok (.invokestatic 99, 3) := by decide +kernel
theorem dX3_renewTableCall_59 : decode cX3_renewTableCall 59 = .ok (.invokevirtual 72, 3) := by decide +kernel
theorem dX3_renewTableCall_62 : decode cX3_renewTableCall 62 = .ok (.goto 27, 3) := by decide +kernel
theorem dX3_renewTableCall_65 : decode cX3_renewTableCall 65 = .ok (.aload_n 0, 1) := by decide +kernel
theorem dX3_renewTableCall_66 : decode cX3_renewTableCall 66 = .ok (.getfield 9, 3) := by decide +kernel
theorem dX3_renewTableCall_69 : decode cX3_renewTableCall 69 = .ok (.iload_n 1, 1) := by decide +kernel
theorem dX3_renewTableCall_70 : decode cX3_renewTableCall 70 = .ok (.iload_n 2, 1) := by decide +kernel
theorem dX3_renewTableCall_71 : decode cX3_renewTableCall 71 = .ok (.iconst 0, 1) := by decide +kernel
theorem dX3_renewTableCall_72 : decode cX3_renewTableCall 72 = .ok (.bipush 10, 2) := by decide +kernel
theorem dX3_renewTableCall_74 : decode cX3_renewTableCall 74 = .ok (.invokevirtual 72, 3) := by decide +kernel
theorem dX3_renewTableCall_77 : decode cX3_renewTableCall 77 = .ok (.aload_n 0, 1) := by decide +kernel
theorem dX3_renewTableCall_78 : decode cX3_renewTableCall 78 = .ok (.getfield 9, 3) := by decide +kernel
theorem dX3_renewTableCall_81 : decode cX3_renewTableCall 81 = .ok (.iload_n 1, 1) := by decide +kernel
theorem dX3_renewTableCall_82 : decode cX3_renewTableCall 82 = .ok (.iload_n 2, 1) := by decide +kernel
theorem dX3_renewTableCall_83 : decode cX3_renewTableCall 83 = .ok (.iconst 2, 1) := by decide +kernel
theorem dX3_renewTableCall_84 : decode cX3_renewTableCall 84 = .ok (.iload 4, 2) := by decide +kernel
theorem dX3_renewTableCall_86 : decode cX3_renewTableCall 86 = .ok (.invokevirtual 72, 3) := by decide +kernel
theorem dX3_renewTableCall_89 : decode cX3_renewTableCall 89 = .ok (.return_, 1) := by decide +kernel
