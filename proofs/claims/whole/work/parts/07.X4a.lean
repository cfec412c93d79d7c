theorem dX4_init_0 : decode cX4_init 0 = .ok (.aload_n 0, 1) := by decide +kernel
theorem dX4_init_1 : decode cX4_init 1 = .ok (.invokespecial 3, 3) := by decide +kernel
theorem dX4_init_4 : decode cX4_init 4 = .ok (.aload_n 0, 1) := by decide +kernel
theorem dX4_init_5 : decode cX4_init 5 = .ok (.iconst 0, 1) := by decide +kernel
theorem dX4_init_6 : decode cX4_init 6 = .ok (.putfield 9, 3) := by decide +kernel
theorem dX4_init_9 : decode cX4_init 9 = .ok (.aload_n 0, 1) := by decide +kernel
theorem dX4_init_10 : decode cX4_init 10 = .ok (.iconst 0, 1) := by decide +kernel
theorem dX4_init_11 : decode cX4_init 11 = .ok (.putfield 15, 3) := by decide +kernel
theorem dX4_init_14 : decode cX4_init 14 = .ok (.aload_n 0, 1) := by decide +kernel
theorem dX4_init_15 : decode cX4_init 15 = .ok (.bipush 12, 2) := by decide +kernel
theorem dX4_init_17 : decode cX4_init 17 = .ok (.newarray .int, 2) := by decide +kernel
theorem dX4_init_19 : decode cX4_init 19 = .ok (.putfield 18, 3) := by decide +kernel
theorem dX4_init_22 : decode cX4_init 22 = .ok (.aload_n 0, 1) := by decide +kernel
theorem dX4_init_23 : decode cX4_init 23 = .ok (.bipush 12, 2) := by decide +kernel
theorem dX4_init_25 : decode cX4_init 25 = .ok (.newarray .int, 2) := by decide +kernel
theorem dX4_init_27 : decode cX4_init 27 = .ok (.putfield 22, 3) := by decide +kernel
theorem dX4_init_30 : decode cX4_init 30 = .ok (.aload_n 0, 1) := by decide +kernel
theorem dX4_init_31 : decode cX4_init 31 = .ok (.sipush 1152, 3) := by decide +kernel
theorem dX4_init_34 : decode cX4_init 34 = .ok (.newarray .int, 2) := by decide +kernel
theorem dX4_init_36 : decode cX4_init 36 = .ok (.putfield 25, 3) := by decide +kernel
theorem dX4_init_39 : decode cX4_init 39 = .ok (.aload_n 0, 1) := by decide +kernel
theorem dX4_init_40 : decode cX4_init 40 = .ok (.iconst 4, 1) := by decide +kernel
theorem dX4_init_41 : decode cX4_init 41 = .ok (.newarray .int, 2) := by decide +kernel
theorem dX4_init_43 : decode cX4_init 43 = .ok (.putfield 28, 3) := by decide +kernel
theorem dX4_init_46 : decode cX4_init 46 = .ok (.return_, 1) := by decide +kernel
theorem dX4_hasFunction_0 : decode cX4_hasFunction 0 = .ok (.iload_n 1, 1) := by decide +kernel
theorem dX4_hasFunction_1 : decode cX4_hasFunction 1 = .ok (.ifCond .lt 15, 3) := by decide +kernel
theorem dX4_hasFunction_4 : decode cX4_hasFunction 4 = .ok (.iload_n 1, 1) := by decide +kernel
theorem dX4_hasFunction_5 : decode cX4_hasFunction 5 = .ok (.aload_n 0, 1) := by decide +kernel
theorem dX4_hasFunction_6 : decode cX4_hasFunction 6 = .ok (.getfield 9, 3) := by decide +kernel
theorem dX4_hasFunction_9 : decode cX4_hasFunction 9 = .ok (.if_icmp .ge 7, 3) := by decide +kernel
theorem dX4_hasFunction_12 : decode cX4_hasFunction 12 = .ok (.iconst 1, 1) := by decide +kernel
theorem dX4_hasFunction_13 : decode cX4_hasFunction 13 = .ok (.goto 4, 3) := by decide +kernel
theorem dX4_hasFunction_16 : decode cX4_hasFunction 16 = .ok (.iconst 0, 1) := by decide +kernel
theorem dX4_hasFunction_17 : decode cX4_hasFunction 17 = .ok (.ireturn, 1) := by decide +kernel
theorem dX4_addFunction_0 : decode cX4_addFunction 0 = .ok (.aload_n 0, 1) := by decide +kernel
theorem dX4_addFunction_1 : decode cX4_addFunction 1 = .ok (.getfield 9, 3) := by decide +kernel
theorem dX4_addFunction_4 : decode cX4_addFunction 4 = .ok (.istore_n 2, 1) := by decide +kernel
theorem dX4_addFunction_5 : decode cX4_addFunction 5 = .ok (.aload_n 0, 1) := by decide +kernel
theorem dX4_addFunction_6 : decode cX4_addFunction 6 = .ok (.getfield 18, 3) := by decide +kernel
theorem dX4_addFunction_9 : decode cX4_addFunction 9 = .ok (.iload_n 2, 1) := by decide +kernel
theorem dX4_addFunction_10 : decode cX4_addFunction 10 = .ok (.iload_n 1, 1) := by decide +kernel
theorem dX4_addFunction_11 : decode cX4_addFunction 11 = .ok (.iastore, 1) := by decide +kernel
theorem dX4_addFunction_12 : decode cX4_addFunction 12 = .ok (.aload_n 0, 1) := by decide +kernel
theorem dX4_addFunction_13 : decode cX4_addFunction 13 = .ok (.getfield 22, 3) := by decide +kernel
theorem dX4_addFunction_16 : decode cX4_addFunction 16 = .ok (.iload_n 2, 1) := by decide +kernel
theorem dX4_addFunction_17 : decode cX4_addFunction 17 = .ok (.iconst 0, 1) := by decide +kernel
theorem dX4_addFunction_18 : decode cX4_addFunction 18 = .ok (.iastore, 1) := by decide +kernel
theorem dX4_addFunction_19 : decode cX4_addFunction 19 = .ok (.aload_n 0, 1) := by decide +kernel
theorem dX4_addFunction_20 : decode cX4_addFunction 20 = .ok (.dup, 1) := by decide +kernel
theorem dX4_addFunction_21 : decode cX4_addFunction 21 = .ok (.getfield 9, 3) := by decide +kernel
theorem dX4_addFunction_24 : decode cX4_addFunction 24 = .ok (.iconst 1, 1) := by decide +kernel
theorem dX4_addFunction_25 : decode cX4_addFunction 25 = .ok (.iadd, 1) := by decide +kernel
theorem dX4_addFunction_26 : decode cX4_addFunction 26 = .ok (.putfield 9, 3) := by decide +kernel
theorem dX4_addFunction_29 : decode cX4_addFunction 29 = .ok (.iload_n 2, 1) := by decide +kernel
theorem dX4_addFunction_30 : decode cX4_addFunction 30 = .ok (.ireturn, 1) := by decide +kernel
theorem dX4_addStatement_0 : decode cX4_addStatement 0 = .ok (.aload_n 0, 1) := by decide +kernel
theorem dX4_addStatement_1 : decode cX4_addStatement 1 = .ok (.getfield 22, 3) := by decide +kernel
theorem dX4_addStatement_4 : decode cX4_addStatement 4 = .ok (.iload_n 1, 1) := by decide +kernel
theorem dX4_addStatement_5 : decode cX4_addStatement 5 = .ok (.iaload, 1) := by decide +kernel
theorem dX4_addStatement_6 : decode cX4_addStatement 6 = .ok (.istore 5, 2) := by decide +kernel
theorem dX4_addStatement_8 : decode cX4_addStatement 8 = .ok (.aload_n 0, 1) := by decide +kernel
theorem dX4_addStatement_9 : decode cX4_addStatement 9 = .ok (.iload_n 1, 1) := by decide +kernel
theorem dX4_addStatement_10 : decode cX4_addStatement 10 = .ok (.iload 5, 2) := by decide +kernel
theorem dX4_addStatement_12 : decode cX4_addStatement 12 = .ok (.iconst 0, 1) := by decide +kernel
theorem dX4_addStatement_13 : decode cX4_addStatement 13 = .ok (.iload_n 2, 1) := by decide +kernel
theorem dX4_addStatement_14 : decode cX4_addStatement 14 = .ok (.invokevirtual 31, 3) := by decide +kernel
theorem dX4_addStatement_17 : decode cX4_addStatement 17 = .ok (.aload_n 0, 1) := by decide +kernel
theorem dX4_addStatement_18 : decode cX4_addStatement 18 = .ok (.iload_n 1, 1) := by decide +kernel
theorem dX4_addStatement_19 : decode cX4_addStatement 19 = .ok (.iload 5, 2) := by decide +kernel
theorem dX4_addStatement_21 : decode cX4_addStatement 21 = .ok (.iconst 1, 1) := by decide +kernel
theorem dX4_addStatement_22 : decode cX4_addStatement 22 = .ok (.iload_n 3, 1) := by decide +kernel
theorem dX4_addStatement_23 : decode cX4_addStatement 23 = .ok (.invokevirtual 31, 3) := by decide +kernel
theorem dX4_addStatement_26 : decode cX4_addStatement 26 = .ok (.aload_n 0, 1) := by decide +kernel
theorem dX4_addStatement_27 : decode cX4_addStatement 27 = .ok (.iload_n 1, 1) := by decide +kernel
theorem dX4_addStatement_28 : decode cX4_addStatement 28 = .ok (.iload 5, 2) := by decide +kernel
theorem dX4_addStatement_30 : decode cX4_addStatement 30 = .ok (.iconst 2, 1) := by decide +kernel
theorem dX4_addStatement_31 : decode cX4_addStatement 31 = .ok (.iload 4, 2) := by decide +kernel
theorem dX4_addStatement_33 : decode cX4_addStatement 33 = .ok (.invokevirtual 31, 3) := by decide +kernel
theorem dX4_addStatement_36 : decode cX4_addStatement 36 = .ok (.aload_n 0, 1) := by decide +kernel
theorem dX4_addStatement_37 : decode cX4_addStatement 37 = .ok (.getfield 22, 3) := by decide +kernel
theorem dX4_addStatement_40 : decode cX4_addStatement 40 = .ok (.iload_n 1, 1) := by decide +kernel
theorem dX4_addStatement_41 : decode cX4_addStatement 41 = .ok (.dup2, 1) := by decide +kernel
theorem dX4_addStatement_42 : decode cX4_addStatement 42 = .ok (.iaload, 1) := by decide +kernel
theorem dX4_addStatement_43 : decode cX4_addStatement 43 = .ok (.iconst 1, 1) := by decide +kernel
theorem dX4_addStatement_44 : decode cX4_addStatement 44 = .ok (.iadd, 1) := by decide +kernel
theorem dX4_addStatement_45 : decode cX4_addStatement 45 = .ok (.iastore, 1) := by decide +kernel
theorem dX4_addStatement_46 : decode cX4_addStatement 46 = .ok (.iload 5, 2) := by decide +kernel
theorem dX4_addStatement_48 : decode cX4_addStatement 48 = .ok (.ireturn, 1) := by decide +kernel
theorem dX4_addEntry_0 : decode cX4_addEntry 0 = .ok (.aload_n 0, 1) := by decide +kernel
theorem dX4_addEntry_1 : decode cX4_addEntry 1 = .ok (.getfield 28, 3) := by decide +kernel
theorem dX4_addEntry_4 : decode cX4_addEntry 4 = .ok (.aload_n 0, 1) := by decide +kernel
theorem dX4_addEntry_5 : decode cX4_addEntry 5 = .ok (.getfield 15, 3) := by decide +kernel
theorem dX4_addEntry_8 : decode cX4_addEntry 8 = .ok (.iload_n 1, 1) := by decide +kernel
theorem dX4_addEntry_9 : decode cX4_addEntry 9 = .ok (.iastore, 1) := by decide +kernel
theorem dX4_addEntry_10 : decode cX4_addEntry 10 = .ok (.aload_n 0, 1) := by decide +kernel
theorem dX4_addEntry_11 : decode cX4_addEntry 11 = .ok (.dup, 1) := by decide +kernel
theorem dX4_addEntry_12 : decode cX4_addEntry 12 = .ok (.getfield 15, 3) := by decide +kernel
theorem dX4_addEntry_15 : decode cX4_addEntry 15 = .ok (.iconst 1, 1) := by decide +kernel
theorem dX4_addEntry_16 : decode cX4_addEntry 16 = .ok (.iadd, 1) := by decide +kernel
theorem dX4_addEntry_17 : decode cX4_addEntry 17 = .ok (.putfield 15, 3) := by decide +kernel
theorem dX4_addEntry_20 : decode cX4_addEntry 20 = .ok (.aload_n 0, 1) := by decide +kernel
theorem dX4_addEntry_21 : decode cX4_addEntry 21 = .ok (.getfield 15, 3) := by decide +kernel
theorem dX4_addEntry_24 : decode cX4_addEntry 24 = .ok (.ireturn, 1) := by decide +kernel
theorem dX4_addCopyOf_0 : decode cX4_addCopyOf 0 = .ok (.aload_n 0, 1) := by decide +kernel
theorem dX4_addCopyOf_1 : decode cX4_addCopyOf 1 = .ok (.aload_n 0, 1) := by decide +kernel
theorem dX4_addCopyOf_2 : decode cX4_addCopyOf 2 = .ok (.getfield 18, 3) := by decide +kernel
theorem dX4_addCopyOf_5 : decode cX4_addCopyOf 5 = .ok (.iload_n 1, 1) := by decide +kernel
theorem dX4_addCopyOf_6 : decode cX4_addCopyOf 6 = .ok (.iaload, 1) := by decide +kernel
theorem dX4_addCopyOf_7 : decode cX4_addCopyOf 7 = .ok (.invokevirtual 35, 3) := by decide +kernel
theorem dX4_addCopyOf_10 : decode cX4_addCopyOf 10 = .ok (.istore_n 2, 1) := by decide +kernel
theorem dX4_addCopyOf_11 : decode cX4_addCopyOf 11 = .ok (.aload_n 0, 1) := by decide +kernel
theorem dX4_addCopyOf_12 : decode cX4_addCopyOf 12 = .ok (.getfield 22, 3) := by decide +kernel
theorem dX4_addCopyOf_15 : decode cX4_addCopyOf 15 = .ok (.iload_n 2, 1) := by decide +kernel
theorem dX4_addCopyOf_16 : decode cX4_addCopyOf 16 = .ok (.aload_n 0, 1) := by decide +kernel
theorem dX4_addCopyOf_17 : decode cX4_addCopyOf 17 = .ok (.getfield 22, 3) := by decide +kernel
theorem dX4_addCopyOf_20 : decode cX4_addCopyOf 20 = .ok (.iload_n 1, 1) := by decide +kernel
theorem dX4_addCopyOf_21 : decode cX4_addCopyOf 21 = .ok (.iaload, 1) := by decide +kernel
theorem dX4_addCopyOf_22 : decode cX4_addCopyOf 22 = .ok (.iastore, 1) := by decide +kernel
theorem dX4_addCopyOf_23 : decode cX4_addCopyOf 23 = .ok (.aload_n 0, 1) := by decide +kernel
theorem dX4_addCopyOf_24 : decode cX4_addCopyOf 24 = .ok (.getfield 25, 3) := by decide +kernel
theorem dX4_addCopyOf_27 : decode cX4_addCopyOf 27 = .ok (.iload_n 1, 1) := by decide +kernel
theorem dX4_addCopyOf_28 : decode cX4_addCopyOf 28 = .ok (.iconst 0, 1) := by decide +kernel
theorem dX4_addCopyOf_29 : decode cX4_addCopyOf 29 = .ok (.invokestatic 39, 3) := by decide +kernel
theorem dX4_addCopyOf_32 : decode cX4_addCopyOf 32 = .ok (.aload_n 0, 1) := by decide +kernel
theorem dX4_addCopyOf_33 : decode cX4_addCopyOf 33 = .ok (.getfield 25, 3) := by decide +kernel
theorem dX4_addCopyOf_36 : decode cX4_addCopyOf 36 = .ok (.iload_n 2, 1) := by decide +kernel
theorem dX4_addCopyOf_37 : decode cX4_addCopyOf 37 = .ok (.iconst 0, 1) := by decide +kernel
theorem dX4_addCopyOf_38 : decode cX4_addCopyOf 38 = .ok (.invokestatic 39, 3) := by decide +kernel
theorem dX4_addCopyOf_41 : decode cX4_addCopyOf 41 = .ok (.bipush 96, 2) := by decide +kernel
theorem dX4_addCopyOf_43 : decode cX4_addCopyOf 43 = .ok (.invokestatic 43, 3) := by decide +kernel
theorem dX4_addCopyOf_46 : decode cX4_addCopyOf 46 = .ok (.iload_n 2, 1) := by decide +kernel
theorem dX4_addCopyOf_47 : decode cX4_addCopyOf 47 = .ok (.ireturn, 1) := by decide +kernel
theorem dX4_becomeLike_0 : decode cX4_becomeLike 0 = .ok (.aload_n 0, 1) := by decide +kernel
theorem dX4_becomeLike_1 : decode cX4_becomeLike 1 = .ok (.aload_n 1, 1) := by decide +kernel
theorem dX4_becomeLike_2 : decode cX4_becomeLike 2 = .ok (.getfield 9, 3) := by decide +kernel
theorem dX4_becomeLike_5 : decode cX4_becomeLike 5 = .ok (.putfield 9, 3) := by decide +kernel
theorem dX4_becomeLike_8 : decode cX4_becomeLike 8 = .ok (.aload_n 0, 1) := by decide +kernel
theorem dX4_becomeLike_9 : decode cX4_becomeLike 9 = .ok (.aload_n 1, 1) := by decide +kernel
theorem dX4_becomeLike_10 : decode cX4_becomeLike 10 = .ok (.getfield 15, 3) := by decide +kernel
theorem dX4_becomeLike_13 : decode cX4_becomeLike 13 = .ok (.putfield 15, 3) := by decide +kernel
theorem dX4_becomeLike_16 : decode cX4_becomeLike 16 = .ok (.aload_n 1, 1) := by decide +kernel
theorem dX4_becomeLike_17 : decode cX4_becomeLike 17 = .ok (.getfield 18, 3) := by decide +kernel
theorem dX4_becomeLike_20 : decode cX4_becomeLike 20 = .ok (.iconst 0, 1) := by decide +kernel
theorem dX4_becomeLike_21 : decode cX4_becomeLike 21 = .ok (.aload_n 0, 1) := by decide +kernel
theorem dX4_becomeLike_22 : decode cX4_becomeLike 22 = .ok (.getfield 18, 3) := by decide +kernel
theorem dX4_becomeLike_25 : decode cX4_becomeLike 25 = .ok (.iconst 0, 1) := by decide +kernel
theorem dX4_becomeLike_26 : decode cX4_becomeLike 26 = .ok (.bipush 12, 2) := by decide +kernel
theorem dX4_becomeLike_28 : decode cX4_becomeLike 28 = .ok (.invokestatic 43, 3) := by decide +kernel
theorem dX4_becomeLike_31 : decode cX4_becomeLike 31 = .ok (.aload_n 1, 1) := by decide +kernel
theorem dX4_becomeLike_32 : decode cX4_becomeLike 32 = .ok (.getfield 22, 3) := by decide +kernel
theorem dX4_becomeLike_35 : decode cX4_becomeLike 35 = .ok (.iconst 0, 1) := by decide +kernel
theorem dX4_becomeLike_36 : decode cX4_becomeLike 36 = .ok (.aload_n 0, 1) := by decide +kernel
theorem dX4_becomeLike_37 : decode cX4_becomeLike 37 = .ok (.getfield 22, 3) := by decide +kernel
theorem dX4_becomeLike_40 : decode cX4_becomeLike 40 = .ok (.iconst 0, 1) := by decide +kernel
theorem dX4_becomeLike_41 : decode cX4_becomeLike 41 = .ok (.bipush 12, 2) := by decide +kernel
theorem dX4_becomeLike_43 : decode cX4_becomeLike 43 = .ok (.invokestatic 43, 3) := by decide +kernel
theorem dX4_becomeLike_46 : decode cX4_becomeLike 46 = .ok (.aload_n 1, 1) := by decide +kernel
theorem dX4_becomeLike_47 : decode cX4_becomeLike 47 = .ok (.getfield 25, 3) := by decide +kernel
theorem dX4_becomeLike_50 : decode cX4_becomeLike 50 = .ok (.iconst 0, 1) := by decide +kernel
theorem dX4_becomeLike_51 : decode cX4_becomeLike 51 = .ok (.aload_n 0, 1) := by decide +kernel
theorem dX4_becomeLike_52 : decode cX4_becomeLike 52 = .ok (.getfield 25, 3) := by decide +kernel
theorem dX4_becomeLike_55 : decode cX4_becomeLike 55 = .ok (.iconst 0, 1) := by decide +kernel
theorem dX4_becomeLike_56 : decode cX4_becomeLike 56 = .ok (.aload_n 0, 1) := by decide +kernel
theorem dX4_becomeLike_57 : decode cX4_becomeLike 57 = .ok (.getfield 25, 3) := by decide +kernel
theorem dX4_becomeLike_60 : decode cX4_becomeLike 60 = .ok (.arraylength, 1) := by decide +kernel
theorem dX4_becomeLike_61 : decode cX4_becomeLike 61 = .ok (.invokestatic 43, 3) := by decide +kernel
theorem dX4_becomeLike_64 : decode cX4_becomeLike 64 = .ok (.aload_n 1, 1) := by decide +kernel
theorem dX4_becomeLike_65 : decode cX4_becomeLike 65 = .ok (.getfield 28, 3) := by decide +kernel
theorem dX4_becomeLike_68 : decode cX4_becomeLike 68 = .ok (.iconst 0, 1) := by decide +kernel
theorem dX4_becomeLike_69 : decode cX4_becomeLike 69 = .ok (.aload_n 0, 1) := by decide +kernel
theorem dX4_becomeLike_70 : decode cX4_becomeLike 70 = .ok (.getfield 28, 3) := by decide +kernel
theorem dX4_becomeLike_73 : decode cX4_becomeLike 73 = .ok (.iconst 0, 1) := by decide +kernel
theorem dX4_becomeLike_74 : decode cX4_becomeLike 74 = .ok (.iconst 4, 1) := by decide +kernel
theorem dX4_becomeLike_75 : decode cX4_becomeLike 75 = .ok (.invokestatic 43, 3) := by decide +kernel
theorem dX4_becomeLike_78 : decode cX4_becomeLike 78 = .ok (.return_, 1) := by decide +kernel
theorem dX4_fieldOf_0 : decode cX4_fieldOf 0 = .ok (.aload_n 0, 1) := by decide +kernel
theorem dX4_fieldOf_1 : decode cX4_fieldOf 1 = .ok (.getfield 25, 3) := by decide +kernel
theorem dX4_fieldOf_4 : decode cX4_fieldOf 4 = .ok (.iload_n 1, 1) := by decide +kernel
theorem dX4_fieldOf_5 : decode cX4_fieldOf 5 = .ok (.iload_n 2, 1) := by decide +kernel
theorem dX4_fieldOf_6 : decode cX4_fieldOf 6 = .ok (.invokestatic 39, 3) := by decide +kernel
theorem dX4_fieldOf_9 : decode cX4_fieldOf 9 = .ok (.iload_n 3, 1) := by decide +kernel
theorem dX4_fieldOf_10 : decode cX4_fieldOf 10 = .ok (.iadd, 1) := by decide +kernel
theorem dX4_fieldOf_11 : decode cX4_fieldOf 11 = .ok (.iaload, 1) := by decide +kernel
theorem dX4_fieldOf_12 : decode cX4_fieldOf 12 = .ok (.ireturn, 1) := by decide +kernel
theorem dX4_putField_0 : decode cX4_putField 0 = .ok (.aload_n 0, 1) := by decide +kernel
theorem dX4_putField_1 : decode cX4_putField 1 = .ok (.getfield 25, 3) := by decide +kernel
theorem dX4_putField_4 : decode cX4_putField 4 = .ok (.iload_n 1, 1) := by decide +kernel
theorem dX4_putField_5 : decode cX4_putField 5 = .ok (.iload_n 2, 1) := by decide +kernel
theorem dX4_putField_6 : decode cX4_putField 6 = .ok (.invokestatic 39, 3) := by decide +kernel
theorem dX4_putField_9 : decode cX4_putField 9 = .ok (.iload_n 3, 1) := by decide +kernel
theorem dX4_putField_10 : decode cX4_putField 10 = .ok (.iadd, 1) := by decide +kernel
theorem dX4_putField_11 : decode cX4_putField 11 = .ok (.iload 4, 2) := by decide +kernel
theorem dX4_putField_13 : decode cX4_putField 13 = .ok (.iastore, 1) := by decide +kernel
theorem dX4_putField_14 : decode cX4_putField 14 = .ok (.return_, 1) := by decide +kernel
theorem dX4_placeOf_0 : decode cX4_placeOf 0 = .ok (.iload_n 1, 1) := by decide +kernel
theorem dX4_placeOf_1 : decode cX4_placeOf 1 = .ok (.bipush 17, 2) := by decide +kernel
theorem dX4_placeOf_3 : decode cX4_placeOf 3 = .ok (.imul, 1) := by decide +kernel
theorem dX4_placeOf_4 : decode cX4_placeOf 4 = .ok (.iload_n 2, 1) := by decide +kernel
theorem dX4_placeOf_5 : decode cX4_placeOf 5 = .ok (.aload_n 0, 1) := by decide +kernel
theorem dX4_placeOf_6 : decode cX4_placeOf 6 = .ok (.getfield 22, 3) := by decide +kernel
theorem dX4_placeOf_9 : decode cX4_placeOf 9 = .ok (.iload_n 1, 1) := by decide +kernel
theorem dX4_placeOf_10 : decode cX4_placeOf 10 = .ok (.iaload, 1) := by decide +kernel
theorem dX4_placeOf_11 : decode cX4_placeOf 11 = .ok (.if_icmp .ge 7, 3) := by decide +kernel
theorem dX4_placeOf_14 : decode cX4_placeOf 14 = .ok (.iload_n 2, 1) := by decide +kernel
theorem dX4_placeOf_15 : decode cX4_placeOf 15 = .ok (.goto 9, 3) := by decide +kernel
theorem dX4_placeOf_18 : decode cX4_placeOf 18 = .ok (.aload_n 0, 1) := by decide +kernel
theorem dX4_placeOf_19 : decode cX4_placeOf 19 = .ok (.getfield 22, 3) := by decide +kernel
theorem dX4_placeOf_22 : decode cX4_placeOf 22 = .ok (.iload_n 1, 1) := by decide +kernel
theorem dX4_placeOf_23 : decode cX4_placeOf 23 = .ok (.iaload, 1) := by decide +kernel
theorem dX4_placeOf_24 : decode cX4_placeOf 24 = .ok (.iadd, 1) := by decide +kernel
theorem dX4_placeOf_25 : decode cX4_placeOf 25 = .ok (.ireturn, 1) := by decide +kernel
theorem dX4_entryFor_0 : decode cX4_entryFor 0 = .ok (.aload_n 0, 1) := by decide +kernel
theorem dX4_entryFor_1 : decode cX4_entryFor 1 = .ok (.getfield 15, 3) := by decide +kernel
theorem dX4_entryFor_4 : decode cX4_entryFor 4 = .ok (.ifCond .le 19, 3) := by decide +kernel
theorem dX4_entryFor_7 : decode cX4_entryFor 7 = .ok (.aload_n 0, 1) := by decide +kernel
theorem dX4_entryFor_8 : decode cX4_entryFor 8 = .ok (.getfield 28, 3) := by decide +kernel
theorem dX4_entryFor_11 : decode cX4_entryFor 11 = .ok (.iload_n 1, 1) := by decide +kernel
theorem dX4_entryFor_12 : decode cX4_entryFor 12 = .ok (.aload_n 0, 1) := by decide +kernel
theorem dX4_entryFor_13 : decode cX4_entryFor 13 = .ok (.getfield 15, 3) := by decide +kernel
theorem dX4_entryFor_16 : decode cX4_entryFor 16 = .ok (.invokestatic 49, 3) := by decide +kernel
theorem dX4_entryFor_19 : decode cX4_entryFor 19 = .ok (.iaload, 1) := by decide +kernel
theorem dX4_entryFor_20 : decode cX4_entryFor 20 = .ok (.goto 4, 3) := by decide +kernel
theorem dX4_entryFor_23 : decode cX4_entryFor 23 = .ok (.iconst (-1), 1) := by decide +kernel
theorem dX4_entryFor_24 : decode cX4_entryFor 24 = .ok (.ireturn, 1) := by decide +kernel
theorem dX4_startOf_0 : decode cX4_startOf 0 = .ok (.iload_n 0, 1) := by decide +kernel
theorem dX4_startOf_1 : decode cX4_startOf 1 = .ok (.bipush 16, 2) := by decide +kernel
theorem dX4_startOf_3 : decode cX4_startOf 3 = .ok (.imul, 1) := by decide +kernel
theorem dX4_startOf_4 : decode cX4_startOf 4 = .ok (.iload_n 1, 1) := by decide +kernel
theorem dX4_startOf_5 : decode cX4_startOf 5 = .ok (.iadd, 1) := by decide +kernel
theorem dX4_startOf_6 : decode cX4_startOf 6 = .ok (.bipush 6, 2) := by decide +kernel
theorem dX4_startOf_8 : decode cX4_startOf 8 = .ok (.imul, 1) := by decide +kernel
theorem dX4_startOf_9 : decode cX4_startOf 9 = .ok (.ireturn, 1) := by decide +kernel
