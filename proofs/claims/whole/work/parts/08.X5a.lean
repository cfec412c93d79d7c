theorem dX5_init_0 : decode cX5_init 0 = .ok (.aload_n 0, 1) := by decide +kernel
theorem dX5_init_1 : decode cX5_init 1 = .ok (.invokespecial 3, 3) := by decide +kernel
theorem dX5_init_4 : decode cX5_init 4 = .ok (.aload_n 0, 1) := by decide +kernel
theorem dX5_init_5 : decode cX5_init 5 = .ok (.bipush 6, 2) := by decide +kernel
theorem dX5_init_7 : decode cX5_init 7 = .ok (.newarray .boolean, 2) := by decide +kernel
theorem dX5_init_9 : decode cX5_init 9 = .ok (.putfield 9, 3) := by decide +kernel
theorem dX5_init_12 : decode cX5_init 12 = .ok (.aload_n 0, 1) := by decide +kernel
theorem dX5_init_13 : decode cX5_init 13 = .ok (.bipush 6, 2) := by decide +kernel
theorem dX5_init_15 : decode cX5_init 15 = .ok (.newarray .int, 2) := by decide +kernel
theorem dX5_init_17 : decode cX5_init 17 = .ok (.putfield 15, 3) := by decide +kernel
theorem dX5_init_20 : decode cX5_init 20 = .ok (.return_, 1) := by decide +kernel
theorem dX5_putNumber_0 : decode cX5_putNumber 0 = .ok (.aload_n 0, 1) := by decide +kernel
theorem dX5_putNumber_1 : decode cX5_putNumber 1 = .ok (.getfield 9, 3) := by decide +kernel
theorem dX5_putNumber_4 : decode cX5_putNumber 4 = .ok (.iload_n 1, 1) := by decide +kernel
theorem dX5_putNumber_5 : decode cX5_putNumber 5 = .ok (.iconst 0, 1) := by decide +kernel
theorem dX5_putNumber_6 : decode cX5_putNumber 6 = .ok (.bastore, 1) := by decide +kernel
theorem dX5_putNumber_7 : decode cX5_putNumber 7 = .ok (.aload_n 0, 1) := by decide +kernel
theorem dX5_putNumber_8 : decode cX5_putNumber 8 = .ok (.getfield 15, 3) := by decide +kernel
theorem dX5_putNumber_11 : decode cX5_putNumber 11 = .ok (.iload_n 1, 1) := by decide +kernel
theorem dX5_putNumber_12 : decode cX5_putNumber 12 = .ok (.iload_n 2, 1) := by decide +kernel
theorem dX5_putNumber_13 : decode cX5_putNumber 13 = .ok (.iastore, 1) := by decide +kernel
theorem dX5_putNumber_14 : decode cX5_putNumber 14 = .ok (.return_, 1) := by decide +kernel
theorem dX5_putAny_0 : decode cX5_putAny 0 = .ok (.aload_n 0, 1) := by decide +kernel
theorem dX5_putAny_1 : decode cX5_putAny 1 = .ok (.getfield 9, 3) := by decide +kernel
theorem dX5_putAny_4 : decode cX5_putAny 4 = .ok (.iload_n 1, 1) := by decide +kernel
theorem dX5_putAny_5 : decode cX5_putAny 5 = .ok (.iconst 1, 1) := by decide +kernel
theorem dX5_putAny_6 : decode cX5_putAny 6 = .ok (.bastore, 1) := by decide +kernel
theorem dX5_putAny_7 : decode cX5_putAny 7 = .ok (.aload_n 0, 1) := by decide +kernel
theorem dX5_putAny_8 : decode cX5_putAny 8 = .ok (.getfield 15, 3) := by decide +kernel
theorem dX5_putAny_11 : decode cX5_putAny 11 = .ok (.iload_n 1, 1) := by decide +kernel
theorem dX5_putAny_12 : decode cX5_putAny 12 = .ok (.iconst 0, 1) := by decide +kernel
theorem dX5_putAny_13 : decode cX5_putAny 13 = .ok (.iastore, 1) := by decide +kernel
theorem dX5_putAny_14 : decode cX5_putAny 14 = .ok (.return_, 1) := by decide +kernel
