theorem dX0_init_0 : decode cX0_init 0 = .ok (.aload_n 0, 1) := by decide +kernel
theorem dX0_init_1 : decode cX0_init 1 = .ok (.invokespecial 1, 3) := by decide +kernel
theorem dX0_init_4 : decode cX0_init 4 = .ok (.aload_n 0, 1) := by decide +kernel
theorem dX0_init_5 : decode cX0_init 5 = .ok (.iload_n 1, 1) := by decide +kernel
theorem dX0_init_6 : decode cX0_init 6 = .ok (.i2l, 1) := by decide +kernel
theorem dX0_init_7 : decode cX0_init 7 = .ok (.putfield 7, 3) := by decide +kernel
theorem dX0_init_10 : decode cX0_init 10 = .ok (.return_, 1) := by decide +kernel
theorem dX0_drawBelow_0 : decode cX0_drawBelow 0 = .ok (.aload_n 0, 1) := by decide +kernel
theorem dX0_drawBelow_1 : decode cX0_drawBelow 1 = .ok (.ldc2_w 13, 3) := by decide +kernel
theorem dX0_drawBelow_4 : decode cX0_drawBelow 4 = .ok (.aload_n 0, 1) := by decide +kernel
theorem dX0_drawBelow_5 : decode cX0_drawBelow 5 = .ok (.getfield 7, 3) := by decide +kernel
theorem dX0_drawBelow_8 : decode cX0_drawBelow 8 = .ok (.lmul, 1) := by decide +kernel
theorem dX0_drawBelow_9 : decode cX0_drawBelow 9 = .ok (.ldc2_w 15, 3) := by decide +kernel
theorem dX0_drawBelow_12 : decode cX0_drawBelow 12 = .ok (.ladd, 1) := by decide +kernel
theorem dX0_drawBelow_13 : decode cX0_drawBelow 13 = .ok (.ldc2_w 17, 3) := by decide +kernel
theorem dX0_drawBelow_16 : decode cX0_drawBelow 16 = .ok (.lrem, 1) := by decide +kernel
theorem dX0_drawBelow_17 : decode cX0_drawBelow 17 = .ok (.putfield 7, 3) := by decide +kernel
theorem dX0_drawBelow_20 : decode cX0_drawBelow 20 = .ok (.iload_n 1, 1) := by decide +kernel
theorem dX0_drawBelow_21 : decode cX0_drawBelow 21 = .ok (.iconst 1, 1) := by decide +kernel
theorem dX0_drawBelow_22 : decode cX0_drawBelow 22 = .ok (.if_icmp .ge 7, 3) := by decide +kernel
theorem dX0_drawBelow_25 : decode cX0_drawBelow 25 = .ok (.iconst 0, 1) := by decide +kernel
theorem dX0_drawBelow_26 : decode cX0_drawBelow 26 = .ok (.goto 15, 3) := by decide +kernel
theorem dX0_drawBelow_29 : decode cX0_drawBelow 29 = .ok (.aload_n 0, 1) := by decide +kernel
theorem dX0_drawBelow_30 : decode cX0_drawBelow 30 = .ok (.getfield 7, 3) := by decide +kernel
theorem dX0_drawBelow_33 : decode cX0_drawBelow 33 = .ok (.ldc2_w 19, 3) := by decide +kernel
theorem dX0_drawBelow_36 : decode cX0_drawBelow 36 = .ok (.ldiv, 1) := by decide +kernel
theorem dX0_drawBelow_37 : decode cX0_drawBelow 37 = .ok (.iload_n 1, 1) := by decide +kernel
theorem dX0_drawBelow_38 : decode cX0_drawBelow 38 = .ok (.i2l, 1) := by decide +kernel
theorem dX0_drawBelow_39 : decode cX0_drawBelow 39 = .ok (.lrem, 1) := by decide +kernel
theorem dX0_drawBelow_40 : decode cX0_drawBelow 40 = .ok (.l2i, 1) := by decide +kernel
theorem dX0_drawBelow_41 : decode cX0_drawBelow 41 = .ok (.ireturn, 1) := by decide +kernel
