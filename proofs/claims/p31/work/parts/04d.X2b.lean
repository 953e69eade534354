theorem dX2_upTicks_56 : decode cX2_upTicks 56 = .ok (.istore_n 3, 1) := by decide +kernel
theorem dX2_upTicks_57 : decode cX2_upTicks 57 = .ok (.iload 6, 2) := by decide +kernel
theorem dX2_upTicks_59 : decode cX2_upTicks 59 = .ok (.istore 4, 2) := by decide +kernel
theorem dX2_upTicks_61 : decode cX2_upTicks 61 = .ok (.iinc 5 1, 3) := by decide +kernel
theorem dX2_upTicks_64 : decode cX2_upTicks 64 = .ok (.goto (-56), 3) := by decide +kernel
theorem dX2_upTicks_67 : decode cX2_upTicks 67 = .ok (.iload_n 3, 1) := by decide +kernel
theorem dX2_upTicks_68 : decode cX2_upTicks 68 = .ok (.ireturn, 1) := by decide +kernel
