theorem dX2_upTicks_36 : decode cX2_upTicks 36 = .ok (.istore 6, 2) := by decide +kernel
theorem dX2_upTicks_38 : decode cX2_upTicks 38 = .ok (.aload_n 0, 1) := by decide +kernel
theorem dX2_upTicks_39 : decode cX2_upTicks 39 = .ok (.getfield 19, 3) := by decide +kernel
theorem dX2_upTicks_42 : decode cX2_upTicks 42 = .ok (.iload_n 1, 1) := by decide +kernel
theorem dX2_upTicks_43 : decode cX2_upTicks 43 = .ok (.invokevirtual 61, 3) := by decide +kernel
theorem dX2_upTicks_46 : decode cX2_upTicks 46 = .ok (.ifCond .ne 11, 3) := by decide +kernel
theorem dX2_upTicks_49 : decode cX2_upTicks 49 = .ok (.iload_n 3, 1) := by decide +kernel
theorem dX2_upTicks_50 : decode cX2_upTicks 50 = .ok (.iload 6, 2) := by decide +kernel
theorem dX2_upTicks_52 : decode cX2_upTicks 52 = .ok (.iload 4, 2) := by decide +kernel
theorem dX2_upTicks_54 : decode cX2_upTicks 54 = .ok (.isub, 1) := by decide +kernel
theorem dX2_upTicks_55 : decode cX2_upTicks 55 = .ok (.iadd, 1) := by decide +kernel
theorem dX2_upTicks_56 : decode cX2_upTicks 56 = .ok (.istore_n 3, 1) := by decide +kernel
theorem dX2_upTicks_57 : decode cX2_upTicks 57 = .ok (.iload 6, 2) := by decide +kernel
theorem dX2_upTicks_59 : decode cX2_upTicks 59 = .ok (.istore 4, 2) := by decide +kernel
theorem dX2_upTicks_61 : decode cX2_upTicks 61 = .ok (.iinc 5 1, 3) := by decide +kernel
theorem dX2_upTicks_64 : decode cX2_upTicks 64 = .ok (.goto (-56), 3) := by decide +kernel
theorem dX2_upTicks_67 : decode cX2_upTicks 67 = .ok (.iload_n 3, 1) := by decide +kernel
theorem dX2_upTicks_68 : decode cX2_upTicks 68 = .ok (.ireturn, 1) := by decide +kernel
set_option maxRecDepth 20000 in
theorem ggX2_mixInto_X2_bottlesOut : GoodIn wsX2_mixInto wsX2_bottlesOut := goodIn_r _ [9, 3, 4, 10, 11, 12, 13] (by decide +kernel) (by decide +kernel)
set_option maxRecDepth 20000 in
theorem gX2_mixInto_X2_bottlesOut : GoodIn wsX2_mixInto (wsV RX2 94 RX2 yX2_bottlesOut wsX2_bottlesOut) := goodIn_app (goodIn_of _ (by decide +kernel)) ggX2_mixInto_X2_bottlesOut
theorem dX2_mixInto_0 : decode cX2_mixInto 0 = .ok (.ldc2_w 92, 3) := by decide +kernel
theorem dX2_mixInto_3 : decode cX2_mixInto 3 = .ok (.lload_n 1, 1) := by decide +kernel
theorem dX2_mixInto_4 : decode cX2_mixInto 4 = .ok (.lmul, 1) := by decide +kernel
theorem dX2_mixInto_5 : decode cX2_mixInto 5 = .ok (.aload_n 0, 1) := by decide +kernel
theorem dX2_mixInto_6 : decode cX2_mixInto 6 = .ok (.getfield 37, 3) := by decide +kernel
theorem dX2_mixInto_9 : decode cX2_mixInto 9 = .ok (.i2l, 1) := by decide +kernel
theorem dX2_mixInto_10 : decode cX2_mixInto 10 = .ok (.ladd, 1) := by decide +kernel
theorem dX2_mixInto_11 : decode cX2_mixInto 11 = .ok (.lstore_n 3, 1) := by decide +kernel
theorem dX2_mixInto_12 : decode cX2_mixInto 12 = .ok (.ldc2_w 92, 3) := by decide +kernel
theorem dX2_mixInto_15 : decode cX2_mixInto 15 = .ok (.lload_n 3, 1) := by decide +kernel
theorem dX2_mixInto_16 : decode cX2_mixInto 16 = .ok (.lmul, 1) := by decide +kernel
theorem dX2_mixInto_17 : decode cX2_mixInto 17 = .ok (.aload_n 0, 1) := by decide +kernel
theorem dX2_mixInto_18 : decode cX2_mixInto 18 = .ok (.invokevirtual 94, 3) := by decide +kernel
theorem dX2_mixInto_21 : decode cX2_mixInto 21 = .ok (.i2l, 1) := by decide +kernel
theorem dX2_mixInto_22 : decode cX2_mixInto 22 = .ok (.ladd, 1) := by decide +kernel
theorem dX2_mixInto_23 : decode cX2_mixInto 23 = .ok (.lstore_n 3, 1) := by decide +kernel
theorem dX2_mixInto_24 : decode cX2_mixInto 24 = .ok (.ldc2_w 92, 3) := by decide +kernel
theorem dX2_mixInto_27 : decode cX2_mixInto 27 = .ok (.lload_n 3, 1) := by decide +kernel
theorem dX2_mixInto_28 : decode cX2_mixInto 28 = .ok (.lmul, 1) := by decide +kernel
theorem dX2_mixInto_29 : decode cX2_mixInto 29 = .ok (.aload_n 0, 1) := by decide +kernel
theorem dX2_mixInto_30 : decode cX2_mixInto 30 = .ok (.getfield 23, 3) := by decide +kernel
theorem dX2_mixInto_33 : decode cX2_mixInto 33 = .ok (.i2l, 1) := by decide +kernel
theorem dX2_mixInto_34 : decode cX2_mixInto 34 = .ok (.ladd, 1) := by decide +kernel
theorem dX2_mixInto_35 : decode cX2_mixInto 35 = .ok (.lstore_n 3, 1) := by decide +kernel
theorem dX2_mixInto_36 : decode cX2_mixInto 36 = .ok (.iconst 0, 1) := by decide +kernel
theorem dX2_mixInto_37 : decode cX2_mixInto 37 = .ok (.istore 5, 2) := by decide +kernel
theorem dX2_mixInto_39 : decode cX2_mixInto 39 = .ok (.iload 5, 2) := by decide +kernel
theorem dX2_mixInto_41 : decode cX2_mixInto 41 = .ok (.aload_n 0, 1) := by decide +kernel
theorem dX2_mixInto_42 : decode cX2_mixInto 42 = .ok (.getfield 23, 3) := by decide +kernel
theorem dX2_mixInto_45 : decode cX2_mixInto 45 = .ok (.if_icmp .ge 43, 3) := by decide +kernel
theorem dX2_mixInto_48 : decode cX2_mixInto 48 = .ok (.iconst 0, 1) := by decide +kernel
theorem dX2_mixInto_49 : decode cX2_mixInto 49 = .ok (.istore 6, 2) := by decide +kernel
theorem dX2_mixInto_51 : decode cX2_mixInto 51 = .ok (.iload 6, 2) := by decide +kernel
theorem dX2_mixInto_53 : decode cX2_mixInto 53 = .ok (.bipush 15, 2) := by decide +kernel
theorem dX2_mixInto_55 : decode cX2_mixInto 55 = .ok (.if_icmp .ge 27, 3) := by decide +kernel
theorem dX2_mixInto_58 : decode cX2_mixInto 58 = .ok (.ldc2_w 92, 3) := by decide +kernel
theorem dX2_mixInto_61 : decode cX2_mixInto 61 = .ok (.lload_n 3, 1) := by decide +kernel
theorem dX2_mixInto_62 : decode cX2_mixInto 62 = .ok (.lmul, 1) := by decide +kernel
theorem dX2_mixInto_63 : decode cX2_mixInto 63 = .ok (.aload_n 0, 1) := by decide +kernel
theorem dX2_mixInto_64 : decode cX2_mixInto 64 = .ok (.getfield 11, 3) := by decide +kernel
theorem dX2_mixInto_67 : decode cX2_mixInto 67 = .ok (.iload 5, 2) := by decide +kernel
theorem dX2_mixInto_69 : decode cX2_mixInto 69 = .ok (.aaload, 1) := by decide +kernel
theorem dX2_mixInto_70 : decode cX2_mixInto 70 = .ok (.iload 6, 2) := by decide +kernel
theorem dX2_mixInto_72 : decode cX2_mixInto 72 = .ok (.iaload, 1) := by decide +kernel
theorem dX2_mixInto_73 : decode cX2_mixInto 73 = .ok (.i2l, 1) := by decide +kernel
theorem dX2_mixInto_74 : decode cX2_mixInto 74 = .ok (.ladd, 1) := by decide +kernel
theorem dX2_mixInto_75 : decode cX2_mixInto 75 = .ok (.lstore_n 3, 1) := by decide +kernel
theorem dX2_mixInto_76 : decode cX2_mixInto 76 = .ok (.iinc 6 1, 3) := by decide +kernel
theorem dX2_mixInto_79 : decode cX2_mixInto 79 = .ok (.goto (-28), 3) := by decide +kernel
theorem dX2_mixInto_82 : decode cX2_mixInto 82 = .ok (.iinc 5 1, 3) := by decide +kernel
theorem dX2_mixInto_85 : decode cX2_mixInto 85 = .ok (.goto (-46), 3) := by decide +kernel
theorem dX2_mixInto_88 : decode cX2_mixInto 88 = .ok (.lload_n 3, 1) := by decide +kernel
theorem dX2_mixInto_89 : decode cX2_mixInto 89 = .ok (.lreturn, 1) := by decide +kernel
