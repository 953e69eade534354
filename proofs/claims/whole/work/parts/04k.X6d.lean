theorem dX6_limiting_7 : decode cX6_limiting 7 = .ok (.ifCond .ne 7, 3) := by decide +kernel
theorem dX6_limiting_10 : decode cX6_limiting 10 = .ok (.iconst 1, 1) := by decide +kernel
theorem dX6_limiting_11 : decode cX6_limiting 11 = .ok (.goto 4, 3) := by decide +kernel
theorem dX6_limiting_14 : decode cX6_limiting 14 = .ok (.iconst 0, 1) := by decide +kernel
theorem dX6_limiting_15 : decode cX6_limiting 15 = .ok (.invokevirtual 36, 3) := by decide +kernel
theorem dX6_limiting_18 : decode cX6_limiting 18 = .ok (.ifCond .eq 5, 3) := by decide +kernel
theorem dX6_limiting_21 : decode cX6_limiting 21 = .ok (.iconst 0, 1) := by decide +kernel
theorem dX6_limiting_22 : decode cX6_limiting 22 = .ok (.ireturn, 1) := by decide +kernel
theorem dX6_limiting_23 : decode cX6_limiting 23 = .ok (.iconst 0, 1) := by decide +kernel
theorem dX6_limiting_24 : decode cX6_limiting 24 = .ok (.istore_n 1, 1) := by decide +kernel
theorem dX6_limiting_25 : decode cX6_limiting 25 = .ok (.iconst 1, 1) := by decide +kernel
theorem dX6_limiting_26 : decode cX6_limiting 26 = .ok (.istore_n 2, 1) := by decide +kernel
theorem dX6_limiting_27 : decode cX6_limiting 27 = .ok (.iload_n 2, 1) := by decide +kernel
theorem dX6_limiting_28 : decode cX6_limiting 28 = .ok (.aload_n 0, 1) := by decide +kernel
theorem dX6_limiting_29 : decode cX6_limiting 29 = .ok (.getfield 7, 3) := by decide +kernel
theorem dX6_limiting_32 : decode cX6_limiting 32 = .ok (.iconst 0, 1) := by decide +kernel
theorem dX6_limiting_33 : decode cX6_limiting 33 = .ok (.iaload, 1) := by decide +kernel
theorem dX6_limiting_34 : decode cX6_limiting 34 = .ok (.if_icmp .ge 28, 3) := by decide +kernel
theorem dX6_limiting_37 : decode cX6_limiting 37 = .ok (.aload_n 0, 1) := by decide +kernel
theorem dX6_limiting_38 : decode cX6_limiting 38 = .ok (.iload_n 2, 1) := by decide +kernel
theorem dX6_limiting_39 : decode cX6_limiting 39 = .ok (.invokevirtual 135, 3) := by decide +kernel
theorem dX6_limiting_42 : decode cX6_limiting 42 = .ok (.aload_n 0, 1) := by decide +kernel
theorem dX6_limiting_43 : decode cX6_limiting 43 = .ok (.iload_n 1, 1) := by decide +kernel
theorem dX6_limiting_44 : decode cX6_limiting 44 = .ok (.invokevirtual 135, 3) := by decide +kernel
theorem dX6_limiting_47 : decode cX6_limiting 47 = .ok (.if_icmp .ge 7, 3) := by decide +kernel
theorem dX6_limiting_50 : decode cX6_limiting 50 = .ok (.iload_n 2, 1) := by decide +kernel
theorem dX6_limiting_51 : decode cX6_limiting 51 = .ok (.goto 4, 3) := by decide +kernel
theorem dX6_limiting_54 : decode cX6_limiting 54 = .ok (.iload_n 1, 1) := by decide +kernel
theorem dX6_limiting_55 : decode cX6_limiting 55 = .ok (.istore_n 1, 1) := by decide +kernel
theorem dX6_limiting_56 : decode cX6_limiting 56 = .ok (.iinc 2 1, 3) := by decide +kernel
theorem dX6_limiting_59 : decode cX6_limiting 59 = .ok (.goto (-32), 3) := by decide +kernel
theorem dX6_limiting_62 : decode cX6_limiting 62 = .ok (.iload_n 1, 1) := by decide +kernel
theorem dX6_limiting_63 : decode cX6_limiting 63 = .ok (.ireturn, 1) := by decide +kernel
set_option maxRecDepth 20000 in
theorem ggX6_madeWith_X6_keeps : GoodIn wsX6_madeWith wsX6_keeps := goodIn_r _ [6, 7, 1, 60, 61, 62, 63, 64, 65, 66, 67, 68, 69, 70, 71] (by decide +kernel) (by decide +kernel)
set_option maxRecDepth 20000 in
theorem gX6_madeWith_X6_keeps : GoodIn wsX6_madeWith (wsV RX6 138 RX6 yX6_keeps wsX6_keeps) := goodIn_app (goodIn_of _ (by decide +kernel)) ggX6_madeWith_X6_keeps
set_option maxRecDepth 20000 in
theorem ggX6_madeWith_X6_of : GoodIn wsX6_madeWith wsX6_of := goodIn_r _ [10] (by decide +kernel) (by decide +kernel)
set_option maxRecDepth 20000 in
theorem gX6_madeWith_X6_of : GoodIn wsX6_madeWith (va_wsS RX6 40 yX6_of wsX6_of) := goodIn_app (goodIn_of _ (by decide +kernel)) ggX6_madeWith_X6_of
set_option maxRecDepth 20000 in
theorem ggX6_madeWith_X6_empties : GoodIn wsX6_madeWith wsX6_empties := goodIn_r _ [14, 1, 8, 9, 5, 10, 60, 61, 62, 63, 64, 65, 66, 67, 68, 69, 70, 71] (by decide +kernel) (by decide +kernel)
set_option maxRecDepth 20000 in
theorem gX6_madeWith_X6_empties : GoodIn wsX6_madeWith (wsV RX6 117 RX6 yX6_empties wsX6_empties) := goodIn_app (goodIn_of _ (by decide +kernel)) ggX6_madeWith_X6_empties
set_option maxRecDepth 20000 in
theorem ggX6_madeWith_X6_goes : GoodIn wsX6_madeWith wsX6_goes := goodIn_r _ [18, 1, 19, 20, 21, 5, 22, 8, 9, 10, 23, 24, 25, 26, 27, 28, 29, 30, 31, 32, 33, 34, 35, 36, 37, 38, 39, 40, 41, 42, 43, 44, 45, 46, 47, 48, 49, 50, 51, 52, 53, 54, 55, 60, 61, 62, 63, 64, 65, 66, 67, 68, 69, 70, 71] (by decide +kernel) (by decide +kernel)
set_option maxRecDepth 20000 in
theorem gX6_madeWith_X6_goes : GoodIn wsX6_madeWith (wsV RX6 114 RX6 yX6_goes wsX6_goes) := goodIn_app (goodIn_of _ (by decide +kernel)) ggX6_madeWith_X6_goes
set_option maxRecDepth 20000 in
theorem ggX6_madeWith_X6_takesBack : GoodIn wsX6_madeWith wsX6_takesBack := goodIn_r _ [59, 1, 7, 60, 61, 62, 63, 64, 65, 66, 67, 68, 69, 70, 71] (by decide +kernel) (by decide +kernel)
set_option maxRecDepth 20000 in
theorem gX6_madeWith_X6_takesBack : GoodIn wsX6_madeWith (wsV RX6 141 RX6 yX6_takesBack wsX6_takesBack) := goodIn_app (goodIn_of _ (by decide +kernel)) ggX6_madeWith_X6_takesBack
theorem dX6_madeWith_0 : decode cX6_madeWith 0 = .ok (.aload_n 0, 1) := by decide +kernel
theorem dX6_madeWith_1 : decode cX6_madeWith 1 = .ok (.invokevirtual 138, 3) := by decide +kernel
theorem dX6_madeWith_4 : decode cX6_madeWith 4 = .ok (.aload_n 0, 1) := by decide +kernel
theorem dX6_madeWith_5 : decode cX6_madeWith 5 = .ok (.getfield 7, 3) := by decide +kernel
theorem dX6_madeWith_8 : decode cX6_madeWith 8 = .ok (.iload_n 1, 1) := by decide +kernel
theorem dX6_madeWith_9 : decode cX6_madeWith 9 = .ok (.invokestatic 40, 3) := by decide +kernel
theorem dX6_madeWith_12 : decode cX6_madeWith 12 = .ok (.iconst 4, 1) := by decide +kernel
theorem dX6_madeWith_13 : decode cX6_madeWith 13 = .ok (.iadd, 1) := by decide +kernel
theorem dX6_madeWith_14 : decode cX6_madeWith 14 = .ok (.iload_n 2, 1) := by decide +kernel
theorem dX6_madeWith_15 : decode cX6_madeWith 15 = .ok (.iastore, 1) := by decide +kernel
theorem dX6_madeWith_16 : decode cX6_madeWith 16 = .ok (.aload_n 0, 1) := by decide +kernel
theorem dX6_madeWith_17 : decode cX6_madeWith 17 = .ok (.invokevirtual 117, 3) := by decide +kernel
theorem dX6_madeWith_20 : decode cX6_madeWith 20 = .ok (.aload_n 0, 1) := by decide +kernel
theorem dX6_madeWith_21 : decode cX6_madeWith 21 = .ok (.iload_n 3, 1) := by decide +kernel
theorem dX6_madeWith_22 : decode cX6_madeWith 22 = .ok (.invokevirtual 114, 3) := by decide +kernel
theorem dX6_madeWith_25 : decode cX6_madeWith 25 = .ok (.istore 4, 2) := by decide +kernel
theorem dX6_madeWith_27 : decode cX6_madeWith 27 = .ok (.aload_n 0, 1) := by decide +kernel
theorem dX6_madeWith_28 : decode cX6_madeWith 28 = .ok (.invokevirtual 141, 3) := by decide +kernel
theorem dX6_madeWith_31 : decode cX6_madeWith 31 = .ok (.iload 4, 2) := by decide +kernel
theorem dX6_madeWith_33 : decode cX6_madeWith 33 = .ok (.ireturn, 1) := by decide +kernel
set_option maxRecDepth 20000 in
theorem ggX6_areTicks_X6_within : GoodIn wsX6_areTicks wsX6_within := goodIn_r _ [4] (by decide +kernel) (by decide +kernel)
set_option maxRecDepth 20000 in
theorem gX6_areTicks_X6_within : GoodIn wsX6_areTicks (va_wsS RX6 29 yX6_within wsX6_within) := goodIn_app (goodIn_of _ (by decide +kernel)) ggX6_areTicks_X6_within
theorem dX6_areTicks_0 : decode cX6_areTicks 0 = .ok (.iload_n 0, 1) := by decide +kernel
theorem dX6_areTicks_1 : decode cX6_areTicks 1 = .ok (.iconst 1, 1) := by decide +kernel
theorem dX6_areTicks_2 : decode cX6_areTicks 2 = .ok (.sipush 2000, 3) := by decide +kernel
theorem dX6_areTicks_5 : decode cX6_areTicks 5 = .ok (.invokestatic 29, 3) := by decide +kernel
theorem dX6_areTicks_8 : decode cX6_areTicks 8 = .ok (.ireturn, 1) := by decide +kernel
set_option maxRecDepth 20000 in
theorem ggX6_outputWith_X6_isMachine : GoodIn wsX6_outputWith wsX6_isMachine := goodIn_r _ [5, 6, 7, 8, 4, 9, 82, 83, 84, 85, 86, 87, 88, 89, 90, 91, 92, 93] (by decide +kernel) (by decide +kernel)
set_option maxRecDepth 20000 in
theorem gX6_outputWith_X6_isMachine : GoodIn wsX6_outputWith (wsV RX6 58 RX6 yX6_isMachine wsX6_isMachine) := goodIn_app (goodIn_of _ (by decide +kernel)) ggX6_outputWith_X6_isMachine
set_option maxRecDepth 20000 in
theorem ggX6_outputWith_X6_isCapacity : GoodIn wsX6_outputWith wsX6_isCapacity := goodIn_r _ [12, 7, 8, 4, 9] (by decide +kernel) (by decide +kernel)
set_option maxRecDepth 20000 in
theorem gX6_outputWith_X6_isCapacity : GoodIn wsX6_outputWith (va_wsS RX6 48 yX6_isCapacity wsX6_isCapacity) := goodIn_app (goodIn_of _ (by decide +kernel)) ggX6_outputWith_X6_isCapacity
set_option maxRecDepth 20000 in
theorem ggX6_outputWith_X6_areTicks : GoodIn wsX6_outputWith wsX6_areTicks := goodIn_r _ [15, 7, 8, 4, 9] (by decide +kernel) (by decide +kernel)
set_option maxRecDepth 20000 in
theorem gX6_outputWith_X6_areTicks : GoodIn wsX6_outputWith (va_wsS RX6 144 yX6_areTicks wsX6_areTicks) := goodIn_app (goodIn_of _ (by decide +kernel)) ggX6_outputWith_X6_areTicks
set_option maxRecDepth 20000 in
theorem ggX6_outputWith_X6_refused : GoodIn wsX6_outputWith wsX6_refused := goodIn_r _ [19, 20, 82, 83, 84, 85, 86, 87, 88, 89, 90, 91, 92, 93] (by decide +kernel) (by decide +kernel)
set_option maxRecDepth 20000 in
theorem gX6_outputWith_X6_refused : GoodIn wsX6_outputWith (wsV RX6 36 RX6 yX6_refused wsX6_refused) := goodIn_app (goodIn_of _ (by decide +kernel)) ggX6_outputWith_X6_refused
set_option maxRecDepth 20000 in
theorem ggX6_outputWith_X6_madeWith : GoodIn wsX6_outputWith wsX6_madeWith := goodIn_r _ [24, 6, 25, 26, 27, 4, 28, 29, 30, 31, 32, 33, 34, 35, 36, 37, 38, 39, 40, 41, 42, 43, 44, 45, 46, 47, 48, 49, 50, 51, 52, 53, 54, 55, 56, 57, 58, 59, 60, 61, 62, 63, 64, 65, 66, 67, 68, 69, 70, 71, 72, 73, 74, 75, 76, 77, 78, 79, 80, 81, 82, 83, 84, 85, 86, 87, 88, 89, 90, 91, 92, 93] (by decide +kernel) (by decide +kernel)
set_option maxRecDepth 20000 in
theorem gX6_outputWith_X6_madeWith : GoodIn wsX6_outputWith (wsV RX6 147 RX6 yX6_madeWith wsX6_madeWith) := goodIn_app (goodIn_of _ (by decide +kernel)) ggX6_outputWith_X6_madeWith
theorem dX6_outputWith_0 : decode cX6_outputWith 0 = .ok (.aload_n 0, 1) := by decide +kernel
theorem dX6_outputWith_1 : decode cX6_outputWith 1 = .ok (.aload_n 0, 1) := by decide +kernel
theorem dX6_outputWith_2 : decode cX6_outputWith 2 = .ok (.iload_n 1, 1) := by decide +kernel
theorem dX6_outputWith_3 : decode cX6_outputWith 3 = .ok (.invokevirtual 58, 3) := by decide +kernel
theorem dX6_outputWith_6 : decode cX6_outputWith 6 = .ok (.ifCond .ne 7, 3) := by decide +kernel
theorem dX6_outputWith_9 : decode cX6_outputWith 9 = .ok (.iconst 1, 1) := by decide +kernel
theorem dX6_outputWith_10 : decode cX6_outputWith 10 = .ok (.goto 22, 3) := by decide +kernel
theorem dX6_outputWith_13 : decode cX6_outputWith 13 = .ok (.iload_n 2, 1) := by decide +kernel
theorem dX6_outputWith_14 : decode cX6_outputWith 14 = .ok (.invokestatic 48, 3) := by decide +kernel
theorem dX6_outputWith_17 : decode cX6_outputWith 17 = .ok (.ifCond .eq 14, 3) := by decide +kernel
theorem dX6_outputWith_20 : decode cX6_outputWith 20 = .ok (.iload_n 3, 1) := by decide +kernel
theorem dX6_outputWith_21 : decode cX6_outputWith 21 = .ok (.invokestatic 144, 3) := by decide +kernel
theorem dX6_outputWith_24 : decode cX6_outputWith 24 = .ok (.ifCond .eq 7, 3) := by decide +kernel
theorem dX6_outputWith_27 : decode cX6_outputWith 27 = .ok (.iconst 0, 1) := by decide +kernel
theorem dX6_outputWith_28 : decode cX6_outputWith 28 = .ok (.goto 4, 3) := by decide +kernel
theorem dX6_outputWith_31 : decode cX6_outputWith 31 = .ok (.iconst 2, 1) := by decide +kernel
theorem dX6_outputWith_32 : decode cX6_outputWith 32 = .ok (.invokevirtual 36, 3) := by decide +kernel
theorem dX6_outputWith_35 : decode cX6_outputWith 35 = .ok (.ifCond .eq 5, 3) := by decide +kernel
theorem dX6_outputWith_38 : decode cX6_outputWith 38 = .ok (.iconst 0, 1) := by decide +kernel
theorem dX6_outputWith_39 : decode cX6_outputWith 39 = .ok (.ireturn, 1) := by decide +kernel
theorem dX6_outputWith_40 : decode cX6_outputWith 40 = .ok (.aload_n 0, 1) := by decide +kernel
theorem dX6_outputWith_41 : decode cX6_outputWith 41 = .ok (.iload_n 1, 1) := by decide +kernel
theorem dX6_outputWith_42 : decode cX6_outputWith 42 = .ok (.iload_n 2, 1) := by decide +kernel
theorem dX6_outputWith_43 : decode cX6_outputWith 43 = .ok (.iload_n 3, 1) := by decide +kernel
theorem dX6_outputWith_44 : decode cX6_outputWith 44 = .ok (.invokevirtual 147, 3) := by decide +kernel
theorem dX6_outputWith_47 : decode cX6_outputWith 47 = .ok (.ireturn, 1) := by decide +kernel
set_option maxRecDepth 20000 in
theorem ggX6_capacityFor_X6_isMachine : GoodIn wsX6_capacityFor wsX6_isMachine := goodIn_r _ [5, 6, 7, 8, 4, 9, 79, 80, 81, 82, 83, 84, 85, 86, 87, 88, 89, 90] (by decide +kernel) (by decide +kernel)
set_option maxRecDepth 20000 in
theorem gX6_capacityFor_X6_isMachine : GoodIn wsX6_capacityFor (wsV RX6 58 RX6 yX6_isMachine wsX6_isMachine) := goodIn_app (goodIn_of _ (by decide +kernel)) ggX6_capacityFor_X6_isMachine
set_option maxRecDepth 20000 in
theorem ggX6_capacityFor_X6_areTicks : GoodIn wsX6_capacityFor wsX6_areTicks := goodIn_r _ [12, 7, 8, 4, 9] (by decide +kernel) (by decide +kernel)
set_option maxRecDepth 20000 in
theorem gX6_capacityFor_X6_areTicks : GoodIn wsX6_capacityFor (va_wsS RX6 144 yX6_areTicks wsX6_areTicks) := goodIn_app (goodIn_of _ (by decide +kernel)) ggX6_capacityFor_X6_areTicks
set_option maxRecDepth 20000 in
theorem ggX6_capacityFor_X6_within : GoodIn wsX6_capacityFor wsX6_within := goodIn_r _ [9] (by decide +kernel) (by decide +kernel)
set_option maxRecDepth 20000 in
theorem gX6_capacityFor_X6_within : GoodIn wsX6_capacityFor (va_wsS RX6 29 yX6_within wsX6_within) := goodIn_app (goodIn_of _ (by decide +kernel)) ggX6_capacityFor_X6_within
set_option maxRecDepth 20000 in
theorem ggX6_capacityFor_X6_refused : GoodIn wsX6_capacityFor wsX6_refused := goodIn_r _ [16, 17, 79, 80, 81, 82, 83, 84, 85, 86, 87, 88, 89, 90] (by decide +kernel) (by decide +kernel)
set_option maxRecDepth 20000 in
theorem gX6_capacityFor_X6_refused : GoodIn wsX6_capacityFor (wsV RX6 36 RX6 yX6_refused wsX6_refused) := goodIn_app (goodIn_of _ (by decide +kernel)) ggX6_capacityFor_X6_refused
set_option maxRecDepth 20000 in
theorem ggX6_capacityFor_X6_madeWith : GoodIn wsX6_capacityFor wsX6_madeWith := goodIn_r _ [21, 6, 22, 23, 24, 4, 25, 26, 27, 28, 29, 30, 31, 32, 33, 34, 35, 36, 37, 38, 39, 40, 41, 42, 43, 44, 45, 46, 47, 48, 49, 50, 51, 52, 53, 54, 55, 56, 57, 58, 59, 60, 61, 62, 63, 64, 65, 66, 67, 68, 69, 70, 71, 72, 73, 74, 75, 76, 77, 78, 79, 80, 81, 82, 83, 84, 85, 86, 87, 88, 89, 90] (by decide +kernel) (by decide +kernel)
set_option maxRecDepth 20000 in
theorem gX6_capacityFor_X6_madeWith : GoodIn wsX6_capacityFor (wsV RX6 147 RX6 yX6_madeWith wsX6_madeWith) := goodIn_app (goodIn_of _ (by decide +kernel)) ggX6_capacityFor_X6_madeWith
theorem dX6_capacityFor_0 : decode cX6_capacityFor 0 = .ok (.aload_n 0, 1) := by decide +kernel
theorem dX6_capacityFor_1 : decode cX6_capacityFor 1 = .ok (.aload_n 0, 1) := by decide +kernel
theorem dX6_capacityFor_2 : decode cX6_capacityFor 2 = .ok (.iload_n 1, 1) := by decide +kernel
theorem dX6_capacityFor_3 : decode cX6_capacityFor 3 = .ok (.invokevirtual 58, 3) := by decide +kernel
theorem dX6_capacityFor_6 : decode cX6_capacityFor 6 = .ok (.ifCond .ne 7, 3) := by decide +kernel
theorem dX6_capacityFor_9 : decode cX6_capacityFor 9 = .ok (.iconst 1, 1) := by decide +kernel
theorem dX6_capacityFor_10 : decode cX6_capacityFor 10 = .ok (.goto 26, 3) := by decide +kernel
theorem dX6_capacityFor_13 : decode cX6_capacityFor 13 = .ok (.iload_n 2, 1) := by decide +kernel
theorem dX6_capacityFor_14 : decode cX6_capacityFor 14 = .ok (.invokestatic 144, 3) := by decide +kernel
theorem dX6_capacityFor_17 : decode cX6_capacityFor 17 = .ok (.ifCond .eq 18, 3) := by decide +kernel
theorem dX6_capacityFor_20 : decode cX6_capacityFor 20 = .ok (.iload_n 3, 1) := by decide +kernel
theorem dX6_capacityFor_21 : decode cX6_capacityFor 21 = .ok (.iconst 0, 1) := by decide +kernel
theorem dX6_capacityFor_22 : decode cX6_capacityFor 22 = .ok (.sipush 2000, 3) := by decide +kernel
theorem dX6_capacityFor_25 : decode cX6_capacityFor 25 = .ok (.invokestatic 29, 3) := by decide +kernel
theorem dX6_capacityFor_28 : decode cX6_capacityFor 28 = .ok (.ifCond .eq 7, 3) := by decide +kernel
theorem dX6_capacityFor_31 : decode cX6_capacityFor 31 = .ok (.iconst 0, 1) := by decide +kernel
theorem dX6_capacityFor_32 : decode cX6_capacityFor 32 = .ok (.goto 4, 3) := by decide +kernel
theorem dX6_capacityFor_35 : decode cX6_capacityFor 35 = .ok (.iconst 2, 1) := by decide +kernel
theorem dX6_capacityFor_36 : decode cX6_capacityFor 36 = .ok (.invokevirtual 36, 3) := by decide +kernel
theorem dX6_capacityFor_39 : decode cX6_capacityFor 39 = .ok (.ifCond .eq 5, 3) := by decide +kernel
theorem dX6_capacityFor_42 : decode cX6_capacityFor 42 = .ok (.iconst 0, 1) := by decide +kernel
theorem dX6_capacityFor_43 : decode cX6_capacityFor 43 = .ok (.ireturn, 1) := by decide +kernel
theorem dX6_capacityFor_44 : decode cX6_capacityFor 44 = .ok (.iconst 0, 1) := by decide +kernel
theorem dX6_capacityFor_45 : decode cX6_capacityFor 45 = .ok (.istore 4, 2) := by decide +kernel
theorem dX6_capacityFor_47 : decode cX6_capacityFor 47 = .ok (.iload 4, 2) := by decide +kernel
theorem dX6_capacityFor_49 : decode cX6_capacityFor 49 = .ok (.bipush 40, 2) := by decide +kernel
theorem dX6_capacityFor_51 : decode cX6_capacityFor 51 = .ok (.if_icmp .gt 24, 3) := by decide +kernel
theorem dX6_capacityFor_54 : decode cX6_capacityFor 54 = .ok (.aload_n 0, 1) := by decide +kernel
theorem dX6_capacityFor_55 : decode cX6_capacityFor 55 = .ok (.iload_n 1, 1) := by decide +kernel
theorem dX6_capacityFor_56 : decode cX6_capacityFor 56 = .ok (.iload 4, 2) := by decide +kernel
theorem dX6_capacityFor_58 : decode cX6_capacityFor 58 = .ok (.iload_n 2, 1) := by decide +kernel
theorem dX6_capacityFor_59 : decode cX6_capacityFor 59 = .ok (.invokevirtual 147, 3) := by decide +kernel
theorem dX6_capacityFor_62 : decode cX6_capacityFor 62 = .ok (.iload_n 3, 1) := by decide +kernel
theorem dX6_capacityFor_63 : decode cX6_capacityFor 63 = .ok (.if_icmp .lt 6, 3) := by decide +kernel
theorem dX6_capacityFor_66 : decode cX6_capacityFor 66 = .ok (.iload 4, 2) := by decide +kernel
theorem dX6_capacityFor_68 : decode cX6_capacityFor 68 = .ok (.ireturn, 1) := by decide +kernel
theorem dX6_capacityFor_69 : decode cX6_capacityFor 69 = .ok (.iinc 4 1, 3) := by decide +kernel
theorem dX6_capacityFor_72 : decode cX6_capacityFor 72 = .ok (.goto (-25), 3) := by decide +kernel
theorem dX6_capacityFor_75 : decode cX6_capacityFor 75 = .ok (.iconst (-1), 1) := by decide +kernel
theorem dX6_capacityFor_76 : decode cX6_capacityFor 76 = .ok (.ireturn, 1) := by decide +kernel
set_option maxRecDepth 20000 in
theorem ggX6_bestBuffer_X6_areTicks : GoodIn wsX6_bestBuffer wsX6_areTicks := goodIn_r _ [5, 6, 7, 4, 8] (by decide +kernel) (by decide +kernel)
set_option maxRecDepth 20000 in
theorem gX6_bestBuffer_X6_areTicks : GoodIn wsX6_bestBuffer (va_wsS RX6 144 yX6_areTicks wsX6_areTicks) := goodIn_app (goodIn_of _ (by decide +kernel)) ggX6_bestBuffer_X6_areTicks
set_option maxRecDepth 20000 in
theorem ggX6_bestBuffer_X6_within : GoodIn wsX6_bestBuffer wsX6_within := goodIn_r _ [8] (by decide +kernel) (by decide +kernel)
set_option maxRecDepth 20000 in
theorem gX6_bestBuffer_X6_within : GoodIn wsX6_bestBuffer (va_wsS RX6 29 yX6_within wsX6_within) := goodIn_app (goodIn_of _ (by decide +kernel)) ggX6_bestBuffer_X6_within
set_option maxRecDepth 20000 in
theorem ggX6_bestBuffer_X6_refused : GoodIn wsX6_bestBuffer wsX6_refused := goodIn_r _ [12, 13, 75, 76, 77, 78, 79, 80, 81, 82, 83, 84, 85, 86] (by decide +kernel) (by decide +kernel)
set_option maxRecDepth 20000 in
theorem gX6_bestBuffer_X6_refused : GoodIn wsX6_bestBuffer (wsV RX6 36 RX6 yX6_refused wsX6_refused) := goodIn_app (goodIn_of _ (by decide +kernel)) ggX6_bestBuffer_X6_refused
set_option maxRecDepth 20000 in
theorem ggX6_bestBuffer_X6_of : GoodIn wsX6_bestBuffer wsX6_of := goodIn_r _ [16] (by decide +kernel) (by decide +kernel)
set_option maxRecDepth 20000 in
theorem gX6_bestBuffer_X6_of : GoodIn wsX6_bestBuffer (va_wsS RX6 40 yX6_of wsX6_of) := goodIn_app (goodIn_of _ (by decide +kernel)) ggX6_bestBuffer_X6_of
set_option maxRecDepth 20000 in
theorem ggX6_bestBuffer_X6_madeWith : GoodIn wsX6_bestBuffer wsX6_madeWith := goodIn_r _ [20, 1, 21, 22, 23, 4, 24, 25, 14, 15, 16, 26, 27, 28, 29, 30, 31, 32, 33, 34, 35, 36, 37, 38, 39, 40, 41, 42, 43, 44, 45, 46, 47, 48, 49, 50, 51, 52, 53, 54, 55, 56, 57, 58, 59, 60, 61, 62, 63, 64, 65, 66, 67, 68, 69, 70, 71, 72, 73, 74, 75, 76, 77, 78, 79, 80, 81, 82, 83, 84, 85, 86] (by decide +kernel) (by decide +kernel)
set_option maxRecDepth 20000 in
theorem gX6_bestBuffer_X6_madeWith : GoodIn wsX6_bestBuffer (wsV RX6 147 RX6 yX6_madeWith wsX6_madeWith) := goodIn_app (goodIn_of _ (by decide +kernel)) ggX6_bestBuffer_X6_madeWith
theorem dX6_bestBuffer_0 : decode cX6_bestBuffer 0 = .ok (.aload_n 0, 1) := by decide +kernel
theorem dX6_bestBuffer_1 : decode cX6_bestBuffer 1 = .ok (.iload_n 1, 1) := by decide +kernel
theorem dX6_bestBuffer_2 : decode cX6_bestBuffer 2 = .ok (.invokestatic 144, 3) := by decide +kernel
theorem dX6_bestBuffer_5 : decode cX6_bestBuffer 5 = .ok (.ifCond .eq 13, 3) := by decide +kernel
theorem dX6_bestBuffer_8 : decode cX6_bestBuffer 8 = .ok (.iload_n 2, 1) := by decide +kernel
theorem dX6_bestBuffer_9 : decode cX6_bestBuffer 9 = .ok (.iconst 1, 1) := by decide +kernel
theorem dX6_bestBuffer_10 : decode cX6_bestBuffer 10 = .ok (.bipush 40, 2) := by decide +kernel
theorem dX6_bestBuffer_12 : decode cX6_bestBuffer 12 = .ok (.invokestatic 29, 3) := by decide +kernel
theorem dX6_bestBuffer_15 : decode cX6_bestBuffer 15 = .ok (.ifCond .ne 7, 3) := by decide +kernel
theorem dX6_bestBuffer_18 : decode cX6_bestBuffer 18 = .ok (.iconst 1, 1) := by decide +kernel
theorem dX6_bestBuffer_19 : decode cX6_bestBuffer 19 = .ok (.goto 18, 3) := by decide +kernel
theorem dX6_bestBuffer_22 : decode cX6_bestBuffer 22 = .ok (.aload_n 0, 1) := by decide +kernel
theorem dX6_bestBuffer_23 : decode cX6_bestBuffer 23 = .ok (.getfield 7, 3) := by decide +kernel
theorem dX6_bestBuffer_26 : decode cX6_bestBuffer 26 = .ok (.iconst 0, 1) := by decide +kernel
theorem dX6_bestBuffer_27 : decode cX6_bestBuffer 27 = .ok (.iaload, 1) := by decide +kernel
theorem dX6_bestBuffer_28 : decode cX6_bestBuffer 28 = .ok (.iconst 2, 1) := by decide +kernel
theorem dX6_bestBuffer_29 : decode cX6_bestBuffer 29 = .ok (.if_icmp .ge 7, 3) := by decide +kernel
theorem dX6_bestBuffer_32 : decode cX6_bestBuffer 32 = .ok (.iconst 2, 1) := by decide +kernel
theorem dX6_bestBuffer_33 : decode cX6_bestBuffer 33 = .ok (.goto 4, 3) := by decide +kernel
theorem dX6_bestBuffer_36 : decode cX6_bestBuffer 36 = .ok (.iconst 0, 1) := by decide +kernel
theorem dX6_bestBuffer_37 : decode cX6_bestBuffer 37 = .ok (.invokevirtual 36, 3) := by decide +kernel
theorem dX6_bestBuffer_40 : decode cX6_bestBuffer 40 = .ok (.ifCond .eq 5, 3) := by decide +kernel
theorem dX6_bestBuffer_43 : decode cX6_bestBuffer 43 = .ok (.iconst 0, 1) := by decide +kernel
theorem dX6_bestBuffer_44 : decode cX6_bestBuffer 44 = .ok (.ireturn, 1) := by decide +kernel
theorem dX6_bestBuffer_45 : decode cX6_bestBuffer 45 = .ok (.iconst 0, 1) := by decide +kernel
theorem dX6_bestBuffer_46 : decode cX6_bestBuffer 46 = .ok (.istore_n 3, 1) := by decide +kernel
theorem dX6_bestBuffer_47 : decode cX6_bestBuffer 47 = .ok (.iconst (-1), 1) := by decide +kernel
theorem dX6_bestBuffer_48 : decode cX6_bestBuffer 48 = .ok (.istore 4, 2) := by decide +kernel
theorem dX6_bestBuffer_50 : decode cX6_bestBuffer 50 = .ok (.iconst 0, 1) := by decide +kernel
theorem dX6_bestBuffer_51 : decode cX6_bestBuffer 51 = .ok (.istore 5, 2) := by decide +kernel
theorem dX6_bestBuffer_53 : decode cX6_bestBuffer 53 = .ok (.iload 5, 2) := by decide +kernel
theorem dX6_bestBuffer_55 : decode cX6_bestBuffer 55 = .ok (.aload_n 0, 1) := by decide +kernel
theorem dX6_bestBuffer_56 : decode cX6_bestBuffer 56 = .ok (.getfield 7, 3) := by decide +kernel
theorem dX6_bestBuffer_59 : decode cX6_bestBuffer 59 = .ok (.iconst 0, 1) := by decide +kernel
theorem dX6_bestBuffer_60 : decode cX6_bestBuffer 60 = .ok (.iaload, 1) := by decide +kernel
theorem dX6_bestBuffer_61 : decode cX6_bestBuffer 61 = .ok (.iconst 1, 1) := by decide +kernel
theorem dX6_bestBuffer_62 : decode cX6_bestBuffer 62 = .ok (.isub, 1) := by decide +kernel
theorem dX6_bestBuffer_63 : decode cX6_bestBuffer 63 = .ok (.if_icmp .ge 78, 3) := by decide +kernel
theorem dX6_bestBuffer_66 : decode cX6_bestBuffer 66 = .ok (.aload_n 0, 1) := by decide +kernel
theorem dX6_bestBuffer_67 : decode cX6_bestBuffer 67 = .ok (.getfield 7, 3) := by decide +kernel
theorem dX6_bestBuffer_70 : decode cX6_bestBuffer 70 = .ok (.iload 5, 2) := by decide +kernel
theorem dX6_bestBuffer_72 : decode cX6_bestBuffer 72 = .ok (.invokestatic 40, 3) := by decide +kernel
theorem dX6_bestBuffer_75 : decode cX6_bestBuffer 75 = .ok (.iconst 4, 1) := by decide +kernel
theorem dX6_bestBuffer_76 : decode cX6_bestBuffer 76 = .ok (.iadd, 1) := by decide +kernel
theorem dX6_bestBuffer_77 : decode cX6_bestBuffer 77 = .ok (.iaload, 1) := by decide +kernel
theorem dX6_bestBuffer_78 : decode cX6_bestBuffer 78 = .ok (.iload_n 2, 1) := by decide +kernel
theorem dX6_bestBuffer_79 : decode cX6_bestBuffer 79 = .ok (.iadd, 1) := by decide +kernel
theorem dX6_bestBuffer_80 : decode cX6_bestBuffer 80 = .ok (.istore 6, 2) := by decide +kernel
theorem dX6_bestBuffer_82 : decode cX6_bestBuffer 82 = .ok (.aload_n 0, 1) := by decide +kernel
theorem dX6_bestBuffer_83 : decode cX6_bestBuffer 83 = .ok (.iload 5, 2) := by decide +kernel
theorem dX6_bestBuffer_85 : decode cX6_bestBuffer 85 = .ok (.iload 6, 2) := by decide +kernel
theorem dX6_bestBuffer_87 : decode cX6_bestBuffer 87 = .ok (.bipush 40, 2) := by decide +kernel
theorem dX6_bestBuffer_89 : decode cX6_bestBuffer 89 = .ok (.if_icmp .le 8, 3) := by decide +kernel
theorem dX6_bestBuffer_92 : decode cX6_bestBuffer 92 = .ok (.bipush 40, 2) := by decide +kernel
theorem dX6_bestBuffer_94 : decode cX6_bestBuffer 94 = .ok (.goto 5, 3) := by decide +kernel
theorem dX6_bestBuffer_97 : decode cX6_bestBuffer 97 = .ok (.iload 6, 2) := by decide +kernel
theorem dX6_bestBuffer_99 : decode cX6_bestBuffer 99 = .ok (.iload_n 1, 1) := by decide +kernel
theorem dX6_bestBuffer_100 : decode cX6_bestBuffer 100 = .ok (.invokevirtual 147, 3) := by decide +kernel
theorem dX6_bestBuffer_103 : decode cX6_bestBuffer 103 = .ok (.istore 7, 2) := by decide +kernel
theorem dX6_bestBuffer_105 : decode cX6_bestBuffer 105 = .ok (.iload 7, 2) := by decide +kernel
theorem dX6_bestBuffer_107 : decode cX6_bestBuffer 107 = .ok (.iload 4, 2) := by decide +kernel
theorem dX6_bestBuffer_109 : decode cX6_bestBuffer 109 = .ok (.if_icmp .le 8, 3) := by decide +kernel
theorem dX6_bestBuffer_112 : decode cX6_bestBuffer 112 = .ok (.iload 5, 2) := by decide +kernel
theorem dX6_bestBuffer_114 : decode cX6_bestBuffer 114 = .ok (.goto 4, 3) := by decide +kernel
theorem dX6_bestBuffer_117 : decode cX6_bestBuffer 117 = .ok (.iload_n 3, 1) := by decide +kernel
theorem dX6_bestBuffer_118 : decode cX6_bestBuffer 118 = .ok (.istore_n 3, 1) := by decide +kernel
theorem dX6_bestBuffer_119 : decode cX6_bestBuffer 119 = .ok (.iload 7, 2) := by decide +kernel
theorem dX6_bestBuffer_121 : decode cX6_bestBuffer 121 = .ok (.iload 4, 2) := by decide +kernel
theorem dX6_bestBuffer_123 : decode cX6_bestBuffer 123 = .ok (.if_icmp .le 8, 3) := by decide +kernel
theorem dX6_bestBuffer_126 : decode cX6_bestBuffer 126 = .ok (.iload 7, 2) := by decide +kernel
theorem dX6_bestBuffer_128 : decode cX6_bestBuffer 128 = .ok (.goto 5, 3) := by decide +kernel
theorem dX6_bestBuffer_131 : decode cX6_bestBuffer 131 = .ok (.iload 4, 2) := by decide +kernel
theorem dX6_bestBuffer_133 : decode cX6_bestBuffer 133 = .ok (.istore 4, 2) := by decide +kernel
theorem dX6_bestBuffer_135 : decode cX6_bestBuffer 135 = .ok (.iinc 5 1, 3) := by decide +kernel
theorem dX6_bestBuffer_138 : decode cX6_bestBuffer 138 = .ok (.goto (-85), 3) := by decide +kernel
theorem dX6_bestBuffer_141 : decode cX6_bestBuffer 141 = .ok (.iload_n 3, 1) := by decide +kernel
theorem dX6_bestBuffer_142 : decode cX6_bestBuffer 142 = .ok (.ireturn, 1) := by decide +kernel
set_option maxRecDepth 20000 in
theorem ggX6_append_X6_within : GoodIn wsX6_append wsX6_within := goodIn_r _ [6] (by decide +kernel) (by decide +kernel)
set_option maxRecDepth 20000 in
theorem gX6_append_X6_within : GoodIn wsX6_append (va_wsS RX6 29 yX6_within wsX6_within) := goodIn_app (goodIn_of _ (by decide +kernel)) ggX6_append_X6_within
set_option maxRecDepth 20000 in
theorem ggX6_append_X6_refused : GoodIn wsX6_append wsX6_refused := goodIn_r _ [10, 11, 12, 13, 14, 15, 16, 17, 18, 19, 20, 21, 22, 23] (by decide +kernel) (by decide +kernel)
set_option maxRecDepth 20000 in
theorem gX6_append_X6_refused : GoodIn wsX6_append (wsV RX6 36 RX6 yX6_refused wsX6_refused) := goodIn_app (goodIn_of _ (by decide +kernel)) ggX6_append_X6_refused
theorem dX6_append_0 : decode cX6_append 0 = .ok (.aload_n 0, 1) := by decide +kernel
theorem dX6_append_1 : decode cX6_append 1 = .ok (.iload_n 1, 1) := by decide +kernel
theorem dX6_append_2 : decode cX6_append 2 = .ok (.iconst 0, 1) := by decide +kernel
theorem dX6_append_3 : decode cX6_append 3 = .ok (.bipush 127, 2) := by decide +kernel
theorem dX6_append_5 : decode cX6_append 5 = .ok (.invokestatic 29, 3) := by decide +kernel
theorem dX6_append_8 : decode cX6_append 8 = .ok (.ifCond .ne 7, 3) := by decide +kernel
theorem dX6_append_11 : decode cX6_append 11 = .ok (.iconst 1, 1) := by decide +kernel
theorem dX6_append_12 : decode cX6_append 12 = .ok (.goto 17, 3) := by decide +kernel
theorem dX6_append_15 : decode cX6_append 15 = .ok (.aload_n 0, 1) := by decide +kernel
theorem dX6_append_16 : decode cX6_append 16 = .ok (.getfield 151, 3) := by decide +kernel
theorem dX6_append_19 : decode cX6_append 19 = .ok (.bipush 120, 2) := by decide +kernel
theorem dX6_append_21 : decode cX6_append 21 = .ok (.if_icmp .ne 7, 3) := by decide +kernel
theorem dX6_append_24 : decode cX6_append 24 = .ok (.iconst 2, 1) := by decide +kernel
theorem dX6_append_25 : decode cX6_append 25 = .ok (.goto 4, 3) := by decide +kernel
theorem dX6_append_28 : decode cX6_append 28 = .ok (.iconst 0, 1) := by decide +kernel
theorem dX6_append_29 : decode cX6_append 29 = .ok (.invokevirtual 36, 3) := by decide +kernel
theorem dX6_append_32 : decode cX6_append 32 = .ok (.ifCond .eq 5, 3) := by decide +kernel
theorem dX6_append_35 : decode cX6_append 35 = .ok (.iconst 0, 1) := by decide +kernel
theorem dX6_append_36 : decode cX6_append 36 = .ok (.ireturn, 1) := by decide +kernel
theorem dX6_append_37 : decode cX6_append 37 = .ok (.aload_n 0, 1) := by decide +kernel
theorem dX6_append_38 : decode cX6_append 38 = .ok (.getfield 19, 3) := by decide +kernel
theorem dX6_append_41 : decode cX6_append 41 = .ok (.aload_n 0, 1) := by decide +kernel
theorem dX6_append_42 : decode cX6_append 42 = .ok (.getfield 151, 3) := by decide +kernel
theorem dX6_append_45 : decode cX6_append 45 = .ok (.iload_n 1, 1) := by decide +kernel
theorem dX6_append_46 : decode cX6_append 46 = .ok (.iastore, 1) := by decide +kernel
theorem dX6_append_47 : decode cX6_append 47 = .ok (.aload_n 0, 1) := by decide +kernel
theorem dX6_append_48 : decode cX6_append 48 = .ok (.dup, 1) := by decide +kernel
theorem dX6_append_49 : decode cX6_append 49 = .ok (.getfield 151, 3) := by decide +kernel
theorem dX6_append_52 : decode cX6_append 52 = .ok (.iconst 1, 1) := by decide +kernel
theorem dX6_append_53 : decode cX6_append 53 = .ok (.iadd, 1) := by decide +kernel
theorem dX6_append_54 : decode cX6_append 54 = .ok (.putfield 151, 3) := by decide +kernel
theorem dX6_append_57 : decode cX6_append 57 = .ok (.aload_n 0, 1) := by decide +kernel
theorem dX6_append_58 : decode cX6_append 58 = .ok (.getfield 151, 3) := by decide +kernel
theorem dX6_append_61 : decode cX6_append 61 = .ok (.ireturn, 1) := by decide +kernel
theorem dX6_clearText_0 : decode cX6_clearText 0 = .ok (.aload_n 0, 1) := by decide +kernel
theorem dX6_clearText_1 : decode cX6_clearText 1 = .ok (.iconst 0, 1) := by decide +kernel
theorem dX6_clearText_2 : decode cX6_clearText 2 = .ok (.putfield 25, 3) := by decide +kernel
theorem dX6_clearText_5 : decode cX6_clearText 5 = .ok (.aload_n 0, 1) := by decide +kernel
theorem dX6_clearText_6 : decode cX6_clearText 6 = .ok (.getfield 151, 3) := by decide +kernel
theorem dX6_clearText_9 : decode cX6_clearText 9 = .ok (.istore_n 1, 1) := by decide +kernel
theorem dX6_clearText_10 : decode cX6_clearText 10 = .ok (.aload_n 0, 1) := by decide +kernel
theorem dX6_clearText_11 : decode cX6_clearText 11 = .ok (.iconst 0, 1) := by decide +kernel
theorem dX6_clearText_12 : decode cX6_clearText 12 = .ok (.putfield 151, 3) := by decide +kernel
theorem dX6_clearText_15 : decode cX6_clearText 15 = .ok (.iload_n 1, 1) := by decide +kernel
theorem dX6_clearText_16 : decode cX6_clearText 16 = .ok (.ireturn, 1) := by decide +kernel
set_option maxRecDepth 20000 in
theorem ggX6_isAt_X6_within : GoodIn wsX6_isAt wsX6_within := goodIn_r _ [7] (by decide +kernel) (by decide +kernel)
set_option maxRecDepth 20000 in
theorem gX6_isAt_X6_within : GoodIn wsX6_isAt (va_wsS RX6 29 yX6_within wsX6_within) := goodIn_app (goodIn_of _ (by decide +kernel)) ggX6_isAt_X6_within
theorem dX6_isAt_0 : decode cX6_isAt 0 = .ok (.aload_n 0, 1) := by decide +kernel
theorem dX6_isAt_1 : decode cX6_isAt 1 = .ok (.getfield 154, 3) := by decide +kernel
theorem dX6_isAt_4 : decode cX6_isAt 4 = .ok (.aload_n 0, 1) := by decide +kernel
theorem dX6_isAt_5 : decode cX6_isAt 5 = .ok (.getfield 151, 3) := by decide +kernel
theorem dX6_isAt_8 : decode cX6_isAt 8 = .ok (.if_icmp .ge 24, 3) := by decide +kernel
theorem dX6_isAt_11 : decode cX6_isAt 11 = .ok (.aload_n 0, 1) := by decide +kernel
theorem dX6_isAt_12 : decode cX6_isAt 12 = .ok (.getfield 19, 3) := by decide +kernel
theorem dX6_isAt_15 : decode cX6_isAt 15 = .ok (.aload_n 0, 1) := by decide +kernel
theorem dX6_isAt_16 : decode cX6_isAt 16 = .ok (.getfield 154, 3) := by decide +kernel
theorem dX6_isAt_19 : decode cX6_isAt 19 = .ok (.iaload, 1) := by decide +kernel
theorem dX6_isAt_20 : decode cX6_isAt 20 = .ok (.iload_n 1, 1) := by decide +kernel
theorem dX6_isAt_21 : decode cX6_isAt 21 = .ok (.iload_n 2, 1) := by decide +kernel
theorem dX6_isAt_22 : decode cX6_isAt 22 = .ok (.invokestatic 29, 3) := by decide +kernel
theorem dX6_isAt_25 : decode cX6_isAt 25 = .ok (.ifCond .eq 7, 3) := by decide +kernel
theorem dX6_isAt_28 : decode cX6_isAt 28 = .ok (.iconst 1, 1) := by decide +kernel
theorem dX6_isAt_29 : decode cX6_isAt 29 = .ok (.goto 4, 3) := by decide +kernel
theorem dX6_isAt_32 : decode cX6_isAt 32 = .ok (.iconst 0, 1) := by decide +kernel
theorem dX6_isAt_33 : decode cX6_isAt 33 = .ok (.ireturn, 1) := by decide +kernel
set_option maxRecDepth 20000 in
theorem ggX6_sign_X6_isAt : GoodIn wsX6_sign wsX6_isAt := goodIn_r _ [6, 1, 7, 8, 9, 10, 5, 11, 12, 13, 14, 15, 16, 17, 18, 19, 20, 21, 22, 23] (by decide +kernel) (by decide +kernel)
set_option maxRecDepth 20000 in
theorem gX6_sign_X6_isAt : GoodIn wsX6_sign (wsV RX6 157 RX6 yX6_isAt wsX6_isAt) := goodIn_app (goodIn_of _ (by decide +kernel)) ggX6_sign_X6_isAt
theorem dX6_sign_0 : decode cX6_sign 0 = .ok (.aload_n 0, 1) := by decide +kernel
theorem dX6_sign_1 : decode cX6_sign 1 = .ok (.iload_n 1, 1) := by decide +kernel
theorem dX6_sign_2 : decode cX6_sign 2 = .ok (.iload_n 1, 1) := by decide +kernel
theorem dX6_sign_3 : decode cX6_sign 3 = .ok (.invokevirtual 157, 3) := by decide +kernel
theorem dX6_sign_6 : decode cX6_sign 6 = .ok (.istore_n 2, 1) := by decide +kernel
theorem dX6_sign_7 : decode cX6_sign 7 = .ok (.aload_n 0, 1) := by decide +kernel
theorem dX6_sign_8 : decode cX6_sign 8 = .ok (.dup, 1) := by decide +kernel
theorem dX6_sign_9 : decode cX6_sign 9 = .ok (.getfield 154, 3) := by decide +kernel
theorem dX6_sign_12 : decode cX6_sign 12 = .ok (.iload_n 2, 1) := by decide +kernel
theorem dX6_sign_13 : decode cX6_sign 13 = .ok (.ifCond .eq 7, 3) := by decide +kernel
theorem dX6_sign_16 : decode cX6_sign 16 = .ok (.iconst 1, 1) := by decide +kernel
theorem dX6_sign_17 : decode cX6_sign 17 = .ok (.goto 4, 3) := by decide +kernel
theorem dX6_sign_20 : decode cX6_sign 20 = .ok (.iconst 0, 1) := by decide +kernel
theorem dX6_sign_21 : decode cX6_sign 21 = .ok (.iadd, 1) := by decide +kernel
theorem dX6_sign_22 : decode cX6_sign 22 = .ok (.putfield 154, 3) := by decide +kernel
theorem dX6_sign_25 : decode cX6_sign 25 = .ok (.iload_n 2, 1) := by decide +kernel
theorem dX6_sign_26 : decode cX6_sign 26 = .ok (.ireturn, 1) := by decide +kernel
set_option maxRecDepth 20000 in
theorem ggX6_number_X6_isAt : GoodIn wsX6_number wsX6_isAt := goodIn_r _ [8, 1, 9, 3, 10, 11, 7, 12, 13, 14, 15, 16, 17, 18, 19, 20, 21, 22, 23, 24] (by decide +kernel) (by decide +kernel)
set_option maxRecDepth 20000 in
theorem gX6_number_X6_isAt : GoodIn wsX6_number (wsV RX6 157 RX6 yX6_isAt wsX6_isAt) := goodIn_app (goodIn_of _ (by decide +kernel)) ggX6_number_X6_isAt
set_option maxRecDepth 20000 in
theorem ggX6_number_X6_within : GoodIn wsX6_number wsX6_within := goodIn_r _ [12] (by decide +kernel) (by decide +kernel)
set_option maxRecDepth 20000 in
theorem gX6_number_X6_within : GoodIn wsX6_number (va_wsS RX6 29 yX6_within wsX6_within) := goodIn_app (goodIn_of _ (by decide +kernel)) ggX6_number_X6_within
theorem dX6_number_0 : decode cX6_number 0 = .ok (.aload_n 0, 1) := by decide +kernel
theorem dX6_number_1 : decode cX6_number 1 = .ok (.getfield 154, 3) := by decide +kernel
theorem dX6_number_4 : decode cX6_number 4 = .ok (.istore_n 3, 1) := by decide +kernel
theorem dX6_number_5 : decode cX6_number 5 = .ok (.aload_n 0, 1) := by decide +kernel
theorem dX6_number_6 : decode cX6_number 6 = .ok (.iconst 0, 1) := by decide +kernel
theorem dX6_number_7 : decode cX6_number 7 = .ok (.putfield 160, 3) := by decide +kernel
theorem dX6_number_10 : decode cX6_number 10 = .ok (.aload_n 0, 1) := by decide +kernel
theorem dX6_number_11 : decode cX6_number 11 = .ok (.getfield 154, 3) := by decide +kernel
theorem dX6_number_14 : decode cX6_number 14 = .ok (.iload_n 3, 1) := by decide +kernel
theorem dX6_number_15 : decode cX6_number 15 = .ok (.isub, 1) := by decide +kernel
theorem dX6_number_16 : decode cX6_number 16 = .ok (.iconst 2, 1) := by decide +kernel
theorem dX6_number_17 : decode cX6_number 17 = .ok (.if_icmp .ge 51, 3) := by decide +kernel
theorem dX6_number_20 : decode cX6_number 20 = .ok (.aload_n 0, 1) := by decide +kernel
theorem dX6_number_21 : decode cX6_number 21 = .ok (.bipush 48, 2) := by decide +kernel
theorem dX6_number_23 : decode cX6_number 23 = .ok (.bipush 57, 2) := by decide +kernel
theorem dX6_number_25 : decode cX6_number 25 = .ok (.invokevirtual 157, 3) := by decide +kernel
theorem dX6_number_28 : decode cX6_number 28 = .ok (.ifCond .eq 40, 3) := by decide +kernel
theorem dX6_number_31 : decode cX6_number 31 = .ok (.aload_n 0, 1) := by decide +kernel
theorem dX6_number_32 : decode cX6_number 32 = .ok (.bipush 10, 2) := by decide +kernel
theorem dX6_number_34 : decode cX6_number 34 = .ok (.aload_n 0, 1) := by decide +kernel
theorem dX6_number_35 : decode cX6_number 35 = .ok (.getfield 160, 3) := by decide +kernel
theorem dX6_number_38 : decode cX6_number 38 = .ok (.imul, 1) := by decide +kernel
theorem dX6_number_39 : decode cX6_number 39 = .ok (.aload_n 0, 1) := by decide +kernel
theorem dX6_number_40 : decode cX6_number 40 = .ok (.getfield 19, 3) := by decide +kernel
theorem dX6_number_43 : decode cX6_number 43 = .ok (.aload_n 0, 1) := by decide +kernel
theorem dX6_number_44 : decode cX6_number 44 = .ok (.getfield 154, 3) := by decide +kernel
theorem dX6_number_47 : decode cX6_number 47 = .ok (.iaload, 1) := by decide +kernel
theorem dX6_number_48 : decode cX6_number 48 = .ok (.iadd, 1) := by decide +kernel
theorem dX6_number_49 : decode cX6_number 49 = .ok (.bipush 48, 2) := by decide +kernel
theorem dX6_number_51 : decode cX6_number 51 = .ok (.isub, 1) := by decide +kernel
theorem dX6_number_52 : decode cX6_number 52 = .ok (.putfield 160, 3) := by decide +kernel
theorem dX6_number_55 : decode cX6_number 55 = .ok (.aload_n 0, 1) := by decide +kernel
theorem dX6_number_56 : decode cX6_number 56 = .ok (.dup, 1) := by decide +kernel
theorem dX6_number_57 : decode cX6_number 57 = .ok (.getfield 154, 3) := by decide +kernel
theorem dX6_number_60 : decode cX6_number 60 = .ok (.iconst 1, 1) := by decide +kernel
theorem dX6_number_61 : decode cX6_number 61 = .ok (.iadd, 1) := by decide +kernel
theorem dX6_number_62 : decode cX6_number 62 = .ok (.putfield 154, 3) := by decide +kernel
theorem dX6_number_65 : decode cX6_number 65 = .ok (.goto (-55), 3) := by decide +kernel
theorem dX6_number_68 : decode cX6_number 68 = .ok (.aload_n 0, 1) := by decide +kernel
theorem dX6_number_69 : decode cX6_number 69 = .ok (.getfield 154, 3) := by decide +kernel
theorem dX6_number_72 : decode cX6_number 72 = .ok (.iload_n 3, 1) := by decide +kernel
theorem dX6_number_73 : decode cX6_number 73 = .ok (.if_icmp .eq 14, 3) := by decide +kernel
theorem dX6_number_76 : decode cX6_number 76 = .ok (.aload_n 0, 1) := by decide +kernel
theorem dX6_number_77 : decode cX6_number 77 = .ok (.bipush 48, 2) := by decide +kernel
theorem dX6_number_79 : decode cX6_number 79 = .ok (.bipush 57, 2) := by decide +kernel
theorem dX6_number_81 : decode cX6_number 81 = .ok (.invokevirtual 157, 3) := by decide +kernel
theorem dX6_number_84 : decode cX6_number 84 = .ok (.ifCond .eq 5, 3) := by decide +kernel
theorem dX6_number_87 : decode cX6_number 87 = .ok (.iconst 0, 1) := by decide +kernel
theorem dX6_number_88 : decode cX6_number 88 = .ok (.ireturn, 1) := by decide +kernel
theorem dX6_number_89 : decode cX6_number 89 = .ok (.aload_n 0, 1) := by decide +kernel
theorem dX6_number_90 : decode cX6_number 90 = .ok (.getfield 160, 3) := by decide +kernel
theorem dX6_number_93 : decode cX6_number 93 = .ok (.iload_n 1, 1) := by decide +kernel
theorem dX6_number_94 : decode cX6_number 94 = .ok (.iload_n 2, 1) := by decide +kernel
theorem dX6_number_95 : decode cX6_number 95 = .ok (.invokestatic 29, 3) := by decide +kernel
theorem dX6_number_98 : decode cX6_number 98 = .ok (.istore 4, 2) := by decide +kernel
theorem dX6_number_100 : decode cX6_number 100 = .ok (.aload_n 0, 1) := by decide +kernel
theorem dX6_number_101 : decode cX6_number 101 = .ok (.iload 4, 2) := by decide +kernel
theorem dX6_number_103 : decode cX6_number 103 = .ok (.ifCond .eq 10, 3) := by decide +kernel
theorem dX6_number_106 : decode cX6_number 106 = .ok (.aload_n 0, 1) := by decide +kernel
theorem dX6_number_107 : decode cX6_number 107 = .ok (.getfield 154, 3) := by decide +kernel
theorem dX6_number_110 : decode cX6_number 110 = .ok (.goto 4, 3) := by decide +kernel
theorem dX6_number_113 : decode cX6_number 113 = .ok (.iload_n 3, 1) := by decide +kernel
theorem dX6_number_114 : decode cX6_number 114 = .ok (.putfield 154, 3) := by decide +kernel
theorem dX6_number_117 : decode cX6_number 117 = .ok (.iload 4, 2) := by decide +kernel
theorem dX6_number_119 : decode cX6_number 119 = .ok (.ireturn, 1) := by decide +kernel
set_option maxRecDepth 20000 in
theorem ggX6_readsMachine_X6_number : GoodIn wsX6_readsMachine wsX6_number := goodIn_r _ [8, 2, 3, 9, 10, 11, 12, 7, 13, 14, 15, 16, 17, 29, 30, 31, 32, 33, 34, 35, 36, 37, 38, 39, 40] (by decide +kernel) (by decide +kernel)
set_option maxRecDepth 20000 in
theorem gX6_readsMachine_X6_number : GoodIn wsX6_readsMachine (wsV RX6 163 RX6 yX6_number wsX6_number) := goodIn_app (goodIn_of _ (by decide +kernel)) ggX6_readsMachine_X6_number
set_option maxRecDepth 20000 in
theorem ggX6_readsMachine_X6_sign : GoodIn wsX6_readsMachine wsX6_sign := goodIn_r _ [21, 2, 10, 11, 12, 7, 13, 14, 9, 15, 16, 17, 29, 30, 31, 32, 33, 34, 35, 36, 37, 38, 39, 40] (by decide +kernel) (by decide +kernel)
set_option maxRecDepth 20000 in
theorem gX6_readsMachine_X6_sign : GoodIn wsX6_readsMachine (wsV RX6 166 RX6 yX6_sign wsX6_sign) := goodIn_app (goodIn_of _ (by decide +kernel)) ggX6_readsMachine_X6_sign
set_option maxRecDepth 20000 in
theorem ggX6_readsMachine_X6_adds : GoodIn wsX6_readsMachine wsX6_adds := goodIn_r _ [25, 1, 26, 27, 7, 28, 29, 30, 31, 32, 33, 34, 35, 36, 37, 38, 39, 40] (by decide +kernel) (by decide +kernel)
set_option maxRecDepth 20000 in
theorem gX6_readsMachine_X6_adds : GoodIn wsX6_readsMachine (wsV RX6 54 RX6 yX6_adds wsX6_adds) := goodIn_app (goodIn_of _ (by decide +kernel)) ggX6_readsMachine_X6_adds
theorem dX6_readsMachine_0 : decode cX6_readsMachine 0 = .ok (.aload_n 0, 1) := by decide +kernel
theorem dX6_readsMachine_1 : decode cX6_readsMachine 1 = .ok (.getfield 7, 3) := by decide +kernel
theorem dX6_readsMachine_4 : decode cX6_readsMachine 4 = .ok (.iconst 0, 1) := by decide +kernel
theorem dX6_readsMachine_5 : decode cX6_readsMachine 5 = .ok (.iaload, 1) := by decide +kernel
theorem dX6_readsMachine_6 : decode cX6_readsMachine 6 = .ok (.bipush 8, 2) := by decide +kernel
theorem dX6_readsMachine_8 : decode cX6_readsMachine 8 = .ok (.if_icmp .ne 5, 3) := by decide +kernel
theorem dX6_readsMachine_11 : decode cX6_readsMachine 11 = .ok (.iconst 0, 1) := by decide +kernel
theorem dX6_readsMachine_12 : decode cX6_readsMachine 12 = .ok (.ireturn, 1) := by decide +kernel
theorem dX6_readsMachine_13 : decode cX6_readsMachine 13 = .ok (.aload_n 0, 1) := by decide +kernel
theorem dX6_readsMachine_14 : decode cX6_readsMachine 14 = .ok (.dup, 1) := by decide +kernel
theorem dX6_readsMachine_15 : decode cX6_readsMachine 15 = .ok (.getfield 154, 3) := by decide +kernel
theorem dX6_readsMachine_18 : decode cX6_readsMachine 18 = .ok (.iconst 1, 1) := by decide +kernel
theorem dX6_readsMachine_19 : decode cX6_readsMachine 19 = .ok (.iadd, 1) := by decide +kernel
theorem dX6_readsMachine_20 : decode cX6_readsMachine 20 = .ok (.putfield 154, 3) := by decide +kernel
theorem dX6_readsMachine_23 : decode cX6_readsMachine 23 = .ok (.aload_n 0, 1) := by decide +kernel
theorem dX6_readsMachine_24 : decode cX6_readsMachine 24 = .ok (.iconst 1, 1) := by decide +kernel
theorem dX6_readsMachine_25 : decode cX6_readsMachine 25 = .ok (.bipush 20, 2) := by decide +kernel
theorem dX6_readsMachine_27 : decode cX6_readsMachine 27 = .ok (.invokevirtual 163, 3) := by decide +kernel
theorem dX6_readsMachine_30 : decode cX6_readsMachine 30 = .ok (.ifCond .ne 5, 3) := by decide +kernel
theorem dX6_readsMachine_33 : decode cX6_readsMachine 33 = .ok (.iconst 0, 1) := by decide +kernel
theorem dX6_readsMachine_34 : decode cX6_readsMachine 34 = .ok (.ireturn, 1) := by decide +kernel
theorem dX6_readsMachine_35 : decode cX6_readsMachine 35 = .ok (.aload_n 0, 1) := by decide +kernel
theorem dX6_readsMachine_36 : decode cX6_readsMachine 36 = .ok (.getfield 160, 3) := by decide +kernel
theorem dX6_readsMachine_39 : decode cX6_readsMachine 39 = .ok (.istore_n 1, 1) := by decide +kernel
theorem dX6_readsMachine_40 : decode cX6_readsMachine 40 = .ok (.aload_n 0, 1) := by decide +kernel
theorem dX6_readsMachine_41 : decode cX6_readsMachine 41 = .ok (.bipush 44, 2) := by decide +kernel
theorem dX6_readsMachine_43 : decode cX6_readsMachine 43 = .ok (.invokevirtual 166, 3) := by decide +kernel
theorem dX6_readsMachine_46 : decode cX6_readsMachine 46 = .ok (.ifCond .eq 12, 3) := by decide +kernel
theorem dX6_readsMachine_49 : decode cX6_readsMachine 49 = .ok (.aload_n 0, 1) := by decide +kernel
theorem dX6_readsMachine_50 : decode cX6_readsMachine 50 = .ok (.iconst 1, 1) := by decide +kernel
theorem dX6_readsMachine_51 : decode cX6_readsMachine 51 = .ok (.iload_n 1, 1) := by decide +kernel
theorem dX6_readsMachine_52 : decode cX6_readsMachine 52 = .ok (.invokevirtual 163, 3) := by decide +kernel
theorem dX6_readsMachine_55 : decode cX6_readsMachine 55 = .ok (.ifCond .ne 5, 3) := by decide +kernel
theorem dX6_readsMachine_58 : decode cX6_readsMachine 58 = .ok (.iconst 0, 1) := by decide +kernel
theorem dX6_readsMachine_59 : decode cX6_readsMachine 59 = .ok (.ireturn, 1) := by decide +kernel
theorem dX6_readsMachine_60 : decode cX6_readsMachine 60 = .ok (.aload_n 0, 1) := by decide +kernel
theorem dX6_readsMachine_61 : decode cX6_readsMachine 61 = .ok (.getfield 160, 3) := by decide +kernel
theorem dX6_readsMachine_64 : decode cX6_readsMachine 64 = .ok (.istore_n 2, 1) := by decide +kernel
theorem dX6_readsMachine_65 : decode cX6_readsMachine 65 = .ok (.aload_n 0, 1) := by decide +kernel
theorem dX6_readsMachine_66 : decode cX6_readsMachine 66 = .ok (.bipush 44, 2) := by decide +kernel
theorem dX6_readsMachine_68 : decode cX6_readsMachine 68 = .ok (.invokevirtual 166, 3) := by decide +kernel
theorem dX6_readsMachine_71 : decode cX6_readsMachine 71 = .ok (.ifCond .eq 13, 3) := by decide +kernel
theorem dX6_readsMachine_74 : decode cX6_readsMachine 74 = .ok (.aload_n 0, 1) := by decide +kernel
theorem dX6_readsMachine_75 : decode cX6_readsMachine 75 = .ok (.iconst 0, 1) := by decide +kernel
theorem dX6_readsMachine_76 : decode cX6_readsMachine 76 = .ok (.bipush 40, 2) := by decide +kernel
theorem dX6_readsMachine_78 : decode cX6_readsMachine 78 = .ok (.invokevirtual 163, 3) := by decide +kernel
theorem dX6_readsMachine_81 : decode cX6_readsMachine 81 = .ok (.ifCond .ne 5, 3) := by decide +kernel
theorem dX6_readsMachine_84 : decode cX6_readsMachine 84 = .ok (.iconst 0, 1) := by decide +kernel
theorem dX6_readsMachine_85 : decode cX6_readsMachine 85 = .ok (.ireturn, 1) := by decide +kernel
theorem dX6_readsMachine_86 : decode cX6_readsMachine 86 = .ok (.aload_n 0, 1) := by decide +kernel
theorem dX6_readsMachine_87 : decode cX6_readsMachine 87 = .ok (.iload_n 1, 1) := by decide +kernel
theorem dX6_readsMachine_88 : decode cX6_readsMachine 88 = .ok (.iload_n 2, 1) := by decide +kernel
theorem dX6_readsMachine_89 : decode cX6_readsMachine 89 = .ok (.aload_n 0, 1) := by decide +kernel
theorem dX6_readsMachine_90 : decode cX6_readsMachine 90 = .ok (.getfield 160, 3) := by decide +kernel
theorem dX6_readsMachine_93 : decode cX6_readsMachine 93 = .ok (.invokevirtual 54, 3) := by decide +kernel
theorem dX6_readsMachine_96 : decode cX6_readsMachine 96 = .ok (.aload_n 0, 1) := by decide +kernel
theorem dX6_readsMachine_97 : decode cX6_readsMachine 97 = .ok (.bipush 59, 2) := by decide +kernel
theorem dX6_readsMachine_99 : decode cX6_readsMachine 99 = .ok (.invokevirtual 166, 3) := by decide +kernel
theorem dX6_readsMachine_102 : decode cX6_readsMachine 102 = .ok (.ireturn, 1) := by decide +kernel
set_option maxRecDepth 20000 in
theorem ggX6_readsMarks_X6_number : GoodIn wsX6_readsMarks wsX6_number := goodIn_r _ [8, 1, 3, 9, 10, 11, 12, 7, 13, 14, 15, 16, 17, 25, 26, 27, 28, 29, 30, 31, 32, 33, 34, 35, 36] (by decide +kernel) (by decide +kernel)
set_option maxRecDepth 20000 in
theorem gX6_readsMarks_X6_number : GoodIn wsX6_readsMarks (wsV RX6 163 RX6 yX6_number wsX6_number) := goodIn_app (goodIn_of _ (by decide +kernel)) ggX6_readsMarks_X6_number
set_option maxRecDepth 20000 in
theorem ggX6_readsMarks_X6_of : GoodIn wsX6_readsMarks wsX6_of := goodIn_r _ [20] (by decide +kernel) (by decide +kernel)
set_option maxRecDepth 20000 in
theorem gX6_readsMarks_X6_of : GoodIn wsX6_readsMarks (va_wsS RX6 40 yX6_of wsX6_of) := goodIn_app (goodIn_of _ (by decide +kernel)) ggX6_readsMarks_X6_of
set_option maxRecDepth 20000 in
theorem ggX6_readsMarks_X6_sign : GoodIn wsX6_readsMarks wsX6_sign := goodIn_r _ [24, 1, 10, 11, 12, 7, 13, 14, 9, 15, 16, 17, 25, 26, 27, 28, 29, 30, 31, 32, 33, 34, 35, 36] (by decide +kernel) (by decide +kernel)
set_option maxRecDepth 20000 in
theorem gX6_readsMarks_X6_sign : GoodIn wsX6_readsMarks (wsV RX6 166 RX6 yX6_sign wsX6_sign) := goodIn_app (goodIn_of _ (by decide +kernel)) ggX6_readsMarks_X6_sign
theorem dX6_readsMarks_0 : decode cX6_readsMarks 0 = .ok (.aload_n 0, 1) := by decide +kernel
theorem dX6_readsMarks_1 : decode cX6_readsMarks 1 = .ok (.dup, 1) := by decide +kernel
theorem dX6_readsMarks_2 : decode cX6_readsMarks 2 = .ok (.getfield 154, 3) := by decide +kernel
theorem dX6_readsMarks_5 : decode cX6_readsMarks 5 = .ok (.iconst 1, 1) := by decide +kernel
theorem dX6_readsMarks_6 : decode cX6_readsMarks 6 = .ok (.iadd, 1) := by decide +kernel
theorem dX6_readsMarks_7 : decode cX6_readsMarks 7 = .ok (.putfield 154, 3) := by decide +kernel
theorem dX6_readsMarks_10 : decode cX6_readsMarks 10 = .ok (.aload_n 0, 1) := by decide +kernel
theorem dX6_readsMarks_11 : decode cX6_readsMarks 11 = .ok (.iconst 0, 1) := by decide +kernel
theorem dX6_readsMarks_12 : decode cX6_readsMarks 12 = .ok (.aload_n 0, 1) := by decide +kernel
theorem dX6_readsMarks_13 : decode cX6_readsMarks 13 = .ok (.getfield 7, 3) := by decide +kernel
theorem dX6_readsMarks_16 : decode cX6_readsMarks 16 = .ok (.iconst 0, 1) := by decide +kernel
theorem dX6_readsMarks_17 : decode cX6_readsMarks 17 = .ok (.iaload, 1) := by decide +kernel
theorem dX6_readsMarks_18 : decode cX6_readsMarks 18 = .ok (.iconst 1, 1) := by decide +kernel
theorem dX6_readsMarks_19 : decode cX6_readsMarks 19 = .ok (.isub, 1) := by decide +kernel
theorem dX6_readsMarks_20 : decode cX6_readsMarks 20 = .ok (.invokevirtual 163, 3) := by decide +kernel
theorem dX6_readsMarks_23 : decode cX6_readsMarks 23 = .ok (.ifCond .ne 5, 3) := by decide +kernel
theorem dX6_readsMarks_26 : decode cX6_readsMarks 26 = .ok (.iconst 0, 1) := by decide +kernel
theorem dX6_readsMarks_27 : decode cX6_readsMarks 27 = .ok (.ireturn, 1) := by decide +kernel
theorem dX6_readsMarks_28 : decode cX6_readsMarks 28 = .ok (.aload_n 0, 1) := by decide +kernel
theorem dX6_readsMarks_29 : decode cX6_readsMarks 29 = .ok (.getfield 160, 3) := by decide +kernel
theorem dX6_readsMarks_32 : decode cX6_readsMarks 32 = .ok (.invokestatic 40, 3) := by decide +kernel
theorem dX6_readsMarks_35 : decode cX6_readsMarks 35 = .ok (.istore_n 1, 1) := by decide +kernel
theorem dX6_readsMarks_36 : decode cX6_readsMarks 36 = .ok (.aload_n 0, 1) := by decide +kernel
theorem dX6_readsMarks_37 : decode cX6_readsMarks 37 = .ok (.bipush 44, 2) := by decide +kernel
theorem dX6_readsMarks_39 : decode cX6_readsMarks 39 = .ok (.invokevirtual 166, 3) := by decide +kernel
theorem dX6_readsMarks_42 : decode cX6_readsMarks 42 = .ok (.ifCond .eq 13, 3) := by decide +kernel
theorem dX6_readsMarks_45 : decode cX6_readsMarks 45 = .ok (.aload_n 0, 1) := by decide +kernel
theorem dX6_readsMarks_46 : decode cX6_readsMarks 46 = .ok (.iconst 0, 1) := by decide +kernel
theorem dX6_readsMarks_47 : decode cX6_readsMarks 47 = .ok (.bipush 40, 2) := by decide +kernel
theorem dX6_readsMarks_49 : decode cX6_readsMarks 49 = .ok (.invokevirtual 163, 3) := by decide +kernel
theorem dX6_readsMarks_52 : decode cX6_readsMarks 52 = .ok (.ifCond .ne 5, 3) := by decide +kernel
theorem dX6_readsMarks_55 : decode cX6_readsMarks 55 = .ok (.iconst 0, 1) := by decide +kernel
theorem dX6_readsMarks_56 : decode cX6_readsMarks 56 = .ok (.ireturn, 1) := by decide +kernel
theorem dX6_readsMarks_57 : decode cX6_readsMarks 57 = .ok (.aload_n 0, 1) := by decide +kernel
theorem dX6_readsMarks_58 : decode cX6_readsMarks 58 = .ok (.getfield 160, 3) := by decide +kernel
theorem dX6_readsMarks_61 : decode cX6_readsMarks 61 = .ok (.istore_n 2, 1) := by decide +kernel
theorem dX6_readsMarks_62 : decode cX6_readsMarks 62 = .ok (.aload_n 0, 1) := by decide +kernel
theorem dX6_readsMarks_63 : decode cX6_readsMarks 63 = .ok (.bipush 44, 2) := by decide +kernel
theorem dX6_readsMarks_65 : decode cX6_readsMarks 65 = .ok (.invokevirtual 166, 3) := by decide +kernel
theorem dX6_readsMarks_68 : decode cX6_readsMarks 68 = .ok (.ifCond .eq 13, 3) := by decide +kernel
theorem dX6_readsMarks_71 : decode cX6_readsMarks 71 = .ok (.aload_n 0, 1) := by decide +kernel
theorem dX6_readsMarks_72 : decode cX6_readsMarks 72 = .ok (.iload_n 2, 1) := by decide +kernel
theorem dX6_readsMarks_73 : decode cX6_readsMarks 73 = .ok (.bipush 40, 2) := by decide +kernel
theorem dX6_readsMarks_75 : decode cX6_readsMarks 75 = .ok (.invokevirtual 163, 3) := by decide +kernel
theorem dX6_readsMarks_78 : decode cX6_readsMarks 78 = .ok (.ifCond .ne 5, 3) := by decide +kernel
theorem dX6_readsMarks_81 : decode cX6_readsMarks 81 = .ok (.iconst 0, 1) := by decide +kernel
theorem dX6_readsMarks_82 : decode cX6_readsMarks 82 = .ok (.ireturn, 1) := by decide +kernel
theorem dX6_readsMarks_83 : decode cX6_readsMarks 83 = .ok (.aload_n 0, 1) := by decide +kernel
theorem dX6_readsMarks_84 : decode cX6_readsMarks 84 = .ok (.getfield 7, 3) := by decide +kernel
theorem dX6_readsMarks_87 : decode cX6_readsMarks 87 = .ok (.iload_n 1, 1) := by decide +kernel
theorem dX6_readsMarks_88 : decode cX6_readsMarks 88 = .ok (.iconst 2, 1) := by decide +kernel
theorem dX6_readsMarks_89 : decode cX6_readsMarks 89 = .ok (.iadd, 1) := by decide +kernel
theorem dX6_readsMarks_90 : decode cX6_readsMarks 90 = .ok (.iload_n 2, 1) := by decide +kernel
theorem dX6_readsMarks_91 : decode cX6_readsMarks 91 = .ok (.iastore, 1) := by decide +kernel
theorem dX6_readsMarks_92 : decode cX6_readsMarks 92 = .ok (.aload_n 0, 1) := by decide +kernel
theorem dX6_readsMarks_93 : decode cX6_readsMarks 93 = .ok (.getfield 7, 3) := by decide +kernel
theorem dX6_readsMarks_96 : decode cX6_readsMarks 96 = .ok (.iload_n 1, 1) := by decide +kernel
theorem dX6_readsMarks_97 : decode cX6_readsMarks 97 = .ok (.iconst 3, 1) := by decide +kernel
theorem dX6_readsMarks_98 : decode cX6_readsMarks 98 = .ok (.iadd, 1) := by decide +kernel
theorem dX6_readsMarks_99 : decode cX6_readsMarks 99 = .ok (.aload_n 0, 1) := by decide +kernel
theorem dX6_readsMarks_100 : decode cX6_readsMarks 100 = .ok (.getfield 160, 3) := by decide +kernel
theorem dX6_readsMarks_103 : decode cX6_readsMarks 103 = .ok (.iastore, 1) := by decide +kernel
theorem dX6_readsMarks_104 : decode cX6_readsMarks 104 = .ok (.aload_n 0, 1) := by decide +kernel
theorem dX6_readsMarks_105 : decode cX6_readsMarks 105 = .ok (.bipush 59, 2) := by decide +kernel
theorem dX6_readsMarks_107 : decode cX6_readsMarks 107 = .ok (.invokevirtual 166, 3) := by decide +kernel
theorem dX6_readsMarks_110 : decode cX6_readsMarks 110 = .ok (.ireturn, 1) := by decide +kernel
set_option maxRecDepth 20000 in
theorem ggX6_parse_X6_keeps : GoodIn wsX6_parse wsX6_keeps := goodIn_r _ [11, 6, 2, 53, 54, 55, 56, 57, 58, 59, 60, 61, 62, 63, 64] (by decide +kernel) (by decide +kernel)
set_option maxRecDepth 20000 in
theorem gX6_parse_X6_keeps : GoodIn wsX6_parse (wsV RX6 138 RX6 yX6_keeps wsX6_keeps) := goodIn_app (goodIn_of _ (by decide +kernel)) ggX6_parse_X6_keeps
set_option maxRecDepth 20000 in
theorem ggX6_parse_X6_readsMachine : GoodIn wsX6_parse wsX6_readsMachine := goodIn_r _ [15, 2, 3, 16, 17, 18, 19, 10, 20, 5, 21, 22, 23, 24, 4, 25, 26, 27, 28, 29, 30, 31, 32, 33, 34, 35, 36, 37, 38, 53, 54, 55, 56, 57, 58, 59, 60, 61, 62, 63, 64] (by decide +kernel) (by decide +kernel)
set_option maxRecDepth 20000 in
theorem gX6_parse_X6_readsMachine : GoodIn wsX6_parse (wsV RX6 169 RX6 yX6_readsMachine wsX6_readsMachine) := goodIn_app (goodIn_of _ (by decide +kernel)) ggX6_parse_X6_readsMachine
set_option maxRecDepth 20000 in
theorem ggX6_parse_X6_readsMarks : GoodIn wsX6_parse wsX6_readsMarks := goodIn_r _ [42, 3, 2, 16, 17, 18, 19, 10, 20, 5, 21, 22, 23, 24, 4, 25, 26, 27, 36, 37, 38, 28, 29, 30, 31, 53, 54, 55, 56, 57, 58, 59, 60, 61, 62, 63, 64] (by decide +kernel) (by decide +kernel)
set_option maxRecDepth 20000 in
theorem gX6_parse_X6_readsMarks : GoodIn wsX6_parse (wsV RX6 173 RX6 yX6_readsMarks wsX6_readsMarks) := goodIn_app (goodIn_of _ (by decide +kernel)) ggX6_parse_X6_readsMarks
set_option maxRecDepth 20000 in
theorem ggX6_parse_X6_saves : GoodIn wsX6_parse wsX6_saves := goodIn_r _ [46, 47, 48, 2, 53, 54, 55, 56, 57, 58, 59, 60, 61, 62, 63, 64] (by decide +kernel) (by decide +kernel)
set_option maxRecDepth 20000 in
theorem gX6_parse_X6_saves : GoodIn wsX6_parse (wsV RX6 51 RX6 yX6_saves wsX6_saves) := goodIn_app (goodIn_of _ (by decide +kernel)) ggX6_parse_X6_saves
set_option maxRecDepth 20000 in
theorem ggX6_parse_X6_takesBack : GoodIn wsX6_parse wsX6_takesBack := goodIn_r _ [52, 2, 6, 53, 54, 55, 56, 57, 58, 59, 60, 61, 62, 63, 64] (by decide +kernel) (by decide +kernel)
set_option maxRecDepth 20000 in
theorem gX6_parse_X6_takesBack : GoodIn wsX6_parse (wsV RX6 141 RX6 yX6_takesBack wsX6_takesBack) := goodIn_app (goodIn_of _ (by decide +kernel)) ggX6_parse_X6_takesBack
theorem dX6_parse_0 : decode cX6_parse 0 = .ok (.aload_n 0, 1) := by decide +kernel
theorem dX6_parse_1 : decode cX6_parse 1 = .ok (.iconst 0, 1) := by decide +kernel
theorem dX6_parse_2 : decode cX6_parse 2 = .ok (.putfield 25, 3) := by decide +kernel
theorem dX6_parse_5 : decode cX6_parse 5 = .ok (.aload_n 0, 1) := by decide +kernel
theorem dX6_parse_6 : decode cX6_parse 6 = .ok (.invokevirtual 138, 3) := by decide +kernel
theorem dX6_parse_9 : decode cX6_parse 9 = .ok (.iconst 0, 1) := by decide +kernel
theorem dX6_parse_10 : decode cX6_parse 10 = .ok (.istore_n 1, 1) := by decide +kernel
theorem dX6_parse_11 : decode cX6_parse 11 = .ok (.iload_n 1, 1) := by decide +kernel
theorem dX6_parse_12 : decode cX6_parse 12 = .ok (.sipush 251, 3) := by decide +kernel
theorem dX6_parse_15 : decode cX6_parse 15 = .ok (.if_icmp .ge 16, 3) := by decide +kernel
theorem dX6_parse_18 : decode cX6_parse 18 = .ok (.aload_n 0, 1) := by decide +kernel
theorem dX6_parse_19 : decode cX6_parse 19 = .ok (.getfield 7, 3) := by decide +kernel
theorem dX6_parse_22 : decode cX6_parse 22 = .ok (.iload_n 1, 1) := by decide +kernel
theorem dX6_parse_23 : decode cX6_parse 23 = .ok (.iconst 0, 1) := by decide +kernel
theorem dX6_parse_24 : decode cX6_parse 24 = .ok (.iastore, 1) := by decide +kernel
theorem dX6_parse_25 : decode cX6_parse 25 = .ok (.iinc 1 1, 3) := by decide +kernel
theorem dX6_parse_28 : decode cX6_parse 28 = .ok (.goto (-17), 3) := by decide +kernel
theorem dX6_parse_31 : decode cX6_parse 31 = .ok (.aload_n 0, 1) := by decide +kernel
theorem dX6_parse_32 : decode cX6_parse 32 = .ok (.iconst 0, 1) := by decide +kernel
theorem dX6_parse_33 : decode cX6_parse 33 = .ok (.putfield 154, 3) := by decide +kernel
theorem dX6_parse_36 : decode cX6_parse 36 = .ok (.iconst 1, 1) := by decide +kernel
theorem dX6_parse_37 : decode cX6_parse 37 = .ok (.istore_n 1, 1) := by decide +kernel
theorem dX6_parse_38 : decode cX6_parse 38 = .ok (.iload_n 1, 1) := by decide +kernel
theorem dX6_parse_39 : decode cX6_parse 39 = .ok (.ifCond .eq 65, 3) := by decide +kernel
theorem dX6_parse_42 : decode cX6_parse 42 = .ok (.aload_n 0, 1) := by decide +kernel
theorem dX6_parse_43 : decode cX6_parse 43 = .ok (.getfield 154, 3) := by decide +kernel
theorem dX6_parse_46 : decode cX6_parse 46 = .ok (.aload_n 0, 1) := by decide +kernel
theorem dX6_parse_47 : decode cX6_parse 47 = .ok (.getfield 151, 3) := by decide +kernel
theorem dX6_parse_50 : decode cX6_parse 50 = .ok (.if_icmp .ge 54, 3) := by decide +kernel
theorem dX6_parse_53 : decode cX6_parse 53 = .ok (.aload_n 0, 1) := by decide +kernel
theorem dX6_parse_54 : decode cX6_parse 54 = .ok (.getfield 19, 3) := by decide +kernel
theorem dX6_parse_57 : decode cX6_parse 57 = .ok (.aload_n 0, 1) := by decide +kernel
theorem dX6_parse_58 : decode cX6_parse 58 = .ok (.getfield 154, 3) := by decide +kernel
theorem dX6_parse_61 : decode cX6_parse 61 = .ok (.iaload, 1) := by decide +kernel
theorem dX6_parse_62 : decode cX6_parse 62 = .ok (.bipush 109, 2) := by decide +kernel
theorem dX6_parse_64 : decode cX6_parse 64 = .ok (.if_icmp .ne 10, 3) := by decide +kernel
theorem dX6_parse_67 : decode cX6_parse 67 = .ok (.aload_n 0, 1) := by decide +kernel
theorem dX6_parse_68 : decode cX6_parse 68 = .ok (.invokevirtual 169, 3) := by decide +kernel
theorem dX6_parse_71 : decode cX6_parse 71 = .ok (.goto 29, 3) := by decide +kernel
theorem dX6_parse_74 : decode cX6_parse 74 = .ok (.aload_n 0, 1) := by decide +kernel
theorem dX6_parse_75 : decode cX6_parse 75 = .ok (.getfield 19, 3) := by decide +kernel
theorem dX6_parse_78 : decode cX6_parse 78 = .ok (.aload_n 0, 1) := by decide +kernel
theorem dX6_parse_79 : decode cX6_parse 79 = .ok (.getfield 154, 3) := by decide +kernel
theorem dX6_parse_82 : decode cX6_parse 82 = .ok (.iaload, 1) := by decide +kernel
theorem dX6_parse_83 : decode cX6_parse 83 = .ok (.bipush 104, 2) := by decide +kernel
theorem dX6_parse_85 : decode cX6_parse 85 = .ok (.if_icmp .ne 14, 3) := by decide +kernel
theorem dX6_parse_88 : decode cX6_parse 88 = .ok (.aload_n 0, 1) := by decide +kernel
theorem dX6_parse_89 : decode cX6_parse 89 = .ok (.invokevirtual 173, 3) := by decide +kernel
theorem dX6_parse_92 : decode cX6_parse 92 = .ok (.ifCond .eq 7, 3) := by decide +kernel
theorem dX6_parse_95 : decode cX6_parse 95 = .ok (.iconst 1, 1) := by decide +kernel
theorem dX6_parse_96 : decode cX6_parse 96 = .ok (.goto 4, 3) := by decide +kernel
theorem dX6_parse_99 : decode cX6_parse 99 = .ok (.iconst 0, 1) := by decide +kernel
theorem dX6_parse_100 : decode cX6_parse 100 = .ok (.istore_n 1, 1) := by decide +kernel
theorem dX6_parse_101 : decode cX6_parse 101 = .ok (.goto (-63), 3) := by decide +kernel
theorem dX6_parse_104 : decode cX6_parse 104 = .ok (.iconst 0, 1) := by decide +kernel
theorem dX6_parse_105 : decode cX6_parse 105 = .ok (.istore_n 2, 1) := by decide +kernel
theorem dX6_parse_106 : decode cX6_parse 106 = .ok (.iload_n 2, 1) := by decide +kernel
theorem dX6_parse_107 : decode cX6_parse 107 = .ok (.sipush 251, 3) := by decide +kernel
theorem dX6_parse_110 : decode cX6_parse 110 = .ok (.if_icmp .ge 35, 3) := by decide +kernel
theorem dX6_parse_113 : decode cX6_parse 113 = .ok (.aload_n 0, 1) := by decide +kernel
theorem dX6_parse_114 : decode cX6_parse 114 = .ok (.getfield 7, 3) := by decide +kernel
theorem dX6_parse_117 : decode cX6_parse 117 = .ok (.iload_n 2, 1) := by decide +kernel
theorem dX6_parse_118 : decode cX6_parse 118 = .ok (.iaload, 1) := by decide +kernel
theorem dX6_parse_119 : decode cX6_parse 119 = .ok (.istore_n 3, 1) := by decide +kernel
theorem dX6_parse_120 : decode cX6_parse 120 = .ok (.aload_n 0, 1) := by decide +kernel
theorem dX6_parse_121 : decode cX6_parse 121 = .ok (.getfield 7, 3) := by decide +kernel
theorem dX6_parse_124 : decode cX6_parse 124 = .ok (.iload_n 2, 1) := by decide +kernel
theorem dX6_parse_125 : decode cX6_parse 125 = .ok (.aload_n 0, 1) := by decide +kernel
theorem dX6_parse_126 : decode cX6_parse 126 = .ok (.getfield 16, 3) := by decide +kernel
theorem dX6_parse_129 : decode cX6_parse 129 = .ok (.iload_n 2, 1) := by decide +kernel
theorem dX6_parse_130 : decode cX6_parse 130 = .ok (.iaload, 1) := by decide +kernel
theorem dX6_parse_131 : decode cX6_parse 131 = .ok (.iastore, 1) := by decide +kernel
theorem dX6_parse_132 : decode cX6_parse 132 = .ok (.aload_n 0, 1) := by decide +kernel
theorem dX6_parse_133 : decode cX6_parse 133 = .ok (.getfield 16, 3) := by decide +kernel
theorem dX6_parse_136 : decode cX6_parse 136 = .ok (.iload_n 2, 1) := by decide +kernel
theorem dX6_parse_137 : decode cX6_parse 137 = .ok (.iload_n 3, 1) := by decide +kernel
theorem dX6_parse_138 : decode cX6_parse 138 = .ok (.iastore, 1) := by decide +kernel
