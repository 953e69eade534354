set_option maxRecDepth 20000 in
theorem ggX5_slowest_X5_needMachines : GoodIn wsX5_slowest wsX5_needMachines := goodIn_ca (goodIn_r _ [14, 15, 16, 1, 54, 55, 56, 57, 58, 59, 60, 61] (by decide +kernel) (by decide +kernel)) (goodIn_sub (fun _ h => List.mem_cons_of_mem _ (List.mem_append_right _ h)) (by decide +kernel))
set_option maxRecDepth 20000 in
theorem gX5_slowest_X5_needMachines : GoodIn wsX5_slowest (wsV RX5 131 RX5 yX5_needMachines wsX5_needMachines) := goodIn_app (goodIn_of _ (by decide +kernel)) ggX5_slowest_X5_needMachines
set_option maxRecDepth 20000 in
theorem ggX5_slowest_X2_findSlowest : GoodIn wsX5_slowest wsX2_findSlowest := goodIn_r _ [21, 22, 23, 24, 25, 26, 20, 27, 28, 29, 30, 31, 32, 33, 34, 35, 36, 37, 38, 39, 40, 41, 42, 43, 44, 45, 46, 47, 48, 49, 50, 51, 52, 53, 58, 59, 60, 61, 62, 63, 64, 65, 66] (by decide +kernel) (by decide +kernel)
set_option maxRecDepth 20000 in
theorem gX5_slowest_X2_findSlowest : GoodIn wsX5_slowest (wsV RX5 152 RX2 yX2_findSlowest wsX2_findSlowest) := goodIn_app (goodIn_of _ (by decide +kernel)) ggX5_slowest_X2_findSlowest
theorem dX5_slowest_0 : decode cX5_slowest 0 = .ok (.iload_n 1, 1) := by decide +kernel
theorem dX5_slowest_1 : decode cX5_slowest 1 = .ok (.sipush 10000, 3) := by decide +kernel
theorem dX5_slowest_4 : decode cX5_slowest 4 = .ok (.invokestatic 149, 3) := by decide +kernel
theorem dX5_slowest_7 : decode cX5_slowest 7 = .ok (.aload_n 0, 1) := by decide +kernel
theorem dX5_slowest_8 : decode cX5_slowest 8 = .ok (.iconst 1, 1) := by decide +kernel
theorem dX5_slowest_9 : decode cX5_slowest 9 = .ok (.invokevirtual 131, 3) := by decide +kernel
theorem dX5_slowest_12 : decode cX5_slowest 12 = .ok (.aload_n 0, 1) := by decide +kernel
theorem dX5_slowest_13 : decode cX5_slowest 13 = .ok (.getfield 10, 3) := by decide +kernel
theorem dX5_slowest_16 : decode cX5_slowest 16 = .ok (.iload_n 1, 1) := by decide +kernel
theorem dX5_slowest_17 : decode cX5_slowest 17 = .ok (.invokevirtual 152, 3) := by decide +kernel
theorem dX5_slowest_20 : decode cX5_slowest 20 = .ok (.ireturn, 1) := by decide +kernel
set_option maxRecDepth 20000 in
theorem ggX5_outputWith_X5_needMachine : GoodIn wsX5_outputWith wsX5_needMachine := goodIn_ca (goodIn_r _ [7, 8, 9, 10, 98, 99, 100, 101, 102, 103, 104, 105] (by decide +kernel) (by decide +kernel)) (goodIn_sub (fun _ h => List.mem_cons_of_mem _ (List.mem_append_right _ h)) (by decide +kernel))
set_option maxRecDepth 20000 in
theorem gX5_outputWith_X5_needMachine : GoodIn wsX5_outputWith (wsV RX5 68 RX5 yX5_needMachine wsX5_needMachine) := goodIn_app (goodIn_of _ (by decide +kernel)) ggX5_outputWith_X5_needMachine
set_option maxRecDepth 20000 in
theorem ggX5_outputWith_X5_isIn : GoodIn wsX5_outputWith wsX5_isIn := goodIn_r _ [13] (by decide +kernel) (by decide +kernel)
set_option maxRecDepth 20000 in
theorem gX5_outputWith_X5_isIn : GoodIn wsX5_outputWith (va_wsS RX5 37 yX5_isIn wsX5_isIn) := goodIn_app (goodIn_of _ (by decide +kernel)) ggX5_outputWith_X5_isIn
set_option maxRecDepth 20000 in
theorem ggX5_outputWith_X5_needHorizon : GoodIn wsX5_outputWith wsX5_needHorizon := goodIn_ca (goodIn_r _ [16, 1, 2, 11, 12, 6, 13] (by decide +kernel) (by decide +kernel)) (goodIn_sub (fun _ h => List.mem_cons_of_mem _ (List.mem_append_left _ (List.mem_append_right _ h))) (by decide +kernel))
set_option maxRecDepth 20000 in
theorem gX5_outputWith_X5_needHorizon : GoodIn wsX5_outputWith (va_wsS RX5 149 yX5_needHorizon wsX5_needHorizon) := goodIn_app (goodIn_of _ (by decide +kernel)) ggX5_outputWith_X5_needHorizon
set_option maxRecDepth 20000 in
theorem ggX5_outputWith_X5_tryCapacity : GoodIn wsX5_outputWith wsX5_tryCapacity := goodIn_r _ [20, 10, 21, 22, 23, 24, 25, 26, 27, 28, 29, 30, 31, 32, 33, 34, 35, 36, 37, 38, 39, 40, 41, 42, 43, 44, 45, 46, 47, 48, 49, 50, 51, 52, 53, 54, 55, 56, 57, 58, 59, 60, 61, 62, 63, 64, 65, 66, 67, 68, 69, 70, 71, 72, 73, 74, 75, 76, 77, 78, 79, 80, 81, 82, 83, 84, 85, 86, 87, 88, 89, 90, 91, 92, 93, 94, 95, 96, 97, 98, 99, 100, 101, 102, 103, 104, 105, 106, 107, 108, 109, 110] (by decide +kernel) (by decide +kernel)
set_option maxRecDepth 20000 in
theorem gX5_outputWith_X5_tryCapacity : GoodIn wsX5_outputWith (wsV RX5 161 RX5 yX5_tryCapacity wsX5_tryCapacity) := goodIn_app (goodIn_of _ (by decide +kernel)) ggX5_outputWith_X5_tryCapacity
theorem dX5_outputWith_0 : decode cX5_outputWith 0 = .ok (.aload_n 0, 1) := by decide +kernel
theorem dX5_outputWith_1 : decode cX5_outputWith 1 = .ok (.iload_n 1, 1) := by decide +kernel
theorem dX5_outputWith_2 : decode cX5_outputWith 2 = .ok (.invokevirtual 68, 3) := by decide +kernel
theorem dX5_outputWith_5 : decode cX5_outputWith 5 = .ok (.iload_n 2, 1) := by decide +kernel
theorem dX5_outputWith_6 : decode cX5_outputWith 6 = .ok (.iconst 0, 1) := by decide +kernel
theorem dX5_outputWith_7 : decode cX5_outputWith 7 = .ok (.bipush 40, 2) := by decide +kernel
theorem dX5_outputWith_9 : decode cX5_outputWith 9 = .ok (.invokestatic 37, 3) := by decide +kernel
theorem dX5_outputWith_12 : decode cX5_outputWith 12 = .ok (.ifCond .ne 13, 3) := by decide +kernel
theorem dX5_outputWith_15 : decode cX5_outputWith 15 = .ok (.new 41, 3) := by decide +kernel
theorem dX5_outputWith_18 : decode cX5_outputWith 18 = .ok (.dup, 1) := by decide +kernel
theorem dX5_outputWith_19 : decode cX5_outputWith 19 = .ok (.ldc 82, 2) := by decide +kernel
theorem dX5_outputWith_21 : decode cX5_outputWith 21 = .ok (.invokespecial 45, 3) := by decide +kernel
theorem dX5_outputWith_24 : decode cX5_outputWith 24 = .ok (.athrow, 1) := by decide +kernel
theorem dX5_outputWith_25 : decode cX5_outputWith 25 = .ok (.iload_n 3, 1) := by decide +kernel
theorem dX5_outputWith_26 : decode cX5_outputWith 26 = .ok (.sipush 2000, 3) := by decide +kernel
theorem dX5_outputWith_29 : decode cX5_outputWith 29 = .ok (.invokestatic 149, 3) := by decide +kernel
theorem dX5_outputWith_32 : decode cX5_outputWith 32 = .ok (.aload_n 0, 1) := by decide +kernel
theorem dX5_outputWith_33 : decode cX5_outputWith 33 = .ok (.iload_n 1, 1) := by decide +kernel
theorem dX5_outputWith_34 : decode cX5_outputWith 34 = .ok (.iload_n 2, 1) := by decide +kernel
theorem dX5_outputWith_35 : decode cX5_outputWith 35 = .ok (.iload_n 3, 1) := by decide +kernel
theorem dX5_outputWith_36 : decode cX5_outputWith 36 = .ok (.invokevirtual 161, 3) := by decide +kernel
theorem dX5_outputWith_39 : decode cX5_outputWith 39 = .ok (.ireturn, 1) := by decide +kernel
set_option maxRecDepth 20000 in
theorem ggX5_capacityFor_X5_needMachine : GoodIn wsX5_capacityFor wsX5_needMachine := goodIn_ca (goodIn_r _ [9, 10, 11, 3, 113, 114, 115, 116, 117, 118, 119, 120] (by decide +kernel) (by decide +kernel)) (goodIn_sub (fun _ h => List.mem_cons_of_mem _ (List.mem_append_right _ h)) (by decide +kernel))
set_option maxRecDepth 20000 in
theorem gX5_capacityFor_X5_needMachine : GoodIn wsX5_capacityFor (wsV RX5 68 RX5 yX5_needMachine wsX5_needMachine) := goodIn_app (goodIn_of _ (by decide +kernel)) ggX5_capacityFor_X5_needMachine
set_option maxRecDepth 20000 in
theorem ggX5_capacityFor_X5_needHorizon : GoodIn wsX5_capacityFor wsX5_needHorizon := goodIn_ca (goodIn_r _ [14, 1, 2, 15, 16, 8, 17] (by decide +kernel) (by decide +kernel)) (goodIn_sub (fun _ h => List.mem_cons_of_mem _ (List.mem_append_left _ (List.mem_append_right _ h))) (by decide +kernel))
set_option maxRecDepth 20000 in
theorem gX5_capacityFor_X5_needHorizon : GoodIn wsX5_capacityFor (va_wsS RX5 149 yX5_needHorizon wsX5_needHorizon) := goodIn_app (goodIn_of _ (by decide +kernel)) ggX5_capacityFor_X5_needHorizon
set_option maxRecDepth 20000 in
theorem ggX5_capacityFor_X5_isIn : GoodIn wsX5_capacityFor wsX5_isIn := goodIn_r _ [17] (by decide +kernel) (by decide +kernel)
set_option maxRecDepth 20000 in
theorem gX5_capacityFor_X5_isIn : GoodIn wsX5_capacityFor (va_wsS RX5 37 yX5_isIn wsX5_isIn) := goodIn_app (goodIn_of _ (by decide +kernel)) ggX5_capacityFor_X5_isIn
set_option maxRecDepth 20000 in
theorem ggX5_capacityFor_X2_findSlowest : GoodIn wsX5_capacityFor wsX2_findSlowest := goodIn_r _ [22, 23, 24, 25, 26, 27, 21, 28, 29, 30, 31, 32, 33, 34, 35, 36, 37, 38, 39, 40, 41, 42, 43, 44, 45, 46, 47, 48, 49, 50, 51, 52, 53, 54, 117, 118, 119, 120, 121, 122, 123, 124, 125] (by decide +kernel) (by decide +kernel)
set_option maxRecDepth 20000 in
theorem gX5_capacityFor_X2_findSlowest : GoodIn wsX5_capacityFor (wsV RX5 152 RX2 yX2_findSlowest wsX2_findSlowest) := goodIn_app (goodIn_of _ (by decide +kernel)) ggX5_capacityFor_X2_findSlowest
set_option maxRecDepth 20000 in
theorem ggX5_capacityFor_X2_mostBottles : GoodIn wsX5_capacityFor wsX2_mostBottles := goodIn_r _ [28, 29, 30, 31, 32, 21, 33, 34, 35, 36, 37, 38, 39, 40, 41, 42, 43, 44, 45, 46, 47, 48, 49, 50, 51, 52, 53, 54, 117, 118, 119, 120, 121, 122, 123, 124, 125] (by decide +kernel) (by decide +kernel)
set_option maxRecDepth 20000 in
theorem gX5_capacityFor_X2_mostBottles : GoodIn wsX5_capacityFor (wsV RX5 155 RX2 yX2_mostBottles wsX2_mostBottles) := goodIn_app (goodIn_of _ (by decide +kernel)) ggX5_capacityFor_X2_mostBottles
set_option maxRecDepth 20000 in
theorem ggX5_capacityFor_X5_tryCapacity : GoodIn wsX5_capacityFor wsX5_tryCapacity := goodIn_r _ [59, 3, 4, 60, 61, 21, 62, 24, 29, 63, 64, 65, 66, 34, 67, 68, 69, 42, 70, 46, 50, 71, 47, 48, 72, 73, 74, 75, 76, 77, 78, 79, 80, 81, 82, 39, 40, 41, 43, 44, 45, 49, 36, 37, 38, 83, 84, 85, 86, 87, 88, 89, 90, 51, 52, 53, 54, 91, 92, 93, 94, 95, 96, 97, 98, 99, 100, 101, 102, 103, 104, 105, 106, 107, 108, 109, 110, 111, 112, 113, 114, 115, 116, 117, 118, 119, 120, 121, 122, 123, 124, 125] (by decide +kernel) (by decide +kernel)
set_option maxRecDepth 20000 in
theorem gX5_capacityFor_X5_tryCapacity : GoodIn wsX5_capacityFor (wsV RX5 161 RX5 yX5_tryCapacity wsX5_tryCapacity) := goodIn_app (goodIn_of _ (by decide +kernel)) ggX5_capacityFor_X5_tryCapacity
theorem dX5_capacityFor_0 : decode cX5_capacityFor 0 = .ok (.aload_n 0, 1) := by decide +kernel
theorem dX5_capacityFor_1 : decode cX5_capacityFor 1 = .ok (.iload_n 1, 1) := by decide +kernel
theorem dX5_capacityFor_2 : decode cX5_capacityFor 2 = .ok (.invokevirtual 68, 3) := by decide +kernel
theorem dX5_capacityFor_5 : decode cX5_capacityFor 5 = .ok (.iload_n 2, 1) := by decide +kernel
theorem dX5_capacityFor_6 : decode cX5_capacityFor 6 = .ok (.sipush 2000, 3) := by decide +kernel
theorem dX5_capacityFor_9 : decode cX5_capacityFor 9 = .ok (.invokestatic 149, 3) := by decide +kernel
theorem dX5_capacityFor_12 : decode cX5_capacityFor 12 = .ok (.iload_n 3, 1) := by decide +kernel
theorem dX5_capacityFor_13 : decode cX5_capacityFor 13 = .ok (.iconst 0, 1) := by decide +kernel
theorem dX5_capacityFor_14 : decode cX5_capacityFor 14 = .ok (.sipush 2000, 3) := by decide +kernel
theorem dX5_capacityFor_17 : decode cX5_capacityFor 17 = .ok (.invokestatic 37, 3) := by decide +kernel
theorem dX5_capacityFor_20 : decode cX5_capacityFor 20 = .ok (.ifCond .ne 13, 3) := by decide +kernel
theorem dX5_capacityFor_23 : decode cX5_capacityFor 23 = .ok (.new 41, 3) := by decide +kernel
theorem dX5_capacityFor_26 : decode cX5_capacityFor 26 = .ok (.dup, 1) := by decide +kernel
theorem dX5_capacityFor_27 : decode cX5_capacityFor 27 = .ok (.ldc 164, 2) := by decide +kernel
theorem dX5_capacityFor_29 : decode cX5_capacityFor 29 = .ok (.invokespecial 45, 3) := by decide +kernel
theorem dX5_capacityFor_32 : decode cX5_capacityFor 32 = .ok (.athrow, 1) := by decide +kernel
theorem dX5_capacityFor_33 : decode cX5_capacityFor 33 = .ok (.aload_n 0, 1) := by decide +kernel
theorem dX5_capacityFor_34 : decode cX5_capacityFor 34 = .ok (.getfield 10, 3) := by decide +kernel
theorem dX5_capacityFor_37 : decode cX5_capacityFor 37 = .ok (.aload_n 0, 1) := by decide +kernel
theorem dX5_capacityFor_38 : decode cX5_capacityFor 38 = .ok (.getfield 10, 3) := by decide +kernel
theorem dX5_capacityFor_41 : decode cX5_capacityFor 41 = .ok (.iload_n 2, 1) := by decide +kernel
theorem dX5_capacityFor_42 : decode cX5_capacityFor 42 = .ok (.invokevirtual 152, 3) := by decide +kernel
theorem dX5_capacityFor_45 : decode cX5_capacityFor 45 = .ok (.iload_n 2, 1) := by decide +kernel
theorem dX5_capacityFor_46 : decode cX5_capacityFor 46 = .ok (.invokevirtual 155, 3) := by decide +kernel
theorem dX5_capacityFor_49 : decode cX5_capacityFor 49 = .ok (.iload_n 3, 1) := by decide +kernel
theorem dX5_capacityFor_50 : decode cX5_capacityFor 50 = .ok (.if_icmp .ge 5, 3) := by decide +kernel
theorem dX5_capacityFor_53 : decode cX5_capacityFor 53 = .ok (.iconst (-1), 1) := by decide +kernel
theorem dX5_capacityFor_54 : decode cX5_capacityFor 54 = .ok (.ireturn, 1) := by decide +kernel
theorem dX5_capacityFor_55 : decode cX5_capacityFor 55 = .ok (.iconst 0, 1) := by decide +kernel
theorem dX5_capacityFor_56 : decode cX5_capacityFor 56 = .ok (.istore 4, 2) := by decide +kernel
theorem dX5_capacityFor_58 : decode cX5_capacityFor 58 = .ok (.iload 4, 2) := by decide +kernel
theorem dX5_capacityFor_60 : decode cX5_capacityFor 60 = .ok (.bipush 40, 2) := by decide +kernel
theorem dX5_capacityFor_62 : decode cX5_capacityFor 62 = .ok (.if_icmp .gt 41, 3) := by decide +kernel
theorem dX5_capacityFor_65 : decode cX5_capacityFor 65 = .ok (.aload_n 0, 1) := by decide +kernel
theorem dX5_capacityFor_66 : decode cX5_capacityFor 66 = .ok (.iload_n 1, 1) := by decide +kernel
theorem dX5_capacityFor_67 : decode cX5_capacityFor 67 = .ok (.iload 4, 2) := by decide +kernel
theorem dX5_capacityFor_69 : decode cX5_capacityFor 69 = .ok (.iload_n 2, 1) := by decide +kernel
theorem dX5_capacityFor_70 : decode cX5_capacityFor 70 = .ok (.invokevirtual 161, 3) := by decide +kernel
theorem dX5_capacityFor_73 : decode cX5_capacityFor 73 = .ok (.iload_n 3, 1) := by decide +kernel
theorem dX5_capacityFor_74 : decode cX5_capacityFor 74 = .ok (.if_icmp .lt 6, 3) := by decide +kernel
theorem dX5_capacityFor_77 : decode cX5_capacityFor 77 = .ok (.iload 4, 2) := by decide +kernel
theorem dX5_capacityFor_79 : decode cX5_capacityFor 79 = .ok (.ireturn, 1) := by decide +kernel
theorem dX5_capacityFor_80 : decode cX5_capacityFor 80 = .ok (.aload_n 0, 1) := by decide +kernel
theorem dX5_capacityFor_81 : decode cX5_capacityFor 81 = .ok (.getfield 16, 3) := by decide +kernel
theorem dX5_capacityFor_84 : decode cX5_capacityFor 84 = .ok (.getfield 74, 3) := by decide +kernel
theorem dX5_capacityFor_87 : decode cX5_capacityFor 87 = .ok (.iload_n 1, 1) := by decide +kernel
theorem dX5_capacityFor_88 : decode cX5_capacityFor 88 = .ok (.aaload, 1) := by decide +kernel
theorem dX5_capacityFor_89 : decode cX5_capacityFor 89 = .ok (.bipush 14, 2) := by decide +kernel
theorem dX5_capacityFor_91 : decode cX5_capacityFor 91 = .ok (.iaload, 1) := by decide +kernel
theorem dX5_capacityFor_92 : decode cX5_capacityFor 92 = .ok (.ifCond .ne 5, 3) := by decide +kernel
theorem dX5_capacityFor_95 : decode cX5_capacityFor 95 = .ok (.iconst (-1), 1) := by decide +kernel
theorem dX5_capacityFor_96 : decode cX5_capacityFor 96 = .ok (.ireturn, 1) := by decide +kernel
theorem dX5_capacityFor_97 : decode cX5_capacityFor 97 = .ok (.iinc 4 1, 3) := by decide +kernel
theorem dX5_capacityFor_100 : decode cX5_capacityFor 100 = .ok (.goto (-42), 3) := by decide +kernel
theorem dX5_capacityFor_103 : decode cX5_capacityFor 103 = .ok (.iconst (-1), 1) := by decide +kernel
theorem dX5_capacityFor_104 : decode cX5_capacityFor 104 = .ok (.ireturn, 1) := by decide +kernel
set_option maxRecDepth 20000 in
theorem ggX5_bestBuffer_X5_needHorizon : GoodIn wsX5_bestBuffer wsX5_needHorizon := goodIn_ca (goodIn_r _ [11, 1, 2, 12, 13, 10, 14] (by decide +kernel) (by decide +kernel)) (goodIn_sub (fun _ h => List.mem_cons_of_mem _ (List.mem_append_left _ (List.mem_append_right _ h))) (by decide +kernel))
set_option maxRecDepth 20000 in
theorem gX5_bestBuffer_X5_needHorizon : GoodIn wsX5_bestBuffer (va_wsS RX5 149 yX5_needHorizon wsX5_needHorizon) := goodIn_app (goodIn_of _ (by decide +kernel)) ggX5_bestBuffer_X5_needHorizon
set_option maxRecDepth 20000 in
theorem ggX5_bestBuffer_X5_isIn : GoodIn wsX5_bestBuffer wsX5_isIn := goodIn_r _ [14] (by decide +kernel) (by decide +kernel)
set_option maxRecDepth 20000 in
theorem gX5_bestBuffer_X5_isIn : GoodIn wsX5_bestBuffer (va_wsS RX5 37 yX5_isIn wsX5_isIn) := goodIn_app (goodIn_of _ (by decide +kernel)) ggX5_bestBuffer_X5_isIn
set_option maxRecDepth 20000 in
theorem ggX5_bestBuffer_X5_needMachines : GoodIn wsX5_bestBuffer wsX5_needMachines := goodIn_ca (goodIn_r _ [18, 19, 20, 3, 99, 100, 101, 102, 103, 104, 105, 106] (by decide +kernel) (by decide +kernel)) (goodIn_sub (fun _ h => List.mem_cons_of_mem _ (List.mem_append_right _ h)) (by decide +kernel))
set_option maxRecDepth 20000 in
theorem gX5_bestBuffer_X5_needMachines : GoodIn wsX5_bestBuffer (wsV RX5 131 RX5 yX5_needMachines wsX5_needMachines) := goodIn_app (goodIn_of _ (by decide +kernel)) ggX5_bestBuffer_X5_needMachines
set_option maxRecDepth 20000 in
theorem ggX5_bestBuffer_X5_tryCapacity : GoodIn wsX5_bestBuffer wsX5_tryCapacity := goodIn_r _ [24, 3, 25, 26, 27, 28, 29, 30, 31, 32, 33, 34, 35, 36, 37, 38, 39, 40, 41, 42, 43, 44, 45, 46, 47, 48, 49, 50, 51, 52, 53, 54, 55, 56, 57, 58, 59, 60, 61, 62, 63, 64, 5, 6, 7, 65, 66, 67, 68, 69, 70, 71, 72, 73, 74, 75, 76, 77, 78, 79, 80, 81, 82, 83, 84, 85, 86, 87, 88, 89, 90, 91, 92, 93, 94, 95, 96, 97, 98, 99, 100, 101, 102, 103, 104, 105, 106, 107, 108, 109, 110, 111] (by decide +kernel) (by decide +kernel)
set_option maxRecDepth 20000 in
theorem gX5_bestBuffer_X5_tryCapacity : GoodIn wsX5_bestBuffer (wsV RX5 161 RX5 yX5_tryCapacity wsX5_tryCapacity) := goodIn_app (goodIn_of _ (by decide +kernel)) ggX5_bestBuffer_X5_tryCapacity
theorem dX5_bestBuffer_0 : decode cX5_bestBuffer 0 = .ok (.iload_n 1, 1) := by decide +kernel
theorem dX5_bestBuffer_1 : decode cX5_bestBuffer 1 = .ok (.sipush 2000, 3) := by decide +kernel
theorem dX5_bestBuffer_4 : decode cX5_bestBuffer 4 = .ok (.invokestatic 149, 3) := by decide +kernel
theorem dX5_bestBuffer_7 : decode cX5_bestBuffer 7 = .ok (.iload_n 2, 1) := by decide +kernel
theorem dX5_bestBuffer_8 : decode cX5_bestBuffer 8 = .ok (.iconst 1, 1) := by decide +kernel
theorem dX5_bestBuffer_9 : decode cX5_bestBuffer 9 = .ok (.bipush 40, 2) := by decide +kernel
theorem dX5_bestBuffer_11 : decode cX5_bestBuffer 11 = .ok (.invokestatic 37, 3) := by decide +kernel
theorem dX5_bestBuffer_14 : decode cX5_bestBuffer 14 = .ok (.ifCond .ne 13, 3) := by decide +kernel
theorem dX5_bestBuffer_17 : decode cX5_bestBuffer 17 = .ok (.new 41, 3) := by decide +kernel
theorem dX5_bestBuffer_20 : decode cX5_bestBuffer 20 = .ok (.dup, 1) := by decide +kernel
theorem dX5_bestBuffer_21 : decode cX5_bestBuffer 21 = .ok (.ldc 166, 2) := by decide +kernel
theorem dX5_bestBuffer_23 : decode cX5_bestBuffer 23 = .ok (.invokespecial 45, 3) := by decide +kernel
theorem dX5_bestBuffer_26 : decode cX5_bestBuffer 26 = .ok (.athrow, 1) := by decide +kernel
theorem dX5_bestBuffer_27 : decode cX5_bestBuffer 27 = .ok (.aload_n 0, 1) := by decide +kernel
theorem dX5_bestBuffer_28 : decode cX5_bestBuffer 28 = .ok (.iconst 2, 1) := by decide +kernel
theorem dX5_bestBuffer_29 : decode cX5_bestBuffer 29 = .ok (.invokevirtual 131, 3) := by decide +kernel
theorem dX5_bestBuffer_32 : decode cX5_bestBuffer 32 = .ok (.iconst 0, 1) := by decide +kernel
theorem dX5_bestBuffer_33 : decode cX5_bestBuffer 33 = .ok (.istore_n 3, 1) := by decide +kernel
theorem dX5_bestBuffer_34 : decode cX5_bestBuffer 34 = .ok (.iconst (-1), 1) := by decide +kernel
theorem dX5_bestBuffer_35 : decode cX5_bestBuffer 35 = .ok (.istore 4, 2) := by decide +kernel
theorem dX5_bestBuffer_37 : decode cX5_bestBuffer 37 = .ok (.iconst 0, 1) := by decide +kernel
theorem dX5_bestBuffer_38 : decode cX5_bestBuffer 38 = .ok (.istore 5, 2) := by decide +kernel
theorem dX5_bestBuffer_40 : decode cX5_bestBuffer 40 = .ok (.iload 5, 2) := by decide +kernel
theorem dX5_bestBuffer_42 : decode cX5_bestBuffer 42 = .ok (.aload_n 0, 1) := by decide +kernel
theorem dX5_bestBuffer_43 : decode cX5_bestBuffer 43 = .ok (.getfield 10, 3) := by decide +kernel
theorem dX5_bestBuffer_46 : decode cX5_bestBuffer 46 = .ok (.getfield 48, 3) := by decide +kernel
theorem dX5_bestBuffer_49 : decode cX5_bestBuffer 49 = .ok (.iconst 1, 1) := by decide +kernel
theorem dX5_bestBuffer_50 : decode cX5_bestBuffer 50 = .ok (.isub, 1) := by decide +kernel
theorem dX5_bestBuffer_51 : decode cX5_bestBuffer 51 = .ok (.if_icmp .ge 55, 3) := by decide +kernel
theorem dX5_bestBuffer_54 : decode cX5_bestBuffer 54 = .ok (.aload_n 0, 1) := by decide +kernel
theorem dX5_bestBuffer_55 : decode cX5_bestBuffer 55 = .ok (.getfield 10, 3) := by decide +kernel
theorem dX5_bestBuffer_58 : decode cX5_bestBuffer 58 = .ok (.getfield 74, 3) := by decide +kernel
theorem dX5_bestBuffer_61 : decode cX5_bestBuffer 61 = .ok (.iload 5, 2) := by decide +kernel
theorem dX5_bestBuffer_63 : decode cX5_bestBuffer 63 = .ok (.aaload, 1) := by decide +kernel
theorem dX5_bestBuffer_64 : decode cX5_bestBuffer 64 = .ok (.iconst 4, 1) := by decide +kernel
theorem dX5_bestBuffer_65 : decode cX5_bestBuffer 65 = .ok (.iaload, 1) := by decide +kernel
theorem dX5_bestBuffer_66 : decode cX5_bestBuffer 66 = .ok (.iload_n 2, 1) := by decide +kernel
theorem dX5_bestBuffer_67 : decode cX5_bestBuffer 67 = .ok (.iadd, 1) := by decide +kernel
theorem dX5_bestBuffer_68 : decode cX5_bestBuffer 68 = .ok (.bipush 40, 2) := by decide +kernel
theorem dX5_bestBuffer_70 : decode cX5_bestBuffer 70 = .ok (.invokestatic 168, 3) := by decide +kernel
theorem dX5_bestBuffer_73 : decode cX5_bestBuffer 73 = .ok (.istore 6, 2) := by decide +kernel
theorem dX5_bestBuffer_75 : decode cX5_bestBuffer 75 = .ok (.aload_n 0, 1) := by decide +kernel
theorem dX5_bestBuffer_76 : decode cX5_bestBuffer 76 = .ok (.iload 5, 2) := by decide +kernel
theorem dX5_bestBuffer_78 : decode cX5_bestBuffer 78 = .ok (.iload 6, 2) := by decide +kernel
theorem dX5_bestBuffer_80 : decode cX5_bestBuffer 80 = .ok (.iload_n 1, 1) := by decide +kernel
theorem dX5_bestBuffer_81 : decode cX5_bestBuffer 81 = .ok (.invokevirtual 161, 3) := by decide +kernel
theorem dX5_bestBuffer_84 : decode cX5_bestBuffer 84 = .ok (.istore 7, 2) := by decide +kernel
theorem dX5_bestBuffer_86 : decode cX5_bestBuffer 86 = .ok (.iload 7, 2) := by decide +kernel
theorem dX5_bestBuffer_88 : decode cX5_bestBuffer 88 = .ok (.iload 4, 2) := by decide +kernel
theorem dX5_bestBuffer_90 : decode cX5_bestBuffer 90 = .ok (.if_icmp .le 10, 3) := by decide +kernel
theorem dX5_bestBuffer_93 : decode cX5_bestBuffer 93 = .ok (.iload 7, 2) := by decide +kernel
theorem dX5_bestBuffer_95 : decode cX5_bestBuffer 95 = .ok (.istore 4, 2) := by decide +kernel
theorem dX5_bestBuffer_97 : decode cX5_bestBuffer 97 = .ok (.iload 5, 2) := by decide +kernel
theorem dX5_bestBuffer_99 : decode cX5_bestBuffer 99 = .ok (.istore_n 3, 1) := by decide +kernel
theorem dX5_bestBuffer_100 : decode cX5_bestBuffer 100 = .ok (.iinc 5 1, 3) := by decide +kernel
theorem dX5_bestBuffer_103 : decode cX5_bestBuffer 103 = .ok (.goto (-63), 3) := by decide +kernel
theorem dX5_bestBuffer_106 : decode cX5_bestBuffer 106 = .ok (.iload_n 3, 1) := by decide +kernel
theorem dX5_bestBuffer_107 : decode cX5_bestBuffer 107 = .ok (.ireturn, 1) := by decide +kernel
set_option maxRecDepth 20000 in
theorem ggX5_append_X5_isIn : GoodIn wsX5_append wsX5_isIn := goodIn_r _ [9] (by decide +kernel) (by decide +kernel)
set_option maxRecDepth 20000 in
theorem gX5_append_X5_isIn : GoodIn wsX5_append (va_wsS RX5 37 yX5_isIn wsX5_isIn) := goodIn_app (goodIn_of _ (by decide +kernel)) ggX5_append_X5_isIn
set_option maxRecDepth 20000 in
theorem ggX5_append_X3_put : GoodIn wsX5_append wsX3_put := goodIn_r _ [14, 15, 16, 21, 22, 23, 24] (by decide +kernel) (by decide +kernel)
set_option maxRecDepth 20000 in
theorem gX5_append_X3_put : GoodIn wsX5_append (wsV RX5 180 RX3 yX3_put wsX3_put) := goodIn_app (goodIn_of _ (by decide +kernel)) ggX5_append_X3_put
theorem dX5_append_0 : decode cX5_append 0 = .ok (.iload_n 1, 1) := by decide +kernel
theorem dX5_append_1 : decode cX5_append 1 = .ok (.iconst 0, 1) := by decide +kernel
theorem dX5_append_2 : decode cX5_append 2 = .ok (.bipush 127, 2) := by decide +kernel
theorem dX5_append_4 : decode cX5_append 4 = .ok (.invokestatic 37, 3) := by decide +kernel
theorem dX5_append_7 : decode cX5_append 7 = .ok (.ifCond .ne 13, 3) := by decide +kernel
theorem dX5_append_10 : decode cX5_append 10 = .ok (.new 41, 3) := by decide +kernel
theorem dX5_append_13 : decode cX5_append 13 = .ok (.dup, 1) := by decide +kernel
theorem dX5_append_14 : decode cX5_append 14 = .ok (.ldc 173, 2) := by decide +kernel
theorem dX5_append_16 : decode cX5_append 16 = .ok (.invokespecial 45, 3) := by decide +kernel
theorem dX5_append_19 : decode cX5_append 19 = .ok (.athrow, 1) := by decide +kernel
theorem dX5_append_20 : decode cX5_append 20 = .ok (.aload_n 0, 1) := by decide +kernel
theorem dX5_append_21 : decode cX5_append 21 = .ok (.getfield 29, 3) := by decide +kernel
theorem dX5_append_24 : decode cX5_append 24 = .ok (.getfield 175, 3) := by decide +kernel
theorem dX5_append_27 : decode cX5_append 27 = .ok (.bipush 120, 2) := by decide +kernel
theorem dX5_append_29 : decode cX5_append 29 = .ok (.if_icmp .lt 13, 3) := by decide +kernel
theorem dX5_append_32 : decode cX5_append 32 = .ok (.new 55, 3) := by decide +kernel
theorem dX5_append_35 : decode cX5_append 35 = .ok (.dup, 1) := by decide +kernel
theorem dX5_append_36 : decode cX5_append 36 = .ok (.ldc 178, 2) := by decide +kernel
theorem dX5_append_38 : decode cX5_append 38 = .ok (.invokespecial 59, 3) := by decide +kernel
theorem dX5_append_41 : decode cX5_append 41 = .ok (.athrow, 1) := by decide +kernel
theorem dX5_append_42 : decode cX5_append 42 = .ok (.aload_n 0, 1) := by decide +kernel
theorem dX5_append_43 : decode cX5_append 43 = .ok (.getfield 29, 3) := by decide +kernel
theorem dX5_append_46 : decode cX5_append 46 = .ok (.iload_n 1, 1) := by decide +kernel
theorem dX5_append_47 : decode cX5_append 47 = .ok (.invokevirtual 180, 3) := by decide +kernel
theorem dX5_append_50 : decode cX5_append 50 = .ok (.aload_n 0, 1) := by decide +kernel
theorem dX5_append_51 : decode cX5_append 51 = .ok (.getfield 29, 3) := by decide +kernel
theorem dX5_append_54 : decode cX5_append 54 = .ok (.getfield 175, 3) := by decide +kernel
theorem dX5_append_57 : decode cX5_append 57 = .ok (.ireturn, 1) := by decide +kernel
set_option maxRecDepth 20000 in
theorem ggX5_undo_X1_giveBack : GoodIn wsX5_undo wsX1_giveBack := goodIn_r _ [9, 10, 11, 12, 13, 14, 15, 16, 17, 18, 19, 20, 21, 22, 23, 24, 25, 26, 27, 28, 29, 30, 31, 32, 33, 38, 39, 40, 41, 42, 43, 44, 45, 46, 47, 48, 49] (by decide +kernel) (by decide +kernel)
set_option maxRecDepth 20000 in
theorem gX5_undo_X1_giveBack : GoodIn wsX5_undo (wsV RX5 196 RX1 yX1_giveBack wsX1_giveBack) := goodIn_app (goodIn_of _ (by decide +kernel)) ggX5_undo_X1_giveBack
theorem dX5_undo_0 : decode cX5_undo 0 = .ok (.aload_n 0, 1) := by decide +kernel
theorem dX5_undo_1 : decode cX5_undo 1 = .ok (.getfield 22, 3) := by decide +kernel
theorem dX5_undo_4 : decode cX5_undo 4 = .ok (.getfield 191, 3) := by decide +kernel
theorem dX5_undo_7 : decode cX5_undo 7 = .ok (.ifCond .ne 13, 3) := by decide +kernel
theorem dX5_undo_10 : decode cX5_undo 10 = .ok (.new 55, 3) := by decide +kernel
theorem dX5_undo_13 : decode cX5_undo 13 = .ok (.dup, 1) := by decide +kernel
theorem dX5_undo_14 : decode cX5_undo 14 = .ok (.ldc 194, 2) := by decide +kernel
theorem dX5_undo_16 : decode cX5_undo 16 = .ok (.invokespecial 59, 3) := by decide +kernel
theorem dX5_undo_19 : decode cX5_undo 19 = .ok (.athrow, 1) := by decide +kernel
theorem dX5_undo_20 : decode cX5_undo 20 = .ok (.aload_n 0, 1) := by decide +kernel
theorem dX5_undo_21 : decode cX5_undo 21 = .ok (.getfield 22, 3) := by decide +kernel
theorem dX5_undo_24 : decode cX5_undo 24 = .ok (.aload_n 0, 1) := by decide +kernel
theorem dX5_undo_25 : decode cX5_undo 25 = .ok (.getfield 10, 3) := by decide +kernel
theorem dX5_undo_28 : decode cX5_undo 28 = .ok (.invokevirtual 196, 3) := by decide +kernel
theorem dX5_undo_31 : decode cX5_undo 31 = .ok (.aload_n 0, 1) := by decide +kernel
theorem dX5_undo_32 : decode cX5_undo 32 = .ok (.getfield 22, 3) := by decide +kernel
theorem dX5_undo_35 : decode cX5_undo 35 = .ok (.getfield 191, 3) := by decide +kernel
theorem dX5_undo_38 : decode cX5_undo 38 = .ok (.ireturn, 1) := by decide +kernel
theorem dX5_isIn_0 : decode cX5_isIn 0 = .ok (.iload_n 0, 1) := by decide +kernel
theorem dX5_isIn_1 : decode cX5_isIn 1 = .ok (.iload_n 1, 1) := by decide +kernel
theorem dX5_isIn_2 : decode cX5_isIn 2 = .ok (.if_icmp .lt 12, 3) := by decide +kernel
theorem dX5_isIn_5 : decode cX5_isIn 5 = .ok (.iload_n 0, 1) := by decide +kernel
theorem dX5_isIn_6 : decode cX5_isIn 6 = .ok (.iload_n 2, 1) := by decide +kernel
theorem dX5_isIn_7 : decode cX5_isIn 7 = .ok (.if_icmp .gt 7, 3) := by decide +kernel
theorem dX5_isIn_10 : decode cX5_isIn 10 = .ok (.iconst 1, 1) := by decide +kernel
theorem dX5_isIn_11 : decode cX5_isIn 11 = .ok (.goto 4, 3) := by decide +kernel
theorem dX5_isIn_14 : decode cX5_isIn 14 = .ok (.iconst 0, 1) := by decide +kernel
theorem dX5_isIn_15 : decode cX5_isIn 15 = .ok (.ireturn, 1) := by decide +kernel
set_option maxRecDepth 20000 in
theorem ggX5_areCycles_X5_isIn : GoodIn wsX5_areCycles wsX5_isIn := goodIn_r _ [4] (by decide +kernel) (by decide +kernel)
set_option maxRecDepth 20000 in
theorem gX5_areCycles_X5_isIn : GoodIn wsX5_areCycles (va_wsS RX5 37 yX5_isIn wsX5_isIn) := goodIn_app (goodIn_of _ (by decide +kernel)) ggX5_areCycles_X5_isIn
theorem dX5_areCycles_0 : decode cX5_areCycles 0 = .ok (.iload_n 0, 1) := by decide +kernel
theorem dX5_areCycles_1 : decode cX5_areCycles 1 = .ok (.iconst 1, 1) := by decide +kernel
theorem dX5_areCycles_2 : decode cX5_areCycles 2 = .ok (.bipush 20, 2) := by decide +kernel
theorem dX5_areCycles_4 : decode cX5_areCycles 4 = .ok (.invokestatic 37, 3) := by decide +kernel
theorem dX5_areCycles_7 : decode cX5_areCycles 7 = .ok (.ifCond .eq 16, 3) := by decide +kernel
theorem dX5_areCycles_10 : decode cX5_areCycles 10 = .ok (.iload_n 1, 1) := by decide +kernel
theorem dX5_areCycles_11 : decode cX5_areCycles 11 = .ok (.iconst 1, 1) := by decide +kernel
theorem dX5_areCycles_12 : decode cX5_areCycles 12 = .ok (.iload_n 0, 1) := by decide +kernel
theorem dX5_areCycles_13 : decode cX5_areCycles 13 = .ok (.invokestatic 37, 3) := by decide +kernel
theorem dX5_areCycles_16 : decode cX5_areCycles 16 = .ok (.ifCond .eq 7, 3) := by decide +kernel
theorem dX5_areCycles_19 : decode cX5_areCycles 19 = .ok (.iconst 1, 1) := by decide +kernel
theorem dX5_areCycles_20 : decode cX5_areCycles 20 = .ok (.goto 4, 3) := by decide +kernel
theorem dX5_areCycles_23 : decode cX5_areCycles 23 = .ok (.iconst 0, 1) := by decide +kernel
theorem dX5_areCycles_24 : decode cX5_areCycles 24 = .ok (.ireturn, 1) := by decide +kernel
theorem dX5_needMachine_0 : decode cX5_needMachine 0 = .ok (.iload_n 1, 1) := by decide +kernel
theorem dX5_needMachine_1 : decode cX5_needMachine 1 = .ok (.ifCond .lt 14, 3) := by decide +kernel
theorem dX5_needMachine_4 : decode cX5_needMachine 4 = .ok (.iload_n 1, 1) := by decide +kernel
theorem dX5_needMachine_5 : decode cX5_needMachine 5 = .ok (.aload_n 0, 1) := by decide +kernel
theorem dX5_needMachine_6 : decode cX5_needMachine 6 = .ok (.getfield 10, 3) := by decide +kernel
theorem dX5_needMachine_9 : decode cX5_needMachine 9 = .ok (.getfield 48, 3) := by decide +kernel
theorem dX5_needMachine_12 : decode cX5_needMachine 12 = .ok (.if_icmp .lt 13, 3) := by decide +kernel
theorem dX5_needMachine_15 : decode cX5_needMachine 15 = .ok (.new 116, 3) := by decide +kernel
theorem dX5_needMachine_18 : decode cX5_needMachine 18 = .ok (.dup, 1) := by decide +kernel
theorem dX5_needMachine_19 : decode cX5_needMachine 19 = .ok (.ldc 208, 2) := by decide +kernel
theorem dX5_needMachine_21 : decode cX5_needMachine 21 = .ok (.invokespecial 120, 3) := by decide +kernel
theorem dX5_needMachine_24 : decode cX5_needMachine 24 = .ok (.athrow, 1) := by decide +kernel
theorem dX5_needMachine_25 : decode cX5_needMachine 25 = .ok (.return_, 1) := by decide +kernel
theorem dX5_needMachines_0 : decode cX5_needMachines 0 = .ok (.aload_n 0, 1) := by decide +kernel
theorem dX5_needMachines_1 : decode cX5_needMachines 1 = .ok (.getfield 10, 3) := by decide +kernel
theorem dX5_needMachines_4 : decode cX5_needMachines 4 = .ok (.getfield 48, 3) := by decide +kernel
theorem dX5_needMachines_7 : decode cX5_needMachines 7 = .ok (.iload_n 1, 1) := by decide +kernel
theorem dX5_needMachines_8 : decode cX5_needMachines 8 = .ok (.if_icmp .ge 13, 3) := by decide +kernel
theorem dX5_needMachines_11 : decode cX5_needMachines 11 = .ok (.new 55, 3) := by decide +kernel
theorem dX5_needMachines_14 : decode cX5_needMachines 14 = .ok (.dup, 1) := by decide +kernel
theorem dX5_needMachines_15 : decode cX5_needMachines 15 = .ok (.ldc 210, 2) := by decide +kernel
theorem dX5_needMachines_17 : decode cX5_needMachines 17 = .ok (.invokespecial 59, 3) := by decide +kernel
theorem dX5_needMachines_20 : decode cX5_needMachines 20 = .ok (.athrow, 1) := by decide +kernel
theorem dX5_needMachines_21 : decode cX5_needMachines 21 = .ok (.return_, 1) := by decide +kernel
theorem dX5_needWhat_0 : decode cX5_needWhat 0 = .ok (.iload_n 0, 1) := by decide +kernel
theorem dX5_needWhat_1 : decode cX5_needWhat 1 = .ok (.ifCond .lt 8, 3) := by decide +kernel
theorem dX5_needWhat_4 : decode cX5_needWhat 4 = .ok (.iload_n 0, 1) := by decide +kernel
theorem dX5_needWhat_5 : decode cX5_needWhat 5 = .ok (.iload_n 1, 1) := by decide +kernel
theorem dX5_needWhat_6 : decode cX5_needWhat 6 = .ok (.if_icmp .lt 13, 3) := by decide +kernel
theorem dX5_needWhat_9 : decode cX5_needWhat 9 = .ok (.new 41, 3) := by decide +kernel
theorem dX5_needWhat_12 : decode cX5_needWhat 12 = .ok (.dup, 1) := by decide +kernel
theorem dX5_needWhat_13 : decode cX5_needWhat 13 = .ok (.ldc 212, 2) := by decide +kernel
theorem dX5_needWhat_15 : decode cX5_needWhat 15 = .ok (.invokespecial 45, 3) := by decide +kernel
theorem dX5_needWhat_18 : decode cX5_needWhat 18 = .ok (.athrow, 1) := by decide +kernel
theorem dX5_needWhat_19 : decode cX5_needWhat 19 = .ok (.return_, 1) := by decide +kernel
set_option maxRecDepth 20000 in
theorem ggX5_needHorizon_X5_isIn : GoodIn wsX5_needHorizon wsX5_isIn := goodIn_r _ [6] (by decide +kernel) (by decide +kernel)
set_option maxRecDepth 20000 in
theorem gX5_needHorizon_X5_isIn : GoodIn wsX5_needHorizon (va_wsS RX5 37 yX5_isIn wsX5_isIn) := goodIn_app (goodIn_of _ (by decide +kernel)) ggX5_needHorizon_X5_isIn
theorem dX5_needHorizon_0 : decode cX5_needHorizon 0 = .ok (.iload_n 0, 1) := by decide +kernel
theorem dX5_needHorizon_1 : decode cX5_needHorizon 1 = .ok (.iconst 1, 1) := by decide +kernel
theorem dX5_needHorizon_2 : decode cX5_needHorizon 2 = .ok (.iload_n 1, 1) := by decide +kernel
theorem dX5_needHorizon_3 : decode cX5_needHorizon 3 = .ok (.invokestatic 37, 3) := by decide +kernel
theorem dX5_needHorizon_6 : decode cX5_needHorizon 6 = .ok (.ifCond .ne 13, 3) := by decide +kernel
theorem dX5_needHorizon_9 : decode cX5_needHorizon 9 = .ok (.new 41, 3) := by decide +kernel
theorem dX5_needHorizon_12 : decode cX5_needHorizon 12 = .ok (.dup, 1) := by decide +kernel
theorem dX5_needHorizon_13 : decode cX5_needHorizon 13 = .ok (.ldc 129, 2) := by decide +kernel
theorem dX5_needHorizon_15 : decode cX5_needHorizon 15 = .ok (.invokespecial 45, 3) := by decide +kernel
theorem dX5_needHorizon_18 : decode cX5_needHorizon 18 = .ok (.athrow, 1) := by decide +kernel
theorem dX5_needHorizon_19 : decode cX5_needHorizon 19 = .ok (.return_, 1) := by decide +kernel
set_option maxRecDepth 20000 in
theorem ggX5_tryCapacity_X2_copy : GoodIn wsX5_tryCapacity wsX2_copy := goodIn_r _ [6, 7, 8, 9, 10, 11, 12, 13, 14, 15, 16, 17, 18, 19, 20, 21, 22, 23, 83, 84, 85, 86, 87, 88, 89, 90, 91] (by decide +kernel) (by decide +kernel)
set_option maxRecDepth 20000 in
theorem gX5_tryCapacity_X2_copy : GoodIn wsX5_tryCapacity (va_wsS RX5 187 yX2_copy wsX2_copy) := goodIn_app (goodIn_of _ (by decide +kernel)) ggX5_tryCapacity_X2_copy
set_option maxRecDepth 20000 in
theorem ggX5_tryCapacity_X2_beginAnew : GoodIn wsX5_tryCapacity wsX2_beginAnew := goodIn_r _ [27, 14, 7, 8, 28, 29, 5, 30, 83, 84, 85, 86] (by decide +kernel) (by decide +kernel)
set_option maxRecDepth 20000 in
theorem gX5_tryCapacity_X2_beginAnew : GoodIn wsX5_tryCapacity (wsV RX5 143 RX2 yX2_beginAnew wsX2_beginAnew) := goodIn_app (goodIn_of _ (by decide +kernel)) ggX5_tryCapacity_X2_beginAnew
set_option maxRecDepth 20000 in
theorem ggX5_tryCapacity_X2_pass : GoodIn wsX5_tryCapacity wsX2_pass := goodIn_r _ [34, 14, 13, 7, 35, 36, 37, 17, 38, 39, 40, 19, 22, 23, 41, 42, 43, 44, 20, 45, 46, 47, 5, 48, 8, 49, 50, 51, 52, 53, 54, 55, 56, 57, 58, 59, 60, 61, 62, 63, 64, 65, 66, 67, 68, 69, 70, 71, 72, 73, 74, 83, 84, 85, 86, 87, 88, 89, 90, 91] (by decide +kernel) (by decide +kernel)
set_option maxRecDepth 20000 in
theorem gX5_tryCapacity_X2_pass : GoodIn wsX5_tryCapacity (wsV RX5 140 RX2 yX2_pass wsX2_pass) := goodIn_app (goodIn_of _ (by decide +kernel)) ggX5_tryCapacity_X2_pass
set_option maxRecDepth 20000 in
theorem ggX5_tryCapacity_X2_bottlesOut : GoodIn wsX5_tryCapacity wsX2_bottlesOut := goodIn_r _ [78, 7, 8, 83, 84, 85, 86] (by decide +kernel) (by decide +kernel)
set_option maxRecDepth 20000 in
theorem gX5_tryCapacity_X2_bottlesOut : GoodIn wsX5_tryCapacity (wsV RX5 136 RX2 yX2_bottlesOut wsX2_bottlesOut) := goodIn_app (goodIn_of _ (by decide +kernel)) ggX5_tryCapacity_X2_bottlesOut
theorem dX5_tryCapacity_0 : decode cX5_tryCapacity 0 = .ok (.aload_n 0, 1) := by decide +kernel
theorem dX5_tryCapacity_1 : decode cX5_tryCapacity 1 = .ok (.getfield 10, 3) := by decide +kernel
theorem dX5_tryCapacity_4 : decode cX5_tryCapacity 4 = .ok (.aload_n 0, 1) := by decide +kernel
theorem dX5_tryCapacity_5 : decode cX5_tryCapacity 5 = .ok (.getfield 16, 3) := by decide +kernel
theorem dX5_tryCapacity_8 : decode cX5_tryCapacity 8 = .ok (.invokestatic 187, 3) := by decide +kernel
theorem dX5_tryCapacity_11 : decode cX5_tryCapacity 11 = .ok (.aload_n 0, 1) := by decide +kernel
theorem dX5_tryCapacity_12 : decode cX5_tryCapacity 12 = .ok (.getfield 16, 3) := by decide +kernel
theorem dX5_tryCapacity_15 : decode cX5_tryCapacity 15 = .ok (.invokevirtual 143, 3) := by decide +kernel
theorem dX5_tryCapacity_18 : decode cX5_tryCapacity 18 = .ok (.aload_n 0, 1) := by decide +kernel
theorem dX5_tryCapacity_19 : decode cX5_tryCapacity 19 = .ok (.getfield 16, 3) := by decide +kernel
theorem dX5_tryCapacity_22 : decode cX5_tryCapacity 22 = .ok (.getfield 74, 3) := by decide +kernel
theorem dX5_tryCapacity_25 : decode cX5_tryCapacity 25 = .ok (.iload_n 1, 1) := by decide +kernel
theorem dX5_tryCapacity_26 : decode cX5_tryCapacity 26 = .ok (.aaload, 1) := by decide +kernel
theorem dX5_tryCapacity_27 : decode cX5_tryCapacity 27 = .ok (.iconst 4, 1) := by decide +kernel
theorem dX5_tryCapacity_28 : decode cX5_tryCapacity 28 = .ok (.iload_n 2, 1) := by decide +kernel
theorem dX5_tryCapacity_29 : decode cX5_tryCapacity 29 = .ok (.iastore, 1) := by decide +kernel
theorem dX5_tryCapacity_30 : decode cX5_tryCapacity 30 = .ok (.aload_n 0, 1) := by decide +kernel
theorem dX5_tryCapacity_31 : decode cX5_tryCapacity 31 = .ok (.getfield 16, 3) := by decide +kernel
theorem dX5_tryCapacity_34 : decode cX5_tryCapacity 34 = .ok (.iload_n 3, 1) := by decide +kernel
theorem dX5_tryCapacity_35 : decode cX5_tryCapacity 35 = .ok (.invokevirtual 140, 3) := by decide +kernel
theorem dX5_tryCapacity_38 : decode cX5_tryCapacity 38 = .ok (.aload_n 0, 1) := by decide +kernel
theorem dX5_tryCapacity_39 : decode cX5_tryCapacity 39 = .ok (.getfield 16, 3) := by decide +kernel
theorem dX5_tryCapacity_42 : decode cX5_tryCapacity 42 = .ok (.invokevirtual 136, 3) := by decide +kernel
theorem dX5_tryCapacity_45 : decode cX5_tryCapacity 45 = .ok (.ireturn, 1) := by decide +kernel
