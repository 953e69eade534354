set_option maxRecDepth 20000 in
theorem ggL_addMachine_X5_addMachine : GoodIn wsL_addMachine wsX5_addMachine := goodIn_ca (goodIn_ca (goodIn_r _ [7, 8, 9, 10, 11, 12, 13, 14, 15, 6, 16, 17, 18, 19, 20, 21, 22, 23, 24, 25, 26, 27, 28, 29, 30, 31, 32, 33, 34, 35, 36, 37, 38, 39, 40, 41, 42, 43, 44, 45, 46, 47, 48, 49, 50, 51, 52, 53, 54, 55, 56, 57, 58, 59, 60, 61, 62, 63, 64, 65, 66, 67, 68, 69, 70, 71] (by decide +kernel) (by decide +kernel)) (goodIn_sub (fun _ h => List.mem_cons_of_mem _ (List.mem_append_left _ (List.mem_append_right _ h))) (by decide +kernel))) (goodIn_sub (fun _ h => List.mem_cons_of_mem _ (List.mem_append_right _ h)) (by decide +kernel))
set_option maxRecDepth 20000 in
theorem gL_addMachine_X5_addMachine : GoodIn wsL_addMachine (wsV RL 7 RX5 yX5_addMachine wsX5_addMachine) := goodIn_app (goodIn_of _ (by decide +kernel)) ggL_addMachine_X5_addMachine
theorem dL_addMachine_0 : decode cL_addMachine 0 = .ok (.aload 4, 2) := by decide +kernel
theorem dL_addMachine_2 : decode cL_addMachine 2 = .ok (.iconst 0, 1) := by decide +kernel
theorem dL_addMachine_3 : decode cL_addMachine 3 = .ok (.aload_n 0, 1) := by decide +kernel
theorem dL_addMachine_4 : decode cL_addMachine 4 = .ok (.iload_n 1, 1) := by decide +kernel
theorem dL_addMachine_5 : decode cL_addMachine 5 = .ok (.iload_n 2, 1) := by decide +kernel
theorem dL_addMachine_6 : decode cL_addMachine 6 = .ok (.iload_n 3, 1) := by decide +kernel
theorem dL_addMachine_7 : decode cL_addMachine 7 = .ok (.invokevirtual 7, 3) := by decide +kernel
theorem dL_addMachine_10 : decode cL_addMachine 10 = .ok (.i2l, 1) := by decide +kernel
theorem dL_addMachine_11 : decode cL_addMachine 11 = .ok (.lastore, 1) := by decide +kernel
theorem dL_addMachine_12 : decode cL_addMachine 12 = .ok (.goto 11, 3) := by decide +kernel
theorem dL_addMachine_15 : decode cL_addMachine 15 = .ok (.astore 5, 2) := by decide +kernel
theorem dL_addMachine_17 : decode cL_addMachine 17 = .ok (.iconst 1, 1) := by decide +kernel
theorem dL_addMachine_18 : decode cL_addMachine 18 = .ok (.ireturn, 1) := by decide +kernel
theorem dL_addMachine_19 : decode cL_addMachine 19 = .ok (.astore 5, 2) := by decide +kernel
theorem dL_addMachine_21 : decode cL_addMachine 21 = .ok (.iconst 2, 1) := by decide +kernel
theorem dL_addMachine_22 : decode cL_addMachine 22 = .ok (.ireturn, 1) := by decide +kernel
theorem dL_addMachine_23 : decode cL_addMachine 23 = .ok (.iconst 0, 1) := by decide +kernel
theorem dL_addMachine_24 : decode cL_addMachine 24 = .ok (.ireturn, 1) := by decide +kernel
set_option maxRecDepth 20000 in
theorem ggL_setMachine_X5_setMachine : GoodIn wsL_setMachine wsX5_setMachine := goodIn_ca (goodIn_ca (goodIn_r _ [7, 8, 9, 10, 11, 12, 13, 14, 6, 15, 16, 17, 18, 19, 20, 21, 22, 23, 24, 25, 26, 27, 28, 29, 30, 31, 32, 33, 34, 35, 36, 37, 38, 39, 40, 41, 42, 43, 44, 45, 46, 47, 48, 49, 50, 51, 52, 53, 54, 55, 56, 57, 58, 59, 60, 61, 62, 63, 64, 65, 66, 67, 68, 69, 70, 71, 72] (by decide +kernel) (by decide +kernel)) (goodIn_sub (fun _ h => List.mem_cons_of_mem _ (List.mem_append_left _ (List.mem_append_right _ h))) (by decide +kernel))) (goodIn_sub (fun _ h => List.mem_cons_of_mem _ (List.mem_append_right _ h)) (by decide +kernel))
set_option maxRecDepth 20000 in
theorem gL_setMachine_X5_setMachine : GoodIn wsL_setMachine (wsV RL 17 RX5 yX5_setMachine wsX5_setMachine) := goodIn_app (goodIn_of _ (by decide +kernel)) ggL_setMachine_X5_setMachine
theorem dL_setMachine_0 : decode cL_setMachine 0 = .ok (.aload 6, 2) := by decide +kernel
theorem dL_setMachine_2 : decode cL_setMachine 2 = .ok (.iconst 0, 1) := by decide +kernel
theorem dL_setMachine_3 : decode cL_setMachine 3 = .ok (.aload_n 0, 1) := by decide +kernel
theorem dL_setMachine_4 : decode cL_setMachine 4 = .ok (.iload_n 1, 1) := by decide +kernel
theorem dL_setMachine_5 : decode cL_setMachine 5 = .ok (.iload_n 2, 1) := by decide +kernel
theorem dL_setMachine_6 : decode cL_setMachine 6 = .ok (.iload_n 3, 1) := by decide +kernel
theorem dL_setMachine_7 : decode cL_setMachine 7 = .ok (.iload 4, 2) := by decide +kernel
theorem dL_setMachine_9 : decode cL_setMachine 9 = .ok (.iload 5, 2) := by decide +kernel
theorem dL_setMachine_11 : decode cL_setMachine 11 = .ok (.invokevirtual 17, 3) := by decide +kernel
theorem dL_setMachine_14 : decode cL_setMachine 14 = .ok (.i2l, 1) := by decide +kernel
theorem dL_setMachine_15 : decode cL_setMachine 15 = .ok (.lastore, 1) := by decide +kernel
theorem dL_setMachine_16 : decode cL_setMachine 16 = .ok (.goto 11, 3) := by decide +kernel
theorem dL_setMachine_19 : decode cL_setMachine 19 = .ok (.astore 7, 2) := by decide +kernel
theorem dL_setMachine_21 : decode cL_setMachine 21 = .ok (.iconst 1, 1) := by decide +kernel
theorem dL_setMachine_22 : decode cL_setMachine 22 = .ok (.ireturn, 1) := by decide +kernel
theorem dL_setMachine_23 : decode cL_setMachine 23 = .ok (.astore 7, 2) := by decide +kernel
theorem dL_setMachine_25 : decode cL_setMachine 25 = .ok (.iconst 2, 1) := by decide +kernel
theorem dL_setMachine_26 : decode cL_setMachine 26 = .ok (.ireturn, 1) := by decide +kernel
theorem dL_setMachine_27 : decode cL_setMachine 27 = .ok (.iconst 0, 1) := by decide +kernel
theorem dL_setMachine_28 : decode cL_setMachine 28 = .ok (.ireturn, 1) := by decide +kernel
set_option maxRecDepth 20000 in
theorem ggL_setCapacity_X5_setCapacity : GoodIn wsL_setCapacity wsX5_setCapacity := goodIn_ca (goodIn_ca (goodIn_r _ [7, 8, 9, 10, 11, 12, 13, 14, 6, 15, 16, 17, 18, 19, 20, 21, 22, 23, 24, 25, 26, 27, 28, 29, 30, 31, 32, 33, 34, 35, 36, 37, 38, 39, 40, 41, 42, 43, 44, 45, 46, 47, 48, 49, 50, 51, 52, 53, 54, 55, 56, 57, 58, 59, 60, 61, 62, 63, 64, 65] (by decide +kernel) (by decide +kernel)) (goodIn_sub (fun _ h => List.mem_cons_of_mem _ (List.mem_append_left _ (List.mem_append_right _ h))) (by decide +kernel))) (goodIn_sub (fun _ h => List.mem_cons_of_mem _ (List.mem_append_right _ h)) (by decide +kernel))
set_option maxRecDepth 20000 in
theorem gL_setCapacity_X5_setCapacity : GoodIn wsL_setCapacity (wsV RL 23 RX5 yX5_setCapacity wsX5_setCapacity) := goodIn_app (goodIn_of _ (by decide +kernel)) ggL_setCapacity_X5_setCapacity
theorem dL_setCapacity_0 : decode cL_setCapacity 0 = .ok (.aload_n 3, 1) := by decide +kernel
theorem dL_setCapacity_1 : decode cL_setCapacity 1 = .ok (.iconst 0, 1) := by decide +kernel
theorem dL_setCapacity_2 : decode cL_setCapacity 2 = .ok (.aload_n 0, 1) := by decide +kernel
theorem dL_setCapacity_3 : decode cL_setCapacity 3 = .ok (.iload_n 1, 1) := by decide +kernel
theorem dL_setCapacity_4 : decode cL_setCapacity 4 = .ok (.iload_n 2, 1) := by decide +kernel
theorem dL_setCapacity_5 : decode cL_setCapacity 5 = .ok (.invokevirtual 23, 3) := by decide +kernel
theorem dL_setCapacity_8 : decode cL_setCapacity 8 = .ok (.i2l, 1) := by decide +kernel
theorem dL_setCapacity_9 : decode cL_setCapacity 9 = .ok (.lastore, 1) := by decide +kernel
theorem dL_setCapacity_10 : decode cL_setCapacity 10 = .ok (.goto 11, 3) := by decide +kernel
theorem dL_setCapacity_13 : decode cL_setCapacity 13 = .ok (.astore 4, 2) := by decide +kernel
theorem dL_setCapacity_15 : decode cL_setCapacity 15 = .ok (.iconst 1, 1) := by decide +kernel
theorem dL_setCapacity_16 : decode cL_setCapacity 16 = .ok (.ireturn, 1) := by decide +kernel
theorem dL_setCapacity_17 : decode cL_setCapacity 17 = .ok (.astore 4, 2) := by decide +kernel
theorem dL_setCapacity_19 : decode cL_setCapacity 19 = .ok (.iconst 2, 1) := by decide +kernel
theorem dL_setCapacity_20 : decode cL_setCapacity 20 = .ok (.ireturn, 1) := by decide +kernel
theorem dL_setCapacity_21 : decode cL_setCapacity 21 = .ok (.iconst 0, 1) := by decide +kernel
theorem dL_setCapacity_22 : decode cL_setCapacity 22 = .ok (.ireturn, 1) := by decide +kernel
set_option maxRecDepth 20000 in
theorem ggL_addStop_X5_addStop : GoodIn wsL_addStop wsX5_addStop := goodIn_ca (goodIn_ca (goodIn_ca (goodIn_r _ [8, 9, 10, 11, 12, 13, 14, 15, 16, 17, 7, 18, 19, 20, 21, 22, 23, 24, 25, 26, 27, 28, 29, 30, 31, 32, 33, 34, 35, 36, 37, 38, 39, 40, 41, 42, 43, 44, 45, 46, 47, 48, 49, 50, 51, 52, 53, 54, 55, 56, 57, 58, 59, 60, 61, 62, 63, 64, 65, 66, 67, 68, 69, 70, 71, 72] (by decide +kernel) (by decide +kernel)) (goodIn_sub (fun _ h => List.mem_cons_of_mem _ (List.mem_append_left _ (List.mem_append_left _ (List.mem_append_right _ h)))) (by decide +kernel))) (goodIn_sub (fun _ h => List.mem_cons_of_mem _ (List.mem_append_left _ (List.mem_append_right _ h))) (by decide +kernel))) (goodIn_sub (fun _ h => List.mem_cons_of_mem _ (List.mem_append_right _ h)) (by decide +kernel))
set_option maxRecDepth 20000 in
theorem gL_addStop_X5_addStop : GoodIn wsL_addStop (wsV RL 27 RX5 yX5_addStop wsX5_addStop) := goodIn_app (goodIn_of _ (by decide +kernel)) ggL_addStop_X5_addStop
theorem dL_addStop_0 : decode cL_addStop 0 = .ok (.aload 4, 2) := by decide +kernel
theorem dL_addStop_2 : decode cL_addStop 2 = .ok (.iconst 0, 1) := by decide +kernel
theorem dL_addStop_3 : decode cL_addStop 3 = .ok (.aload_n 0, 1) := by decide +kernel
theorem dL_addStop_4 : decode cL_addStop 4 = .ok (.iload_n 1, 1) := by decide +kernel
theorem dL_addStop_5 : decode cL_addStop 5 = .ok (.iload_n 2, 1) := by decide +kernel
theorem dL_addStop_6 : decode cL_addStop 6 = .ok (.iload_n 3, 1) := by decide +kernel
theorem dL_addStop_7 : decode cL_addStop 7 = .ok (.invokevirtual 27, 3) := by decide +kernel
theorem dL_addStop_10 : decode cL_addStop 10 = .ok (.i2l, 1) := by decide +kernel
theorem dL_addStop_11 : decode cL_addStop 11 = .ok (.lastore, 1) := by decide +kernel
theorem dL_addStop_12 : decode cL_addStop 12 = .ok (.goto 15, 3) := by decide +kernel
theorem dL_addStop_15 : decode cL_addStop 15 = .ok (.astore 5, 2) := by decide +kernel
theorem dL_addStop_17 : decode cL_addStop 17 = .ok (.iconst 1, 1) := by decide +kernel
theorem dL_addStop_18 : decode cL_addStop 18 = .ok (.ireturn, 1) := by decide +kernel
theorem dL_addStop_19 : decode cL_addStop 19 = .ok (.astore 5, 2) := by decide +kernel
theorem dL_addStop_21 : decode cL_addStop 21 = .ok (.iconst 2, 1) := by decide +kernel
theorem dL_addStop_22 : decode cL_addStop 22 = .ok (.ireturn, 1) := by decide +kernel
theorem dL_addStop_23 : decode cL_addStop 23 = .ok (.astore 5, 2) := by decide +kernel
theorem dL_addStop_25 : decode cL_addStop 25 = .ok (.iconst 3, 1) := by decide +kernel
theorem dL_addStop_26 : decode cL_addStop 26 = .ok (.ireturn, 1) := by decide +kernel
theorem dL_addStop_27 : decode cL_addStop 27 = .ok (.iconst 0, 1) := by decide +kernel
theorem dL_addStop_28 : decode cL_addStop 28 = .ok (.ireturn, 1) := by decide +kernel
set_option maxRecDepth 20000 in
theorem ggL_addRandomStops_X5_addRandomStops : GoodIn wsL_addRandomStops wsX5_addRandomStops := goodIn_ca (goodIn_ca (goodIn_ca (goodIn_r _ [8, 9, 10, 11, 12, 13, 14, 15, 16, 17, 18, 19, 20, 21, 7, 22, 23, 24, 25, 26, 27, 28, 29, 30, 31, 32, 33, 34, 35, 36, 37, 38, 39, 40, 41, 42, 43, 44, 45, 46, 47, 48, 49, 50, 51, 52, 53, 54, 55, 56, 57, 58, 59, 60, 61, 62, 63, 64, 65, 66, 67, 68, 69, 70, 71, 72, 73, 74, 75, 76, 77, 78, 79, 80, 81, 82, 83, 84, 85, 86, 87, 88, 89, 90, 91, 92] (by decide +kernel) (by decide +kernel)) (goodIn_sub (fun _ h => List.mem_cons_of_mem _ (List.mem_append_left _ (List.mem_append_left _ (List.mem_append_right _ h)))) (by decide +kernel))) (goodIn_sub (fun _ h => List.mem_cons_of_mem _ (List.mem_append_left _ (List.mem_append_right _ h))) (by decide +kernel))) (goodIn_sub (fun _ h => List.mem_cons_of_mem _ (List.mem_append_right _ h)) (by decide +kernel))
set_option maxRecDepth 20000 in
theorem gL_addRandomStops_X5_addRandomStops : GoodIn wsL_addRandomStops (wsV RL 30 RX5 yX5_addRandomStops wsX5_addRandomStops) := goodIn_app (goodIn_of _ (by decide +kernel)) ggL_addRandomStops_X5_addRandomStops
theorem dL_addRandomStops_0 : decode cL_addRandomStops 0 = .ok (.aload 6, 2) := by decide +kernel
theorem dL_addRandomStops_2 : decode cL_addRandomStops 2 = .ok (.iconst 0, 1) := by decide +kernel
theorem dL_addRandomStops_3 : decode cL_addRandomStops 3 = .ok (.aload_n 0, 1) := by decide +kernel
theorem dL_addRandomStops_4 : decode cL_addRandomStops 4 = .ok (.iload_n 1, 1) := by decide +kernel
theorem dL_addRandomStops_5 : decode cL_addRandomStops 5 = .ok (.iload_n 2, 1) := by decide +kernel
theorem dL_addRandomStops_6 : decode cL_addRandomStops 6 = .ok (.iload_n 3, 1) := by decide +kernel
theorem dL_addRandomStops_7 : decode cL_addRandomStops 7 = .ok (.iload 4, 2) := by decide +kernel
theorem dL_addRandomStops_9 : decode cL_addRandomStops 9 = .ok (.iload 5, 2) := by decide +kernel
theorem dL_addRandomStops_11 : decode cL_addRandomStops 11 = .ok (.invokevirtual 30, 3) := by decide +kernel
theorem dL_addRandomStops_14 : decode cL_addRandomStops 14 = .ok (.i2l, 1) := by decide +kernel
theorem dL_addRandomStops_15 : decode cL_addRandomStops 15 = .ok (.lastore, 1) := by decide +kernel
theorem dL_addRandomStops_16 : decode cL_addRandomStops 16 = .ok (.goto 15, 3) := by decide +kernel
theorem dL_addRandomStops_19 : decode cL_addRandomStops 19 = .ok (.astore 7, 2) := by decide +kernel
theorem dL_addRandomStops_21 : decode cL_addRandomStops 21 = .ok (.iconst 1, 1) := by decide +kernel
theorem dL_addRandomStops_22 : decode cL_addRandomStops 22 = .ok (.ireturn, 1) := by decide +kernel
theorem dL_addRandomStops_23 : decode cL_addRandomStops 23 = .ok (.astore 7, 2) := by decide +kernel
theorem dL_addRandomStops_25 : decode cL_addRandomStops 25 = .ok (.iconst 2, 1) := by decide +kernel
theorem dL_addRandomStops_26 : decode cL_addRandomStops 26 = .ok (.ireturn, 1) := by decide +kernel
theorem dL_addRandomStops_27 : decode cL_addRandomStops 27 = .ok (.astore 7, 2) := by decide +kernel
theorem dL_addRandomStops_29 : decode cL_addRandomStops 29 = .ok (.iconst 3, 1) := by decide +kernel
theorem dL_addRandomStops_30 : decode cL_addRandomStops 30 = .ok (.ireturn, 1) := by decide +kernel
theorem dL_addRandomStops_31 : decode cL_addRandomStops 31 = .ok (.iconst 0, 1) := by decide +kernel
theorem dL_addRandomStops_32 : decode cL_addRandomStops 32 = .ok (.ireturn, 1) := by decide +kernel
set_option maxRecDepth 20000 in
theorem ggL_stop_X5_stop : GoodIn wsL_stop wsX5_stop := goodIn_ca (goodIn_ca (goodIn_r _ [7, 8, 9, 10, 11, 12, 6, 13, 14, 15, 16, 17, 18, 19, 20, 21, 22, 23, 24, 25, 26, 27, 28, 29, 30, 31, 32, 33, 34, 35, 36] (by decide +kernel) (by decide +kernel)) (goodIn_sub (fun _ h => List.mem_cons_of_mem _ (List.mem_append_left _ (List.mem_append_right _ h))) (by decide +kernel))) (goodIn_sub (fun _ h => List.mem_cons_of_mem _ (List.mem_append_right _ h)) (by decide +kernel))
set_option maxRecDepth 20000 in
theorem gL_stop_X5_stop : GoodIn wsL_stop (wsV RL 33 RX5 yX5_stop wsX5_stop) := goodIn_app (goodIn_of _ (by decide +kernel)) ggL_stop_X5_stop
theorem dL_stop_0 : decode cL_stop 0 = .ok (.aload_n 3, 1) := by decide +kernel
theorem dL_stop_1 : decode cL_stop 1 = .ok (.iconst 0, 1) := by decide +kernel
theorem dL_stop_2 : decode cL_stop 2 = .ok (.aload_n 0, 1) := by decide +kernel
theorem dL_stop_3 : decode cL_stop 3 = .ok (.iload_n 1, 1) := by decide +kernel
theorem dL_stop_4 : decode cL_stop 4 = .ok (.iload_n 2, 1) := by decide +kernel
theorem dL_stop_5 : decode cL_stop 5 = .ok (.invokevirtual 33, 3) := by decide +kernel
theorem dL_stop_8 : decode cL_stop 8 = .ok (.i2l, 1) := by decide +kernel
theorem dL_stop_9 : decode cL_stop 9 = .ok (.lastore, 1) := by decide +kernel
theorem dL_stop_10 : decode cL_stop 10 = .ok (.goto 11, 3) := by decide +kernel
theorem dL_stop_13 : decode cL_stop 13 = .ok (.astore 4, 2) := by decide +kernel
theorem dL_stop_15 : decode cL_stop 15 = .ok (.iconst 1, 1) := by decide +kernel
theorem dL_stop_16 : decode cL_stop 16 = .ok (.ireturn, 1) := by decide +kernel
theorem dL_stop_17 : decode cL_stop 17 = .ok (.astore 4, 2) := by decide +kernel
theorem dL_stop_19 : decode cL_stop 19 = .ok (.iconst 2, 1) := by decide +kernel
theorem dL_stop_20 : decode cL_stop 20 = .ok (.ireturn, 1) := by decide +kernel
theorem dL_stop_21 : decode cL_stop 21 = .ok (.iconst 0, 1) := by decide +kernel
theorem dL_stop_22 : decode cL_stop 22 = .ok (.ireturn, 1) := by decide +kernel
set_option maxRecDepth 20000 in
theorem ggL_run_X5_run : GoodIn wsL_run wsX5_run := goodIn_ca (goodIn_ca (goodIn_r _ [7, 8, 9, 10, 11, 12, 13, 14, 15, 6, 16, 17, 18, 19, 20, 21, 22, 23, 24, 25, 26, 27, 28, 29, 30, 31, 32, 33, 34, 35, 36, 37, 38, 39, 40, 41, 42, 43, 44, 45, 46, 47, 48, 49, 50, 51, 52, 53, 54, 55, 56, 57, 58, 59, 60, 61, 62, 63, 64, 65, 66, 67, 68, 69, 70, 71, 72, 73, 74, 75, 76, 77, 78, 79, 80, 81, 82, 83, 84, 85, 86, 87, 88, 89, 90, 91, 92, 93, 94, 95, 96, 97, 98, 99, 100, 101, 102, 103, 104, 105, 106, 107, 108, 109, 110, 111, 112, 113] (by decide +kernel) (by decide +kernel)) (goodIn_sub (fun _ h => List.mem_cons_of_mem _ (List.mem_append_left _ (List.mem_append_right _ h))) (by decide +kernel))) (goodIn_sub (fun _ h => List.mem_cons_of_mem _ (List.mem_append_right _ h)) (by decide +kernel))
set_option maxRecDepth 20000 in
theorem gL_run_X5_run : GoodIn wsL_run (wsV RL 36 RX5 yX5_run wsX5_run) := goodIn_app (goodIn_of _ (by decide +kernel)) ggL_run_X5_run
theorem dL_run_0 : decode cL_run 0 = .ok (.aload_n 2, 1) := by decide +kernel
theorem dL_run_1 : decode cL_run 1 = .ok (.iconst 0, 1) := by decide +kernel
theorem dL_run_2 : decode cL_run 2 = .ok (.aload_n 0, 1) := by decide +kernel
theorem dL_run_3 : decode cL_run 3 = .ok (.iload_n 1, 1) := by decide +kernel
theorem dL_run_4 : decode cL_run 4 = .ok (.invokevirtual 36, 3) := by decide +kernel
theorem dL_run_7 : decode cL_run 7 = .ok (.i2l, 1) := by decide +kernel
theorem dL_run_8 : decode cL_run 8 = .ok (.lastore, 1) := by decide +kernel
theorem dL_run_9 : decode cL_run 9 = .ok (.goto 9, 3) := by decide +kernel
theorem dL_run_12 : decode cL_run 12 = .ok (.astore_n 3, 1) := by decide +kernel
theorem dL_run_13 : decode cL_run 13 = .ok (.iconst 1, 1) := by decide +kernel
theorem dL_run_14 : decode cL_run 14 = .ok (.ireturn, 1) := by decide +kernel
theorem dL_run_15 : decode cL_run 15 = .ok (.astore_n 3, 1) := by decide +kernel
theorem dL_run_16 : decode cL_run 16 = .ok (.iconst 2, 1) := by decide +kernel
theorem dL_run_17 : decode cL_run 17 = .ok (.ireturn, 1) := by decide +kernel
theorem dL_run_18 : decode cL_run 18 = .ok (.iconst 0, 1) := by decide +kernel
theorem dL_run_19 : decode cL_run 19 = .ok (.ireturn, 1) := by decide +kernel
set_option maxRecDepth 20000 in
theorem ggL_setting_X5_setting : GoodIn wsL_setting wsX5_setting := goodIn_ca (goodIn_ca (goodIn_r _ [7, 8, 9, 10, 11, 6, 12, 13, 14, 15, 16, 17, 18, 19, 20, 21, 22, 23, 24, 25, 26, 27] (by decide +kernel) (by decide +kernel)) (goodIn_sub (fun _ h => List.mem_cons_of_mem _ (List.mem_append_left _ (List.mem_append_right _ h))) (by decide +kernel))) (goodIn_sub (fun _ h => List.mem_cons_of_mem _ (List.mem_append_right _ h)) (by decide +kernel))
set_option maxRecDepth 20000 in
theorem gL_setting_X5_setting : GoodIn wsL_setting (wsV RL 40 RX5 yX5_setting wsX5_setting) := goodIn_app (goodIn_of _ (by decide +kernel)) ggL_setting_X5_setting
theorem dL_setting_0 : decode cL_setting 0 = .ok (.aload_n 3, 1) := by decide +kernel
theorem dL_setting_1 : decode cL_setting 1 = .ok (.iconst 0, 1) := by decide +kernel
theorem dL_setting_2 : decode cL_setting 2 = .ok (.aload_n 0, 1) := by decide +kernel
theorem dL_setting_3 : decode cL_setting 3 = .ok (.iload_n 1, 1) := by decide +kernel
theorem dL_setting_4 : decode cL_setting 4 = .ok (.iload_n 2, 1) := by decide +kernel
theorem dL_setting_5 : decode cL_setting 5 = .ok (.invokevirtual 40, 3) := by decide +kernel
theorem dL_setting_8 : decode cL_setting 8 = .ok (.i2l, 1) := by decide +kernel
theorem dL_setting_9 : decode cL_setting 9 = .ok (.lastore, 1) := by decide +kernel
theorem dL_setting_10 : decode cL_setting 10 = .ok (.goto 11, 3) := by decide +kernel
theorem dL_setting_13 : decode cL_setting 13 = .ok (.astore 4, 2) := by decide +kernel
theorem dL_setting_15 : decode cL_setting 15 = .ok (.iconst 1, 1) := by decide +kernel
theorem dL_setting_16 : decode cL_setting 16 = .ok (.ireturn, 1) := by decide +kernel
theorem dL_setting_17 : decode cL_setting 17 = .ok (.astore 4, 2) := by decide +kernel
theorem dL_setting_19 : decode cL_setting 19 = .ok (.iconst 2, 1) := by decide +kernel
theorem dL_setting_20 : decode cL_setting 20 = .ok (.ireturn, 1) := by decide +kernel
theorem dL_setting_21 : decode cL_setting 21 = .ok (.iconst 0, 1) := by decide +kernel
theorem dL_setting_22 : decode cL_setting 22 = .ok (.ireturn, 1) := by decide +kernel
set_option maxRecDepth 20000 in
theorem ggL_machine_X5_machine : GoodIn wsL_machine wsX5_machine := goodIn_ca (goodIn_ca (goodIn_r _ [7, 8, 9, 10, 11, 6, 12, 13, 14, 15, 16, 17, 18, 19, 20, 21, 22, 23, 24, 25, 26, 27] (by decide +kernel) (by decide +kernel)) (goodIn_sub (fun _ h => List.mem_cons_of_mem _ (List.mem_append_left _ (List.mem_append_right _ h))) (by decide +kernel))) (goodIn_sub (fun _ h => List.mem_cons_of_mem _ (List.mem_append_right _ h)) (by decide +kernel))
set_option maxRecDepth 20000 in
theorem gL_machine_X5_machine : GoodIn wsL_machine (wsV RL 43 RX5 yX5_machine wsX5_machine) := goodIn_app (goodIn_of _ (by decide +kernel)) ggL_machine_X5_machine
theorem dL_machine_0 : decode cL_machine 0 = .ok (.aload_n 3, 1) := by decide +kernel
theorem dL_machine_1 : decode cL_machine 1 = .ok (.iconst 0, 1) := by decide +kernel
theorem dL_machine_2 : decode cL_machine 2 = .ok (.aload_n 0, 1) := by decide +kernel
theorem dL_machine_3 : decode cL_machine 3 = .ok (.iload_n 1, 1) := by decide +kernel
theorem dL_machine_4 : decode cL_machine 4 = .ok (.iload_n 2, 1) := by decide +kernel
theorem dL_machine_5 : decode cL_machine 5 = .ok (.invokevirtual 43, 3) := by decide +kernel
theorem dL_machine_8 : decode cL_machine 8 = .ok (.i2l, 1) := by decide +kernel
theorem dL_machine_9 : decode cL_machine 9 = .ok (.lastore, 1) := by decide +kernel
theorem dL_machine_10 : decode cL_machine 10 = .ok (.goto 11, 3) := by decide +kernel
theorem dL_machine_13 : decode cL_machine 13 = .ok (.astore 4, 2) := by decide +kernel
theorem dL_machine_15 : decode cL_machine 15 = .ok (.iconst 1, 1) := by decide +kernel
theorem dL_machine_16 : decode cL_machine 16 = .ok (.ireturn, 1) := by decide +kernel
theorem dL_machine_17 : decode cL_machine 17 = .ok (.astore 4, 2) := by decide +kernel
theorem dL_machine_19 : decode cL_machine 19 = .ok (.iconst 2, 1) := by decide +kernel
theorem dL_machine_20 : decode cL_machine 20 = .ok (.ireturn, 1) := by decide +kernel
theorem dL_machine_21 : decode cL_machine 21 = .ok (.iconst 0, 1) := by decide +kernel
theorem dL_machine_22 : decode cL_machine 22 = .ok (.ireturn, 1) := by decide +kernel
set_option maxRecDepth 20000 in
theorem ggL_count_X5_count : GoodIn wsL_count wsX5_count := goodIn_ca (goodIn_ca (goodIn_r _ [7, 8, 9, 10, 11, 6, 12, 13, 14, 15, 16, 17, 18, 19, 20, 21, 22, 23, 24, 25, 26, 27] (by decide +kernel) (by decide +kernel)) (goodIn_sub (fun _ h => List.mem_cons_of_mem _ (List.mem_append_left _ (List.mem_append_right _ h))) (by decide +kernel))) (goodIn_sub (fun _ h => List.mem_cons_of_mem _ (List.mem_append_right _ h)) (by decide +kernel))
set_option maxRecDepth 20000 in
theorem gL_count_X5_count : GoodIn wsL_count (wsV RL 46 RX5 yX5_count wsX5_count) := goodIn_app (goodIn_of _ (by decide +kernel)) ggL_count_X5_count
theorem dL_count_0 : decode cL_count 0 = .ok (.aload_n 3, 1) := by decide +kernel
theorem dL_count_1 : decode cL_count 1 = .ok (.iconst 0, 1) := by decide +kernel
theorem dL_count_2 : decode cL_count 2 = .ok (.aload_n 0, 1) := by decide +kernel
theorem dL_count_3 : decode cL_count 3 = .ok (.iload_n 1, 1) := by decide +kernel
theorem dL_count_4 : decode cL_count 4 = .ok (.iload_n 2, 1) := by decide +kernel
theorem dL_count_5 : decode cL_count 5 = .ok (.invokevirtual 46, 3) := by decide +kernel
theorem dL_count_8 : decode cL_count 8 = .ok (.i2l, 1) := by decide +kernel
theorem dL_count_9 : decode cL_count 9 = .ok (.lastore, 1) := by decide +kernel
theorem dL_count_10 : decode cL_count 10 = .ok (.goto 11, 3) := by decide +kernel
theorem dL_count_13 : decode cL_count 13 = .ok (.astore 4, 2) := by decide +kernel
theorem dL_count_15 : decode cL_count 15 = .ok (.iconst 1, 1) := by decide +kernel
theorem dL_count_16 : decode cL_count 16 = .ok (.ireturn, 1) := by decide +kernel
theorem dL_count_17 : decode cL_count 17 = .ok (.astore 4, 2) := by decide +kernel
theorem dL_count_19 : decode cL_count 19 = .ok (.iconst 2, 1) := by decide +kernel
theorem dL_count_20 : decode cL_count 20 = .ok (.ireturn, 1) := by decide +kernel
theorem dL_count_21 : decode cL_count 21 = .ok (.iconst 0, 1) := by decide +kernel
theorem dL_count_22 : decode cL_count 22 = .ok (.ireturn, 1) := by decide +kernel
set_option maxRecDepth 20000 in
theorem ggL_meanFill_X5_meanFill : GoodIn wsL_meanFill wsX5_meanFill := goodIn_ca (goodIn_r _ [6, 7, 8, 9, 10, 5, 11, 12, 13, 14, 15, 16, 17, 18, 19, 20, 21] (by decide +kernel) (by decide +kernel)) (goodIn_sub (fun _ h => List.mem_cons_of_mem _ (List.mem_append_right _ h)) (by decide +kernel))
set_option maxRecDepth 20000 in
theorem gL_meanFill_X5_meanFill : GoodIn wsL_meanFill (wsV RL 49 RX5 yX5_meanFill wsX5_meanFill) := goodIn_app (goodIn_of _ (by decide +kernel)) ggL_meanFill_X5_meanFill
theorem dL_meanFill_0 : decode cL_meanFill 0 = .ok (.aload_n 2, 1) := by decide +kernel
theorem dL_meanFill_1 : decode cL_meanFill 1 = .ok (.iconst 0, 1) := by decide +kernel
theorem dL_meanFill_2 : decode cL_meanFill 2 = .ok (.aload_n 0, 1) := by decide +kernel
theorem dL_meanFill_3 : decode cL_meanFill 3 = .ok (.iload_n 1, 1) := by decide +kernel
theorem dL_meanFill_4 : decode cL_meanFill 4 = .ok (.invokevirtual 49, 3) := by decide +kernel
theorem dL_meanFill_7 : decode cL_meanFill 7 = .ok (.dastore, 1) := by decide +kernel
theorem dL_meanFill_8 : decode cL_meanFill 8 = .ok (.goto 6, 3) := by decide +kernel
theorem dL_meanFill_11 : decode cL_meanFill 11 = .ok (.astore_n 3, 1) := by decide +kernel
theorem dL_meanFill_12 : decode cL_meanFill 12 = .ok (.iconst 1, 1) := by decide +kernel
theorem dL_meanFill_13 : decode cL_meanFill 13 = .ok (.ireturn, 1) := by decide +kernel
theorem dL_meanFill_14 : decode cL_meanFill 14 = .ok (.iconst 0, 1) := by decide +kernel
theorem dL_meanFill_15 : decode cL_meanFill 15 = .ok (.ireturn, 1) := by decide +kernel
set_option maxRecDepth 20000 in
theorem ggL_bound_X5_bound : GoodIn wsL_bound wsX5_bound := goodIn_ca (goodIn_ca (goodIn_r _ [7, 8, 9, 10, 6, 11, 12, 13, 14, 15, 16, 17, 18, 19, 20, 21, 22, 23, 24, 25, 26, 27, 28, 29, 30, 31, 32, 33, 34, 35, 36, 37, 38, 39, 40, 41, 42, 43, 44, 45, 46, 47, 48, 49, 50, 51, 52, 53, 54, 55, 56, 57, 58, 59, 60, 61, 62, 63, 64, 65, 66, 67, 68, 69, 70, 71, 72, 73] (by decide +kernel) (by decide +kernel)) (goodIn_sub (fun _ h => List.mem_cons_of_mem _ (List.mem_append_left _ (List.mem_append_right _ h))) (by decide +kernel))) (goodIn_sub (fun _ h => List.mem_cons_of_mem _ (List.mem_append_right _ h)) (by decide +kernel))
set_option maxRecDepth 20000 in
theorem gL_bound_X5_bound : GoodIn wsL_bound (wsV RL 53 RX5 yX5_bound wsX5_bound) := goodIn_app (goodIn_of _ (by decide +kernel)) ggL_bound_X5_bound
theorem dL_bound_0 : decode cL_bound 0 = .ok (.aload_n 2, 1) := by decide +kernel
theorem dL_bound_1 : decode cL_bound 1 = .ok (.iconst 0, 1) := by decide +kernel
theorem dL_bound_2 : decode cL_bound 2 = .ok (.aload_n 0, 1) := by decide +kernel
theorem dL_bound_3 : decode cL_bound 3 = .ok (.iload_n 1, 1) := by decide +kernel
theorem dL_bound_4 : decode cL_bound 4 = .ok (.invokevirtual 53, 3) := by decide +kernel
theorem dL_bound_7 : decode cL_bound 7 = .ok (.i2l, 1) := by decide +kernel
theorem dL_bound_8 : decode cL_bound 8 = .ok (.lastore, 1) := by decide +kernel
theorem dL_bound_9 : decode cL_bound 9 = .ok (.goto 9, 3) := by decide +kernel
theorem dL_bound_12 : decode cL_bound 12 = .ok (.astore_n 3, 1) := by decide +kernel
theorem dL_bound_13 : decode cL_bound 13 = .ok (.iconst 1, 1) := by decide +kernel
theorem dL_bound_14 : decode cL_bound 14 = .ok (.ireturn, 1) := by decide +kernel
theorem dL_bound_15 : decode cL_bound 15 = .ok (.astore_n 3, 1) := by decide +kernel
theorem dL_bound_16 : decode cL_bound 16 = .ok (.iconst 2, 1) := by decide +kernel
theorem dL_bound_17 : decode cL_bound 17 = .ok (.ireturn, 1) := by decide +kernel
theorem dL_bound_18 : decode cL_bound 18 = .ok (.iconst 0, 1) := by decide +kernel
theorem dL_bound_19 : decode cL_bound 19 = .ok (.ireturn, 1) := by decide +kernel
set_option maxRecDepth 20000 in
theorem ggL_limiting_X5_limiting : GoodIn wsL_limiting wsX5_limiting := goodIn_ca (goodIn_r _ [6, 7, 8, 9, 10, 5, 11, 12, 13, 14, 15, 16, 17, 18, 19, 20, 21, 22, 23, 24, 25, 26, 27, 28, 29] (by decide +kernel) (by decide +kernel)) (goodIn_sub (fun _ h => List.mem_cons_of_mem _ (List.mem_append_right _ h)) (by decide +kernel))
set_option maxRecDepth 20000 in
theorem gL_limiting_X5_limiting : GoodIn wsL_limiting (wsV RL 56 RX5 yX5_limiting wsX5_limiting) := goodIn_app (goodIn_of _ (by decide +kernel)) ggL_limiting_X5_limiting
theorem dL_limiting_0 : decode cL_limiting 0 = .ok (.aload_n 1, 1) := by decide +kernel
theorem dL_limiting_1 : decode cL_limiting 1 = .ok (.iconst 0, 1) := by decide +kernel
theorem dL_limiting_2 : decode cL_limiting 2 = .ok (.aload_n 0, 1) := by decide +kernel
theorem dL_limiting_3 : decode cL_limiting 3 = .ok (.invokevirtual 56, 3) := by decide +kernel
theorem dL_limiting_6 : decode cL_limiting 6 = .ok (.i2l, 1) := by decide +kernel
theorem dL_limiting_7 : decode cL_limiting 7 = .ok (.lastore, 1) := by decide +kernel
theorem dL_limiting_8 : decode cL_limiting 8 = .ok (.goto 6, 3) := by decide +kernel
theorem dL_limiting_11 : decode cL_limiting 11 = .ok (.astore_n 2, 1) := by decide +kernel
theorem dL_limiting_12 : decode cL_limiting 12 = .ok (.iconst 1, 1) := by decide +kernel
theorem dL_limiting_13 : decode cL_limiting 13 = .ok (.ireturn, 1) := by decide +kernel
theorem dL_limiting_14 : decode cL_limiting 14 = .ok (.iconst 0, 1) := by decide +kernel
theorem dL_limiting_15 : decode cL_limiting 15 = .ok (.ireturn, 1) := by decide +kernel
set_option maxRecDepth 20000 in
theorem ggL_slowest_X5_slowest : GoodIn wsL_slowest wsX5_slowest := goodIn_ca (goodIn_ca (goodIn_r _ [7, 8, 9, 10, 6, 11, 12, 13, 14, 15, 16, 17, 18, 19, 20, 21, 22, 23, 24, 25, 26, 27, 28, 29, 30, 31, 32, 33, 34, 35, 36, 37, 38, 39, 40, 41, 42, 43, 44, 45, 46, 47, 48, 49, 50, 51, 52, 53, 54, 55, 56, 57, 58, 59, 60, 61, 62, 63, 64, 65, 66, 67, 68, 69, 70, 71, 72] (by decide +kernel) (by decide +kernel)) (goodIn_sub (fun _ h => List.mem_cons_of_mem _ (List.mem_append_left _ (List.mem_append_right _ h))) (by decide +kernel))) (goodIn_sub (fun _ h => List.mem_cons_of_mem _ (List.mem_append_right _ h)) (by decide +kernel))
set_option maxRecDepth 20000 in
theorem gL_slowest_X5_slowest : GoodIn wsL_slowest (wsV RL 60 RX5 yX5_slowest wsX5_slowest) := goodIn_app (goodIn_of _ (by decide +kernel)) ggL_slowest_X5_slowest
theorem dL_slowest_0 : decode cL_slowest 0 = .ok (.aload_n 2, 1) := by decide +kernel
theorem dL_slowest_1 : decode cL_slowest 1 = .ok (.iconst 0, 1) := by decide +kernel
theorem dL_slowest_2 : decode cL_slowest 2 = .ok (.aload_n 0, 1) := by decide +kernel
theorem dL_slowest_3 : decode cL_slowest 3 = .ok (.iload_n 1, 1) := by decide +kernel
theorem dL_slowest_4 : decode cL_slowest 4 = .ok (.invokevirtual 60, 3) := by decide +kernel
theorem dL_slowest_7 : decode cL_slowest 7 = .ok (.i2l, 1) := by decide +kernel
theorem dL_slowest_8 : decode cL_slowest 8 = .ok (.lastore, 1) := by decide +kernel
theorem dL_slowest_9 : decode cL_slowest 9 = .ok (.goto 9, 3) := by decide +kernel
theorem dL_slowest_12 : decode cL_slowest 12 = .ok (.astore_n 3, 1) := by decide +kernel
theorem dL_slowest_13 : decode cL_slowest 13 = .ok (.iconst 1, 1) := by decide +kernel
theorem dL_slowest_14 : decode cL_slowest 14 = .ok (.ireturn, 1) := by decide +kernel
theorem dL_slowest_15 : decode cL_slowest 15 = .ok (.astore_n 3, 1) := by decide +kernel
theorem dL_slowest_16 : decode cL_slowest 16 = .ok (.iconst 2, 1) := by decide +kernel
theorem dL_slowest_17 : decode cL_slowest 17 = .ok (.ireturn, 1) := by decide +kernel
theorem dL_slowest_18 : decode cL_slowest 18 = .ok (.iconst 0, 1) := by decide +kernel
theorem dL_slowest_19 : decode cL_slowest 19 = .ok (.ireturn, 1) := by decide +kernel
set_option maxRecDepth 20000 in
theorem ggL_outputWith_X5_outputWith : GoodIn wsL_outputWith wsX5_outputWith := goodIn_ca (goodIn_ca (goodIn_r _ [7, 8, 9, 10, 11, 12, 6, 13, 14, 15, 16, 17, 18, 19, 20, 21, 22, 23, 24, 25, 26, 27, 28, 29, 30, 31, 32, 33, 34, 35, 36, 37, 38, 39, 40, 41, 42, 43, 44, 45, 46, 47, 48, 49, 50, 51, 52, 53, 54, 55, 56, 57, 58, 59, 60, 61, 62, 63, 64, 65, 66, 67, 68, 69, 70, 71, 72, 73, 74, 75, 76, 77, 78, 79, 80, 81, 82, 83, 84, 85, 86, 87, 88, 89, 90, 91, 92, 93, 94, 95, 96, 97, 98, 99, 100, 101, 102, 103, 104, 105, 106, 107, 108, 109, 110, 111, 112, 113, 114, 115, 116] (by decide +kernel) (by decide +kernel)) (goodIn_sub (fun _ h => List.mem_cons_of_mem _ (List.mem_append_left _ (List.mem_append_right _ h))) (by decide +kernel))) (goodIn_sub (fun _ h => List.mem_cons_of_mem _ (List.mem_append_right _ h)) (by decide +kernel))
set_option maxRecDepth 20000 in
theorem gL_outputWith_X5_outputWith : GoodIn wsL_outputWith (wsV RL 63 RX5 yX5_outputWith wsX5_outputWith) := goodIn_app (goodIn_of _ (by decide +kernel)) ggL_outputWith_X5_outputWith
theorem dL_outputWith_0 : decode cL_outputWith 0 = .ok (.aload 4, 2) := by decide +kernel
theorem dL_outputWith_2 : decode cL_outputWith 2 = .ok (.iconst 0, 1) := by decide +kernel
theorem dL_outputWith_3 : decode cL_outputWith 3 = .ok (.aload_n 0, 1) := by decide +kernel
theorem dL_outputWith_4 : decode cL_outputWith 4 = .ok (.iload_n 1, 1) := by decide +kernel
theorem dL_outputWith_5 : decode cL_outputWith 5 = .ok (.iload_n 2, 1) := by decide +kernel
theorem dL_outputWith_6 : decode cL_outputWith 6 = .ok (.iload_n 3, 1) := by decide +kernel
theorem dL_outputWith_7 : decode cL_outputWith 7 = .ok (.invokevirtual 63, 3) := by decide +kernel
theorem dL_outputWith_10 : decode cL_outputWith 10 = .ok (.i2l, 1) := by decide +kernel
theorem dL_outputWith_11 : decode cL_outputWith 11 = .ok (.lastore, 1) := by decide +kernel
theorem dL_outputWith_12 : decode cL_outputWith 12 = .ok (.goto 11, 3) := by decide +kernel
theorem dL_outputWith_15 : decode cL_outputWith 15 = .ok (.astore 5, 2) := by decide +kernel
theorem dL_outputWith_17 : decode cL_outputWith 17 = .ok (.iconst 1, 1) := by decide +kernel
theorem dL_outputWith_18 : decode cL_outputWith 18 = .ok (.ireturn, 1) := by decide +kernel
theorem dL_outputWith_19 : decode cL_outputWith 19 = .ok (.astore 5, 2) := by decide +kernel
theorem dL_outputWith_21 : decode cL_outputWith 21 = .ok (.iconst 2, 1) := by decide +kernel
theorem dL_outputWith_22 : decode cL_outputWith 22 = .ok (.ireturn, 1) := by decide +kernel
theorem dL_outputWith_23 : decode cL_outputWith 23 = .ok (.iconst 0, 1) := by decide +kernel
theorem dL_outputWith_24 : decode cL_outputWith 24 = .ok (.ireturn, 1) := by decide +kernel
set_option maxRecDepth 20000 in
theorem ggL_capacityFor_X5_capacityFor : GoodIn wsL_capacityFor wsX5_capacityFor := goodIn_ca (goodIn_ca (goodIn_r _ [7, 8, 9, 10, 11, 12, 13, 14, 6, 15, 16, 17, 18, 19, 20, 21, 22, 23, 24, 25, 26, 27, 28, 29, 30, 31, 32, 33, 34, 35, 36, 37, 38, 39, 40, 41, 42, 43, 44, 45, 46, 47, 48, 49, 50, 51, 52, 53, 54, 55, 56, 57, 58, 59, 60, 61, 62, 63, 64, 65, 66, 67, 68, 69, 70, 71, 72, 73, 74, 75, 76, 77, 78, 79, 80, 81, 82, 83, 84, 85, 86, 87, 88, 89, 90, 91, 92, 93, 94, 95, 96, 97, 98, 99, 100, 101, 102, 103, 104, 105, 106, 107, 108, 109, 110, 111, 112, 113, 114, 115, 116, 117, 118, 119, 120, 121, 122, 123, 124, 125, 126, 127, 128, 129, 130, 131] (by decide +kernel) (by decide +kernel)) (goodIn_sub (fun _ h => List.mem_cons_of_mem _ (List.mem_append_left _ (List.mem_append_right _ h))) (by decide +kernel))) (goodIn_sub (fun _ h => List.mem_cons_of_mem _ (List.mem_append_right _ h)) (by decide +kernel))
set_option maxRecDepth 20000 in
theorem gL_capacityFor_X5_capacityFor : GoodIn wsL_capacityFor (wsV RL 66 RX5 yX5_capacityFor wsX5_capacityFor) := goodIn_app (goodIn_of _ (by decide +kernel)) ggL_capacityFor_X5_capacityFor
theorem dL_capacityFor_0 : decode cL_capacityFor 0 = .ok (.aload 4, 2) := by decide +kernel
theorem dL_capacityFor_2 : decode cL_capacityFor 2 = .ok (.iconst 0, 1) := by decide +kernel
theorem dL_capacityFor_3 : decode cL_capacityFor 3 = .ok (.aload_n 0, 1) := by decide +kernel
theorem dL_capacityFor_4 : decode cL_capacityFor 4 = .ok (.iload_n 1, 1) := by decide +kernel
theorem dL_capacityFor_5 : decode cL_capacityFor 5 = .ok (.iload_n 2, 1) := by decide +kernel
theorem dL_capacityFor_6 : decode cL_capacityFor 6 = .ok (.iload_n 3, 1) := by decide +kernel
theorem dL_capacityFor_7 : decode cL_capacityFor 7 = .ok (.invokevirtual 66, 3) := by decide +kernel
theorem dL_capacityFor_10 : decode cL_capacityFor 10 = .ok (.i2l, 1) := by decide +kernel
theorem dL_capacityFor_11 : decode cL_capacityFor 11 = .ok (.lastore, 1) := by decide +kernel
theorem dL_capacityFor_12 : decode cL_capacityFor 12 = .ok (.goto 11, 3) := by decide +kernel
theorem dL_capacityFor_15 : decode cL_capacityFor 15 = .ok (.astore 5, 2) := by decide +kernel
theorem dL_capacityFor_17 : decode cL_capacityFor 17 = .ok (.iconst 1, 1) := by decide +kernel
theorem dL_capacityFor_18 : decode cL_capacityFor 18 = .ok (.ireturn, 1) := by decide +kernel
theorem dL_capacityFor_19 : decode cL_capacityFor 19 = .ok (.astore 5, 2) := by decide +kernel
theorem dL_capacityFor_21 : decode cL_capacityFor 21 = .ok (.iconst 2, 1) := by decide +kernel
theorem dL_capacityFor_22 : decode cL_capacityFor 22 = .ok (.ireturn, 1) := by decide +kernel
theorem dL_capacityFor_23 : decode cL_capacityFor 23 = .ok (.iconst 0, 1) := by decide +kernel
theorem dL_capacityFor_24 : decode cL_capacityFor 24 = .ok (.ireturn, 1) := by decide +kernel
set_option maxRecDepth 20000 in
theorem ggL_bestBuffer_X5_bestBuffer : GoodIn wsL_bestBuffer wsX5_bestBuffer := goodIn_ca (goodIn_ca (goodIn_r _ [7, 8, 9, 10, 11, 12, 13, 14, 15, 16, 6, 17, 18, 19, 20, 21, 22, 23, 24, 25, 26, 27, 28, 29, 30, 31, 32, 33, 34, 35, 36, 37, 38, 39, 40, 41, 42, 43, 44, 45, 46, 47, 48, 49, 50, 51, 52, 53, 54, 55, 56, 57, 58, 59, 60, 61, 62, 63, 64, 65, 66, 67, 68, 69, 70, 71, 72, 73, 74, 75, 76, 77, 78, 79, 80, 81, 82, 83, 84, 85, 86, 87, 88, 89, 90, 91, 92, 93, 94, 95, 96, 97, 98, 99, 100, 101, 102, 103, 104, 105, 106, 107, 108, 109, 110, 111, 112, 113, 114, 115, 116, 117] (by decide +kernel) (by decide +kernel)) (goodIn_sub (fun _ h => List.mem_cons_of_mem _ (List.mem_append_left _ (List.mem_append_right _ h))) (by decide +kernel))) (goodIn_sub (fun _ h => List.mem_cons_of_mem _ (List.mem_append_right _ h)) (by decide +kernel))
set_option maxRecDepth 20000 in
theorem gL_bestBuffer_X5_bestBuffer : GoodIn wsL_bestBuffer (wsV RL 69 RX5 yX5_bestBuffer wsX5_bestBuffer) := goodIn_app (goodIn_of _ (by decide +kernel)) ggL_bestBuffer_X5_bestBuffer
theorem dL_bestBuffer_0 : decode cL_bestBuffer 0 = .ok (.aload_n 3, 1) := by decide +kernel
theorem dL_bestBuffer_1 : decode cL_bestBuffer 1 = .ok (.iconst 0, 1) := by decide +kernel
theorem dL_bestBuffer_2 : decode cL_bestBuffer 2 = .ok (.aload_n 0, 1) := by decide +kernel
theorem dL_bestBuffer_3 : decode cL_bestBuffer 3 = .ok (.iload_n 1, 1) := by decide +kernel
theorem dL_bestBuffer_4 : decode cL_bestBuffer 4 = .ok (.iload_n 2, 1) := by decide +kernel
theorem dL_bestBuffer_5 : decode cL_bestBuffer 5 = .ok (.invokevirtual 69, 3) := by decide +kernel
theorem dL_bestBuffer_8 : decode cL_bestBuffer 8 = .ok (.i2l, 1) := by decide +kernel
theorem dL_bestBuffer_9 : decode cL_bestBuffer 9 = .ok (.lastore, 1) := by decide +kernel
theorem dL_bestBuffer_10 : decode cL_bestBuffer 10 = .ok (.goto 11, 3) := by decide +kernel
theorem dL_bestBuffer_13 : decode cL_bestBuffer 13 = .ok (.astore 4, 2) := by decide +kernel
theorem dL_bestBuffer_15 : decode cL_bestBuffer 15 = .ok (.iconst 1, 1) := by decide +kernel
theorem dL_bestBuffer_16 : decode cL_bestBuffer 16 = .ok (.ireturn, 1) := by decide +kernel
theorem dL_bestBuffer_17 : decode cL_bestBuffer 17 = .ok (.astore 4, 2) := by decide +kernel
theorem dL_bestBuffer_19 : decode cL_bestBuffer 19 = .ok (.iconst 2, 1) := by decide +kernel
theorem dL_bestBuffer_20 : decode cL_bestBuffer 20 = .ok (.ireturn, 1) := by decide +kernel
theorem dL_bestBuffer_21 : decode cL_bestBuffer 21 = .ok (.iconst 0, 1) := by decide +kernel
theorem dL_bestBuffer_22 : decode cL_bestBuffer 22 = .ok (.ireturn, 1) := by decide +kernel
set_option maxRecDepth 20000 in
theorem ggL_append_X5_append : GoodIn wsL_append wsX5_append := goodIn_ca (goodIn_ca (goodIn_r _ [7, 8, 9, 10, 11, 12, 13, 14, 6, 15, 16, 17, 18, 19, 20, 21, 22, 23, 24, 25, 26, 27, 28, 29, 30] (by decide +kernel) (by decide +kernel)) (goodIn_sub (fun _ h => List.mem_cons_of_mem _ (List.mem_append_left _ (List.mem_append_right _ h))) (by decide +kernel))) (goodIn_sub (fun _ h => List.mem_cons_of_mem _ (List.mem_append_right _ h)) (by decide +kernel))
set_option maxRecDepth 20000 in
theorem gL_append_X5_append : GoodIn wsL_append (wsV RL 72 RX5 yX5_append wsX5_append) := goodIn_app (goodIn_of _ (by decide +kernel)) ggL_append_X5_append
theorem dL_append_0 : decode cL_append 0 = .ok (.aload_n 2, 1) := by decide +kernel
theorem dL_append_1 : decode cL_append 1 = .ok (.iconst 0, 1) := by decide +kernel
theorem dL_append_2 : decode cL_append 2 = .ok (.aload_n 0, 1) := by decide +kernel
theorem dL_append_3 : decode cL_append 3 = .ok (.iload_n 1, 1) := by decide +kernel
theorem dL_append_4 : decode cL_append 4 = .ok (.invokevirtual 72, 3) := by decide +kernel
theorem dL_append_7 : decode cL_append 7 = .ok (.i2l, 1) := by decide +kernel
theorem dL_append_8 : decode cL_append 8 = .ok (.lastore, 1) := by decide +kernel
theorem dL_append_9 : decode cL_append 9 = .ok (.goto 9, 3) := by decide +kernel
theorem dL_append_12 : decode cL_append 12 = .ok (.astore_n 3, 1) := by decide +kernel
theorem dL_append_13 : decode cL_append 13 = .ok (.iconst 1, 1) := by decide +kernel
theorem dL_append_14 : decode cL_append 14 = .ok (.ireturn, 1) := by decide +kernel
theorem dL_append_15 : decode cL_append 15 = .ok (.astore_n 3, 1) := by decide +kernel
theorem dL_append_16 : decode cL_append 16 = .ok (.iconst 2, 1) := by decide +kernel
theorem dL_append_17 : decode cL_append 17 = .ok (.ireturn, 1) := by decide +kernel
theorem dL_append_18 : decode cL_append 18 = .ok (.iconst 0, 1) := by decide +kernel
theorem dL_append_19 : decode cL_append 19 = .ok (.ireturn, 1) := by decide +kernel
set_option maxRecDepth 20000 in
theorem ggL_undo_X5_undo : GoodIn wsL_undo wsX5_undo := goodIn_ca (goodIn_r _ [6, 7, 8, 9, 10, 11, 12, 13, 14, 15, 16, 17, 18, 19, 20, 21, 22, 23, 24, 25, 26, 27, 28, 29, 30, 31, 32, 33, 34, 35, 36, 37, 38, 39, 40, 41, 42, 43, 44, 45, 46, 47, 48, 49, 50, 51, 52, 53, 54, 55] (by decide +kernel) (by decide +kernel)) (goodIn_sub (fun _ h => List.mem_cons_of_mem _ (List.mem_append_right _ h)) (by decide +kernel))
set_option maxRecDepth 20000 in
theorem gL_undo_X5_undo : GoodIn wsL_undo (wsV RL 75 RX5 yX5_undo wsX5_undo) := goodIn_app (goodIn_of _ (by decide +kernel)) ggL_undo_X5_undo
theorem dL_undo_0 : decode cL_undo 0 = .ok (.aload_n 1, 1) := by decide +kernel
theorem dL_undo_1 : decode cL_undo 1 = .ok (.iconst 0, 1) := by decide +kernel
theorem dL_undo_2 : decode cL_undo 2 = .ok (.aload_n 0, 1) := by decide +kernel
theorem dL_undo_3 : decode cL_undo 3 = .ok (.invokevirtual 75, 3) := by decide +kernel
theorem dL_undo_6 : decode cL_undo 6 = .ok (.i2l, 1) := by decide +kernel
theorem dL_undo_7 : decode cL_undo 7 = .ok (.lastore, 1) := by decide +kernel
theorem dL_undo_8 : decode cL_undo 8 = .ok (.goto 6, 3) := by decide +kernel
theorem dL_undo_11 : decode cL_undo 11 = .ok (.astore_n 2, 1) := by decide +kernel
theorem dL_undo_12 : decode cL_undo 12 = .ok (.iconst 1, 1) := by decide +kernel
theorem dL_undo_13 : decode cL_undo 13 = .ok (.ireturn, 1) := by decide +kernel
theorem dL_undo_14 : decode cL_undo 14 = .ok (.iconst 0, 1) := by decide +kernel
theorem dL_undo_15 : decode cL_undo 15 = .ok (.ireturn, 1) := by decide +kernel
set_option maxRecDepth 20000 in
theorem ggL_law_X5_init : GoodIn wsL_law wsX5_init := goodIn_r _ [10, 11, 12, 13, 14, 15, 16, 17, 18, 19, 20, 21, 22, 23, 24, 25, 26, 27, 28, 29, 30, 31, 32, 33, 34, 35, 36, 37, 38, 39, 40, 41, 42, 43, 44, 45, 46, 47, 48, 49, 50, 51, 52, 753, 754, 755, 756, 737, 738, 739, 740, 757, 758, 759, 760, 761, 762, 763, 764, 765, 766, 767, 768] (by decide +kernel) (by decide +kernel)
set_option maxRecDepth 20000 in
theorem gL_law_X5_init : GoodIn wsL_law (wsX5_init) := ggL_law_X5_init
set_option maxRecDepth 20000 in
theorem ggL_law_X6_init : GoodIn wsL_law wsX6_init := goodIn_r _ [55, 56, 12, 13, 31, 57, 58, 59, 60, 61, 741, 742, 743, 744, 745, 746, 747, 748, 749, 750, 751, 752] (by decide +kernel) (by decide +kernel)
set_option maxRecDepth 20000 in
theorem gL_law_X6_init : GoodIn wsL_law (wsX6_init) := ggL_law_X6_init
set_option maxRecDepth 20000 in
theorem ggL_law_L_addMachine : GoodIn wsL_law wsL_addMachine := goodIn_ca (goodIn_ca (goodIn_r _ [65, 66, 67, 68, 69, 70, 2, 71, 72, 73, 74, 75, 17, 22, 76, 77, 78, 79, 80, 81, 82, 83, 84, 21, 85, 86, 48, 87, 88, 89, 16, 90, 91, 32, 92, 93, 94, 95, 36, 96, 97, 98, 35, 99, 100, 40, 101, 41, 42, 102, 103, 104, 105, 106, 107, 108, 737, 738, 739, 740, 753, 754, 755, 756, 757, 758, 759, 764, 765, 766, 767, 768] (by decide +kernel) (by decide +kernel)) (goodIn_sub (fun _ h => List.mem_append_left _ (List.mem_append_left _ (List.mem_append_right _ h))) (by decide +kernel))) (goodIn_sub (fun _ h => List.mem_append_left _ (List.mem_append_right _ h)) (by decide +kernel))
set_option maxRecDepth 20000 in
theorem gL_law_L_addMachine : GoodIn wsL_law (va_wsS RL 82 yL_addMachine wsL_addMachine) := goodIn_app (goodIn_of _ (by decide +kernel)) ggL_law_L_addMachine
set_option maxRecDepth 20000 in
theorem ggL_law_X6_addMachine : GoodIn wsL_law wsX6_addMachine := goodIn_r _ [112, 57, 113, 114, 5, 115, 116, 117, 118, 119, 120, 121, 122, 123, 124, 125, 126, 127, 128, 129, 130, 131, 58, 132, 133, 134, 135, 136, 137, 138, 741, 742, 743, 744, 745, 746, 747, 748, 749, 750, 751, 752] (by decide +kernel) (by decide +kernel)
set_option maxRecDepth 20000 in
theorem gL_law_X6_addMachine : GoodIn wsL_law (wsV RL 87 RX6 yX6_addMachine wsX6_addMachine) := goodIn_app (goodIn_of _ (by decide +kernel)) ggL_law_X6_addMachine
set_option maxRecDepth 20000 in
theorem ggL_law_X6_thrown : GoodIn wsL_law wsX6_thrown := goodIn_r _ [142, 126, 741, 742, 743, 744, 745, 746, 747, 748, 749, 750, 751, 752] (by decide +kernel) (by decide +kernel)
set_option maxRecDepth 20000 in
theorem gL_law_X6_thrown : GoodIn wsL_law (wsV RL 88 RX6 yX6_thrown wsX6_thrown) := goodIn_app (goodIn_of _ (by decide +kernel)) ggL_law_X6_thrown
set_option maxRecDepth 20000 in
theorem ggL_law_L_setMachine : GoodIn wsL_law wsL_setMachine := goodIn_ca (goodIn_ca (goodIn_r _ [145, 146, 66, 147, 148, 149, 2, 150, 72, 73, 22, 17, 151, 152, 153, 154, 155, 156, 76, 77, 78, 79, 80, 81, 82, 83, 84, 21, 85, 86, 48, 87, 88, 89, 16, 90, 91, 32, 92, 93, 94, 95, 36, 96, 97, 98, 35, 99, 100, 40, 101, 41, 42, 157, 158, 159, 160, 737, 738, 739, 740, 753, 754, 755, 756, 757, 758, 759, 764, 765, 766, 767, 768] (by decide +kernel) (by decide +kernel)) (goodIn_sub (fun _ h => List.mem_append_left _ (List.mem_append_left _ (List.mem_append_right _ h))) (by decide +kernel))) (goodIn_sub (fun _ h => List.mem_append_right _ h) (by decide +kernel))
set_option maxRecDepth 20000 in
theorem gL_law_L_setMachine : GoodIn wsL_law (va_wsS RL 91 yL_setMachine wsL_setMachine) := goodIn_app (goodIn_of _ (by decide +kernel)) ggL_law_L_setMachine
set_option maxRecDepth 20000 in
theorem ggL_law_X6_setMachine : GoodIn wsL_law wsX6_setMachine := goodIn_r _ [164, 57, 165, 166, 167, 5, 168, 116, 117, 118, 113, 114, 115, 169, 170, 171, 122, 123, 124, 125, 126, 127, 128, 129, 130, 131, 58, 136, 137, 138, 741, 742, 743, 744, 745, 746, 747, 748, 749, 750, 751, 752] (by decide +kernel) (by decide +kernel)
set_option maxRecDepth 20000 in
theorem gL_law_X6_setMachine : GoodIn wsL_law (wsV RL 94 RX6 yX6_setMachine wsX6_setMachine) := goodIn_app (goodIn_of _ (by decide +kernel)) ggL_law_X6_setMachine
set_option maxRecDepth 20000 in
theorem ggL_law_L_setCapacity : GoodIn wsL_law wsL_setCapacity := goodIn_ca (goodIn_ca (goodIn_r _ [174, 146, 66, 175, 176, 177, 2, 178, 72, 73, 22, 17, 151, 152, 153, 154, 155, 156, 79, 80, 81, 82, 83, 84, 21, 85, 86, 48, 87, 88, 89, 16, 90, 91, 32, 92, 93, 94, 95, 36, 96, 97, 98, 35, 99, 100, 40, 101, 41, 42, 737, 738, 739, 740, 753, 754, 755, 756, 757, 758, 759, 764, 765, 766, 767, 768] (by decide +kernel) (by decide +kernel)) (goodIn_sub (fun _ h => List.mem_append_left _ (List.mem_append_left _ (List.mem_append_right _ h))) (by decide +kernel))) (goodIn_sub (fun _ h => List.mem_append_right _ h) (by decide +kernel))
set_option maxRecDepth 20000 in
theorem gL_law_L_setCapacity : GoodIn wsL_law (va_wsS RL 95 yL_setCapacity wsL_setCapacity) := goodIn_app (goodIn_of _ (by decide +kernel)) ggL_law_L_setCapacity
set_option maxRecDepth 20000 in
theorem ggL_law_X6_setCapacity : GoodIn wsL_law wsX6_setCapacity := goodIn_r _ [182, 57, 165, 166, 167, 5, 168, 116, 117, 118, 119, 120, 121, 122, 123, 124, 125, 126, 127, 128, 129, 130, 131, 58, 136, 137, 138, 741, 742, 743, 744, 745, 746, 747, 748, 749, 750, 751, 752] (by decide +kernel) (by decide +kernel)
set_option maxRecDepth 20000 in
theorem gL_law_X6_setCapacity : GoodIn wsL_law (wsV RL 98 RX6 yX6_setCapacity wsX6_setCapacity) := goodIn_app (goodIn_of _ (by decide +kernel)) ggL_law_X6_setCapacity
set_option maxRecDepth 20000 in
theorem ggL_law_L_addStop : GoodIn wsL_law wsL_addStop := goodIn_ca (goodIn_ca (goodIn_ca (goodIn_r _ [185, 146, 66, 67, 186, 187, 188, 2, 189, 72, 73, 74, 75, 17, 22, 151, 152, 153, 154, 155, 156, 79, 80, 81, 82, 83, 84, 21, 85, 86, 48, 87, 88, 89, 16, 90, 91, 32, 92, 93, 94, 95, 36, 96, 97, 98, 35, 99, 100, 40, 101, 41, 42, 190, 191, 192, 193, 737, 738, 739, 740, 753, 754, 755, 756, 764, 765, 766, 767, 768, 757, 758, 759] (by decide +kernel) (by decide +kernel)) (goodIn_sub (fun _ h => List.mem_append_left _ (List.mem_append_left _ (List.mem_append_right _ h))) (by decide +kernel))) (goodIn_sub (fun _ h => List.mem_append_left _ (List.mem_append_right _ h)) (by decide +kernel))) (goodIn_sub (fun _ h => List.mem_append_right _ h) (by decide +kernel))
set_option maxRecDepth 20000 in
theorem gL_law_L_addStop : GoodIn wsL_law (va_wsS RL 99 yL_addStop wsL_addStop) := goodIn_app (goodIn_of _ (by decide +kernel)) ggL_law_L_addStop
set_option maxRecDepth 20000 in
theorem ggL_law_X6_addStop : GoodIn wsL_law wsX6_addStop := goodIn_r _ [197, 57, 116, 117, 5, 118, 165, 166, 167, 168, 122, 123, 124, 125, 126, 127, 128, 129, 130, 131, 58, 198, 199, 200, 201, 741, 742, 743, 744, 745, 746, 747, 748, 749, 750, 751, 752] (by decide +kernel) (by decide +kernel)
set_option maxRecDepth 20000 in
theorem gL_law_X6_addStop : GoodIn wsL_law (wsV RL 101 RX6 yX6_addStop wsX6_addStop) := goodIn_app (goodIn_of _ (by decide +kernel)) ggL_law_X6_addStop
set_option maxRecDepth 20000 in
theorem ggL_law_L_addRandomStops : GoodIn wsL_law wsL_addRandomStops := goodIn_ca (goodIn_ca (goodIn_ca (goodIn_r _ [204, 146, 66, 67, 205, 206, 207, 2, 208, 72, 73, 74, 75, 209, 17, 22, 210, 211, 212, 151, 152, 153, 154, 155, 156, 79, 80, 81, 82, 83, 84, 21, 85, 86, 48, 87, 88, 89, 16, 90, 91, 32, 92, 93, 94, 95, 36, 96, 97, 98, 35, 99, 100, 40, 101, 41, 42, 213, 214, 215, 216, 12, 13, 217, 218, 219, 220, 221, 222, 223, 224, 225, 190, 191, 192, 193, 737, 738, 739, 740, 753, 754, 755, 756, 764, 765, 766, 767, 768, 769, 757, 758, 759] (by decide +kernel) (by decide +kernel)) (goodIn_sub (fun _ h => List.mem_append_left _ (List.mem_append_left _ (List.mem_append_right _ h))) (by decide +kernel))) (goodIn_sub (fun _ h => List.mem_append_left _ (List.mem_append_right _ h)) (by decide +kernel))) (goodIn_sub (fun _ h => List.mem_append_right _ h) (by decide +kernel))
set_option maxRecDepth 20000 in
theorem gL_law_L_addRandomStops : GoodIn wsL_law (va_wsS RL 102 yL_addRandomStops wsL_addRandomStops) := goodIn_app (goodIn_of _ (by decide +kernel)) ggL_law_L_addRandomStops
set_option maxRecDepth 20000 in
theorem ggL_law_X6_addRandomStops : GoodIn wsL_law wsX6_addRandomStops := goodIn_r _ [229, 230, 57, 231, 116, 117, 5, 118, 165, 166, 167, 168, 122, 123, 124, 125, 126, 127, 128, 129, 130, 131, 58, 232, 233, 234, 235, 236, 237, 238, 239, 198, 199, 200, 201, 741, 742, 743, 744, 745, 746, 747, 748, 749, 750, 751, 752] (by decide +kernel) (by decide +kernel)
set_option maxRecDepth 20000 in
theorem gL_law_X6_addRandomStops : GoodIn wsL_law (wsV RL 104 RX6 yX6_addRandomStops wsX6_addRandomStops) := goodIn_app (goodIn_of _ (by decide +kernel)) ggL_law_X6_addRandomStops
set_option maxRecDepth 20000 in
theorem ggL_law_X5_clearStops : GoodIn wsL_law wsX5_clearStops := goodIn_r _ [243, 22, 17, 82, 83, 84, 21, 85, 86, 48, 87, 88, 89, 16, 90, 91, 32, 92, 93, 94, 95, 36, 96, 97, 98, 35, 99, 100, 40, 101, 41, 42, 244, 245, 246, 247, 248, 191, 192, 193, 737, 738, 739, 740, 753, 754, 755, 756, 757, 758, 759, 764, 765, 766, 767, 768] (by decide +kernel) (by decide +kernel)
set_option maxRecDepth 20000 in
theorem gL_law_X5_clearStops : GoodIn wsL_law (wsV RL 105 RX5 yX5_clearStops wsX5_clearStops) := goodIn_app (goodIn_of _ (by decide +kernel)) ggL_law_X5_clearStops
set_option maxRecDepth 20000 in
theorem ggL_law_X6_clearStops : GoodIn wsL_law wsX6_clearStops := goodIn_r _ [252, 126, 57, 127, 128, 129, 5, 130, 131, 58, 741, 742, 743, 744, 745, 746, 747, 748, 749, 750, 751, 752] (by decide +kernel) (by decide +kernel)
set_option maxRecDepth 20000 in
theorem gL_law_X6_clearStops : GoodIn wsL_law (wsV RL 108 RX6 yX6_clearStops wsX6_clearStops) := goodIn_app (goodIn_of _ (by decide +kernel)) ggL_law_X6_clearStops
set_option maxRecDepth 20000 in
theorem ggL_law_X5_size : GoodIn wsL_law wsX5_size := goodIn_r _ [256, 17, 737, 738, 739, 740, 753, 754, 755, 756, 764, 765, 766, 767, 768] (by decide +kernel) (by decide +kernel)
set_option maxRecDepth 20000 in
theorem gL_law_X5_size : GoodIn wsL_law (wsV RL 109 RX5 yX5_size wsX5_size) := goodIn_app (goodIn_of _ (by decide +kernel)) ggL_law_X5_size
set_option maxRecDepth 20000 in
theorem ggL_law_X6_size : GoodIn wsL_law wsX6_size := goodIn_r _ [260, 126, 57, 741, 742, 743, 744, 745, 746, 747, 748, 749, 750, 751, 752] (by decide +kernel) (by decide +kernel)
set_option maxRecDepth 20000 in
theorem gL_law_X6_size : GoodIn wsL_law (wsV RL 113 RX6 yX6_size wsX6_size) := goodIn_app (goodIn_of _ (by decide +kernel)) ggL_law_X6_size
set_option maxRecDepth 20000 in
theorem ggL_law_L_stop : GoodIn wsL_law wsL_stop := goodIn_ca (goodIn_ca (goodIn_r _ [263, 146, 66, 264, 265, 266, 2, 267, 155, 156, 17, 268, 269, 270, 72, 73, 271, 272, 273, 35, 274, 40, 41, 42, 737, 738, 739, 740, 753, 754, 755, 756, 764, 765, 766, 767, 768] (by decide +kernel) (by decide +kernel)) (goodIn_sub (fun _ h => List.mem_append_right _ h) (by decide +kernel))) (goodIn_sub (fun _ h => List.mem_append_left _ (List.mem_append_left _ (List.mem_append_right _ h))) (by decide +kernel))
set_option maxRecDepth 20000 in
theorem gL_law_L_stop : GoodIn wsL_law (va_wsS RL 114 yL_stop wsL_stop) := goodIn_app (goodIn_of _ (by decide +kernel)) ggL_law_L_stop
set_option maxRecDepth 20000 in
theorem ggL_law_X6_stop : GoodIn wsL_law wsX6_stop := goodIn_r _ [278, 57, 116, 117, 5, 118, 122, 123, 124, 125, 126, 741, 742, 743, 744, 745, 746, 747, 748, 749, 750, 751, 752] (by decide +kernel) (by decide +kernel)
set_option maxRecDepth 20000 in
theorem gL_law_X6_stop : GoodIn wsL_law (wsV RL 116 RX6 yX6_stop wsX6_stop) := goodIn_app (goodIn_of _ (by decide +kernel)) ggL_law_X6_stop
set_option maxRecDepth 20000 in
theorem ggL_law_L_run : GoodIn wsL_law wsL_run := goodIn_ca (goodIn_ca (goodIn_r _ [281, 66, 67, 282, 283, 284, 2, 285, 72, 73, 74, 75, 17, 22, 79, 80, 81, 286, 287, 288, 289, 82, 83, 84, 21, 85, 86, 48, 87, 88, 89, 16, 90, 91, 32, 92, 93, 94, 95, 36, 96, 97, 98, 35, 99, 100, 40, 101, 41, 42, 290, 291, 292, 293, 294, 295, 296, 297, 298, 299, 300, 301, 302, 303, 304, 305, 306, 307, 308, 309, 310, 311, 312, 313, 314, 315, 316, 317, 318, 319, 320, 321, 322, 323, 324, 325, 326, 327, 328, 329, 330, 331, 332, 333, 334, 335, 336, 337, 737, 738, 739, 740, 753, 754, 755, 756, 757, 758, 759, 764, 765, 766, 767, 768] (by decide +kernel) (by decide +kernel)) (goodIn_sub (fun _ h => List.mem_append_left _ (List.mem_append_left _ (List.mem_append_right _ h))) (by decide +kernel))) (goodIn_sub (fun _ h => List.mem_append_left _ (List.mem_append_right _ h)) (by decide +kernel))
set_option maxRecDepth 20000 in
theorem gL_law_L_run : GoodIn wsL_law (va_wsS RL 117 yL_run wsL_run) := goodIn_app (goodIn_of _ (by decide +kernel)) ggL_law_L_run
set_option maxRecDepth 20000 in
theorem ggL_law_X6_run : GoodIn wsL_law wsX6_run := goodIn_r _ [341, 57, 116, 117, 5, 118, 122, 123, 124, 125, 126, 127, 128, 129, 130, 131, 58, 342, 343, 344, 345, 346, 347, 348, 349, 136, 137, 138, 350, 351, 352, 353, 61, 354, 355, 356, 357, 358, 359, 360, 361, 362, 363, 364, 365, 366, 367, 368, 369, 370, 371, 372, 373, 374, 375, 376, 377, 378, 379, 380, 381, 741, 742, 743, 744, 745, 746, 747, 748, 749, 750, 751, 752] (by decide +kernel) (by decide +kernel)
set_option maxRecDepth 20000 in
theorem gL_law_X6_run : GoodIn wsL_law (wsV RL 120 RX6 yX6_run wsX6_run) := goodIn_app (goodIn_of _ (by decide +kernel)) ggL_law_X6_run
set_option maxRecDepth 20000 in
theorem ggL_law_X5_restart : GoodIn wsL_law wsX5_restart := goodIn_r _ [385, 22, 17, 82, 83, 84, 21, 85, 86, 48, 87, 88, 89, 16, 90, 91, 32, 92, 93, 94, 95, 36, 96, 97, 98, 35, 99, 100, 40, 101, 41, 42, 386, 387, 388, 389, 106, 107, 108, 737, 738, 739, 740, 753, 754, 755, 756, 757, 758, 759, 764, 765, 766, 767, 768] (by decide +kernel) (by decide +kernel)
set_option maxRecDepth 20000 in
theorem gL_law_X5_restart : GoodIn wsL_law (wsV RL 121 RX5 yX5_restart wsX5_restart) := goodIn_app (goodIn_of _ (by decide +kernel)) ggL_law_X5_restart
set_option maxRecDepth 20000 in
theorem ggL_law_X6_restart : GoodIn wsL_law wsX6_restart := goodIn_r _ [393, 126, 57, 127, 128, 129, 5, 130, 131, 58, 394, 395, 396, 397, 136, 137, 138, 741, 742, 743, 744, 745, 746, 747, 748, 749, 750, 751, 752] (by decide +kernel) (by decide +kernel)
set_option maxRecDepth 20000 in
theorem gL_law_X6_restart : GoodIn wsL_law (wsV RL 124 RX6 yX6_restart wsX6_restart) := goodIn_app (goodIn_of _ (by decide +kernel)) ggL_law_X6_restart
set_option maxRecDepth 20000 in
theorem ggL_law_X5_now : GoodIn wsL_law wsX5_now := goodIn_r _ [401, 17, 737, 738, 739, 740, 753, 754, 755, 756] (by decide +kernel) (by decide +kernel)
set_option maxRecDepth 20000 in
theorem gL_law_X5_now : GoodIn wsL_law (wsV RL 125 RX5 yX5_now wsX5_now) := goodIn_app (goodIn_of _ (by decide +kernel)) ggL_law_X5_now
set_option maxRecDepth 20000 in
theorem ggL_law_X6_now : GoodIn wsL_law wsX6_now := goodIn_r _ [405, 126, 57, 741, 742, 743, 744, 745, 746, 747, 748, 749, 750, 751, 752] (by decide +kernel) (by decide +kernel)
set_option maxRecDepth 20000 in
theorem gL_law_X6_now : GoodIn wsL_law (wsV RL 128 RX6 yX6_now wsX6_now) := goodIn_app (goodIn_of _ (by decide +kernel)) ggL_law_X6_now
set_option maxRecDepth 20000 in
theorem ggL_law_X5_output : GoodIn wsL_law wsX5_output := goodIn_r _ [409, 17, 290, 291, 292, 16, 293, 91, 32, 737, 738, 739, 740, 753, 754, 755, 756] (by decide +kernel) (by decide +kernel)
set_option maxRecDepth 20000 in
theorem gL_law_X5_output : GoodIn wsL_law (wsV RL 129 RX5 yX5_output wsX5_output) := goodIn_app (goodIn_of _ (by decide +kernel)) ggL_law_X5_output
set_option maxRecDepth 20000 in
theorem ggL_law_X6_output : GoodIn wsL_law wsX6_output := goodIn_r _ [413, 126, 346, 347, 348, 5, 349, 57, 136, 137, 138, 741, 742, 743, 744, 745, 746, 747, 748, 749, 750, 751, 752] (by decide +kernel) (by decide +kernel)
set_option maxRecDepth 20000 in
theorem gL_law_X6_output : GoodIn wsL_law (wsV RL 132 RX6 yX6_output wsX6_output) := goodIn_app (goodIn_of _ (by decide +kernel)) ggL_law_X6_output
set_option maxRecDepth 20000 in
theorem ggL_law_L_setting : GoodIn wsL_law wsL_setting := goodIn_ca (goodIn_ca (goodIn_r _ [416, 146, 66, 417, 418, 419, 2, 420, 17, 151, 152, 153, 154, 155, 156, 268, 269, 270, 72, 73, 737, 738, 739, 740, 753, 754, 755, 756] (by decide +kernel) (by decide +kernel)) (goodIn_sub (fun _ h => List.mem_append_right _ h) (by decide +kernel))) (goodIn_sub (fun _ h => List.mem_append_left _ (List.mem_append_left _ (List.mem_append_right _ h))) (by decide +kernel))
set_option maxRecDepth 20000 in
theorem gL_law_L_setting : GoodIn wsL_law (va_wsS RL 133 yL_setting wsL_setting) := goodIn_app (goodIn_of _ (by decide +kernel)) ggL_law_L_setting
set_option maxRecDepth 20000 in
theorem ggL_law_X6_setting : GoodIn wsL_law wsX6_setting := goodIn_r _ [424, 57, 165, 166, 167, 5, 168, 116, 117, 118, 122, 123, 124, 125, 126, 136, 137, 138, 741, 742, 743, 744, 745, 746, 747, 748, 749, 750, 751, 752] (by decide +kernel) (by decide +kernel)
set_option maxRecDepth 20000 in
theorem gL_law_X6_setting : GoodIn wsL_law (wsV RL 135 RX6 yX6_setting wsX6_setting) := goodIn_app (goodIn_of _ (by decide +kernel)) ggL_law_X6_setting
set_option maxRecDepth 20000 in
theorem ggL_law_L_machine : GoodIn wsL_law wsL_machine := goodIn_ca (goodIn_ca (goodIn_r _ [427, 146, 66, 428, 429, 430, 2, 431, 17, 151, 152, 153, 154, 155, 156, 268, 269, 270, 72, 73, 737, 738, 739, 740, 753, 754, 755, 756] (by decide +kernel) (by decide +kernel)) (goodIn_sub (fun _ h => List.mem_append_right _ h) (by decide +kernel))) (goodIn_sub (fun _ h => List.mem_append_left _ (List.mem_append_left _ (List.mem_append_right _ h))) (by decide +kernel))
set_option maxRecDepth 20000 in
theorem gL_law_L_machine : GoodIn wsL_law (va_wsS RL 136 yL_machine wsL_machine) := goodIn_app (goodIn_of _ (by decide +kernel)) ggL_law_L_machine
set_option maxRecDepth 20000 in
theorem ggL_law_X6_machine : GoodIn wsL_law wsX6_machine := goodIn_r _ [435, 165, 166, 167, 5, 168, 57, 116, 117, 118, 122, 123, 124, 125, 126, 436, 437, 438, 439, 136, 137, 138, 741, 742, 743, 744, 745, 746, 747, 748, 749, 750, 751, 752] (by decide +kernel) (by decide +kernel)
set_option maxRecDepth 20000 in
theorem gL_law_X6_machine : GoodIn wsL_law (wsV RL 138 RX6 yX6_machine wsX6_machine) := goodIn_app (goodIn_of _ (by decide +kernel)) ggL_law_X6_machine
set_option maxRecDepth 20000 in
theorem ggL_law_L_count : GoodIn wsL_law wsL_count := goodIn_ca (goodIn_ca (goodIn_r _ [442, 146, 66, 443, 444, 445, 2, 446, 17, 151, 152, 153, 154, 155, 156, 268, 269, 270, 72, 73, 737, 738, 739, 740, 753, 754, 755, 756] (by decide +kernel) (by decide +kernel)) (goodIn_sub (fun _ h => List.mem_append_right _ h) (by decide +kernel))) (goodIn_sub (fun _ h => List.mem_append_left _ (List.mem_append_left _ (List.mem_append_right _ h))) (by decide +kernel))
set_option maxRecDepth 20000 in
theorem gL_law_L_count : GoodIn wsL_law (va_wsS RL 139 yL_count wsL_count) := goodIn_app (goodIn_of _ (by decide +kernel)) ggL_law_L_count
set_option maxRecDepth 20000 in
theorem ggL_law_X6_count : GoodIn wsL_law wsX6_count := goodIn_r _ [450, 57, 165, 166, 167, 5, 168, 116, 117, 118, 122, 123, 124, 125, 126, 136, 137, 138, 741, 742, 743, 744, 745, 746, 747, 748, 749, 750, 751, 752] (by decide +kernel) (by decide +kernel)
set_option maxRecDepth 20000 in
theorem gL_law_X6_count : GoodIn wsL_law (wsV RL 141 RX6 yX6_count wsX6_count) := goodIn_app (goodIn_of _ (by decide +kernel)) ggL_law_X6_count
set_option maxRecDepth 20000 in
theorem ggL_law_L_meanFill : GoodIn wsL_law wsL_meanFill := goodIn_ca (goodIn_r _ [453, 146, 454, 455, 456, 2, 457, 17, 151, 152, 153, 154, 155, 156, 737, 738, 739, 740, 753, 754, 755, 756] (by decide +kernel) (by decide +kernel)) (goodIn_sub (fun _ h => List.mem_append_right _ h) (by decide +kernel))
set_option maxRecDepth 20000 in
theorem gL_law_L_meanFill : GoodIn wsL_law (va_wsS RL 142 yL_meanFill wsL_meanFill) := goodIn_app (goodIn_of _ (by decide +kernel)) ggL_law_L_meanFill
set_option maxRecDepth 20000 in
theorem ggL_law_X6_meanFill : GoodIn wsL_law wsX6_meanFill := goodIn_r _ [461, 57, 165, 166, 167, 5, 168, 116, 117, 118, 122, 123, 124, 125, 126, 136, 137, 138, 741, 742, 743, 744, 745, 746, 747, 748, 749, 750, 751, 752] (by decide +kernel) (by decide +kernel)
set_option maxRecDepth 20000 in
theorem gL_law_X6_meanFill : GoodIn wsL_law (wsV RL 145 RX6 yX6_meanFill wsX6_meanFill) := goodIn_app (goodIn_of _ (by decide +kernel)) ggL_law_X6_meanFill
set_option maxRecDepth 20000 in
theorem ggL_law_X5_inside : GoodIn wsL_law wsX5_inside := goodIn_r _ [465, 17, 466, 467, 468, 16, 469, 91, 32, 737, 738, 739, 740, 753, 754, 755, 756] (by decide +kernel) (by decide +kernel)
set_option maxRecDepth 20000 in
theorem gL_law_X5_inside : GoodIn wsL_law (wsV RL 146 RX5 yX5_inside wsX5_inside) := goodIn_app (goodIn_of _ (by decide +kernel)) ggL_law_X5_inside
set_option maxRecDepth 20000 in
theorem ggL_law_X6_inside : GoodIn wsL_law wsX6_inside := goodIn_r _ [473, 126, 474, 475, 476, 5, 477, 57, 136, 137, 138, 741, 742, 743, 744, 745, 746, 747, 748, 749, 750, 751, 752] (by decide +kernel) (by decide +kernel)
set_option maxRecDepth 20000 in
theorem gL_law_X6_inside : GoodIn wsL_law (wsV RL 149 RX6 yX6_inside wsX6_inside) := goodIn_app (goodIn_of _ (by decide +kernel)) ggL_law_X6_inside
set_option maxRecDepth 20000 in
theorem ggL_law_L_bound : GoodIn wsL_law wsL_bound := goodIn_ca (goodIn_ca (goodIn_r _ [480, 66, 67, 481, 482, 483, 2, 484, 17, 485, 486, 487, 72, 73, 79, 80, 81, 286, 287, 288, 289, 74, 75, 488, 489, 490, 16, 491, 492, 91, 493, 494, 495, 496, 32, 497, 498, 499, 500, 36, 501, 305, 306, 307, 298, 299, 300, 35, 301, 302, 303, 100, 41, 42, 304, 40, 316, 317, 318, 319, 502, 737, 738, 739, 740, 753, 754, 755, 756, 764, 765, 766, 767, 768] (by decide +kernel) (by decide +kernel)) (goodIn_sub (fun _ h => List.mem_append_left _ (List.mem_append_left _ (List.mem_append_right _ h))) (by decide +kernel))) (goodIn_sub (fun _ h => List.mem_append_left _ (List.mem_append_right _ h)) (by decide +kernel))
set_option maxRecDepth 20000 in
theorem gL_law_L_bound : GoodIn wsL_law (va_wsS RL 150 yL_bound wsL_bound) := goodIn_app (goodIn_of _ (by decide +kernel)) ggL_law_L_bound
set_option maxRecDepth 20000 in
theorem ggL_law_X6_bound : GoodIn wsL_law wsX6_bound := goodIn_r _ [506, 507, 508, 509, 5, 510, 57, 116, 117, 118, 122, 123, 124, 125, 126, 511, 512, 513, 514, 350, 351, 352, 353, 61, 515, 516, 517, 518, 366, 367, 368, 369, 136, 137, 138, 741, 742, 743, 744, 745, 746, 747, 748, 749, 750, 751, 752] (by decide +kernel) (by decide +kernel)
set_option maxRecDepth 20000 in
theorem gL_law_X6_bound : GoodIn wsL_law (wsV RL 152 RX6 yX6_bound wsX6_bound) := goodIn_app (goodIn_of _ (by decide +kernel)) ggL_law_X6_bound
set_option maxRecDepth 20000 in
theorem ggL_law_L_limiting : GoodIn wsL_law wsL_limiting := goodIn_ca (goodIn_r _ [521, 67, 522, 523, 524, 2, 525, 17, 286, 287, 288, 289, 74, 75, 526, 527, 528, 16, 529, 492, 91, 32, 737, 738, 739, 740, 753, 754, 755, 756] (by decide +kernel) (by decide +kernel)) (goodIn_sub (fun _ h => List.mem_append_left _ (List.mem_append_right _ h)) (by decide +kernel))
set_option maxRecDepth 20000 in
theorem gL_law_L_limiting : GoodIn wsL_law (va_wsS RL 153 yL_limiting wsL_limiting) := goodIn_app (goodIn_of _ (by decide +kernel)) ggL_law_L_limiting
set_option maxRecDepth 20000 in
theorem ggL_law_X6_limiting : GoodIn wsL_law wsX6_limiting := goodIn_r _ [533, 57, 122, 123, 124, 5, 125, 126, 534, 535, 536, 537, 136, 137, 138, 741, 742, 743, 744, 745, 746, 747, 748, 749, 750, 751, 752] (by decide +kernel) (by decide +kernel)
set_option maxRecDepth 20000 in
theorem gL_law_X6_limiting : GoodIn wsL_law (wsV RL 156 RX6 yX6_limiting wsX6_limiting) := goodIn_app (goodIn_of _ (by decide +kernel)) ggL_law_X6_limiting
set_option maxRecDepth 20000 in
theorem ggL_law_L_slowest : GoodIn wsL_law wsL_slowest := goodIn_ca (goodIn_ca (goodIn_r _ [540, 66, 67, 541, 542, 543, 2, 544, 17, 485, 486, 487, 72, 73, 79, 80, 81, 286, 287, 288, 289, 74, 75, 488, 489, 490, 16, 491, 492, 91, 493, 494, 495, 496, 32, 497, 498, 499, 500, 36, 501, 305, 306, 307, 298, 299, 300, 35, 301, 302, 303, 100, 41, 42, 304, 40, 316, 317, 318, 319, 737, 738, 739, 740, 753, 754, 755, 756, 764, 765, 766, 767, 768] (by decide +kernel) (by decide +kernel)) (goodIn_sub (fun _ h => List.mem_append_left _ (List.mem_append_left _ (List.mem_append_right _ h))) (by decide +kernel))) (goodIn_sub (fun _ h => List.mem_append_left _ (List.mem_append_right _ h)) (by decide +kernel))
set_option maxRecDepth 20000 in
theorem gL_law_L_slowest : GoodIn wsL_law (va_wsS RL 157 yL_slowest wsL_slowest) := goodIn_app (goodIn_of _ (by decide +kernel)) ggL_law_L_slowest
set_option maxRecDepth 20000 in
theorem ggL_law_X6_slowest : GoodIn wsL_law wsX6_slowest := goodIn_r _ [548, 507, 508, 509, 5, 510, 57, 116, 117, 118, 122, 123, 124, 125, 126, 511, 512, 513, 514, 350, 351, 352, 353, 61, 515, 516, 517, 518, 366, 367, 368, 369, 136, 137, 138, 741, 742, 743, 744, 745, 746, 747, 748, 749, 750, 751, 752] (by decide +kernel) (by decide +kernel)
set_option maxRecDepth 20000 in
theorem gL_law_X6_slowest : GoodIn wsL_law (wsV RL 159 RX6 yX6_slowest wsX6_slowest) := goodIn_app (goodIn_of _ (by decide +kernel)) ggL_law_X6_slowest
set_option maxRecDepth 20000 in
theorem ggL_law_L_outputWith : GoodIn wsL_law wsL_outputWith := goodIn_ca (goodIn_ca (goodIn_r _ [551, 146, 66, 552, 553, 554, 2, 555, 72, 73, 151, 152, 153, 154, 155, 156, 17, 79, 80, 81, 485, 486, 487, 556, 557, 558, 559, 18, 560, 89, 16, 90, 91, 32, 92, 93, 94, 95, 36, 96, 97, 98, 35, 99, 100, 40, 101, 41, 42, 386, 387, 388, 389, 106, 107, 108, 294, 295, 296, 297, 298, 299, 300, 301, 302, 303, 304, 305, 306, 307, 308, 309, 310, 311, 312, 313, 314, 315, 316, 317, 318, 319, 320, 321, 322, 323, 324, 325, 326, 327, 328, 329, 330, 331, 332, 333, 334, 335, 336, 337, 290, 291, 292, 293, 737, 738, 739, 740, 753, 754, 755, 756, 764, 765, 766, 767, 768] (by decide +kernel) (by decide +kernel)) (goodIn_sub (fun _ h => List.mem_append_left _ (List.mem_append_left _ (List.mem_append_right _ h))) (by decide +kernel))) (goodIn_sub (fun _ h => List.mem_append_right _ h) (by decide +kernel))
set_option maxRecDepth 20000 in
theorem gL_law_L_outputWith : GoodIn wsL_law (va_wsS RL 160 yL_outputWith wsL_outputWith) := goodIn_app (goodIn_of _ (by decide +kernel)) ggL_law_L_outputWith
set_option maxRecDepth 20000 in
theorem ggL_law_X6_outputWith : GoodIn wsL_law wsX6_outputWith := goodIn_r _ [564, 165, 166, 167, 5, 168, 57, 116, 117, 118, 119, 120, 121, 565, 566, 567, 122, 123, 124, 125, 126, 568, 569, 570, 571, 572, 573, 574, 575, 59, 136, 137, 138, 394, 395, 396, 397, 342, 343, 344, 345, 346, 347, 348, 349, 350, 351, 352, 353, 61, 354, 355, 356, 357, 358, 359, 360, 361, 362, 363, 364, 365, 366, 367, 368, 369, 370, 371, 372, 373, 374, 375, 376, 377, 378, 379, 380, 381, 576, 577, 578, 579, 741, 742, 743, 744, 745, 746, 747, 748, 749, 750, 751, 752] (by decide +kernel) (by decide +kernel)
set_option maxRecDepth 20000 in
theorem gL_law_X6_outputWith : GoodIn wsL_law (wsV RL 162 RX6 yX6_outputWith wsX6_outputWith) := goodIn_app (goodIn_of _ (by decide +kernel)) ggL_law_X6_outputWith
set_option maxRecDepth 20000 in
theorem ggL_law_L_capacityFor : GoodIn wsL_law wsL_capacityFor := goodIn_ca (goodIn_ca (goodIn_r _ [582, 146, 66, 583, 584, 585, 2, 586, 72, 73, 17, 18, 151, 152, 153, 154, 155, 156, 485, 486, 487, 79, 80, 81, 488, 489, 490, 16, 491, 492, 91, 493, 494, 495, 496, 32, 497, 498, 499, 500, 36, 501, 305, 306, 307, 298, 299, 300, 35, 301, 302, 303, 100, 41, 42, 304, 40, 316, 317, 318, 319, 502, 556, 557, 558, 559, 560, 89, 90, 92, 93, 94, 95, 96, 97, 98, 99, 101, 386, 387, 388, 389, 106, 107, 108, 294, 295, 296, 297, 308, 309, 310, 311, 312, 313, 314, 315, 320, 321, 322, 323, 324, 325, 326, 327, 328, 329, 330, 331, 332, 333, 334, 335, 336, 337, 290, 291, 292, 293, 737, 738, 739, 740, 753, 754, 755, 756, 764, 765, 766, 767, 768] (by decide +kernel) (by decide +kernel)) (goodIn_sub (fun _ h => List.mem_append_left _ (List.mem_append_left _ (List.mem_append_right _ h))) (by decide +kernel))) (goodIn_sub (fun _ h => List.mem_append_right _ h) (by decide +kernel))
set_option maxRecDepth 20000 in
theorem gL_law_L_capacityFor : GoodIn wsL_law (va_wsS RL 163 yL_capacityFor wsL_capacityFor) := goodIn_app (goodIn_of _ (by decide +kernel)) ggL_law_L_capacityFor
set_option maxRecDepth 20000 in
theorem ggL_law_X6_capacityFor : GoodIn wsL_law wsX6_capacityFor := goodIn_r _ [590, 165, 166, 167, 5, 168, 57, 116, 117, 118, 565, 566, 567, 122, 123, 124, 125, 126, 568, 569, 570, 571, 572, 573, 574, 575, 59, 136, 137, 138, 394, 395, 396, 397, 342, 343, 344, 345, 346, 347, 348, 349, 350, 351, 352, 353, 61, 354, 355, 356, 357, 358, 359, 360, 361, 362, 363, 364, 365, 366, 367, 368, 369, 370, 371, 372, 373, 374, 375, 376, 377, 378, 379, 380, 381, 576, 577, 578, 579, 741, 742, 743, 744, 745, 746, 747, 748, 749, 750, 751, 752] (by decide +kernel) (by decide +kernel)
set_option maxRecDepth 20000 in
theorem gL_law_X6_capacityFor : GoodIn wsL_law (wsV RL 165 RX6 yX6_capacityFor wsX6_capacityFor) := goodIn_app (goodIn_of _ (by decide +kernel)) ggL_law_X6_capacityFor
set_option maxRecDepth 20000 in
theorem ggL_law_L_bestBuffer : GoodIn wsL_law wsL_bestBuffer := goodIn_ca (goodIn_ca (goodIn_r _ [593, 66, 67, 594, 595, 596, 2, 597, 72, 73, 17, 598, 305, 306, 307, 485, 486, 487, 79, 80, 81, 286, 287, 288, 289, 74, 75, 556, 557, 558, 559, 18, 560, 89, 16, 90, 91, 32, 92, 93, 94, 95, 36, 96, 97, 98, 35, 99, 100, 40, 101, 41, 42, 386, 387, 388, 389, 106, 107, 108, 294, 295, 296, 297, 298, 299, 300, 301, 302, 303, 304, 308, 309, 310, 311, 312, 313, 314, 315, 316, 317, 318, 319, 320, 321, 322, 323, 324, 325, 326, 327, 328, 329, 330, 331, 332, 333, 334, 335, 336, 337, 290, 291, 292, 293, 737, 738, 739, 740, 753, 754, 755, 756, 764, 765, 766, 767, 768] (by decide +kernel) (by decide +kernel)) (goodIn_sub (fun _ h => List.mem_append_left _ (List.mem_append_left _ (List.mem_append_right _ h))) (by decide +kernel))) (goodIn_sub (fun _ h => List.mem_append_left _ (List.mem_append_right _ h)) (by decide +kernel))
set_option maxRecDepth 20000 in
theorem gL_law_L_bestBuffer : GoodIn wsL_law (va_wsS RL 166 yL_bestBuffer wsL_bestBuffer) := goodIn_app (goodIn_of _ (by decide +kernel)) ggL_law_L_bestBuffer
set_option maxRecDepth 20000 in
theorem ggL_law_X6_bestBuffer : GoodIn wsL_law wsX6_bestBuffer := goodIn_r _ [602, 57, 565, 566, 5, 567, 116, 117, 118, 122, 123, 124, 125, 126, 136, 137, 138, 568, 569, 570, 571, 572, 573, 574, 575, 59, 394, 395, 396, 397, 342, 343, 344, 345, 346, 347, 348, 349, 350, 351, 352, 353, 61, 354, 355, 356, 357, 358, 359, 360, 361, 362, 363, 364, 365, 366, 367, 368, 369, 370, 371, 372, 373, 374, 375, 376, 377, 378, 379, 380, 381, 576, 577, 578, 579, 741, 742, 743, 744, 745, 746, 747, 748, 749, 750, 751, 752] (by decide +kernel) (by decide +kernel)
set_option maxRecDepth 20000 in
theorem gL_law_X6_bestBuffer : GoodIn wsL_law (wsV RL 168 RX6 yX6_bestBuffer wsX6_bestBuffer) := goodIn_app (goodIn_of _ (by decide +kernel)) ggL_law_X6_bestBuffer
set_option maxRecDepth 20000 in
theorem ggL_law_L_append : GoodIn wsL_law wsL_append := goodIn_ca (goodIn_ca (goodIn_r _ [605, 66, 67, 606, 607, 608, 2, 609, 72, 73, 74, 75, 26, 79, 80, 81, 610, 611, 612, 25, 613, 614, 52, 737, 738, 739, 740, 760, 761, 762, 763] (by decide +kernel) (by decide +kernel)) (goodIn_sub (fun _ h => List.mem_append_left _ (List.mem_append_left _ (List.mem_append_right _ h))) (by decide +kernel))) (goodIn_sub (fun _ h => List.mem_append_left _ (List.mem_append_right _ h)) (by decide +kernel))
set_option maxRecDepth 20000 in
theorem gL_law_L_append : GoodIn wsL_law (va_wsS RL 169 yL_append wsL_append) := goodIn_app (goodIn_of _ (by decide +kernel)) ggL_law_L_append
set_option maxRecDepth 20000 in
theorem ggL_law_X6_append : GoodIn wsL_law wsX6_append := goodIn_r _ [618, 619, 60, 116, 117, 5, 118, 122, 123, 124, 125, 126, 741, 742, 743, 744, 745, 746, 747, 748, 749, 750, 751, 752] (by decide +kernel) (by decide +kernel)
set_option maxRecDepth 20000 in
theorem gL_law_X6_append : GoodIn wsL_law (wsV RL 171 RX6 yX6_append wsX6_append) := goodIn_app (goodIn_of _ (by decide +kernel)) ggL_law_X6_append
set_option maxRecDepth 20000 in
theorem ggL_law_X5_clearText : GoodIn wsL_law wsX5_clearText := goodIn_r _ [623, 26, 737, 738, 739, 740, 760, 761, 762, 763] (by decide +kernel) (by decide +kernel)
set_option maxRecDepth 20000 in
theorem gL_law_X5_clearText : GoodIn wsL_law (wsV RL 172 RX5 yX5_clearText wsX5_clearText) := goodIn_app (goodIn_of _ (by decide +kernel)) ggL_law_X5_clearText
set_option maxRecDepth 20000 in
theorem ggL_law_X6_clearText : GoodIn wsL_law wsX6_clearText := goodIn_r _ [627, 126, 619, 741, 742, 743, 744, 745, 746, 747, 748, 749, 750, 751, 752] (by decide +kernel) (by decide +kernel)
set_option maxRecDepth 20000 in
theorem gL_law_X6_clearText : GoodIn wsL_law (wsV RL 175 RX6 yX6_clearText wsX6_clearText) := goodIn_app (goodIn_of _ (by decide +kernel)) ggL_law_X6_clearText
set_option maxRecDepth 20000 in
theorem ggL_law_X5_parse : GoodIn wsL_law wsX5_parse := goodIn_r _ [631, 26, 18, 22, 17, 632, 633, 634, 25, 635, 636, 637, 614, 638, 639, 640, 16, 641, 91, 96, 36, 642, 643, 644, 645, 646, 647, 648, 649, 52, 650, 651, 652, 653, 654, 655, 656, 657, 658, 659, 660, 80, 2, 81, 661, 103, 104, 105, 32, 106, 107, 108, 662, 663, 664, 665, 666, 158, 159, 160, 82, 83, 84, 21, 85, 86, 48, 87, 88, 89, 90, 92, 93, 94, 95, 97, 98, 35, 99, 100, 40, 101, 41, 42, 560, 737, 738, 739, 740, 753, 754, 755, 756, 760, 761, 762, 763, 764, 765, 766, 767, 768, 757, 758, 759] (by decide +kernel) (by decide +kernel)
set_option maxRecDepth 20000 in
theorem gL_law_X5_parse : GoodIn wsL_law (wsV RL 176 RX5 yX5_parse wsX5_parse) := goodIn_app (goodIn_of _ (by decide +kernel)) ggL_law_X5_parse
set_option maxRecDepth 20000 in
theorem ggL_law_X6_parse : GoodIn wsL_law wsX6_parse := goodIn_r _ [670, 126, 57, 671, 619, 60, 59, 572, 573, 574, 5, 575, 672, 673, 674, 675, 676, 677, 678, 679, 680, 681, 682, 683, 684, 116, 117, 118, 685, 686, 687, 688, 132, 133, 134, 135, 136, 137, 138, 689, 690, 691, 692, 127, 128, 129, 130, 131, 58, 576, 577, 578, 579, 741, 742, 743, 744, 745, 746, 747, 748, 749, 750, 751, 752] (by decide +kernel) (by decide +kernel)
set_option maxRecDepth 20000 in
theorem gL_law_X6_parse : GoodIn wsL_law (wsV RL 179 RX6 yX6_parse wsX6_parse) := goodIn_app (goodIn_of _ (by decide +kernel)) ggL_law_X6_parse
set_option maxRecDepth 20000 in
theorem ggL_law_L_undo : GoodIn wsL_law wsL_undo := goodIn_ca (goodIn_r _ [695, 67, 696, 697, 698, 2, 699, 74, 75, 22, 17, 700, 701, 702, 21, 703, 87, 48, 86, 88, 89, 16, 90, 91, 32, 92, 93, 94, 95, 36, 96, 97, 98, 35, 99, 100, 40, 101, 41, 42, 737, 738, 739, 740, 757, 758, 759, 753, 754, 755, 756, 764, 765, 766, 767, 768] (by decide +kernel) (by decide +kernel)) (goodIn_sub (fun _ h => List.mem_append_left _ (List.mem_append_right _ h)) (by decide +kernel))
set_option maxRecDepth 20000 in
theorem gL_law_L_undo : GoodIn wsL_law (va_wsS RL 180 yL_undo wsL_undo) := goodIn_app (goodIn_of _ (by decide +kernel)) ggL_law_L_undo
set_option maxRecDepth 20000 in
theorem ggL_law_X6_undo : GoodIn wsL_law wsX6_undo := goodIn_r _ [707, 131, 57, 58, 122, 123, 124, 5, 125, 126, 741, 742, 743, 744, 745, 746, 747, 748, 749, 750, 751, 752] (by decide +kernel) (by decide +kernel)
set_option maxRecDepth 20000 in
theorem gL_law_X6_undo : GoodIn wsL_law (wsV RL 182 RX6 yX6_undo wsX6_undo) := goodIn_app (goodIn_of _ (by decide +kernel)) ggL_law_X6_undo
set_option maxRecDepth 20000 in
theorem ggL_law_X5_digest : GoodIn wsL_law wsX5_digest := goodIn_r _ [711, 712, 713, 26, 17, 22, 714, 715, 716, 16, 717, 718, 96, 91, 32, 719, 291, 292, 293, 720, 721, 722, 35, 723, 724, 100, 725, 272, 273, 274, 40, 41, 42, 466, 467, 468, 469, 737, 738, 739, 740, 760, 761, 762, 763, 753, 754, 755, 756, 757, 758, 759, 764, 765, 766, 767, 768] (by decide +kernel) (by decide +kernel)
set_option maxRecDepth 20000 in
theorem gL_law_X5_digest : GoodIn wsL_law (wsV RL 183 RX5 yX5_digest wsX5_digest) := goodIn_app (goodIn_of _ (by decide +kernel)) ggL_law_X5_digest
set_option maxRecDepth 20000 in
theorem ggL_law_X6_digest : GoodIn wsL_law wsX6_digest := goodIn_r _ [729, 126, 730, 731, 619, 57, 131, 732, 733, 734, 5, 735, 736, 346, 347, 348, 349, 136, 137, 138, 436, 437, 438, 439, 474, 475, 476, 477, 741, 742, 743, 744, 745, 746, 747, 748, 749, 750, 751, 752] (by decide +kernel) (by decide +kernel)
set_option maxRecDepth 20000 in
theorem gL_law_X6_digest : GoodIn wsL_law (wsV RL 187 RX6 yX6_digest wsX6_digest) := goodIn_app (goodIn_of _ (by decide +kernel)) ggL_law_X6_digest
theorem dL_law_0 : decode cL_law 0 = .ok (.new 8, 3) := by decide +kernel
theorem dL_law_3 : decode cL_law 3 = .ok (.dup, 1) := by decide +kernel
theorem dL_law_4 : decode cL_law 4 = .ok (.invokespecial 78, 3) := by decide +kernel
theorem dL_law_7 : decode cL_law 7 = .ok (.astore_n 1, 1) := by decide +kernel
theorem dL_law_8 : decode cL_law 8 = .ok (.new 79, 3) := by decide +kernel
theorem dL_law_11 : decode cL_law 11 = .ok (.dup, 1) := by decide +kernel
theorem dL_law_12 : decode cL_law 12 = .ok (.invokespecial 81, 3) := by decide +kernel
theorem dL_law_15 : decode cL_law 15 = .ok (.astore_n 2, 1) := by decide +kernel
theorem dL_law_16 : decode cL_law 16 = .ok (.iconst 1, 1) := by decide +kernel
theorem dL_law_17 : decode cL_law 17 = .ok (.newarray .long, 2) := by decide +kernel
theorem dL_law_19 : decode cL_law 19 = .ok (.astore_n 3, 1) := by decide +kernel
theorem dL_law_20 : decode cL_law 20 = .ok (.iconst 1, 1) := by decide +kernel
theorem dL_law_21 : decode cL_law 21 = .ok (.newarray .double, 2) := by decide +kernel
theorem dL_law_23 : decode cL_law 23 = .ok (.astore 4, 2) := by decide +kernel
theorem dL_law_25 : decode cL_law 25 = .ok (.iconst 0, 1) := by decide +kernel
theorem dL_law_26 : decode cL_law 26 = .ok (.istore 5, 2) := by decide +kernel
theorem dL_law_28 : decode cL_law 28 = .ok (.iload 5, 2) := by decide +kernel
theorem dL_law_30 : decode cL_law 30 = .ok (.aload_n 0, 1) := by decide +kernel
theorem dL_law_31 : decode cL_law 31 = .ok (.arraylength, 1) := by decide +kernel
theorem dL_law_32 : decode cL_law 32 = .ok (.bipush 6, 2) := by decide +kernel
theorem dL_law_34 : decode cL_law 34 = .ok (.isub, 1) := by decide +kernel
theorem dL_law_35 : decode cL_law 35 = .ok (.if_icmp .gt 1614, 3) := by decide +kernel
theorem dL_law_38 : decode cL_law 38 = .ok (.aload_n 0, 1) := by decide +kernel
theorem dL_law_39 : decode cL_law 39 = .ok (.iload 5, 2) := by decide +kernel
theorem dL_law_41 : decode cL_law 41 = .ok (.iaload, 1) := by decide +kernel
theorem dL_law_42 : decode cL_law 42 = .ok (.bipush 31, 2) := by decide +kernel
theorem dL_law_44 : decode cL_law 44 = .ok (.iand, 1) := by decide +kernel
theorem dL_law_45 : decode cL_law 45 = .ok (.tableswitch 1598 0 27 #[127, 207, 311, 379, 459, 563, 576, 617, 685, 741, 754, 767, 780, 848, 916, 984, 1061, 1074, 1130, 1174, 1230, 1310, 1390, 1458, 1514, 1527, 1540, 1584], 127) := by decide +kernel
theorem dL_law_172 : decode cL_law 172 = .ok (.aload_n 1, 1) := by decide +kernel
theorem dL_law_173 : decode cL_law 173 = .ok (.aload_n 0, 1) := by decide +kernel
theorem dL_law_174 : decode cL_law 174 = .ok (.iload 5, 2) := by decide +kernel
theorem dL_law_176 : decode cL_law 176 = .ok (.iconst 1, 1) := by decide +kernel
theorem dL_law_177 : decode cL_law 177 = .ok (.iadd, 1) := by decide +kernel
theorem dL_law_178 : decode cL_law 178 = .ok (.iaload, 1) := by decide +kernel
theorem dL_law_179 : decode cL_law 179 = .ok (.aload_n 0, 1) := by decide +kernel
theorem dL_law_180 : decode cL_law 180 = .ok (.iload 5, 2) := by decide +kernel
theorem dL_law_182 : decode cL_law 182 = .ok (.iconst 2, 1) := by decide +kernel
theorem dL_law_183 : decode cL_law 183 = .ok (.iadd, 1) := by decide +kernel
theorem dL_law_184 : decode cL_law 184 = .ok (.iaload, 1) := by decide +kernel
theorem dL_law_185 : decode cL_law 185 = .ok (.aload_n 0, 1) := by decide +kernel
theorem dL_law_186 : decode cL_law 186 = .ok (.iload 5, 2) := by decide +kernel
theorem dL_law_188 : decode cL_law 188 = .ok (.iconst 3, 1) := by decide +kernel
theorem dL_law_189 : decode cL_law 189 = .ok (.iadd, 1) := by decide +kernel
theorem dL_law_190 : decode cL_law 190 = .ok (.iaload, 1) := by decide +kernel
theorem dL_law_191 : decode cL_law 191 = .ok (.aload_n 3, 1) := by decide +kernel
theorem dL_law_192 : decode cL_law 192 = .ok (.invokestatic 82, 3) := by decide +kernel
theorem dL_law_195 : decode cL_law 195 = .ok (.istore 6, 2) := by decide +kernel
theorem dL_law_197 : decode cL_law 197 = .ok (.aload_n 2, 1) := by decide +kernel
theorem dL_law_198 : decode cL_law 198 = .ok (.aload_n 0, 1) := by decide +kernel
theorem dL_law_199 : decode cL_law 199 = .ok (.iload 5, 2) := by decide +kernel
theorem dL_law_201 : decode cL_law 201 = .ok (.iconst 1, 1) := by decide +kernel
theorem dL_law_202 : decode cL_law 202 = .ok (.iadd, 1) := by decide +kernel
theorem dL_law_203 : decode cL_law 203 = .ok (.iaload, 1) := by decide +kernel
theorem dL_law_204 : decode cL_law 204 = .ok (.aload_n 0, 1) := by decide +kernel
theorem dL_law_205 : decode cL_law 205 = .ok (.iload 5, 2) := by decide +kernel
theorem dL_law_207 : decode cL_law 207 = .ok (.iconst 2, 1) := by decide +kernel
theorem dL_law_208 : decode cL_law 208 = .ok (.iadd, 1) := by decide +kernel
theorem dL_law_209 : decode cL_law 209 = .ok (.iaload, 1) := by decide +kernel
theorem dL_law_210 : decode cL_law 210 = .ok (.aload_n 0, 1) := by decide +kernel
theorem dL_law_211 : decode cL_law 211 = .ok (.iload 5, 2) := by decide +kernel
theorem dL_law_213 : decode cL_law 213 = .ok (.iconst 3, 1) := by decide +kernel
theorem dL_law_214 : decode cL_law 214 = .ok (.iadd, 1) := by decide +kernel
theorem dL_law_215 : decode cL_law 215 = .ok (.iaload, 1) := by decide +kernel
theorem dL_law_216 : decode cL_law 216 = .ok (.invokevirtual 87, 3) := by decide +kernel
theorem dL_law_219 : decode cL_law 219 = .ok (.istore 7, 2) := by decide +kernel
theorem dL_law_221 : decode cL_law 221 = .ok (.aload_n 2, 1) := by decide +kernel
theorem dL_law_222 : decode cL_law 222 = .ok (.invokevirtual 88, 3) := by decide +kernel
theorem dL_law_225 : decode cL_law 225 = .ok (.iload 6, 2) := by decide +kernel
