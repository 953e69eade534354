/-! THE LAW, wrappers -/
theorem dL_addMachine_0 : decode cL_addMachine 0 = .ok (.aload 4, 2) := by decide +kernel
theorem dL_addMachine_2 : decode cL_addMachine 2 = .ok (.iconst 0, 1) := by decide +kernel
theorem dL_addMachine_3 : decode cL_addMachine 3 = .ok (.aload_n 0, 1) := by decide +kernel
theorem dL_addMachine_4 : decode cL_addMachine 4 = .ok (.iload_n 1, 1) := by decide +kernel
theorem dL_addMachine_5 : decode cL_addMachine 5 = .ok (.iload_n 2, 1) := by decide +kernel
theorem dL_addMachine_6 : decode cL_addMachine 6 = .ok (.iload_n 3, 1) := by decide +kernel
theorem dL_addMachine_7 : decode cL_addMachine 7 = .ok (.invokevirtual 7, 3) := by decide +kernel
theorem dL_addMachine_10 : decode cL_addMachine 10 = .ok (.i2l, 1) := by decide +kernel
theorem dL_addMachine_11 : decode cL_addMachine 11 = .ok (.lastore, 1) := by decide +kernel
theorem dL_addMachine_12 : decode cL_addMachine 12 = .ok (.goto 11, 3) := by decide +kernel
theorem dL_addMachine_15 : decode cL_addMachine 15 = .ok (.astore 5, 2) := by decide +kernel
theorem dL_addMachine_17 : decode cL_addMachine 17 = .ok (.iconst 1, 1) := by decide +kernel
theorem dL_addMachine_18 : decode cL_addMachine 18 = .ok (.ireturn, 1) := by decide +kernel
theorem dL_addMachine_19 : decode cL_addMachine 19 = .ok (.astore 5, 2) := by decide +kernel
theorem dL_addMachine_21 : decode cL_addMachine 21 = .ok (.iconst 2, 1) := by decide +kernel
theorem dL_addMachine_22 : decode cL_addMachine 22 = .ok (.ireturn, 1) := by decide +kernel
theorem dL_addMachine_23 : decode cL_addMachine 23 = .ok (.iconst 0, 1) := by decide +kernel
theorem dL_addMachine_24 : decode cL_addMachine 24 = .ok (.ireturn, 1) := by decide +kernel
theorem dL_setMachine_0 : decode cL_setMachine 0 = .ok (.aload 6, 2) := by decide +kernel
theorem dL_setMachine_2 : decode cL_setMachine 2 = .ok (.iconst 0, 1) := by decide +kernel
theorem dL_setMachine_3 : decode cL_setMachine 3 = .ok (.aload_n 0, 1) := by decide +kernel
theorem dL_setMachine_4 : decode cL_setMachine 4 = .ok (.iload_n 1, 1) := by decide +kernel
theorem dL_setMachine_5 : decode cL_setMachine 5 = .ok (.iload_n 2, 1) := by decide +kernel
theorem dL_setMachine_6 : decode cL_setMachine 6 = .ok (.iload_n 3, 1) := by decide +kernel
theorem dL_setMachine_7 : decode cL_setMachine 7 = .ok (.iload 4, 2) := by decide +kernel
theorem dL_setMachine_9 : decode cL_setMachine 9 = .ok (.iload 5, 2) := by decide +kernel
theorem dL_setMachine_11 : decode cL_setMachine 11 = .ok (.invokevirtual 17, 3) := by decide +kernel
theorem dL_setMachine_14 : decode cL_setMachine 14 = .ok (.i2l, 1) := by decide +kernel
theorem dL_setMachine_15 : decode cL_setMachine 15 = .ok (.lastore, 1) := by decide +kernel
theorem dL_setMachine_16 : decode cL_setMachine 16 = .ok (.goto 11, 3) := by decide +kernel
theorem dL_setMachine_19 : decode cL_setMachine 19 = .ok (.astore 7, 2) := by decide +kernel
theorem dL_setMachine_21 : decode cL_setMachine 21 = .ok (.iconst 1, 1) := by decide +kernel
theorem dL_setMachine_22 : decode cL_setMachine 22 = .ok (.ireturn, 1) := by decide +kernel
theorem dL_setMachine_23 : decode cL_setMachine 23 = .ok (.astore 7, 2) := by decide +kernel
theorem dL_setMachine_25 : decode cL_setMachine 25 = .ok (.iconst 2, 1) := by decide +kernel
theorem dL_setMachine_26 : decode cL_setMachine 26 = .ok (.ireturn, 1) := by decide +kernel
theorem dL_setMachine_27 : decode cL_setMachine 27 = .ok (.iconst 0, 1) := by decide +kernel
theorem dL_setMachine_28 : decode cL_setMachine 28 = .ok (.ireturn, 1) := by decide +kernel
theorem dL_setCapacity_0 : decode cL_setCapacity 0 = .ok (.aload_n 3, 1) := by decide +kernel
theorem dL_setCapacity_1 : decode cL_setCapacity 1 = .ok (.iconst 0, 1) := by decide +kernel
theorem dL_setCapacity_2 : decode cL_setCapacity 2 = .ok (.aload_n 0, 1) := by decide +kernel
theorem dL_setCapacity_3 : decode cL_setCapacity 3 = .ok (.iload_n 1, 1) := by decide +kernel
theorem dL_setCapacity_4 : decode cL_setCapacity 4 = .ok (.iload_n 2, 1) := by decide +kernel
theorem dL_setCapacity_5 : decode cL_setCapacity 5 = .ok (.invokevirtual 23, 3) := by decide +kernel
theorem dL_setCapacity_8 : decode cL_setCapacity 8 = .ok (.i2l, 1) := by decide +kernel
theorem dL_setCapacity_9 : decode cL_setCapacity 9 = .ok (.lastore, 1) := by decide +kernel
theorem dL_setCapacity_10 : decode cL_setCapacity 10 = .ok (.goto 11, 3) := by decide +kernel
theorem dL_setCapacity_13 : decode cL_setCapacity 13 = .ok (.astore 4, 2) := by decide +kernel
theorem dL_setCapacity_15 : decode cL_setCapacity 15 = .ok (.iconst 1, 1) := by decide +kernel
theorem dL_setCapacity_16 : decode cL_setCapacity 16 = .ok (.ireturn, 1) := by decide +kernel
theorem dL_setCapacity_17 : decode cL_setCapacity 17 = .ok (.astore 4, 2) := by decide +kernel
theorem dL_setCapacity_19 : decode cL_setCapacity 19 = .ok (.iconst 2, 1) := by decide +kernel
theorem dL_setCapacity_20 : decode cL_setCapacity 20 = .ok (.ireturn, 1) := by decide +kernel
theorem dL_setCapacity_21 : decode cL_setCapacity 21 = .ok (.iconst 0, 1) := by decide +kernel
theorem dL_setCapacity_22 : decode cL_setCapacity 22 = .ok (.ireturn, 1) := by decide +kernel
theorem dL_addStop_0 : decode cL_addStop 0 = .ok (.aload 4, 2) := by decide +kernel
theorem dL_addStop_2 : decode cL_addStop 2 = .ok (.iconst 0, 1) := by decide +kernel
theorem dL_addStop_3 : decode cL_addStop 3 = .ok (.aload_n 0, 1) := by decide +kernel
theorem dL_addStop_4 : decode cL_addStop 4 = .ok (.iload_n 1, 1) := by decide +kernel
theorem dL_addStop_5 : decode cL_addStop 5 = .ok (.iload_n 2, 1) := by decide +kernel
theorem dL_addStop_6 : decode cL_addStop 6 = .ok (.iload_n 3, 1) := by decide +kernel
theorem dL_addStop_7 : decode cL_addStop 7 = .ok (.invokevirtual 27, 3) := by decide +kernel
theorem dL_addStop_10 : decode cL_addStop 10 = .ok (.i2l, 1) := by decide +kernel
theorem dL_addStop_11 : decode cL_addStop 11 = .ok (.lastore, 1) := by decide +kernel
theorem dL_addStop_12 : decode cL_addStop 12 = .ok (.goto 15, 3) := by decide +kernel
theorem dL_addStop_15 : decode cL_addStop 15 = .ok (.astore 5, 2) := by decide +kernel
theorem dL_addStop_17 : decode cL_addStop 17 = .ok (.iconst 1, 1) := by decide +kernel
theorem dL_addStop_18 : decode cL_addStop 18 = .ok (.ireturn, 1) := by decide +kernel
theorem dL_addStop_19 : decode cL_addStop 19 = .ok (.astore 5, 2) := by decide +kernel
theorem dL_addStop_21 : decode cL_addStop 21 = .ok (.iconst 2, 1) := by decide +kernel
theorem dL_addStop_22 : decode cL_addStop 22 = .ok (.ireturn, 1) := by decide +kernel
theorem dL_addStop_23 : decode cL_addStop 23 = .ok (.astore 5, 2) := by decide +kernel
theorem dL_addStop_25 : decode cL_addStop 25 = .ok (.iconst 3, 1) := by decide +kernel
theorem dL_addStop_26 : decode cL_addStop 26 = .ok (.ireturn, 1) := by decide +kernel
theorem dL_addStop_27 : decode cL_addStop 27 = .ok (.iconst 0, 1) := by decide +kernel
theorem dL_addStop_28 : decode cL_addStop 28 = .ok (.ireturn, 1) := by decide +kernel
theorem dL_addRandomStops_0 : decode cL_addRandomStops 0 = .ok (.aload 6, 2) := by decide +kernel
theorem dL_addRandomStops_2 : decode cL_addRandomStops 2 = .ok (.iconst 0, 1) := by decide +kernel
theorem dL_addRandomStops_3 : decode cL_addRandomStops 3 = .ok (.aload_n 0, 1) := by decide +kernel
theorem dL_addRandomStops_4 : decode cL_addRandomStops 4 = .ok (.iload_n 1, 1) := by decide +kernel
theorem dL_addRandomStops_5 : decode cL_addRandomStops 5 = .ok (.iload_n 2, 1) := by decide +kernel
theorem dL_addRandomStops_6 : decode cL_addRandomStops 6 = .ok (.iload_n 3, 1) := by decide +kernel
theorem dL_addRandomStops_7 : decode cL_addRandomStops 7 = .ok (.iload 4, 2) := by decide +kernel
theorem dL_addRandomStops_9 : decode cL_addRandomStops 9 = .ok (.iload 5, 2) := by decide +kernel
theorem dL_addRandomStops_11 : decode cL_addRandomStops 11 = .ok (.invokevirtual 30, 3) := by decide +kernel
theorem dL_addRandomStops_14 : decode cL_addRandomStops 14 = .ok (.i2l, 1) := by decide +kernel
theorem dL_addRandomStops_15 : decode cL_addRandomStops 15 = .ok (.lastore, 1) := by decide +kernel
theorem dL_addRandomStops_16 : decode cL_addRandomStops 16 = .ok (.goto 15, 3) := by decide +kernel
theorem dL_addRandomStops_19 : decode cL_addRandomStops 19 = .ok (.astore 7, 2) := by decide +kernel
theorem dL_addRandomStops_21 : decode cL_addRandomStops 21 = .ok (.iconst 1, 1) := by decide +kernel
theorem dL_addRandomStops_22 : decode cL_addRandomStops 22 = .ok (.ireturn, 1) := by decide +kernel
theorem dL_addRandomStops_23 : decode cL_addRandomStops 23 = .ok (.astore 7, 2) := by decide +kernel
theorem dL_addRandomStops_25 : decode cL_addRandomStops 25 = .ok (.iconst 2, 1) := by decide +kernel
theorem dL_addRandomStops_26 : decode cL_addRandomStops 26 = .ok (.ireturn, 1) := by decide +kernel
theorem dL_addRandomStops_27 : decode cL_addRandomStops 27 = .ok (.astore 7, 2) := by decide +kernel
theorem dL_addRandomStops_29 : decode cL_addRandomStops 29 = .ok (.iconst 3, 1) := by decide +kernel
theorem dL_addRandomStops_30 : decode cL_addRandomStops 30 = .ok (.ireturn, 1) := by decide +kernel
theorem dL_addRandomStops_31 : decode cL_addRandomStops 31 = .ok (.iconst 0, 1) := by decide +kernel
theorem dL_addRandomStops_32 : decode cL_addRandomStops 32 = .ok (.ireturn, 1) := by decide +kernel
theorem dL_stop_0 : decode cL_stop 0 = .ok (.aload_n 3, 1) := by decide +kernel
theorem dL_stop_1 : decode cL_stop 1 = .ok (.iconst 0, 1) := by decide +kernel
theorem dL_stop_2 : decode cL_stop 2 = .ok (.aload_n 0, 1) := by decide +kernel
theorem dL_stop_3 : decode cL_stop 3 = .ok (.iload_n 1, 1) := by decide +kernel
theorem dL_stop_4 : decode cL_stop 4 = .ok (.iload_n 2, 1) := by decide +kernel
theorem dL_stop_5 : decode cL_stop 5 = .ok (.invokevirtual 33, 3) := by decide +kernel
theorem dL_stop_8 : decode cL_stop 8 = .ok (.i2l, 1) := by decide +kernel
theorem dL_stop_9 : decode cL_stop 9 = .ok (.lastore, 1) := by decide +kernel
theorem dL_stop_10 : decode cL_stop 10 = .ok (.goto 11, 3) := by decide +kernel
theorem dL_stop_13 : decode cL_stop 13 = .ok (.astore 4, 2) := by decide +kernel
theorem dL_stop_15 : decode cL_stop 15 = .ok (.iconst 1, 1) := by decide +kernel
theorem dL_stop_16 : decode cL_stop 16 = .ok (.ireturn, 1) := by decide +kernel
theorem dL_stop_17 : decode cL_stop 17 = .ok (.astore 4, 2) := by decide +kernel
theorem dL_stop_19 : decode cL_stop 19 = .ok (.iconst 2, 1) := by decide +kernel
theorem dL_stop_20 : decode cL_stop 20 = .ok (.ireturn, 1) := by decide +kernel
theorem dL_stop_21 : decode cL_stop 21 = .ok (.iconst 0, 1) := by decide +kernel
theorem dL_stop_22 : decode cL_stop 22 = .ok (.ireturn, 1) := by decide +kernel
theorem dL_run_0 : decode cL_run 0 = .ok (.aload_n 2, 1) := by decide +kernel
theorem dL_run_1 : decode cL_run 1 = .ok (.iconst 0, 1) := by decide +kernel
theorem dL_run_2 : decode cL_run 2 = .ok (.aload_n 0, 1) := by decide +kernel
theorem dL_run_3 : decode cL_run 3 = .ok (.iload_n 1, 1) := by decide +kernel
theorem dL_run_4 : decode cL_run 4 = .ok (.invokevirtual 36, 3) := by decide +kernel
theorem dL_run_7 : decode cL_run 7 = .ok (.i2l, 1) := by decide +kernel
theorem dL_run_8 : decode cL_run 8 = .ok (.lastore, 1) := by decide +kernel
theorem dL_run_9 : decode cL_run 9 = .ok (.goto 9, 3) := by decide +kernel
theorem dL_run_12 : decode cL_run 12 = .ok (.astore_n 3, 1) := by decide +kernel
theorem dL_run_13 : decode cL_run 13 = .ok (.iconst 1, 1) := by decide +kernel
theorem dL_run_14 : decode cL_run 14 = .ok (.ireturn, 1) := by decide +kernel
theorem dL_run_15 : decode cL_run 15 = .ok (.astore_n 3, 1) := by decide +kernel
theorem dL_run_16 : decode cL_run 16 = .ok (.iconst 2, 1) := by decide +kernel
theorem dL_run_17 : decode cL_run 17 = .ok (.ireturn, 1) := by decide +kernel
theorem dL_run_18 : decode cL_run 18 = .ok (.iconst 0, 1) := by decide +kernel
theorem dL_run_19 : decode cL_run 19 = .ok (.ireturn, 1) := by decide +kernel
theorem dL_setting_0 : decode cL_setting 0 = .ok (.aload_n 3, 1) := by decide +kernel
theorem dL_setting_1 : decode cL_setting 1 = .ok (.iconst 0, 1) := by decide +kernel
theorem dL_setting_2 : decode cL_setting 2 = .ok (.aload_n 0, 1) := by decide +kernel
theorem dL_setting_3 : decode cL_setting 3 = .ok (.iload_n 1, 1) := by decide +kernel
theorem dL_setting_4 : decode cL_setting 4 = .ok (.iload_n 2, 1) := by decide +kernel
theorem dL_setting_5 : decode cL_setting 5 = .ok (.invokevirtual 40, 3) := by decide +kernel
theorem dL_setting_8 : decode cL_setting 8 = .ok (.i2l, 1) := by decide +kernel
theorem dL_setting_9 : decode cL_setting 9 = .ok (.lastore, 1) := by decide +kernel
theorem dL_setting_10 : decode cL_setting 10 = .ok (.goto 11, 3) := by decide +kernel
theorem dL_setting_13 : decode cL_setting 13 = .ok (.astore 4, 2) := by decide +kernel
theorem dL_setting_15 : decode cL_setting 15 = .ok (.iconst 1, 1) := by decide +kernel
theorem dL_setting_16 : decode cL_setting 16 = .ok (.ireturn, 1) := by decide +kernel
theorem dL_setting_17 : decode cL_setting 17 = .ok (.astore 4, 2) := by decide +kernel
theorem dL_setting_19 : decode cL_setting 19 = .ok (.iconst 2, 1) := by decide +kernel
theorem dL_setting_20 : decode cL_setting 20 = .ok (.ireturn, 1) := by decide +kernel
theorem dL_setting_21 : decode cL_setting 21 = .ok (.iconst 0, 1) := by decide +kernel
theorem dL_setting_22 : decode cL_setting 22 = .ok (.ireturn, 1) := by decide +kernel
theorem dL_machine_0 : decode cL_machine 0 = .ok (.aload_n 3, 1) := by decide +kernel
theorem dL_machine_1 : decode cL_machine 1 = .ok (.iconst 0, 1) := by decide +kernel
theorem dL_machine_2 : decode cL_machine 2 = .ok (.aload_n 0, 1) := by decide +kernel
theorem dL_machine_3 : decode cL_machine 3 = .ok (.iload_n 1, 1) := by decide +kernel
theorem dL_machine_4 : decode cL_machine 4 = .ok (.iload_n 2, 1) := by decide +kernel
theorem dL_machine_5 : decode cL_machine 5 = .ok (.invokevirtual 43, 3) := by decide +kernel
theorem dL_machine_8 : decode cL_machine 8 = .ok (.i2l, 1) := by decide +kernel
theorem dL_machine_9 : decode cL_machine 9 = .ok (.lastore, 1) := by decide +kernel
theorem dL_machine_10 : decode cL_machine 10 = .ok (.goto 11, 3) := by decide +kernel
theorem dL_machine_13 : decode cL_machine 13 = .ok (.astore 4, 2) := by decide +kernel
theorem dL_machine_15 : decode cL_machine 15 = .ok (.iconst 1, 1) := by decide +kernel
theorem dL_machine_16 : decode cL_machine 16 = .ok (.ireturn, 1) := by decide +kernel
theorem dL_machine_17 : decode cL_machine 17 = .ok (.astore 4, 2) := by decide +kernel
theorem dL_machine_19 : decode cL_machine 19 = .ok (.iconst 2, 1) := by decide +kernel
theorem dL_machine_20 : decode cL_machine 20 = .ok (.ireturn, 1) := by decide +kernel
theorem dL_machine_21 : decode cL_machine 21 = .ok (.iconst 0, 1) := by decide +kernel
theorem dL_machine_22 : decode cL_machine 22 = .ok (.ireturn, 1) := by decide +kernel
theorem dL_count_0 : decode cL_count 0 = .ok (.aload_n 3, 1) := by decide +kernel
theorem dL_count_1 : decode cL_count 1 = .ok (.iconst 0, 1) := by decide +kernel
theorem dL_count_2 : decode cL_count 2 = .ok (.aload_n 0, 1) := by decide +kernel
theorem dL_count_3 : decode cL_count 3 = .ok (.iload_n 1, 1) := by decide +kernel
theorem dL_count_4 : decode cL_count 4 = .ok (.iload_n 2, 1) := by decide +kernel
theorem dL_count_5 : decode cL_count 5 = .ok (.invokevirtual 46, 3) := by decide +kernel
theorem dL_count_8 : decode cL_count 8 = .ok (.i2l, 1) := by decide +kernel
theorem dL_count_9 : decode cL_count 9 = .ok (.lastore, 1) := by decide +kernel
theorem dL_count_10 : decode cL_count 10 = .ok (.goto 11, 3) := by decide +kernel
theorem dL_count_13 : decode cL_count 13 = .ok (.astore 4, 2) := by decide +kernel
theorem dL_count_15 : decode cL_count 15 = .ok (.iconst 1, 1) := by decide +kernel
theorem dL_count_16 : decode cL_count 16 = .ok (.ireturn, 1) := by decide +kernel
theorem dL_count_17 : decode cL_count 17 = .ok (.astore 4, 2) := by decide +kernel
theorem dL_count_19 : decode cL_count 19 = .ok (.iconst 2, 1) := by decide +kernel
theorem dL_count_20 : decode cL_count 20 = .ok (.ireturn, 1) := by decide +kernel
theorem dL_count_21 : decode cL_count 21 = .ok (.iconst 0, 1) := by decide +kernel
theorem dL_count_22 : decode cL_count 22 = .ok (.ireturn, 1) := by decide +kernel
theorem dL_meanFill_0 : decode cL_meanFill 0 = .ok (.aload_n 2, 1) := by decide +kernel
theorem dL_meanFill_1 : decode cL_meanFill 1 = .ok (.iconst 0, 1) := by decide +kernel
theorem dL_meanFill_2 : decode cL_meanFill 2 = .ok (.aload_n 0, 1) := by decide +kernel
theorem dL_meanFill_3 : decode cL_meanFill 3 = .ok (.iload_n 1, 1) := by decide +kernel
theorem dL_meanFill_4 : decode cL_meanFill 4 = .ok (.invokevirtual 49, 3) := by decide +kernel
theorem dL_meanFill_7 : decode cL_meanFill 7 = .ok (.dastore, 1) := by decide +kernel
theorem dL_meanFill_8 : decode cL_meanFill 8 = .ok (.goto 6, 3) := by decide +kernel
theorem dL_meanFill_11 : decode cL_meanFill 11 = .ok (.astore_n 3, 1) := by decide +kernel
theorem dL_meanFill_12 : decode cL_meanFill 12 = .ok (.iconst 1, 1) := by decide +kernel
theorem dL_meanFill_13 : decode cL_meanFill 13 = .ok (.ireturn, 1) := by decide +kernel
theorem dL_meanFill_14 : decode cL_meanFill 14 = .ok (.iconst 0, 1) := by decide +kernel
theorem dL_meanFill_15 : decode cL_meanFill 15 = .ok (.ireturn, 1) := by decide +kernel
theorem dL_bound_0 : decode cL_bound 0 = .ok (.aload_n 2, 1) := by decide +kernel
theorem dL_bound_1 : decode cL_bound 1 = .ok (.iconst 0, 1) := by decide +kernel
theorem dL_bound_2 : decode cL_bound 2 = .ok (.aload_n 0, 1) := by decide +kernel
theorem dL_bound_3 : decode cL_bound 3 = .ok (.iload_n 1, 1) := by decide +kernel
theorem dL_bound_4 : decode cL_bound 4 = .ok (.invokevirtual 53, 3) := by decide +kernel
theorem dL_bound_7 : decode cL_bound 7 = .ok (.i2l, 1) := by decide +kernel
theorem dL_bound_8 : decode cL_bound 8 = .ok (.lastore, 1) := by decide +kernel
theorem dL_bound_9 : decode cL_bound 9 = .ok (.goto 9, 3) := by decide +kernel
theorem dL_bound_12 : decode cL_bound 12 = .ok (.astore_n 3, 1) := by decide +kernel
theorem dL_bound_13 : decode cL_bound 13 = .ok (.iconst 1, 1) := by decide +kernel
theorem dL_bound_14 : decode cL_bound 14 = .ok (.ireturn, 1) := by decide +kernel
theorem dL_bound_15 : decode cL_bound 15 = .ok (.astore_n 3, 1) := by decide +kernel
theorem dL_bound_16 : decode cL_bound 16 = .ok (.iconst 2, 1) := by decide +kernel
theorem dL_bound_17 : decode cL_bound 17 = .ok (.ireturn, 1) := by decide +kernel
theorem dL_bound_18 : decode cL_bound 18 = .ok (.iconst 0, 1) := by decide +kernel
theorem dL_bound_19 : decode cL_bound 19 = .ok (.ireturn, 1) := by decide +kernel
theorem dL_limiting_0 : decode cL_limiting 0 = .ok (.aload_n 1, 1) := by decide +kernel
theorem dL_limiting_1 : decode cL_limiting 1 = .ok (.iconst 0, 1) := by decide +kernel
theorem dL_limiting_2 : decode cL_limiting 2 = .ok (.aload_n 0, 1) := by decide +kernel
theorem dL_limiting_3 : decode cL_limiting 3 = .ok (.invokevirtual 56, 3) := by decide +kernel
theorem dL_limiting_6 : decode cL_limiting 6 = .ok (.i2l, 1) := by decide +kernel
theorem dL_limiting_7 : decode cL_limiting 7 = .ok (.lastore, 1) := by decide +kernel
theorem dL_limiting_8 : decode cL_limiting 8 = .ok (.goto 6, 3) := by decide +kernel
theorem dL_limiting_11 : decode cL_limiting 11 = .ok (.astore_n 2, 1) := by decide +kernel
theorem dL_limiting_12 : decode cL_limiting 12 = .ok (.iconst 1, 1) := by decide +kernel
theorem dL_limiting_13 : decode cL_limiting 13 = .ok (.ireturn, 1) := by decide +kernel
theorem dL_limiting_14 : decode cL_limiting 14 = .ok (.iconst 0, 1) := by decide +kernel
theorem dL_limiting_15 : decode cL_limiting 15 = .ok (.ireturn, 1) := by decide +kernel
theorem dL_slowest_0 : decode cL_slowest 0 = .ok (.aload_n 2, 1) := by decide +kernel
theorem dL_slowest_1 : decode cL_slowest 1 = .ok (.iconst 0, 1) := by decide +kernel
theorem dL_slowest_2 : decode cL_slowest 2 = .ok (.aload_n 0, 1) := by decide +kernel
theorem dL_slowest_3 : decode cL_slowest 3 = .ok (.iload_n 1, 1) := by decide +kernel
theorem dL_slowest_4 : decode cL_slowest 4 = .ok (.invokevirtual 60, 3) := by decide +kernel
theorem dL_slowest_7 : decode cL_slowest 7 = .ok (.i2l, 1) := by decide +kernel
theorem dL_slowest_8 : decode cL_slowest 8 = .ok (.lastore, 1) := by decide +kernel
theorem dL_slowest_9 : decode cL_slowest 9 = .ok (.goto 9, 3) := by decide +kernel
theorem dL_slowest_12 : decode cL_slowest 12 = .ok (.astore_n 3, 1) := by decide +kernel
theorem dL_slowest_13 : decode cL_slowest 13 = .ok (.iconst 1, 1) := by decide +kernel
theorem dL_slowest_14 : decode cL_slowest 14 = .ok (.ireturn, 1) := by decide +kernel
theorem dL_slowest_15 : decode cL_slowest 15 = .ok (.astore_n 3, 1) := by decide +kernel
theorem dL_slowest_16 : decode cL_slowest 16 = .ok (.iconst 2, 1) := by decide +kernel
theorem dL_slowest_17 : decode cL_slowest 17 = .ok (.ireturn, 1) := by decide +kernel
theorem dL_slowest_18 : decode cL_slowest 18 = .ok (.iconst 0, 1) := by decide +kernel
theorem dL_slowest_19 : decode cL_slowest 19 = .ok (.ireturn, 1) := by decide +kernel
theorem dL_outputWith_0 : decode cL_outputWith 0 = .ok (.aload 4, 2) := by decide +kernel
theorem dL_outputWith_2 : decode cL_outputWith 2 = .ok (.iconst 0, 1) := by decide +kernel
theorem dL_outputWith_3 : decode cL_outputWith 3 = .ok (.aload_n 0, 1) := by decide +kernel
theorem dL_outputWith_4 : decode cL_outputWith 4 = .ok (.iload_n 1, 1) := by decide +kernel
theorem dL_outputWith_5 : decode cL_outputWith 5 = .ok (.iload_n 2, 1) := by decide +kernel
theorem dL_outputWith_6 : decode cL_outputWith 6 = .ok (.iload_n 3, 1) := by decide +kernel
theorem dL_outputWith_7 : decode cL_outputWith 7 = .ok (.invokevirtual 63, 3) := by decide +kernel
theorem dL_outputWith_10 : decode cL_outputWith 10 = .ok (.i2l, 1) := by decide +kernel
theorem dL_outputWith_11 : decode cL_outputWith 11 = .ok (.lastore, 1) := by decide +kernel
theorem dL_outputWith_12 : decode cL_outputWith 12 = .ok (.goto 11, 3) := by decide +kernel
theorem dL_outputWith_15 : decode cL_outputWith 15 = .ok (.astore 5, 2) := by decide +kernel
theorem dL_outputWith_17 : decode cL_outputWith 17 = .ok (.iconst 1, 1) := by decide +kernel
theorem dL_outputWith_18 : decode cL_outputWith 18 = .ok (.ireturn, 1) := by decide +kernel
theorem dL_outputWith_19 : decode cL_outputWith 19 = .ok (.astore 5, 2) := by decide +kernel
theorem dL_outputWith_21 : decode cL_outputWith 21 = .ok (.iconst 2, 1) := by decide +kernel
theorem dL_outputWith_22 : decode cL_outputWith 22 = .ok (.ireturn, 1) := by decide +kernel
theorem dL_outputWith_23 : decode cL_outputWith 23 = .ok (.iconst 0, 1) := by decide +kernel
theorem dL_outputWith_24 : decode cL_outputWith 24 = .ok (.ireturn, 1) := by decide +kernel
theorem dL_capacityFor_0 : decode cL_capacityFor 0 = .ok (.aload 4, 2) := by decide +kernel
theorem dL_capacityFor_2 : decode cL_capacityFor 2 = .ok (.iconst 0, 1) := by decide +kernel
theorem dL_capacityFor_3 : decode cL_capacityFor 3 = .ok (.aload_n 0, 1) := by decide +kernel
theorem dL_capacityFor_4 : decode cL_capacityFor 4 = .ok (.iload_n 1, 1) := by decide +kernel
theorem dL_capacityFor_5 : decode cL_capacityFor 5 = .ok (.iload_n 2, 1) := by decide +kernel
theorem dL_capacityFor_6 : decode cL_capacityFor 6 = .ok (.iload_n 3, 1) := by decide +kernel
theorem dL_capacityFor_7 : decode cL_capacityFor 7 = .ok (.invokevirtual 66, 3) := by decide +kernel
theorem dL_capacityFor_10 : decode cL_capacityFor 10 = .ok (.i2l, 1) := by decide +kernel
theorem dL_capacityFor_11 : decode cL_capacityFor 11 = .ok (.lastore, 1) := by decide +kernel
theorem dL_capacityFor_12 : decode cL_capacityFor 12 = .ok (.goto 11, 3) := by decide +kernel
theorem dL_capacityFor_15 : decode cL_capacityFor 15 = .ok (.astore 5, 2) := by decide +kernel
theorem dL_capacityFor_17 : decode cL_capacityFor 17 = .ok (.iconst 1, 1) := by decide +kernel
theorem dL_capacityFor_18 : decode cL_capacityFor 18 = .ok (.ireturn, 1) := by decide +kernel
theorem dL_capacityFor_19 : decode cL_capacityFor 19 = .ok (.astore 5, 2) := by decide +kernel
theorem dL_capacityFor_21 : decode cL_capacityFor 21 = .ok (.iconst 2, 1) := by decide +kernel
theorem dL_capacityFor_22 : decode cL_capacityFor 22 = .ok (.ireturn, 1) := by decide +kernel
theorem dL_capacityFor_23 : decode cL_capacityFor 23 = .ok (.iconst 0, 1) := by decide +kernel
theorem dL_capacityFor_24 : decode cL_capacityFor 24 = .ok (.ireturn, 1) := by decide +kernel
theorem dL_bestBuffer_0 : decode cL_bestBuffer 0 = .ok (.aload_n 3, 1) := by decide +kernel
theorem dL_bestBuffer_1 : decode cL_bestBuffer 1 = .ok (.iconst 0, 1) := by decide +kernel
theorem dL_bestBuffer_2 : decode cL_bestBuffer 2 = .ok (.aload_n 0, 1) := by decide +kernel
theorem dL_bestBuffer_3 : decode cL_bestBuffer 3 = .ok (.iload_n 1, 1) := by decide +kernel
theorem dL_bestBuffer_4 : decode cL_bestBuffer 4 = .ok (.iload_n 2, 1) := by decide +kernel
theorem dL_bestBuffer_5 : decode cL_bestBuffer 5 = .ok (.invokevirtual 69, 3) := by decide +kernel
theorem dL_bestBuffer_8 : decode cL_bestBuffer 8 = .ok (.i2l, 1) := by decide +kernel
theorem dL_bestBuffer_9 : decode cL_bestBuffer 9 = .ok (.lastore, 1) := by decide +kernel
theorem dL_bestBuffer_10 : decode cL_bestBuffer 10 = .ok (.goto 11, 3) := by decide +kernel
theorem dL_bestBuffer_13 : decode cL_bestBuffer 13 = .ok (.astore 4, 2) := by decide +kernel
theorem dL_bestBuffer_15 : decode cL_bestBuffer 15 = .ok (.iconst 1, 1) := by decide +kernel
theorem dL_bestBuffer_16 : decode cL_bestBuffer 16 = .ok (.ireturn, 1) := by decide +kernel
theorem dL_bestBuffer_17 : decode cL_bestBuffer 17 = .ok (.astore 4, 2) := by decide +kernel
theorem dL_bestBuffer_19 : decode cL_bestBuffer 19 = .ok (.iconst 2, 1) := by decide +kernel
theorem dL_bestBuffer_20 : decode cL_bestBuffer 20 = .ok (.ireturn, 1) := by decide +kernel
theorem dL_bestBuffer_21 : decode cL_bestBuffer 21 = .ok (.iconst 0, 1) := by decide +kernel
theorem dL_bestBuffer_22 : decode cL_bestBuffer 22 = .ok (.ireturn, 1) := by decide +kernel
theorem dL_append_0 : decode cL_append 0 = .ok (.aload_n 2, 1) := by decide +kernel
theorem dL_append_1 : decode cL_append 1 = .ok (.iconst 0, 1) := by decide +kernel
theorem dL_append_2 : decode cL_append 2 = .ok (.aload_n 0, 1) := by decide +kernel
theorem dL_append_3 : decode cL_append 3 = .ok (.iload_n 1, 1) := by decide +kernel
theorem dL_append_4 : decode cL_append 4 = .ok (.invokevirtual 72, 3) := by decide +kernel
theorem dL_append_7 : decode cL_append 7 = .ok (.i2l, 1) := by decide +kernel
theorem dL_append_8 : decode cL_append 8 = .ok (.lastore, 1) := by decide +kernel
theorem dL_append_9 : decode cL_append 9 = .ok (.goto 9, 3) := by decide +kernel
theorem dL_append_12 : decode cL_append 12 = .ok (.astore_n 3, 1) := by decide +kernel
theorem dL_append_13 : decode cL_append 13 = .ok (.iconst 1, 1) := by decide +kernel
theorem dL_append_14 : decode cL_append 14 = .ok (.ireturn, 1) := by decide +kernel
theorem dL_append_15 : decode cL_append 15 = .ok (.astore_n 3, 1) := by decide +kernel
theorem dL_append_16 : decode cL_append 16 = .ok (.iconst 2, 1) := by decide +kernel
theorem dL_append_17 : decode cL_append 17 = .ok (.ireturn, 1) := by decide +kernel
theorem dL_append_18 : decode cL_append 18 = .ok (.iconst 0, 1) := by decide +kernel
theorem dL_append_19 : decode cL_append 19 = .ok (.ireturn, 1) := by decide +kernel
theorem dL_undo_0 : decode cL_undo 0 = .ok (.aload_n 1, 1) := by decide +kernel
theorem dL_undo_1 : decode cL_undo 1 = .ok (.iconst 0, 1) := by decide +kernel
theorem dL_undo_2 : decode cL_undo 2 = .ok (.aload_n 0, 1) := by decide +kernel
theorem dL_undo_3 : decode cL_undo 3 = .ok (.invokevirtual 75, 3) := by decide +kernel
theorem dL_undo_6 : decode cL_undo 6 = .ok (.i2l, 1) := by decide +kernel
theorem dL_undo_7 : decode cL_undo 7 = .ok (.lastore, 1) := by decide +kernel
theorem dL_undo_8 : decode cL_undo 8 = .ok (.goto 6, 3) := by decide +kernel
theorem dL_undo_11 : decode cL_undo 11 = .ok (.astore_n 2, 1) := by decide +kernel
theorem dL_undo_12 : decode cL_undo 12 = .ok (.iconst 1, 1) := by decide +kernel
theorem dL_undo_13 : decode cL_undo 13 = .ok (.ireturn, 1) := by decide +kernel
theorem dL_undo_14 : decode cL_undo 14 = .ok (.iconst 0, 1) := by decide +kernel
theorem dL_undo_15 : decode cL_undo 15 = .ok (.ireturn, 1) := by decide +kernel
abbrev rmL_addMachine : Room := { frames := 7, cells := 1, slots := 6, locals := 136 }
def wsW_addMachine : List Cond := Cond.codeWith yL_addMachine cL_addMachine 6 (some .int) [(0, 12, 15, 13), (0, 12, 19, 15)] :: lwG
set_option maxRecDepth 100000 in
set_option maxHeartbeats 4000000 in
theorem m_L_addMachine (l : Launch) (hfl : l.stackTraces = false) {D : va_G} {cs : Nat → ClassId} {ad : Nat → Nat} (hAd : adOK ad) (sz : Nat) {Ls : Nat → SL} {Hs T M : SL} {dr hs o : Int64} {od : UInt64} {x1 : Int32} {x2 : Int32} {x3 : Int32} {res : Sum (Int32 × (Nat → SL) × SL) Nat} (h : f_X5_addMachine Ls Hs x1 x2 x3 = some res) {v : Int32} {w' : va_W} (hu : ∀ u : Int32 × (Nat → SL) × SL, res = Sum.inl u → v = 0 ∧ w' = wA cs ad u.2.1 u.2.2 T M dr hs (u.1 : Int32).toInt64 od) (hk : ∀ k : Nat, res = Sum.inr k → w' = wA cs ad Ls Hs T M dr hs o od ∧ ((k = 1 ∧ v = 1) ∨ (k = 2 ∧ v = 2))) : Met l yL_addMachine wsW_addMachine rmL_addMachine (PW D cs ad sz (wA cs ad Ls Hs T M dr hs o od) [.ref (ad 0), .int x1, .int x2, .int x3, .ref (ad 95)]) (va_Qi (fun r' (_ : Unit) => r' = v) (fun _ t => va_P D vwCl w' t.heap) (Afr ad sz)) 1 6 (Afr ad sz) :=
  k_metW (by decide) rfl (Nat.le_of_ble_eq_true rfl) hAd (fun p e s m below meth c ls C G X N Y ht hP hsz hl hS => by
    subst hsz
    refine lv_aload C.1 C.2.1 dL_addMachine_0 (lv_at hl 4 rfl) ?_
    refine lv_iconst (v := 0) C.1 C.2.1 dL_addMachine_2 (by decide) ?_
    refine lv_aload_n C.1 C.2.1 dL_addMachine_3 rfl (lv_at hl 0 rfl) ?_
    refine lv_iload_n C.1 C.2.1 dL_addMachine_4 rfl (lv_at hl 1 rfl) ?_
    refine lv_iload_n C.1 C.2.1 dL_addMachine_5 rfl (lv_at hl 2 rfl) ?_
    refine lv_iload_n C.1 C.2.1 dL_addMachine_6 rfl (lv_at hl 3 rfl) ?_
    refine k_callXVi C G X hP hS (m_X5_addMachine l hfl G.2.1 _ h) g_obj rfl (cwV 3 C.2.2.2.2.2.1 (lwG_cons wg_X5_addMachine) rfl rfl rfl (by decide +kernel) ⟨Nat.le_of_ble_eq_true rfl, Nat.le_of_ble_eq_true rfl⟩) (As := [.int x1, .int x2, .int x3]) rfl hl.1 rfl (Nat.le_of_ble_eq_true rfl) dL_addMachine_7 ⟨Nat.le_of_ble_eq_true rfl, Nat.le_of_ble_eq_true rfl⟩ (fun k E ce q9 H locs er hE hP hS hcell hv hcl => ?_) (fun H locs u er hP hS => ?_)
    · obtain ⟨rfl, hk2⟩ := hk k er
      rcases hk2 with ⟨rfl, rfl⟩ | ⟨rfl, rfl⟩
      · subst hE
        refine vx_catch (name := exN 1) C.2.2.2.2.1 [] ⟨0, 12, 15, 13⟩ [⟨0, 12, 19, 15⟩] (ht.trans rfl) (fun z hz => absurd hz List.not_mem_nil) rfl (by decide) (C.2.2.2.2.2.1 _ (List.mem_cons_of_mem _ lc1)) (YC.at Y (by decide) (by decide)) hcell hv hcl ?_
        refine lv_astore (lv' := [(5, .ref q9), (0, .ref (ad 0)), (1, .int x1), (2, .int x2), (3, .int x3), (4, .ref (ad 95))]) C.1 C.2.1 dL_addMachine_15 hl (by decide) rfl (fun ls hl => ?_)
        refine lv_iconst (v := 1) C.1 C.2.1 dL_addMachine_17 (by decide) ?_
        refine W.widen (k := 1) (n := 6) (by omega) (by omega) ?_
        exact k_iret C hP hS dL_addMachine_18
      · subst hE
        refine vx_catch (name := exN 2) C.2.2.2.2.1 [⟨0, 12, 15, 13⟩] ⟨0, 12, 19, 15⟩ [] (ht.trans rfl) (fun z hz => Or.inr (by rw [List.mem_singleton.mp hz]; exact ⟨by decide, exN 1, C.2.2.2.2.2.1 _ (List.mem_cons_of_mem _ lc1), N 2 1 (by decide) (by decide) (by decide) (by decide) (by decide)⟩)) rfl (by decide) (C.2.2.2.2.2.1 _ (List.mem_cons_of_mem _ lc2)) (YC.at Y (by decide) (by decide)) hcell hv hcl ?_
        refine lv_astore (lv' := [(5, .ref q9), (0, .ref (ad 0)), (1, .int x1), (2, .int x2), (3, .int x3), (4, .ref (ad 95))]) C.1 C.2.1 dL_addMachine_19 hl (by decide) rfl (fun ls hl => ?_)
        refine lv_iconst (v := 2) C.1 C.2.1 dL_addMachine_21 (by decide) ?_
        refine W.widen (k := 1) (n := 6) (by omega) (by omega) ?_
        exact k_iret C hP hS dL_addMachine_22
    · obtain ⟨rfl, rfl⟩ := hu u er
      have hP : va_P D vwCl (wA cs ad u.2.1 u.2.2 T M dr hs o od) H := hP
      refine k_i2l C rfl dL_addMachine_10 ?_
      refine k_lastO C G hP hS dL_addMachine_11 (fun H locs hP hS => ?_)
      refine lv_goto (tgt := 23) C.1 C.2.1 dL_addMachine_12 (by decide) ?_
      refine lv_iconst (v := 0) C.1 C.2.1 dL_addMachine_23 (by decide) ?_
      refine W.widen (k := 1) (n := 6) (by omega) (by omega) ?_
      exact k_iret C hP hS dL_addMachine_24)
abbrev rmL_setMachine : Room := { frames := 8, cells := 2, slots := 12, locals := 143 }
def wsW_setMachine : List Cond := Cond.codeWith yL_setMachine cL_setMachine 8 (some .int) [(0, 16, 19, 21), (0, 16, 23, 13)] :: lwG
set_option maxRecDepth 100000 in
set_option maxHeartbeats 4000000 in
theorem m_L_setMachine (l : Launch) (hfl : l.stackTraces = false) {D : va_G} {cs : Nat → ClassId} {ad : Nat → Nat} (hAd : adOK ad) (sz : Nat) {Ls : Nat → SL} {Hs T M : SL} {dr hs o : Int64} {od : UInt64} {x1 : Int32} {x2 : Int32} {x3 : Int32} {x4 : Int32} {x5 : Int32} {res : Sum (Int32 × (Nat → SL) × SL) Nat} (h : f_X5_setMachine Ls Hs x1 x2 x3 x4 x5 = some res) {v : Int32} {w' : va_W} (hu : ∀ u : Int32 × (Nat → SL) × SL, res = Sum.inl u → v = 0 ∧ w' = wA cs ad u.2.1 u.2.2 T M dr hs (u.1 : Int32).toInt64 od) (hk : ∀ k : Nat, res = Sum.inr k → w' = wA cs ad Ls Hs T M dr hs o od ∧ ((k = 3 ∧ v = 1) ∨ (k = 1 ∧ v = 2))) : Met l yL_setMachine wsW_setMachine rmL_setMachine (PW D cs ad sz (wA cs ad Ls Hs T M dr hs o od) [.ref (ad 0), .int x1, .int x2, .int x3, .int x4, .int x5, .ref (ad 95)]) (va_Qi (fun r' (_ : Unit) => r' = v) (fun _ t => va_P D vwCl w' t.heap) (Afr ad sz)) 2 12 (Afr ad sz) :=
  k_metW (by decide) rfl (Nat.le_of_ble_eq_true rfl) hAd (fun p e s m below meth c ls C G X N Y ht hP hsz hl hS => by
    subst hsz
    refine lv_aload C.1 C.2.1 dL_setMachine_0 (lv_at hl 6 rfl) ?_
    refine lv_iconst (v := 0) C.1 C.2.1 dL_setMachine_2 (by decide) ?_
    refine lv_aload_n C.1 C.2.1 dL_setMachine_3 rfl (lv_at hl 0 rfl) ?_
    refine lv_iload_n C.1 C.2.1 dL_setMachine_4 rfl (lv_at hl 1 rfl) ?_
    refine lv_iload_n C.1 C.2.1 dL_setMachine_5 rfl (lv_at hl 2 rfl) ?_
    refine lv_iload_n C.1 C.2.1 dL_setMachine_6 rfl (lv_at hl 3 rfl) ?_
    refine lv_iload C.1 C.2.1 dL_setMachine_7 (lv_at hl 4 rfl) ?_
    refine lv_iload C.1 C.2.1 dL_setMachine_9 (lv_at hl 5 rfl) ?_
    refine k_callXVi C G X hP hS (m_X5_setMachine l hfl G.2.1 _ h) g_obj rfl (cwV 5 C.2.2.2.2.2.1 (lwG_cons wg_X5_setMachine) rfl rfl rfl (by decide +kernel) ⟨Nat.le_of_ble_eq_true rfl, Nat.le_of_ble_eq_true rfl⟩) (As := [.int x1, .int x2, .int x3, .int x4, .int x5]) rfl hl.1 rfl (Nat.le_of_ble_eq_true rfl) dL_setMachine_11 ⟨Nat.le_of_ble_eq_true rfl, Nat.le_of_ble_eq_true rfl⟩ (fun k E ce q9 H locs er hE hP hS hcell hv hcl => ?_) (fun H locs u er hP hS => ?_)
    · obtain ⟨rfl, hk2⟩ := hk k er
      rcases hk2 with ⟨rfl, rfl⟩ | ⟨rfl, rfl⟩
      · subst hE
        refine vx_catch (name := exN 3) C.2.2.2.2.1 [] ⟨0, 16, 19, 21⟩ [⟨0, 16, 23, 13⟩] (ht.trans rfl) (fun z hz => absurd hz List.not_mem_nil) rfl (by decide) (C.2.2.2.2.2.1 _ (List.mem_cons_of_mem _ lc3)) (YC.at Y (by decide) (by decide)) hcell hv hcl ?_
        refine lv_astore (lv' := [(7, .ref q9), (0, .ref (ad 0)), (1, .int x1), (2, .int x2), (3, .int x3), (4, .int x4), (5, .int x5), (6, .ref (ad 95))]) C.1 C.2.1 dL_setMachine_19 hl (by decide) rfl (fun ls hl => ?_)
        refine lv_iconst (v := 1) C.1 C.2.1 dL_setMachine_21 (by decide) ?_
        refine W.widen (k := 2) (n := 12) (by omega) (by omega) ?_
        exact k_iret C hP hS dL_setMachine_22
      · subst hE
        refine vx_catch (name := exN 1) C.2.2.2.2.1 [⟨0, 16, 19, 21⟩] ⟨0, 16, 23, 13⟩ [] (ht.trans rfl) (fun z hz => Or.inr (by rw [List.mem_singleton.mp hz]; exact ⟨by decide, exN 3, C.2.2.2.2.2.1 _ (List.mem_cons_of_mem _ lc3), N 1 3 (by decide) (by decide) (by decide) (by decide) (by decide)⟩)) rfl (by decide) (C.2.2.2.2.2.1 _ (List.mem_cons_of_mem _ lc1)) (YC.at Y (by decide) (by decide)) hcell hv hcl ?_
        refine lv_astore (lv' := [(7, .ref q9), (0, .ref (ad 0)), (1, .int x1), (2, .int x2), (3, .int x3), (4, .int x4), (5, .int x5), (6, .ref (ad 95))]) C.1 C.2.1 dL_setMachine_23 hl (by decide) rfl (fun ls hl => ?_)
        refine lv_iconst (v := 2) C.1 C.2.1 dL_setMachine_25 (by decide) ?_
        refine W.widen (k := 2) (n := 12) (by omega) (by omega) ?_
        exact k_iret C hP hS dL_setMachine_26
    · obtain ⟨rfl, rfl⟩ := hu u er
      have hP : va_P D vwCl (wA cs ad u.2.1 u.2.2 T M dr hs o od) H := hP
      refine k_i2l C rfl dL_setMachine_14 ?_
      refine k_lastO C G hP hS dL_setMachine_15 (fun H locs hP hS => ?_)
      refine lv_goto (tgt := 27) C.1 C.2.1 dL_setMachine_16 (by decide) ?_
      refine lv_iconst (v := 0) C.1 C.2.1 dL_setMachine_27 (by decide) ?_
      refine W.widen (k := 2) (n := 12) (by omega) (by omega) ?_
      exact k_iret C hP hS dL_setMachine_28)
abbrev rmL_setCapacity : Room := { frames := 8, cells := 2, slots := 12, locals := 140 }
def wsW_setCapacity : List Cond := Cond.codeWith yL_setCapacity cL_setCapacity 5 (some .int) [(0, 10, 13, 21), (0, 10, 17, 13)] :: lwG
set_option maxRecDepth 100000 in
set_option maxHeartbeats 4000000 in
theorem m_L_setCapacity (l : Launch) (hfl : l.stackTraces = false) {D : va_G} {cs : Nat → ClassId} {ad : Nat → Nat} (hAd : adOK ad) (sz : Nat) {Ls : Nat → SL} {Hs T M : SL} {dr hs o : Int64} {od : UInt64} {x1 : Int32} {x2 : Int32} {res : Sum (Int32 × (Nat → SL) × SL) Nat} (h : f_X5_setCapacity Ls Hs x1 x2 = some res) {v : Int32} {w' : va_W} (hu : ∀ u : Int32 × (Nat → SL) × SL, res = Sum.inl u → v = 0 ∧ w' = wA cs ad u.2.1 u.2.2 T M dr hs (u.1 : Int32).toInt64 od) (hk : ∀ k : Nat, res = Sum.inr k → w' = wA cs ad Ls Hs T M dr hs o od ∧ ((k = 3 ∧ v = 1) ∨ (k = 1 ∧ v = 2))) : Met l yL_setCapacity wsW_setCapacity rmL_setCapacity (PW D cs ad sz (wA cs ad Ls Hs T M dr hs o od) [.ref (ad 0), .int x1, .int x2, .ref (ad 95)]) (va_Qi (fun r' (_ : Unit) => r' = v) (fun _ t => va_P D vwCl w' t.heap) (Afr ad sz)) 2 12 (Afr ad sz) :=
  k_metW (by decide) rfl (Nat.le_of_ble_eq_true rfl) hAd (fun p e s m below meth c ls C G X N Y ht hP hsz hl hS => by
    subst hsz
    refine lv_aload_n C.1 C.2.1 dL_setCapacity_0 rfl (lv_at hl 3 rfl) ?_
    refine lv_iconst (v := 0) C.1 C.2.1 dL_setCapacity_1 (by decide) ?_
    refine lv_aload_n C.1 C.2.1 dL_setCapacity_2 rfl (lv_at hl 0 rfl) ?_
    refine lv_iload_n C.1 C.2.1 dL_setCapacity_3 rfl (lv_at hl 1 rfl) ?_
    refine lv_iload_n C.1 C.2.1 dL_setCapacity_4 rfl (lv_at hl 2 rfl) ?_
    refine k_callXVi C G X hP hS (m_X5_setCapacity l hfl G.2.1 _ h) g_obj rfl (cwV 2 C.2.2.2.2.2.1 (lwG_cons wg_X5_setCapacity) rfl rfl rfl (by decide +kernel) ⟨Nat.le_of_ble_eq_true rfl, Nat.le_of_ble_eq_true rfl⟩) (As := [.int x1, .int x2]) rfl hl.1 rfl (Nat.le_of_ble_eq_true rfl) dL_setCapacity_5 ⟨Nat.le_of_ble_eq_true rfl, Nat.le_of_ble_eq_true rfl⟩ (fun k E ce q9 H locs er hE hP hS hcell hv hcl => ?_) (fun H locs u er hP hS => ?_)
    · obtain ⟨rfl, hk2⟩ := hk k er
      rcases hk2 with ⟨rfl, rfl⟩ | ⟨rfl, rfl⟩
      · subst hE
        refine vx_catch (name := exN 3) C.2.2.2.2.1 [] ⟨0, 10, 13, 21⟩ [⟨0, 10, 17, 13⟩] (ht.trans rfl) (fun z hz => absurd hz List.not_mem_nil) rfl (by decide) (C.2.2.2.2.2.1 _ (List.mem_cons_of_mem _ lc3)) (YC.at Y (by decide) (by decide)) hcell hv hcl ?_
        refine lv_astore (lv' := [(4, .ref q9), (0, .ref (ad 0)), (1, .int x1), (2, .int x2), (3, .ref (ad 95))]) C.1 C.2.1 dL_setCapacity_13 hl (by decide) rfl (fun ls hl => ?_)
        refine lv_iconst (v := 1) C.1 C.2.1 dL_setCapacity_15 (by decide) ?_
        refine W.widen (k := 2) (n := 12) (by omega) (by omega) ?_
        exact k_iret C hP hS dL_setCapacity_16
      · subst hE
        refine vx_catch (name := exN 1) C.2.2.2.2.1 [⟨0, 10, 13, 21⟩] ⟨0, 10, 17, 13⟩ [] (ht.trans rfl) (fun z hz => Or.inr (by rw [List.mem_singleton.mp hz]; exact ⟨by decide, exN 3, C.2.2.2.2.2.1 _ (List.mem_cons_of_mem _ lc3), N 1 3 (by decide) (by decide) (by decide) (by decide) (by decide)⟩)) rfl (by decide) (C.2.2.2.2.2.1 _ (List.mem_cons_of_mem _ lc1)) (YC.at Y (by decide) (by decide)) hcell hv hcl ?_
        refine lv_astore (lv' := [(4, .ref q9), (0, .ref (ad 0)), (1, .int x1), (2, .int x2), (3, .ref (ad 95))]) C.1 C.2.1 dL_setCapacity_17 hl (by decide) rfl (fun ls hl => ?_)
        refine lv_iconst (v := 2) C.1 C.2.1 dL_setCapacity_19 (by decide) ?_
        refine W.widen (k := 2) (n := 12) (by omega) (by omega) ?_
        exact k_iret C hP hS dL_setCapacity_20
    · obtain ⟨rfl, rfl⟩ := hu u er
      have hP : va_P D vwCl (wA cs ad u.2.1 u.2.2 T M dr hs o od) H := hP
      refine k_i2l C rfl dL_setCapacity_8 ?_
      refine k_lastO C G hP hS dL_setCapacity_9 (fun H locs hP hS => ?_)
      refine lv_goto (tgt := 21) C.1 C.2.1 dL_setCapacity_10 (by decide) ?_
      refine lv_iconst (v := 0) C.1 C.2.1 dL_setCapacity_21 (by decide) ?_
      refine W.widen (k := 2) (n := 12) (by omega) (by omega) ?_
      exact k_iret C hP hS dL_setCapacity_22)
abbrev rmL_addStop : Room := { frames := 8, cells := 2, slots := 12, locals := 140 }
def wsW_addStop : List Cond := Cond.codeWith yL_addStop cL_addStop 6 (some .int) [(0, 12, 15, 21), (0, 12, 19, 13), (0, 12, 23, 15)] :: lwG
set_option maxRecDepth 100000 in
set_option maxHeartbeats 4000000 in
theorem m_L_addStop (l : Launch) (hfl : l.stackTraces = false) {D : va_G} {cs : Nat → ClassId} {ad : Nat → Nat} (hAd : adOK ad) (sz : Nat) {Ls : Nat → SL} {Hs T M : SL} {dr hs o : Int64} {od : UInt64} {x1 : Int32} {x2 : Int32} {x3 : Int32} {res : Sum (Int32 × (Nat → SL) × SL) Nat} (h : f_X5_addStop Ls Hs x1 x2 x3 = some res) {v : Int32} {w' : va_W} (hu : ∀ u : Int32 × (Nat → SL) × SL, res = Sum.inl u → v = 0 ∧ w' = wA cs ad u.2.1 u.2.2 T M dr hs (u.1 : Int32).toInt64 od) (hk : ∀ k : Nat, res = Sum.inr k → w' = wA cs ad Ls Hs T M dr hs o od ∧ ((k = 3 ∧ v = 1) ∨ (k = 1 ∧ v = 2) ∨ (k = 2 ∧ v = 3))) : Met l yL_addStop wsW_addStop rmL_addStop (PW D cs ad sz (wA cs ad Ls Hs T M dr hs o od) [.ref (ad 0), .int x1, .int x2, .int x3, .ref (ad 95)]) (va_Qi (fun r' (_ : Unit) => r' = v) (fun _ t => va_P D vwCl w' t.heap) (Afr ad sz)) 2 12 (Afr ad sz) :=
  k_metW (by decide) rfl (Nat.le_of_ble_eq_true rfl) hAd (fun p e s m below meth c ls C G X N Y ht hP hsz hl hS => by
    subst hsz
    refine lv_aload C.1 C.2.1 dL_addStop_0 (lv_at hl 4 rfl) ?_
    refine lv_iconst (v := 0) C.1 C.2.1 dL_addStop_2 (by decide) ?_
    refine lv_aload_n C.1 C.2.1 dL_addStop_3 rfl (lv_at hl 0 rfl) ?_
    refine lv_iload_n C.1 C.2.1 dL_addStop_4 rfl (lv_at hl 1 rfl) ?_
    refine lv_iload_n C.1 C.2.1 dL_addStop_5 rfl (lv_at hl 2 rfl) ?_
    refine lv_iload_n C.1 C.2.1 dL_addStop_6 rfl (lv_at hl 3 rfl) ?_
    refine k_callXVi C G X hP hS (m_X5_addStop l hfl G.2.1 _ h) g_obj rfl (cwV 3 C.2.2.2.2.2.1 (lwG_cons wg_X5_addStop) rfl rfl rfl (by decide +kernel) ⟨Nat.le_of_ble_eq_true rfl, Nat.le_of_ble_eq_true rfl⟩) (As := [.int x1, .int x2, .int x3]) rfl hl.1 rfl (Nat.le_of_ble_eq_true rfl) dL_addStop_7 ⟨Nat.le_of_ble_eq_true rfl, Nat.le_of_ble_eq_true rfl⟩ (fun k E ce q9 H locs er hE hP hS hcell hv hcl => ?_) (fun H locs u er hP hS => ?_)
    · obtain ⟨rfl, hk2⟩ := hk k er
      rcases hk2 with ⟨rfl, rfl⟩ | ⟨rfl, rfl⟩ | ⟨rfl, rfl⟩
      · subst hE
        refine vx_catch (name := exN 3) C.2.2.2.2.1 [] ⟨0, 12, 15, 21⟩ [⟨0, 12, 19, 13⟩, ⟨0, 12, 23, 15⟩] (ht.trans rfl) (fun z hz => absurd hz List.not_mem_nil) rfl (by decide) (C.2.2.2.2.2.1 _ (List.mem_cons_of_mem _ lc3)) (YC.at Y (by decide) (by decide)) hcell hv hcl ?_
        refine lv_astore (lv' := [(5, .ref q9), (0, .ref (ad 0)), (1, .int x1), (2, .int x2), (3, .int x3), (4, .ref (ad 95))]) C.1 C.2.1 dL_addStop_15 hl (by decide) rfl (fun ls hl => ?_)
        refine lv_iconst (v := 1) C.1 C.2.1 dL_addStop_17 (by decide) ?_
        refine W.widen (k := 2) (n := 12) (by omega) (by omega) ?_
        exact k_iret C hP hS dL_addStop_18
      · subst hE
        refine vx_catch (name := exN 1) C.2.2.2.2.1 [⟨0, 12, 15, 21⟩] ⟨0, 12, 19, 13⟩ [⟨0, 12, 23, 15⟩] (ht.trans rfl) (fun z hz => Or.inr (by rw [List.mem_singleton.mp hz]; exact ⟨by decide, exN 3, C.2.2.2.2.2.1 _ (List.mem_cons_of_mem _ lc3), N 1 3 (by decide) (by decide) (by decide) (by decide) (by decide)⟩)) rfl (by decide) (C.2.2.2.2.2.1 _ (List.mem_cons_of_mem _ lc1)) (YC.at Y (by decide) (by decide)) hcell hv hcl ?_
        refine lv_astore (lv' := [(5, .ref q9), (0, .ref (ad 0)), (1, .int x1), (2, .int x2), (3, .int x3), (4, .ref (ad 95))]) C.1 C.2.1 dL_addStop_19 hl (by decide) rfl (fun ls hl => ?_)
        refine lv_iconst (v := 2) C.1 C.2.1 dL_addStop_21 (by decide) ?_
        refine W.widen (k := 2) (n := 12) (by omega) (by omega) ?_
        exact k_iret C hP hS dL_addStop_22
      · subst hE
        refine vx_catch (name := exN 2) C.2.2.2.2.1 [⟨0, 12, 15, 21⟩, ⟨0, 12, 19, 13⟩] ⟨0, 12, 23, 15⟩ [] (ht.trans rfl) (fun z hz => Or.inr (by
          rcases List.mem_cons.mp hz with rfl | hz
          · exact ⟨by decide, exN 3, C.2.2.2.2.2.1 _ (List.mem_cons_of_mem _ lc3), N 2 3 (by decide) (by decide) (by decide) (by decide) (by decide)⟩
          · rw [List.mem_singleton.mp hz]
            exact ⟨by decide, exN 1, C.2.2.2.2.2.1 _ (List.mem_cons_of_mem _ lc1), N 2 1 (by decide) (by decide) (by decide) (by decide) (by decide)⟩)) rfl (by decide) (C.2.2.2.2.2.1 _ (List.mem_cons_of_mem _ lc2)) (YC.at Y (by decide) (by decide)) hcell hv hcl ?_
        refine lv_astore (lv' := [(5, .ref q9), (0, .ref (ad 0)), (1, .int x1), (2, .int x2), (3, .int x3), (4, .ref (ad 95))]) C.1 C.2.1 dL_addStop_23 hl (by decide) rfl (fun ls hl => ?_)
        refine lv_iconst (v := 3) C.1 C.2.1 dL_addStop_25 (by decide) ?_
        refine W.widen (k := 2) (n := 12) (by omega) (by omega) ?_
        exact k_iret C hP hS dL_addStop_26
    · obtain ⟨rfl, rfl⟩ := hu u er
      have hP : va_P D vwCl (wA cs ad u.2.1 u.2.2 T M dr hs o od) H := hP
      refine k_i2l C rfl dL_addStop_10 ?_
      refine k_lastO C G hP hS dL_addStop_11 (fun H locs hP hS => ?_)
      refine lv_goto (tgt := 27) C.1 C.2.1 dL_addStop_12 (by decide) ?_
      refine lv_iconst (v := 0) C.1 C.2.1 dL_addStop_27 (by decide) ?_
      refine W.widen (k := 2) (n := 12) (by omega) (by omega) ?_
      exact k_iret C hP hS dL_addStop_28)
abbrev rmL_addRandomStops : Room := { frames := 8, cells := 2, slots := 12, locals := 147 }
def wsW_addRandomStops : List Cond := Cond.codeWith yL_addRandomStops cL_addRandomStops 8 (some .int) [(0, 16, 19, 21), (0, 16, 23, 13), (0, 16, 27, 15)] :: lwG
set_option maxRecDepth 100000 in
set_option maxHeartbeats 4000000 in
theorem m_L_addRandomStops (l : Launch) (hfl : l.stackTraces = false) {D : va_G} {cs : Nat → ClassId} {ad : Nat → Nat} (hAd : adOK ad) (sz : Nat) {Ls : Nat → SL} {Hs T M : SL} {dr hs o : Int64} {od : UInt64} {x1 : Int32} {x2 : Int32} {x3 : Int32} {x4 : Int32} {x5 : Int32} {res : Sum (Int32 × (Nat → SL) × SL) Nat} (h : f_X5_addRandomStops Ls Hs x1 x2 x3 x4 x5 = some res) {v : Int32} {w' : va_W} (hu : ∀ u : Int32 × (Nat → SL) × SL, res = Sum.inl u → v = 0 ∧ w' = wA cs ad u.2.1 u.2.2 T M dr hs (u.1 : Int32).toInt64 od) (hk : ∀ k : Nat, res = Sum.inr k → w' = wA cs ad Ls Hs T M dr hs o od ∧ ((k = 3 ∧ v = 1) ∨ (k = 1 ∧ v = 2) ∨ (k = 2 ∧ v = 3))) : Met l yL_addRandomStops wsW_addRandomStops rmL_addRandomStops (PW D cs ad sz (wA cs ad Ls Hs T M dr hs o od) [.ref (ad 0), .int x1, .int x2, .int x3, .int x4, .int x5, .ref (ad 95)]) (va_Qi (fun r' (_ : Unit) => r' = v) (fun _ t => va_P D vwCl w' t.heap) (Afr ad sz)) 2 12 (Afr ad sz) :=
  k_metW (by decide) rfl (Nat.le_of_ble_eq_true rfl) hAd (fun p e s m below meth c ls C G X N Y ht hP hsz hl hS => by
    subst hsz
    refine lv_aload C.1 C.2.1 dL_addRandomStops_0 (lv_at hl 6 rfl) ?_
    refine lv_iconst (v := 0) C.1 C.2.1 dL_addRandomStops_2 (by decide) ?_
    refine lv_aload_n C.1 C.2.1 dL_addRandomStops_3 rfl (lv_at hl 0 rfl) ?_
    refine lv_iload_n C.1 C.2.1 dL_addRandomStops_4 rfl (lv_at hl 1 rfl) ?_
    refine lv_iload_n C.1 C.2.1 dL_addRandomStops_5 rfl (lv_at hl 2 rfl) ?_
    refine lv_iload_n C.1 C.2.1 dL_addRandomStops_6 rfl (lv_at hl 3 rfl) ?_
    refine lv_iload C.1 C.2.1 dL_addRandomStops_7 (lv_at hl 4 rfl) ?_
    refine lv_iload C.1 C.2.1 dL_addRandomStops_9 (lv_at hl 5 rfl) ?_
    refine k_callXVi C G X hP hS (m_X5_addRandomStops l hfl G.2.1 _ h) g_obj rfl (cwV 5 C.2.2.2.2.2.1 (lwG_cons wg_X5_addRandomStops) rfl rfl rfl (by decide +kernel) ⟨Nat.le_of_ble_eq_true rfl, Nat.le_of_ble_eq_true rfl⟩) (As := [.int x1, .int x2, .int x3, .int x4, .int x5]) rfl hl.1 rfl (Nat.le_of_ble_eq_true rfl) dL_addRandomStops_11 ⟨Nat.le_of_ble_eq_true rfl, Nat.le_of_ble_eq_true rfl⟩ (fun k E ce q9 H locs er hE hP hS hcell hv hcl => ?_) (fun H locs u er hP hS => ?_)
    · obtain ⟨rfl, hk2⟩ := hk k er
      rcases hk2 with ⟨rfl, rfl⟩ | ⟨rfl, rfl⟩ | ⟨rfl, rfl⟩
      · subst hE
        refine vx_catch (name := exN 3) C.2.2.2.2.1 [] ⟨0, 16, 19, 21⟩ [⟨0, 16, 23, 13⟩, ⟨0, 16, 27, 15⟩] (ht.trans rfl) (fun z hz => absurd hz List.not_mem_nil) rfl (by decide) (C.2.2.2.2.2.1 _ (List.mem_cons_of_mem _ lc3)) (YC.at Y (by decide) (by decide)) hcell hv hcl ?_
        refine lv_astore (lv' := [(7, .ref q9), (0, .ref (ad 0)), (1, .int x1), (2, .int x2), (3, .int x3), (4, .int x4), (5, .int x5), (6, .ref (ad 95))]) C.1 C.2.1 dL_addRandomStops_19 hl (by decide) rfl (fun ls hl => ?_)
        refine lv_iconst (v := 1) C.1 C.2.1 dL_addRandomStops_21 (by decide) ?_
        refine W.widen (k := 2) (n := 12) (by omega) (by omega) ?_
        exact k_iret C hP hS dL_addRandomStops_22
      · subst hE
        refine vx_catch (name := exN 1) C.2.2.2.2.1 [⟨0, 16, 19, 21⟩] ⟨0, 16, 23, 13⟩ [⟨0, 16, 27, 15⟩] (ht.trans rfl) (fun z hz => Or.inr (by rw [List.mem_singleton.mp hz]; exact ⟨by decide, exN 3, C.2.2.2.2.2.1 _ (List.mem_cons_of_mem _ lc3), N 1 3 (by decide) (by decide) (by decide) (by decide) (by decide)⟩)) rfl (by decide) (C.2.2.2.2.2.1 _ (List.mem_cons_of_mem _ lc1)) (YC.at Y (by decide) (by decide)) hcell hv hcl ?_
        refine lv_astore (lv' := [(7, .ref q9), (0, .ref (ad 0)), (1, .int x1), (2, .int x2), (3, .int x3), (4, .int x4), (5, .int x5), (6, .ref (ad 95))]) C.1 C.2.1 dL_addRandomStops_23 hl (by decide) rfl (fun ls hl => ?_)
        refine lv_iconst (v := 2) C.1 C.2.1 dL_addRandomStops_25 (by decide) ?_
        refine W.widen (k := 2) (n := 12) (by omega) (by omega) ?_
        exact k_iret C hP hS dL_addRandomStops_26
      · subst hE
        refine vx_catch (name := exN 2) C.2.2.2.2.1 [⟨0, 16, 19, 21⟩, ⟨0, 16, 23, 13⟩] ⟨0, 16, 27, 15⟩ [] (ht.trans rfl) (fun z hz => Or.inr (by
          rcases List.mem_cons.mp hz with rfl | hz
          · exact ⟨by decide, exN 3, C.2.2.2.2.2.1 _ (List.mem_cons_of_mem _ lc3), N 2 3 (by decide) (by decide) (by decide) (by decide) (by decide)⟩
          · rw [List.mem_singleton.mp hz]
            exact ⟨by decide, exN 1, C.2.2.2.2.2.1 _ (List.mem_cons_of_mem _ lc1), N 2 1 (by decide) (by decide) (by decide) (by decide) (by decide)⟩)) rfl (by decide) (C.2.2.2.2.2.1 _ (List.mem_cons_of_mem _ lc2)) (YC.at Y (by decide) (by decide)) hcell hv hcl ?_
        refine lv_astore (lv' := [(7, .ref q9), (0, .ref (ad 0)), (1, .int x1), (2, .int x2), (3, .int x3), (4, .int x4), (5, .int x5), (6, .ref (ad 95))]) C.1 C.2.1 dL_addRandomStops_27 hl (by decide) rfl (fun ls hl => ?_)
        refine lv_iconst (v := 3) C.1 C.2.1 dL_addRandomStops_29 (by decide) ?_
        refine W.widen (k := 2) (n := 12) (by omega) (by omega) ?_
        exact k_iret C hP hS dL_addRandomStops_30
    · obtain ⟨rfl, rfl⟩ := hu u er
      have hP : va_P D vwCl (wA cs ad u.2.1 u.2.2 T M dr hs o od) H := hP
      refine k_i2l C rfl dL_addRandomStops_14 ?_
      refine k_lastO C G hP hS dL_addRandomStops_15 (fun H locs hP hS => ?_)
      refine lv_goto (tgt := 31) C.1 C.2.1 dL_addRandomStops_16 (by decide) ?_
      refine lv_iconst (v := 0) C.1 C.2.1 dL_addRandomStops_31 (by decide) ?_
      refine W.widen (k := 2) (n := 12) (by omega) (by omega) ?_
      exact k_iret C hP hS dL_addRandomStops_32)
abbrev rmL_stop : Room := { frames := 8, cells := 1, slots := 6, locals := 139 }
def wsW_stop : List Cond := Cond.codeWith yL_stop cL_stop 5 (some .int) [(0, 10, 13, 21), (0, 10, 17, 13)] :: lwG
set_option maxRecDepth 100000 in
set_option maxHeartbeats 4000000 in
theorem m_L_stop (l : Launch) (hfl : l.stackTraces = false) {D : va_G} {cs : Nat → ClassId} {ad : Nat → Nat} (hAd : adOK ad) (sz : Nat) {Ls : Nat → SL} {Hs T M : SL} {dr hs o : Int64} {od : UInt64} {x1 : Int32} {x2 : Int32} {res : Sum (Int32) Nat} (h : f_X5_stop Ls x1 x2 = some res) {v : Int32} {w' : va_W} (hu : ∀ u : Int32, res = Sum.inl u → v = 0 ∧ w' = wA cs ad Ls Hs T M dr hs (u : Int32).toInt64 od) (hk : ∀ k : Nat, res = Sum.inr k → w' = wA cs ad Ls Hs T M dr hs o od ∧ ((k = 3 ∧ v = 1) ∨ (k = 1 ∧ v = 2))) : Met l yL_stop wsW_stop rmL_stop (PW D cs ad sz (wA cs ad Ls Hs T M dr hs o od) [.ref (ad 0), .int x1, .int x2, .ref (ad 95)]) (va_Qi (fun r' (_ : Unit) => r' = v) (fun _ t => va_P D vwCl w' t.heap) (Afr ad sz)) 1 6 (Afr ad sz) :=
  k_metW (by decide) rfl (Nat.le_of_ble_eq_true rfl) hAd (fun p e s m below meth c ls C G X N Y ht hP hsz hl hS => by
    subst hsz
    refine lv_aload_n C.1 C.2.1 dL_stop_0 rfl (lv_at hl 3 rfl) ?_
    refine lv_iconst (v := 0) C.1 C.2.1 dL_stop_1 (by decide) ?_
    refine lv_aload_n C.1 C.2.1 dL_stop_2 rfl (lv_at hl 0 rfl) ?_
    refine lv_iload_n C.1 C.2.1 dL_stop_3 rfl (lv_at hl 1 rfl) ?_
    refine lv_iload_n C.1 C.2.1 dL_stop_4 rfl (lv_at hl 2 rfl) ?_
    refine k_callXVi C G X hP hS (m_X5_stop l hfl G.2.1 _ h) g_obj rfl (cwV 2 C.2.2.2.2.2.1 (lwG_cons wg_X5_stop) rfl rfl rfl (by decide +kernel) ⟨Nat.le_of_ble_eq_true rfl, Nat.le_of_ble_eq_true rfl⟩) (As := [.int x1, .int x2]) rfl hl.1 rfl (Nat.le_of_ble_eq_true rfl) dL_stop_5 ⟨Nat.le_of_ble_eq_true rfl, Nat.le_of_ble_eq_true rfl⟩ (fun k E ce q9 H locs er hE hP hS hcell hv hcl => ?_) (fun H locs u er hP hS => ?_)
    · obtain ⟨rfl, hk2⟩ := hk k er
      rcases hk2 with ⟨rfl, rfl⟩ | ⟨rfl, rfl⟩
      · subst hE
        refine vx_catch (name := exN 3) C.2.2.2.2.1 [] ⟨0, 10, 13, 21⟩ [⟨0, 10, 17, 13⟩] (ht.trans rfl) (fun z hz => absurd hz List.not_mem_nil) rfl (by decide) (C.2.2.2.2.2.1 _ (List.mem_cons_of_mem _ lc3)) (YC.at Y (by decide) (by decide)) hcell hv hcl ?_
        refine lv_astore (lv' := [(4, .ref q9), (0, .ref (ad 0)), (1, .int x1), (2, .int x2), (3, .ref (ad 95))]) C.1 C.2.1 dL_stop_13 hl (by decide) rfl (fun ls hl => ?_)
        refine lv_iconst (v := 1) C.1 C.2.1 dL_stop_15 (by decide) ?_
        refine W.widen (k := 1) (n := 6) (by omega) (by omega) ?_
        exact k_iret C hP hS dL_stop_16
      · subst hE
        refine vx_catch (name := exN 1) C.2.2.2.2.1 [⟨0, 10, 13, 21⟩] ⟨0, 10, 17, 13⟩ [] (ht.trans rfl) (fun z hz => Or.inr (by rw [List.mem_singleton.mp hz]; exact ⟨by decide, exN 3, C.2.2.2.2.2.1 _ (List.mem_cons_of_mem _ lc3), N 1 3 (by decide) (by decide) (by decide) (by decide) (by decide)⟩)) rfl (by decide) (C.2.2.2.2.2.1 _ (List.mem_cons_of_mem _ lc1)) (YC.at Y (by decide) (by decide)) hcell hv hcl ?_
        refine lv_astore (lv' := [(4, .ref q9), (0, .ref (ad 0)), (1, .int x1), (2, .int x2), (3, .ref (ad 95))]) C.1 C.2.1 dL_stop_17 hl (by decide) rfl (fun ls hl => ?_)
        refine lv_iconst (v := 2) C.1 C.2.1 dL_stop_19 (by decide) ?_
        refine W.widen (k := 1) (n := 6) (by omega) (by omega) ?_
        exact k_iret C hP hS dL_stop_20
    · obtain ⟨rfl, rfl⟩ := hu u er
      have hP : va_P D vwCl (wA cs ad Ls Hs T M dr hs o od) H := hP
      refine k_i2l C rfl dL_stop_8 ?_
      refine k_lastO C G hP hS dL_stop_9 (fun H locs hP hS => ?_)
      refine lv_goto (tgt := 21) C.1 C.2.1 dL_stop_10 (by decide) ?_
      refine lv_iconst (v := 0) C.1 C.2.1 dL_stop_21 (by decide) ?_
      refine W.widen (k := 1) (n := 6) (by omega) (by omega) ?_
      exact k_iret C hP hS dL_stop_22)
abbrev rmL_run : Room := { frames := 8, cells := 2, slots := 12, locals := 139 }
def wsW_run : List Cond := Cond.codeWith yL_run cL_run 4 (some .int) [(0, 9, 12, 13), (0, 9, 15, 15)] :: lwG
set_option maxRecDepth 100000 in
set_option maxHeartbeats 4000000 in
theorem m_L_run (l : Launch) (hfl : l.stackTraces = false) {D : va_G} {cs : Nat → ClassId} {ad : Nat → Nat} (hAd : adOK ad) (sz : Nat) {Ls : Nat → SL} {Hs T M : SL} {dr hs o : Int64} {od : UInt64} {x1 : Int32} {res : Sum (Int32 × (Nat → SL) × SL) Nat} (h : f_X5_run Ls Hs x1 = some res) {v : Int32} {w' : va_W} (hu : ∀ u : Int32 × (Nat → SL) × SL, res = Sum.inl u → v = 0 ∧ w' = wA cs ad u.2.1 u.2.2 T M dr hs (u.1 : Int32).toInt64 od) (hk : ∀ k : Nat, res = Sum.inr k → w' = wA cs ad Ls Hs T M dr hs o od ∧ ((k = 1 ∧ v = 1) ∨ (k = 2 ∧ v = 2))) : Met l yL_run wsW_run rmL_run (PW D cs ad sz (wA cs ad Ls Hs T M dr hs o od) [.ref (ad 0), .int x1, .ref (ad 95)]) (va_Qi (fun r' (_ : Unit) => r' = v) (fun _ t => va_P D vwCl w' t.heap) (Afr ad sz)) 2 12 (Afr ad sz) :=
  k_metW (by decide) rfl (Nat.le_of_ble_eq_true rfl) hAd (fun p e s m below meth c ls C G X N Y ht hP hsz hl hS => by
    subst hsz
    refine lv_aload_n C.1 C.2.1 dL_run_0 rfl (lv_at hl 2 rfl) ?_
    refine lv_iconst (v := 0) C.1 C.2.1 dL_run_1 (by decide) ?_
    refine lv_aload_n C.1 C.2.1 dL_run_2 rfl (lv_at hl 0 rfl) ?_
    refine lv_iload_n C.1 C.2.1 dL_run_3 rfl (lv_at hl 1 rfl) ?_
    refine k_callXVi C G X hP hS (m_X5_run l hfl G.2.1 _ h) g_obj rfl (cwV 1 C.2.2.2.2.2.1 (lwG_cons wg_X5_run) rfl rfl rfl (by decide +kernel) ⟨Nat.le_of_ble_eq_true rfl, Nat.le_of_ble_eq_true rfl⟩) (As := [.int x1]) rfl hl.1 rfl (Nat.le_of_ble_eq_true rfl) dL_run_4 ⟨Nat.le_of_ble_eq_true rfl, Nat.le_of_ble_eq_true rfl⟩ (fun k E ce q9 H locs er hE hP hS hcell hv hcl => ?_) (fun H locs u er hP hS => ?_)
    · obtain ⟨rfl, hk2⟩ := hk k er
      rcases hk2 with ⟨rfl, rfl⟩ | ⟨rfl, rfl⟩
      · subst hE
        refine vx_catch (name := exN 1) C.2.2.2.2.1 [] ⟨0, 9, 12, 13⟩ [⟨0, 9, 15, 15⟩] (ht.trans rfl) (fun z hz => absurd hz List.not_mem_nil) rfl (by decide) (C.2.2.2.2.2.1 _ (List.mem_cons_of_mem _ lc1)) (YC.at Y (by decide) (by decide)) hcell hv hcl ?_
        refine lv_astore_n (lv' := [(3, .ref q9), (0, .ref (ad 0)), (1, .int x1), (2, .ref (ad 95))]) C.1 C.2.1 dL_run_12 rfl hl (by decide) rfl (fun ls hl => ?_)
        refine lv_iconst (v := 1) C.1 C.2.1 dL_run_13 (by decide) ?_
        refine W.widen (k := 2) (n := 12) (by omega) (by omega) ?_
        exact k_iret C hP hS dL_run_14
      · subst hE
        refine vx_catch (name := exN 2) C.2.2.2.2.1 [⟨0, 9, 12, 13⟩] ⟨0, 9, 15, 15⟩ [] (ht.trans rfl) (fun z hz => Or.inr (by rw [List.mem_singleton.mp hz]; exact ⟨by decide, exN 1, C.2.2.2.2.2.1 _ (List.mem_cons_of_mem _ lc1), N 2 1 (by decide) (by decide) (by decide) (by decide) (by decide)⟩)) rfl (by decide) (C.2.2.2.2.2.1 _ (List.mem_cons_of_mem _ lc2)) (YC.at Y (by decide) (by decide)) hcell hv hcl ?_
        refine lv_astore_n (lv' := [(3, .ref q9), (0, .ref (ad 0)), (1, .int x1), (2, .ref (ad 95))]) C.1 C.2.1 dL_run_15 rfl hl (by decide) rfl (fun ls hl => ?_)
        refine lv_iconst (v := 2) C.1 C.2.1 dL_run_16 (by decide) ?_
        refine W.widen (k := 2) (n := 12) (by omega) (by omega) ?_
        exact k_iret C hP hS dL_run_17
    · obtain ⟨rfl, rfl⟩ := hu u er
      have hP : va_P D vwCl (wA cs ad u.2.1 u.2.2 T M dr hs o od) H := hP
      refine k_i2l C rfl dL_run_7 ?_
      refine k_lastO C G hP hS dL_run_8 (fun H locs hP hS => ?_)
      refine lv_goto (tgt := 18) C.1 C.2.1 dL_run_9 (by decide) ?_
      refine lv_iconst (v := 0) C.1 C.2.1 dL_run_18 (by decide) ?_
      refine W.widen (k := 2) (n := 12) (by omega) (by omega) ?_
      exact k_iret C hP hS dL_run_19)
abbrev rmL_setting : Room := { frames := 8, cells := 2, slots := 12, locals := 139 }
def wsW_setting : List Cond := Cond.codeWith yL_setting cL_setting 5 (some .int) [(0, 10, 13, 21), (0, 10, 17, 13)] :: lwG
set_option maxRecDepth 100000 in
set_option maxHeartbeats 4000000 in
theorem m_L_setting (l : Launch) (hfl : l.stackTraces = false) {D : va_G} {cs : Nat → ClassId} {ad : Nat → Nat} (hAd : adOK ad) (sz : Nat) {Ls : Nat → SL} {Hs T M : SL} {dr hs o : Int64} {od : UInt64} {x1 : Int32} {x2 : Int32} {res : Sum (Int32) Nat} (h : f_X5_setting Ls x1 x2 = some res) {v : Int32} {w' : va_W} (hu : ∀ u : Int32, res = Sum.inl u → v = 0 ∧ w' = wA cs ad Ls Hs T M dr hs (u : Int32).toInt64 od) (hk : ∀ k : Nat, res = Sum.inr k → w' = wA cs ad Ls Hs T M dr hs o od ∧ ((k = 3 ∧ v = 1) ∨ (k = 1 ∧ v = 2))) : Met l yL_setting wsW_setting rmL_setting (PW D cs ad sz (wA cs ad Ls Hs T M dr hs o od) [.ref (ad 0), .int x1, .int x2, .ref (ad 95)]) (va_Qi (fun r' (_ : Unit) => r' = v) (fun _ t => va_P D vwCl w' t.heap) (Afr ad sz)) 2 12 (Afr ad sz) :=
  k_metW (by decide) rfl (Nat.le_of_ble_eq_true rfl) hAd (fun p e s m below meth c ls C G X N Y ht hP hsz hl hS => by
    subst hsz
    refine lv_aload_n C.1 C.2.1 dL_setting_0 rfl (lv_at hl 3 rfl) ?_
    refine lv_iconst (v := 0) C.1 C.2.1 dL_setting_1 (by decide) ?_
    refine lv_aload_n C.1 C.2.1 dL_setting_2 rfl (lv_at hl 0 rfl) ?_
    refine lv_iload_n C.1 C.2.1 dL_setting_3 rfl (lv_at hl 1 rfl) ?_
    refine lv_iload_n C.1 C.2.1 dL_setting_4 rfl (lv_at hl 2 rfl) ?_
    refine k_callXVi C G X hP hS (m_X5_setting l hfl G.2.1 _ h) g_obj rfl (cwV 2 C.2.2.2.2.2.1 (lwG_cons wg_X5_setting) rfl rfl rfl (by decide +kernel) ⟨Nat.le_of_ble_eq_true rfl, Nat.le_of_ble_eq_true rfl⟩) (As := [.int x1, .int x2]) rfl hl.1 rfl (Nat.le_of_ble_eq_true rfl) dL_setting_5 ⟨Nat.le_of_ble_eq_true rfl, Nat.le_of_ble_eq_true rfl⟩ (fun k E ce q9 H locs er hE hP hS hcell hv hcl => ?_) (fun H locs u er hP hS => ?_)
    · obtain ⟨rfl, hk2⟩ := hk k er
      rcases hk2 with ⟨rfl, rfl⟩ | ⟨rfl, rfl⟩
      · subst hE
        refine vx_catch (name := exN 3) C.2.2.2.2.1 [] ⟨0, 10, 13, 21⟩ [⟨0, 10, 17, 13⟩] (ht.trans rfl) (fun z hz => absurd hz List.not_mem_nil) rfl (by decide) (C.2.2.2.2.2.1 _ (List.mem_cons_of_mem _ lc3)) (YC.at Y (by decide) (by decide)) hcell hv hcl ?_
        refine lv_astore (lv' := [(4, .ref q9), (0, .ref (ad 0)), (1, .int x1), (2, .int x2), (3, .ref (ad 95))]) C.1 C.2.1 dL_setting_13 hl (by decide) rfl (fun ls hl => ?_)
        refine lv_iconst (v := 1) C.1 C.2.1 dL_setting_15 (by decide) ?_
        refine W.widen (k := 2) (n := 12) (by omega) (by omega) ?_
        exact k_iret C hP hS dL_setting_16
      · subst hE
        refine vx_catch (name := exN 1) C.2.2.2.2.1 [⟨0, 10, 13, 21⟩] ⟨0, 10, 17, 13⟩ [] (ht.trans rfl) (fun z hz => Or.inr (by rw [List.mem_singleton.mp hz]; exact ⟨by decide, exN 3, C.2.2.2.2.2.1 _ (List.mem_cons_of_mem _ lc3), N 1 3 (by decide) (by decide) (by decide) (by decide) (by decide)⟩)) rfl (by decide) (C.2.2.2.2.2.1 _ (List.mem_cons_of_mem _ lc1)) (YC.at Y (by decide) (by decide)) hcell hv hcl ?_
        refine lv_astore (lv' := [(4, .ref q9), (0, .ref (ad 0)), (1, .int x1), (2, .int x2), (3, .ref (ad 95))]) C.1 C.2.1 dL_setting_17 hl (by decide) rfl (fun ls hl => ?_)
        refine lv_iconst (v := 2) C.1 C.2.1 dL_setting_19 (by decide) ?_
        refine W.widen (k := 2) (n := 12) (by omega) (by omega) ?_
        exact k_iret C hP hS dL_setting_20
    · obtain ⟨rfl, rfl⟩ := hu u er
      have hP : va_P D vwCl (wA cs ad Ls Hs T M dr hs o od) H := hP
      refine k_i2l C rfl dL_setting_8 ?_
      refine k_lastO C G hP hS dL_setting_9 (fun H locs hP hS => ?_)
      refine lv_goto (tgt := 21) C.1 C.2.1 dL_setting_10 (by decide) ?_
      refine lv_iconst (v := 0) C.1 C.2.1 dL_setting_21 (by decide) ?_
      refine W.widen (k := 2) (n := 12) (by omega) (by omega) ?_
      exact k_iret C hP hS dL_setting_22)
abbrev rmL_machine : Room := { frames := 8, cells := 2, slots := 12, locals := 139 }
def wsW_machine : List Cond := Cond.codeWith yL_machine cL_machine 5 (some .int) [(0, 10, 13, 21), (0, 10, 17, 13)] :: lwG
set_option maxRecDepth 100000 in
set_option maxHeartbeats 4000000 in
theorem m_L_machine (l : Launch) (hfl : l.stackTraces = false) {D : va_G} {cs : Nat → ClassId} {ad : Nat → Nat} (hAd : adOK ad) (sz : Nat) {Ls : Nat → SL} {Hs T M : SL} {dr hs o : Int64} {od : UInt64} {x1 : Int32} {x2 : Int32} {res : Sum (Int32) Nat} (h : f_X5_machine Ls x1 x2 = some res) {v : Int32} {w' : va_W} (hu : ∀ u : Int32, res = Sum.inl u → v = 0 ∧ w' = wA cs ad Ls Hs T M dr hs (u : Int32).toInt64 od) (hk : ∀ k : Nat, res = Sum.inr k → w' = wA cs ad Ls Hs T M dr hs o od ∧ ((k = 3 ∧ v = 1) ∨ (k = 1 ∧ v = 2))) : Met l yL_machine wsW_machine rmL_machine (PW D cs ad sz (wA cs ad Ls Hs T M dr hs o od) [.ref (ad 0), .int x1, .int x2, .ref (ad 95)]) (va_Qi (fun r' (_ : Unit) => r' = v) (fun _ t => va_P D vwCl w' t.heap) (Afr ad sz)) 2 12 (Afr ad sz) :=
  k_metW (by decide) rfl (Nat.le_of_ble_eq_true rfl) hAd (fun p e s m below meth c ls C G X N Y ht hP hsz hl hS => by
    subst hsz
    refine lv_aload_n C.1 C.2.1 dL_machine_0 rfl (lv_at hl 3 rfl) ?_
    refine lv_iconst (v := 0) C.1 C.2.1 dL_machine_1 (by decide) ?_
    refine lv_aload_n C.1 C.2.1 dL_machine_2 rfl (lv_at hl 0 rfl) ?_
    refine lv_iload_n C.1 C.2.1 dL_machine_3 rfl (lv_at hl 1 rfl) ?_
    refine lv_iload_n C.1 C.2.1 dL_machine_4 rfl (lv_at hl 2 rfl) ?_
    refine k_callXVi C G X hP hS (m_X5_machine l hfl G.2.1 _ h) g_obj rfl (cwV 2 C.2.2.2.2.2.1 (lwG_cons wg_X5_machine) rfl rfl rfl (by decide +kernel) ⟨Nat.le_of_ble_eq_true rfl, Nat.le_of_ble_eq_true rfl⟩) (As := [.int x1, .int x2]) rfl hl.1 rfl (Nat.le_of_ble_eq_true rfl) dL_machine_5 ⟨Nat.le_of_ble_eq_true rfl, Nat.le_of_ble_eq_true rfl⟩ (fun k E ce q9 H locs er hE hP hS hcell hv hcl => ?_) (fun H locs u er hP hS => ?_)
    · obtain ⟨rfl, hk2⟩ := hk k er
      rcases hk2 with ⟨rfl, rfl⟩ | ⟨rfl, rfl⟩
      · subst hE
        refine vx_catch (name := exN 3) C.2.2.2.2.1 [] ⟨0, 10, 13, 21⟩ [⟨0, 10, 17, 13⟩] (ht.trans rfl) (fun z hz => absurd hz List.not_mem_nil) rfl (by decide) (C.2.2.2.2.2.1 _ (List.mem_cons_of_mem _ lc3)) (YC.at Y (by decide) (by decide)) hcell hv hcl ?_
        refine lv_astore (lv' := [(4, .ref q9), (0, .ref (ad 0)), (1, .int x1), (2, .int x2), (3, .ref (ad 95))]) C.1 C.2.1 dL_machine_13 hl (by decide) rfl (fun ls hl => ?_)
        refine lv_iconst (v := 1) C.1 C.2.1 dL_machine_15 (by decide) ?_
        refine W.widen (k := 2) (n := 12) (by omega) (by omega) ?_
        exact k_iret C hP hS dL_machine_16
      · subst hE
        refine vx_catch (name := exN 1) C.2.2.2.2.1 [⟨0, 10, 13, 21⟩] ⟨0, 10, 17, 13⟩ [] (ht.trans rfl) (fun z hz => Or.inr (by rw [List.mem_singleton.mp hz]; exact ⟨by decide, exN 3, C.2.2.2.2.2.1 _ (List.mem_cons_of_mem _ lc3), N 1 3 (by decide) (by decide) (by decide) (by decide) (by decide)⟩)) rfl (by decide) (C.2.2.2.2.2.1 _ (List.mem_cons_of_mem _ lc1)) (YC.at Y (by decide) (by decide)) hcell hv hcl ?_
        refine lv_astore (lv' := [(4, .ref q9), (0, .ref (ad 0)), (1, .int x1), (2, .int x2), (3, .ref (ad 95))]) C.1 C.2.1 dL_machine_17 hl (by decide) rfl (fun ls hl => ?_)
        refine lv_iconst (v := 2) C.1 C.2.1 dL_machine_19 (by decide) ?_
        refine W.widen (k := 2) (n := 12) (by omega) (by omega) ?_
        exact k_iret C hP hS dL_machine_20
    · obtain ⟨rfl, rfl⟩ := hu u er
      have hP : va_P D vwCl (wA cs ad Ls Hs T M dr hs o od) H := hP
      refine k_i2l C rfl dL_machine_8 ?_
      refine k_lastO C G hP hS dL_machine_9 (fun H locs hP hS => ?_)
      refine lv_goto (tgt := 21) C.1 C.2.1 dL_machine_10 (by decide) ?_
      refine lv_iconst (v := 0) C.1 C.2.1 dL_machine_21 (by decide) ?_
      refine W.widen (k := 2) (n := 12) (by omega) (by omega) ?_
      exact k_iret C hP hS dL_machine_22)
abbrev rmL_count : Room := { frames := 8, cells := 2, slots := 12, locals := 139 }
def wsW_count : List Cond := Cond.codeWith yL_count cL_count 5 (some .int) [(0, 10, 13, 21), (0, 10, 17, 13)] :: lwG
set_option maxRecDepth 100000 in
set_option maxHeartbeats 4000000 in
theorem m_L_count (l : Launch) (hfl : l.stackTraces = false) {D : va_G} {cs : Nat → ClassId} {ad : Nat → Nat} (hAd : adOK ad) (sz : Nat) {Ls : Nat → SL} {Hs T M : SL} {dr hs o : Int64} {od : UInt64} {x1 : Int32} {x2 : Int32} {res : Sum (Int32) Nat} (h : f_X5_count Ls x1 x2 = some res) {v : Int32} {w' : va_W} (hu : ∀ u : Int32, res = Sum.inl u → v = 0 ∧ w' = wA cs ad Ls Hs T M dr hs (u : Int32).toInt64 od) (hk : ∀ k : Nat, res = Sum.inr k → w' = wA cs ad Ls Hs T M dr hs o od ∧ ((k = 3 ∧ v = 1) ∨ (k = 1 ∧ v = 2))) : Met l yL_count wsW_count rmL_count (PW D cs ad sz (wA cs ad Ls Hs T M dr hs o od) [.ref (ad 0), .int x1, .int x2, .ref (ad 95)]) (va_Qi (fun r' (_ : Unit) => r' = v) (fun _ t => va_P D vwCl w' t.heap) (Afr ad sz)) 2 12 (Afr ad sz) :=
  k_metW (by decide) rfl (Nat.le_of_ble_eq_true rfl) hAd (fun p e s m below meth c ls C G X N Y ht hP hsz hl hS => by
    subst hsz
    refine lv_aload_n C.1 C.2.1 dL_count_0 rfl (lv_at hl 3 rfl) ?_
    refine lv_iconst (v := 0) C.1 C.2.1 dL_count_1 (by decide) ?_
    refine lv_aload_n C.1 C.2.1 dL_count_2 rfl (lv_at hl 0 rfl) ?_
    refine lv_iload_n C.1 C.2.1 dL_count_3 rfl (lv_at hl 1 rfl) ?_
    refine lv_iload_n C.1 C.2.1 dL_count_4 rfl (lv_at hl 2 rfl) ?_
    refine k_callXVi C G X hP hS (m_X5_count l hfl G.2.1 _ h) g_obj rfl (cwV 2 C.2.2.2.2.2.1 (lwG_cons wg_X5_count) rfl rfl rfl (by decide +kernel) ⟨Nat.le_of_ble_eq_true rfl, Nat.le_of_ble_eq_true rfl⟩) (As := [.int x1, .int x2]) rfl hl.1 rfl (Nat.le_of_ble_eq_true rfl) dL_count_5 ⟨Nat.le_of_ble_eq_true rfl, Nat.le_of_ble_eq_true rfl⟩ (fun k E ce q9 H locs er hE hP hS hcell hv hcl => ?_) (fun H locs u er hP hS => ?_)
    · obtain ⟨rfl, hk2⟩ := hk k er
      rcases hk2 with ⟨rfl, rfl⟩ | ⟨rfl, rfl⟩
      · subst hE
        refine vx_catch (name := exN 3) C.2.2.2.2.1 [] ⟨0, 10, 13, 21⟩ [⟨0, 10, 17, 13⟩] (ht.trans rfl) (fun z hz => absurd hz List.not_mem_nil) rfl (by decide) (C.2.2.2.2.2.1 _ (List.mem_cons_of_mem _ lc3)) (YC.at Y (by decide) (by decide)) hcell hv hcl ?_
        refine lv_astore (lv' := [(4, .ref q9), (0, .ref (ad 0)), (1, .int x1), (2, .int x2), (3, .ref (ad 95))]) C.1 C.2.1 dL_count_13 hl (by decide) rfl (fun ls hl => ?_)
        refine lv_iconst (v := 1) C.1 C.2.1 dL_count_15 (by decide) ?_
        refine W.widen (k := 2) (n := 12) (by omega) (by omega) ?_
        exact k_iret C hP hS dL_count_16
      · subst hE
        refine vx_catch (name := exN 1) C.2.2.2.2.1 [⟨0, 10, 13, 21⟩] ⟨0, 10, 17, 13⟩ [] (ht.trans rfl) (fun z hz => Or.inr (by rw [List.mem_singleton.mp hz]; exact ⟨by decide, exN 3, C.2.2.2.2.2.1 _ (List.mem_cons_of_mem _ lc3), N 1 3 (by decide) (by decide) (by decide) (by decide) (by decide)⟩)) rfl (by decide) (C.2.2.2.2.2.1 _ (List.mem_cons_of_mem _ lc1)) (YC.at Y (by decide) (by decide)) hcell hv hcl ?_
        refine lv_astore (lv' := [(4, .ref q9), (0, .ref (ad 0)), (1, .int x1), (2, .int x2), (3, .ref (ad 95))]) C.1 C.2.1 dL_count_17 hl (by decide) rfl (fun ls hl => ?_)
        refine lv_iconst (v := 2) C.1 C.2.1 dL_count_19 (by decide) ?_
        refine W.widen (k := 2) (n := 12) (by omega) (by omega) ?_
        exact k_iret C hP hS dL_count_20
    · obtain ⟨rfl, rfl⟩ := hu u er
      have hP : va_P D vwCl (wA cs ad Ls Hs T M dr hs o od) H := hP
      refine k_i2l C rfl dL_count_8 ?_
      refine k_lastO C G hP hS dL_count_9 (fun H locs hP hS => ?_)
      refine lv_goto (tgt := 21) C.1 C.2.1 dL_count_10 (by decide) ?_
      refine lv_iconst (v := 0) C.1 C.2.1 dL_count_21 (by decide) ?_
      refine W.widen (k := 2) (n := 12) (by omega) (by omega) ?_
      exact k_iret C hP hS dL_count_22)
abbrev rmL_meanFill : Room := { frames := 8, cells := 1, slots := 6, locals := 138 }
def wsW_meanFill : List Cond := Cond.codeWith yL_meanFill cL_meanFill 4 (some .int) [(0, 8, 11, 21)] :: lwG
set_option maxRecDepth 100000 in
set_option maxHeartbeats 4000000 in
theorem m_L_meanFill (l : Launch) (hfl : l.stackTraces = false) {D : va_G} {cs : Nat → ClassId} {ad : Nat → Nat} (hAd : adOK ad) (sz : Nat) {Ls : Nat → SL} {Hs T M : SL} {dr hs o : Int64} {od : UInt64} {x1 : Int32} {res : Sum (UInt64) Nat} (h : f_X5_meanFill Ls x1 = some res) {v : Int32} {w' : va_W} (hu : ∀ u : UInt64, res = Sum.inl u → v = 0 ∧ w' = wA cs ad Ls Hs T M dr hs o u) (hk : ∀ k : Nat, res = Sum.inr k → w' = wA cs ad Ls Hs T M dr hs o od ∧ ((k = 3 ∧ v = 1))) : Met l yL_meanFill wsW_meanFill rmL_meanFill (PW D cs ad sz (wA cs ad Ls Hs T M dr hs o od) [.ref (ad 0), .int x1, .ref (ad 96)]) (va_Qi (fun r' (_ : Unit) => r' = v) (fun _ t => va_P D vwCl w' t.heap) (Afr ad sz)) 1 6 (Afr ad sz) :=
  k_metW (by decide) rfl (Nat.le_of_ble_eq_true rfl) hAd (fun p e s m below meth c ls C G X N Y ht hP hsz hl hS => by
    subst hsz
    refine lv_aload_n C.1 C.2.1 dL_meanFill_0 rfl (lv_at hl 2 rfl) ?_
    refine lv_iconst (v := 0) C.1 C.2.1 dL_meanFill_1 (by decide) ?_
    refine lv_aload_n C.1 C.2.1 dL_meanFill_2 rfl (lv_at hl 0 rfl) ?_
    refine lv_iload_n C.1 C.2.1 dL_meanFill_3 rfl (lv_at hl 1 rfl) ?_
    refine k_callXVd C G X hP hS (m_X5_meanFill l hfl G.2.1 _ h) g_obj rfl (cwV 1 C.2.2.2.2.2.1 (lwG_cons wg_X5_meanFill) rfl rfl rfl (by decide +kernel) ⟨Nat.le_of_ble_eq_true rfl, Nat.le_of_ble_eq_true rfl⟩) (As := [.int x1]) rfl hl.1 rfl (Nat.le_of_ble_eq_true rfl) dL_meanFill_4 ⟨Nat.le_of_ble_eq_true rfl, Nat.le_of_ble_eq_true rfl⟩ (fun k E ce q9 H locs er hE hP hS hcell hv hcl => ?_) (fun H locs u er hP hS => ?_)
    · obtain ⟨rfl, hk2⟩ := hk k er
      obtain ⟨rfl, rfl⟩ := hk2
      subst hE
      refine vx_catch (name := exN 3) C.2.2.2.2.1 [] ⟨0, 8, 11, 21⟩ [] (ht.trans rfl) (fun z hz => absurd hz List.not_mem_nil) rfl (by decide) (C.2.2.2.2.2.1 _ (List.mem_cons_of_mem _ lc3)) (YC.at Y (by decide) (by decide)) hcell hv hcl ?_
      refine lv_astore_n (lv' := [(3, .ref q9), (0, .ref (ad 0)), (1, .int x1), (2, .ref (ad 96))]) C.1 C.2.1 dL_meanFill_11 rfl hl (by decide) rfl (fun ls hl => ?_)
      refine lv_iconst (v := 1) C.1 C.2.1 dL_meanFill_12 (by decide) ?_
      refine W.widen (k := 1) (n := 6) (by omega) (by omega) ?_
      exact k_iret C hP hS dL_meanFill_13
    · obtain ⟨rfl, rfl⟩ := hu u er
      have hP : va_P D vwCl (wA cs ad Ls Hs T M dr hs o od) H := hP
      refine k_dastO C G hP hS dL_meanFill_7 (fun H locs hP hS => ?_)
      refine lv_goto (tgt := 14) C.1 C.2.1 dL_meanFill_8 (by decide) ?_
      refine lv_iconst (v := 0) C.1 C.2.1 dL_meanFill_14 (by decide) ?_
      refine W.widen (k := 1) (n := 6) (by omega) (by omega) ?_
      exact k_iret C hP hS dL_meanFill_15)
abbrev rmL_bound : Room := { frames := 8, cells := 2, slots := 12, locals := 144 }
def wsW_bound : List Cond := Cond.codeWith yL_bound cL_bound 4 (some .int) [(0, 9, 12, 13), (0, 9, 15, 15)] :: lwG
set_option maxRecDepth 100000 in
set_option maxHeartbeats 4000000 in
theorem m_L_bound (l : Launch) (hfl : l.stackTraces = false) {D : va_G} {cs : Nat → ClassId} {ad : Nat → Nat} (hAd : adOK ad) (sz : Nat) {Ls : Nat → SL} {Hs T M : SL} {dr hs o : Int64} {od : UInt64} {x1 : Int32} {res : Sum (Int32 × (Nat → SL)) Nat} (h : f_X5_bound Ls x1 = some res) {v : Int32} {w' : va_W} (hu : ∀ u : Int32 × (Nat → SL), res = Sum.inl u → v = 0 ∧ w' = wA cs ad u.2 Hs T M dr hs (u.1 : Int32).toInt64 od) (hk : ∀ k : Nat, res = Sum.inr k → w' = wA cs ad Ls Hs T M dr hs o od ∧ ((k = 1 ∧ v = 1) ∨ (k = 2 ∧ v = 2))) : Met l yL_bound wsW_bound rmL_bound (PW D cs ad sz (wA cs ad Ls Hs T M dr hs o od) [.ref (ad 0), .int x1, .ref (ad 95)]) (va_Qi (fun r' (_ : Unit) => r' = v) (fun _ t => va_P D vwCl w' t.heap) (Afr ad sz)) 2 12 (Afr ad sz) :=
  k_metW (by decide) rfl (Nat.le_of_ble_eq_true rfl) hAd (fun p e s m below meth c ls C G X N Y ht hP hsz hl hS => by
    subst hsz
    refine lv_aload_n C.1 C.2.1 dL_bound_0 rfl (lv_at hl 2 rfl) ?_
    refine lv_iconst (v := 0) C.1 C.2.1 dL_bound_1 (by decide) ?_
    refine lv_aload_n C.1 C.2.1 dL_bound_2 rfl (lv_at hl 0 rfl) ?_
    refine lv_iload_n C.1 C.2.1 dL_bound_3 rfl (lv_at hl 1 rfl) ?_
    refine k_callXVi C G X hP hS (m_X5_bound l hfl G.2.1 _ h) g_obj rfl (cwV 1 C.2.2.2.2.2.1 (lwG_cons wg_X5_bound) rfl rfl rfl (by decide +kernel) ⟨Nat.le_of_ble_eq_true rfl, Nat.le_of_ble_eq_true rfl⟩) (As := [.int x1]) rfl hl.1 rfl (Nat.le_of_ble_eq_true rfl) dL_bound_4 ⟨Nat.le_of_ble_eq_true rfl, Nat.le_of_ble_eq_true rfl⟩ (fun k E ce q9 H locs er hE hP hS hcell hv hcl => ?_) (fun H locs u er hP hS => ?_)
    · obtain ⟨rfl, hk2⟩ := hk k er
      rcases hk2 with ⟨rfl, rfl⟩ | ⟨rfl, rfl⟩
      · subst hE
        refine vx_catch (name := exN 1) C.2.2.2.2.1 [] ⟨0, 9, 12, 13⟩ [⟨0, 9, 15, 15⟩] (ht.trans rfl) (fun z hz => absurd hz List.not_mem_nil) rfl (by decide) (C.2.2.2.2.2.1 _ (List.mem_cons_of_mem _ lc1)) (YC.at Y (by decide) (by decide)) hcell hv hcl ?_
        refine lv_astore_n (lv' := [(3, .ref q9), (0, .ref (ad 0)), (1, .int x1), (2, .ref (ad 95))]) C.1 C.2.1 dL_bound_12 rfl hl (by decide) rfl (fun ls hl => ?_)
        refine lv_iconst (v := 1) C.1 C.2.1 dL_bound_13 (by decide) ?_
        refine W.widen (k := 2) (n := 12) (by omega) (by omega) ?_
        exact k_iret C hP hS dL_bound_14
      · subst hE
        refine vx_catch (name := exN 2) C.2.2.2.2.1 [⟨0, 9, 12, 13⟩] ⟨0, 9, 15, 15⟩ [] (ht.trans rfl) (fun z hz => Or.inr (by rw [List.mem_singleton.mp hz]; exact ⟨by decide, exN 1, C.2.2.2.2.2.1 _ (List.mem_cons_of_mem _ lc1), N 2 1 (by decide) (by decide) (by decide) (by decide) (by decide)⟩)) rfl (by decide) (C.2.2.2.2.2.1 _ (List.mem_cons_of_mem _ lc2)) (YC.at Y (by decide) (by decide)) hcell hv hcl ?_
        refine lv_astore_n (lv' := [(3, .ref q9), (0, .ref (ad 0)), (1, .int x1), (2, .ref (ad 95))]) C.1 C.2.1 dL_bound_15 rfl hl (by decide) rfl (fun ls hl => ?_)
        refine lv_iconst (v := 2) C.1 C.2.1 dL_bound_16 (by decide) ?_
        refine W.widen (k := 2) (n := 12) (by omega) (by omega) ?_
        exact k_iret C hP hS dL_bound_17
    · obtain ⟨rfl, rfl⟩ := hu u er
      have hP : va_P D vwCl (wA cs ad u.2 Hs T M dr hs o od) H := hP
      refine k_i2l C rfl dL_bound_7 ?_
      refine k_lastO C G hP hS dL_bound_8 (fun H locs hP hS => ?_)
      refine lv_goto (tgt := 18) C.1 C.2.1 dL_bound_9 (by decide) ?_
      refine lv_iconst (v := 0) C.1 C.2.1 dL_bound_18 (by decide) ?_
      refine W.widen (k := 2) (n := 12) (by omega) (by omega) ?_
      exact k_iret C hP hS dL_bound_19)
abbrev rmL_limiting : Room := { frames := 8, cells := 1, slots := 6, locals := 137 }
def wsW_limiting : List Cond := Cond.codeWith yL_limiting cL_limiting 3 (some .int) [(0, 8, 11, 15)] :: lwG
set_option maxRecDepth 100000 in
set_option maxHeartbeats 4000000 in
theorem m_L_limiting (l : Launch) (hfl : l.stackTraces = false) {D : va_G} {cs : Nat → ClassId} {ad : Nat → Nat} (hAd : adOK ad) (sz : Nat) {Ls : Nat → SL} {Hs T M : SL} {dr hs o : Int64} {od : UInt64} {res : Sum (Int32) Nat} (h : f_X5_limiting Ls = some res) {v : Int32} {w' : va_W} (hu : ∀ u : Int32, res = Sum.inl u → v = 0 ∧ w' = wA cs ad Ls Hs T M dr hs (u : Int32).toInt64 od) (hk : ∀ k : Nat, res = Sum.inr k → w' = wA cs ad Ls Hs T M dr hs o od ∧ ((k = 2 ∧ v = 1))) : Met l yL_limiting wsW_limiting rmL_limiting (PW D cs ad sz (wA cs ad Ls Hs T M dr hs o od) [.ref (ad 0), .ref (ad 95)]) (va_Qi (fun r' (_ : Unit) => r' = v) (fun _ t => va_P D vwCl w' t.heap) (Afr ad sz)) 1 6 (Afr ad sz) :=
  k_metW (by decide) rfl (Nat.le_of_ble_eq_true rfl) hAd (fun p e s m below meth c ls C G X N Y ht hP hsz hl hS => by
    subst hsz
    refine lv_aload_n C.1 C.2.1 dL_limiting_0 rfl (lv_at hl 1 rfl) ?_
    refine lv_iconst (v := 0) C.1 C.2.1 dL_limiting_1 (by decide) ?_
    refine lv_aload_n C.1 C.2.1 dL_limiting_2 rfl (lv_at hl 0 rfl) ?_
    refine k_callXVi C G X hP hS (m_X5_limiting l hfl G.2.1 _ h) g_obj rfl (cwV 0 C.2.2.2.2.2.1 (lwG_cons wg_X5_limiting) rfl rfl rfl (by decide +kernel) ⟨Nat.le_of_ble_eq_true rfl, Nat.le_of_ble_eq_true rfl⟩) (As := []) rfl hl.1 rfl (Nat.le_of_ble_eq_true rfl) dL_limiting_3 ⟨Nat.le_of_ble_eq_true rfl, Nat.le_of_ble_eq_true rfl⟩ (fun k E ce q9 H locs er hE hP hS hcell hv hcl => ?_) (fun H locs u er hP hS => ?_)
    · obtain ⟨rfl, hk2⟩ := hk k er
      obtain ⟨rfl, rfl⟩ := hk2
      subst hE
      refine vx_catch (name := exN 2) C.2.2.2.2.1 [] ⟨0, 8, 11, 15⟩ [] (ht.trans rfl) (fun z hz => absurd hz List.not_mem_nil) rfl (by decide) (C.2.2.2.2.2.1 _ (List.mem_cons_of_mem _ lc2)) (YC.at Y (by decide) (by decide)) hcell hv hcl ?_
      refine lv_astore_n (lv' := [(2, .ref q9), (0, .ref (ad 0)), (1, .ref (ad 95))]) C.1 C.2.1 dL_limiting_11 rfl hl (by decide) rfl (fun ls hl => ?_)
      refine lv_iconst (v := 1) C.1 C.2.1 dL_limiting_12 (by decide) ?_
      refine W.widen (k := 1) (n := 6) (by omega) (by omega) ?_
      exact k_iret C hP hS dL_limiting_13
    · obtain ⟨rfl, rfl⟩ := hu u er
      have hP : va_P D vwCl (wA cs ad Ls Hs T M dr hs o od) H := hP
      refine k_i2l C rfl dL_limiting_6 ?_
      refine k_lastO C G hP hS dL_limiting_7 (fun H locs hP hS => ?_)
      refine lv_goto (tgt := 14) C.1 C.2.1 dL_limiting_8 (by decide) ?_
      refine lv_iconst (v := 0) C.1 C.2.1 dL_limiting_14 (by decide) ?_
      refine W.widen (k := 1) (n := 6) (by omega) (by omega) ?_
      exact k_iret C hP hS dL_limiting_15)
abbrev rmL_slowest : Room := { frames := 8, cells := 2, slots := 12, locals := 144 }
def wsW_slowest : List Cond := Cond.codeWith yL_slowest cL_slowest 4 (some .int) [(0, 9, 12, 13), (0, 9, 15, 15)] :: lwG
set_option maxRecDepth 100000 in
set_option maxHeartbeats 4000000 in
theorem m_L_slowest (l : Launch) (hfl : l.stackTraces = false) {D : va_G} {cs : Nat → ClassId} {ad : Nat → Nat} (hAd : adOK ad) (sz : Nat) {Ls : Nat → SL} {Hs T M : SL} {dr hs o : Int64} {od : UInt64} {x1 : Int32} {res : Sum (Int32 × (Nat → SL)) Nat} (h : f_X5_slowest Ls x1 = some res) {v : Int32} {w' : va_W} (hu : ∀ u : Int32 × (Nat → SL), res = Sum.inl u → v = 0 ∧ w' = wA cs ad u.2 Hs T M dr hs (u.1 : Int32).toInt64 od) (hk : ∀ k : Nat, res = Sum.inr k → w' = wA cs ad Ls Hs T M dr hs o od ∧ ((k = 1 ∧ v = 1) ∨ (k = 2 ∧ v = 2))) : Met l yL_slowest wsW_slowest rmL_slowest (PW D cs ad sz (wA cs ad Ls Hs T M dr hs o od) [.ref (ad 0), .int x1, .ref (ad 95)]) (va_Qi (fun r' (_ : Unit) => r' = v) (fun _ t => va_P D vwCl w' t.heap) (Afr ad sz)) 2 12 (Afr ad sz) :=
  k_metW (by decide) rfl (Nat.le_of_ble_eq_true rfl) hAd (fun p e s m below meth c ls C G X N Y ht hP hsz hl hS => by
    subst hsz
    refine lv_aload_n C.1 C.2.1 dL_slowest_0 rfl (lv_at hl 2 rfl) ?_
    refine lv_iconst (v := 0) C.1 C.2.1 dL_slowest_1 (by decide) ?_
    refine lv_aload_n C.1 C.2.1 dL_slowest_2 rfl (lv_at hl 0 rfl) ?_
    refine lv_iload_n C.1 C.2.1 dL_slowest_3 rfl (lv_at hl 1 rfl) ?_
    refine k_callXVi C G X hP hS (m_X5_slowest l hfl G.2.1 _ h) g_obj rfl (cwV 1 C.2.2.2.2.2.1 (lwG_cons wg_X5_slowest) rfl rfl rfl (by decide +kernel) ⟨Nat.le_of_ble_eq_true rfl, Nat.le_of_ble_eq_true rfl⟩) (As := [.int x1]) rfl hl.1 rfl (Nat.le_of_ble_eq_true rfl) dL_slowest_4 ⟨Nat.le_of_ble_eq_true rfl, Nat.le_of_ble_eq_true rfl⟩ (fun k E ce q9 H locs er hE hP hS hcell hv hcl => ?_) (fun H locs u er hP hS => ?_)
    · obtain ⟨rfl, hk2⟩ := hk k er
      rcases hk2 with ⟨rfl, rfl⟩ | ⟨rfl, rfl⟩
      · subst hE
        refine vx_catch (name := exN 1) C.2.2.2.2.1 [] ⟨0, 9, 12, 13⟩ [⟨0, 9, 15, 15⟩] (ht.trans rfl) (fun z hz => absurd hz List.not_mem_nil) rfl (by decide) (C.2.2.2.2.2.1 _ (List.mem_cons_of_mem _ lc1)) (YC.at Y (by decide) (by decide)) hcell hv hcl ?_
        refine lv_astore_n (lv' := [(3, .ref q9), (0, .ref (ad 0)), (1, .int x1), (2, .ref (ad 95))]) C.1 C.2.1 dL_slowest_12 rfl hl (by decide) rfl (fun ls hl => ?_)
        refine lv_iconst (v := 1) C.1 C.2.1 dL_slowest_13 (by decide) ?_
        refine W.widen (k := 2) (n := 12) (by omega) (by omega) ?_
        exact k_iret C hP hS dL_slowest_14
      · subst hE
        refine vx_catch (name := exN 2) C.2.2.2.2.1 [⟨0, 9, 12, 13⟩] ⟨0, 9, 15, 15⟩ [] (ht.trans rfl) (fun z hz => Or.inr (by rw [List.mem_singleton.mp hz]; exact ⟨by decide, exN 1, C.2.2.2.2.2.1 _ (List.mem_cons_of_mem _ lc1), N 2 1 (by decide) (by decide) (by decide) (by decide) (by decide)⟩)) rfl (by decide) (C.2.2.2.2.2.1 _ (List.mem_cons_of_mem _ lc2)) (YC.at Y (by decide) (by decide)) hcell hv hcl ?_
        refine lv_astore_n (lv' := [(3, .ref q9), (0, .ref (ad 0)), (1, .int x1), (2, .ref (ad 95))]) C.1 C.2.1 dL_slowest_15 rfl hl (by decide) rfl (fun ls hl => ?_)
        refine lv_iconst (v := 2) C.1 C.2.1 dL_slowest_16 (by decide) ?_
        refine W.widen (k := 2) (n := 12) (by omega) (by omega) ?_
        exact k_iret C hP hS dL_slowest_17
    · obtain ⟨rfl, rfl⟩ := hu u er
      have hP : va_P D vwCl (wA cs ad u.2 Hs T M dr hs o od) H := hP
      refine k_i2l C rfl dL_slowest_7 ?_
      refine k_lastO C G hP hS dL_slowest_8 (fun H locs hP hS => ?_)
      refine lv_goto (tgt := 18) C.1 C.2.1 dL_slowest_9 (by decide) ?_
      refine lv_iconst (v := 0) C.1 C.2.1 dL_slowest_18 (by decide) ?_
      refine W.widen (k := 2) (n := 12) (by omega) (by omega) ?_
      exact k_iret C hP hS dL_slowest_19)
abbrev rmL_outputWith : Room := { frames := 8, cells := 2, slots := 12, locals := 140 }
def wsW_outputWith : List Cond := Cond.codeWith yL_outputWith cL_outputWith 6 (some .int) [(0, 12, 15, 21), (0, 12, 19, 13)] :: lwG
set_option maxRecDepth 100000 in
set_option maxHeartbeats 4000000 in
theorem m_L_outputWith (l : Launch) (hfl : l.stackTraces = false) {D : va_G} {cs : Nat → ClassId} {ad : Nat → Nat} (hAd : adOK ad) (sz : Nat) {Ls : Nat → SL} {Hs T M : SL} {dr hs o : Int64} {od : UInt64} {x1 : Int32} {x2 : Int32} {x3 : Int32} {res : Sum (Int32 × (Nat → SL)) Nat} (h : f_X5_outputWith Ls x1 x2 x3 = some res) {v : Int32} {w' : va_W} (hu : ∀ u : Int32 × (Nat → SL), res = Sum.inl u → v = 0 ∧ w' = wA cs ad u.2 Hs T M dr hs (u.1 : Int32).toInt64 od) (hk : ∀ k : Nat, res = Sum.inr k → w' = wA cs ad Ls Hs T M dr hs o od ∧ ((k = 3 ∧ v = 1) ∨ (k = 1 ∧ v = 2))) : Met l yL_outputWith wsW_outputWith rmL_outputWith (PW D cs ad sz (wA cs ad Ls Hs T M dr hs o od) [.ref (ad 0), .int x1, .int x2, .int x3, .ref (ad 95)]) (va_Qi (fun r' (_ : Unit) => r' = v) (fun _ t => va_P D vwCl w' t.heap) (Afr ad sz)) 2 12 (Afr ad sz) :=
  k_metW (by decide) rfl (Nat.le_of_ble_eq_true rfl) hAd (fun p e s m below meth c ls C G X N Y ht hP hsz hl hS => by
    subst hsz
    refine lv_aload C.1 C.2.1 dL_outputWith_0 (lv_at hl 4 rfl) ?_
    refine lv_iconst (v := 0) C.1 C.2.1 dL_outputWith_2 (by decide) ?_
    refine lv_aload_n C.1 C.2.1 dL_outputWith_3 rfl (lv_at hl 0 rfl) ?_
    refine lv_iload_n C.1 C.2.1 dL_outputWith_4 rfl (lv_at hl 1 rfl) ?_
    refine lv_iload_n C.1 C.2.1 dL_outputWith_5 rfl (lv_at hl 2 rfl) ?_
    refine lv_iload_n C.1 C.2.1 dL_outputWith_6 rfl (lv_at hl 3 rfl) ?_
    refine k_callXVi C G X hP hS (m_X5_outputWith l hfl G.2.1 _ h) g_obj rfl (cwV 3 C.2.2.2.2.2.1 (lwG_cons wg_X5_outputWith) rfl rfl rfl (by decide +kernel) ⟨Nat.le_of_ble_eq_true rfl, Nat.le_of_ble_eq_true rfl⟩) (As := [.int x1, .int x2, .int x3]) rfl hl.1 rfl (Nat.le_of_ble_eq_true rfl) dL_outputWith_7 ⟨Nat.le_of_ble_eq_true rfl, Nat.le_of_ble_eq_true rfl⟩ (fun k E ce q9 H locs er hE hP hS hcell hv hcl => ?_) (fun H locs u er hP hS => ?_)
    · obtain ⟨rfl, hk2⟩ := hk k er
      rcases hk2 with ⟨rfl, rfl⟩ | ⟨rfl, rfl⟩
      · subst hE
        refine vx_catch (name := exN 3) C.2.2.2.2.1 [] ⟨0, 12, 15, 21⟩ [⟨0, 12, 19, 13⟩] (ht.trans rfl) (fun z hz => absurd hz List.not_mem_nil) rfl (by decide) (C.2.2.2.2.2.1 _ (List.mem_cons_of_mem _ lc3)) (YC.at Y (by decide) (by decide)) hcell hv hcl ?_
        refine lv_astore (lv' := [(5, .ref q9), (0, .ref (ad 0)), (1, .int x1), (2, .int x2), (3, .int x3), (4, .ref (ad 95))]) C.1 C.2.1 dL_outputWith_15 hl (by decide) rfl (fun ls hl => ?_)
        refine lv_iconst (v := 1) C.1 C.2.1 dL_outputWith_17 (by decide) ?_
        refine W.widen (k := 2) (n := 12) (by omega) (by omega) ?_
        exact k_iret C hP hS dL_outputWith_18
      · subst hE
        refine vx_catch (name := exN 1) C.2.2.2.2.1 [⟨0, 12, 15, 21⟩] ⟨0, 12, 19, 13⟩ [] (ht.trans rfl) (fun z hz => Or.inr (by rw [List.mem_singleton.mp hz]; exact ⟨by decide, exN 3, C.2.2.2.2.2.1 _ (List.mem_cons_of_mem _ lc3), N 1 3 (by decide) (by decide) (by decide) (by decide) (by decide)⟩)) rfl (by decide) (C.2.2.2.2.2.1 _ (List.mem_cons_of_mem _ lc1)) (YC.at Y (by decide) (by decide)) hcell hv hcl ?_
        refine lv_astore (lv' := [(5, .ref q9), (0, .ref (ad 0)), (1, .int x1), (2, .int x2), (3, .int x3), (4, .ref (ad 95))]) C.1 C.2.1 dL_outputWith_19 hl (by decide) rfl (fun ls hl => ?_)
        refine lv_iconst (v := 2) C.1 C.2.1 dL_outputWith_21 (by decide) ?_
        refine W.widen (k := 2) (n := 12) (by omega) (by omega) ?_
        exact k_iret C hP hS dL_outputWith_22
    · obtain ⟨rfl, rfl⟩ := hu u er
      have hP : va_P D vwCl (wA cs ad u.2 Hs T M dr hs o od) H := hP
      refine k_i2l C rfl dL_outputWith_10 ?_
      refine k_lastO C G hP hS dL_outputWith_11 (fun H locs hP hS => ?_)
      refine lv_goto (tgt := 23) C.1 C.2.1 dL_outputWith_12 (by decide) ?_
      refine lv_iconst (v := 0) C.1 C.2.1 dL_outputWith_23 (by decide) ?_
      refine W.widen (k := 2) (n := 12) (by omega) (by omega) ?_
      exact k_iret C hP hS dL_outputWith_24)
abbrev rmL_capacityFor : Room := { frames := 8, cells := 3, slots := 18, locals := 147 }
def wsW_capacityFor : List Cond := Cond.codeWith yL_capacityFor cL_capacityFor 6 (some .int) [(0, 12, 15, 21), (0, 12, 19, 13)] :: lwG
set_option maxRecDepth 100000 in
set_option maxHeartbeats 4000000 in
theorem m_L_capacityFor (l : Launch) (hfl : l.stackTraces = false) {D : va_G} {cs : Nat → ClassId} {ad : Nat → Nat} (hAd : adOK ad) (sz : Nat) {Ls : Nat → SL} {Hs T M : SL} {dr hs o : Int64} {od : UInt64} {x1 : Int32} {x2 : Int32} {x3 : Int32} {res : Sum (Int32 × (Nat → SL)) Nat} (h : f_X5_capacityFor Ls x1 x2 x3 = some res) {v : Int32} {w' : va_W} (hu : ∀ u : Int32 × (Nat → SL), res = Sum.inl u → v = 0 ∧ w' = wA cs ad u.2 Hs T M dr hs (u.1 : Int32).toInt64 od) (hk : ∀ k : Nat, res = Sum.inr k → w' = wA cs ad Ls Hs T M dr hs o od ∧ ((k = 3 ∧ v = 1) ∨ (k = 1 ∧ v = 2))) : Met l yL_capacityFor wsW_capacityFor rmL_capacityFor (PW D cs ad sz (wA cs ad Ls Hs T M dr hs o od) [.ref (ad 0), .int x1, .int x2, .int x3, .ref (ad 95)]) (va_Qi (fun r' (_ : Unit) => r' = v) (fun _ t => va_P D vwCl w' t.heap) (Afr ad sz)) 3 18 (Afr ad sz) :=
  k_metW (by decide) rfl (Nat.le_of_ble_eq_true rfl) hAd (fun p e s m below meth c ls C G X N Y ht hP hsz hl hS => by
    subst hsz
    refine lv_aload C.1 C.2.1 dL_capacityFor_0 (lv_at hl 4 rfl) ?_
    refine lv_iconst (v := 0) C.1 C.2.1 dL_capacityFor_2 (by decide) ?_
    refine lv_aload_n C.1 C.2.1 dL_capacityFor_3 rfl (lv_at hl 0 rfl) ?_
    refine lv_iload_n C.1 C.2.1 dL_capacityFor_4 rfl (lv_at hl 1 rfl) ?_
    refine lv_iload_n C.1 C.2.1 dL_capacityFor_5 rfl (lv_at hl 2 rfl) ?_
    refine lv_iload_n C.1 C.2.1 dL_capacityFor_6 rfl (lv_at hl 3 rfl) ?_
    refine k_callXVi C G X hP hS (m_X5_capacityFor l hfl G.2.1 _ h) g_obj rfl (cwV 3 C.2.2.2.2.2.1 (lwG_cons wg_X5_capacityFor) rfl rfl rfl (by decide +kernel) ⟨Nat.le_of_ble_eq_true rfl, Nat.le_of_ble_eq_true rfl⟩) (As := [.int x1, .int x2, .int x3]) rfl hl.1 rfl (Nat.le_of_ble_eq_true rfl) dL_capacityFor_7 ⟨Nat.le_of_ble_eq_true rfl, Nat.le_of_ble_eq_true rfl⟩ (fun k E ce q9 H locs er hE hP hS hcell hv hcl => ?_) (fun H locs u er hP hS => ?_)
    · obtain ⟨rfl, hk2⟩ := hk k er
      rcases hk2 with ⟨rfl, rfl⟩ | ⟨rfl, rfl⟩
      · subst hE
        refine vx_catch (name := exN 3) C.2.2.2.2.1 [] ⟨0, 12, 15, 21⟩ [⟨0, 12, 19, 13⟩] (ht.trans rfl) (fun z hz => absurd hz List.not_mem_nil) rfl (by decide) (C.2.2.2.2.2.1 _ (List.mem_cons_of_mem _ lc3)) (YC.at Y (by decide) (by decide)) hcell hv hcl ?_
        refine lv_astore (lv' := [(5, .ref q9), (0, .ref (ad 0)), (1, .int x1), (2, .int x2), (3, .int x3), (4, .ref (ad 95))]) C.1 C.2.1 dL_capacityFor_15 hl (by decide) rfl (fun ls hl => ?_)
        refine lv_iconst (v := 1) C.1 C.2.1 dL_capacityFor_17 (by decide) ?_
        refine W.widen (k := 3) (n := 18) (by omega) (by omega) ?_
        exact k_iret C hP hS dL_capacityFor_18
      · subst hE
        refine vx_catch (name := exN 1) C.2.2.2.2.1 [⟨0, 12, 15, 21⟩] ⟨0, 12, 19, 13⟩ [] (ht.trans rfl) (fun z hz => Or.inr (by rw [List.mem_singleton.mp hz]; exact ⟨by decide, exN 3, C.2.2.2.2.2.1 _ (List.mem_cons_of_mem _ lc3), N 1 3 (by decide) (by decide) (by decide) (by decide) (by decide)⟩)) rfl (by decide) (C.2.2.2.2.2.1 _ (List.mem_cons_of_mem _ lc1)) (YC.at Y (by decide) (by decide)) hcell hv hcl ?_
        refine lv_astore (lv' := [(5, .ref q9), (0, .ref (ad 0)), (1, .int x1), (2, .int x2), (3, .int x3), (4, .ref (ad 95))]) C.1 C.2.1 dL_capacityFor_19 hl (by decide) rfl (fun ls hl => ?_)
        refine lv_iconst (v := 2) C.1 C.2.1 dL_capacityFor_21 (by decide) ?_
        refine W.widen (k := 3) (n := 18) (by omega) (by omega) ?_
        exact k_iret C hP hS dL_capacityFor_22
    · obtain ⟨rfl, rfl⟩ := hu u er
      have hP : va_P D vwCl (wA cs ad u.2 Hs T M dr hs o od) H := hP
      refine k_i2l C rfl dL_capacityFor_10 ?_
      refine k_lastO C G hP hS dL_capacityFor_11 (fun H locs hP hS => ?_)
      refine lv_goto (tgt := 23) C.1 C.2.1 dL_capacityFor_12 (by decide) ?_
      refine lv_iconst (v := 0) C.1 C.2.1 dL_capacityFor_23 (by decide) ?_
      refine W.widen (k := 3) (n := 18) (by omega) (by omega) ?_
      exact k_iret C hP hS dL_capacityFor_24)
abbrev rmL_bestBuffer : Room := { frames := 8, cells := 2, slots := 12, locals := 144 }
def wsW_bestBuffer : List Cond := Cond.codeWith yL_bestBuffer cL_bestBuffer 5 (some .int) [(0, 10, 13, 13), (0, 10, 17, 15)] :: lwG
set_option maxRecDepth 100000 in
set_option maxHeartbeats 4000000 in
theorem m_L_bestBuffer (l : Launch) (hfl : l.stackTraces = false) {D : va_G} {cs : Nat → ClassId} {ad : Nat → Nat} (hAd : adOK ad) (sz : Nat) {Ls : Nat → SL} {Hs T M : SL} {dr hs o : Int64} {od : UInt64} {x1 : Int32} {x2 : Int32} {res : Sum (Int32 × (Nat → SL)) Nat} (h : f_X5_bestBuffer Ls x1 x2 = some res) {v : Int32} {w' : va_W} (hu : ∀ u : Int32 × (Nat → SL), res = Sum.inl u → v = 0 ∧ w' = wA cs ad u.2 Hs T M dr hs (u.1 : Int32).toInt64 od) (hk : ∀ k : Nat, res = Sum.inr k → w' = wA cs ad Ls Hs T M dr hs o od ∧ ((k = 1 ∧ v = 1) ∨ (k = 2 ∧ v = 2))) : Met l yL_bestBuffer wsW_bestBuffer rmL_bestBuffer (PW D cs ad sz (wA cs ad Ls Hs T M dr hs o od) [.ref (ad 0), .int x1, .int x2, .ref (ad 95)]) (va_Qi (fun r' (_ : Unit) => r' = v) (fun _ t => va_P D vwCl w' t.heap) (Afr ad sz)) 2 12 (Afr ad sz) :=
  k_metW (by decide) rfl (Nat.le_of_ble_eq_true rfl) hAd (fun p e s m below meth c ls C G X N Y ht hP hsz hl hS => by
    subst hsz
    refine lv_aload_n C.1 C.2.1 dL_bestBuffer_0 rfl (lv_at hl 3 rfl) ?_
    refine lv_iconst (v := 0) C.1 C.2.1 dL_bestBuffer_1 (by decide) ?_
    refine lv_aload_n C.1 C.2.1 dL_bestBuffer_2 rfl (lv_at hl 0 rfl) ?_
    refine lv_iload_n C.1 C.2.1 dL_bestBuffer_3 rfl (lv_at hl 1 rfl) ?_
    refine lv_iload_n C.1 C.2.1 dL_bestBuffer_4 rfl (lv_at hl 2 rfl) ?_
    refine k_callXVi C G X hP hS (m_X5_bestBuffer l hfl G.2.1 _ h) g_obj rfl (cwV 2 C.2.2.2.2.2.1 (lwG_cons wg_X5_bestBuffer) rfl rfl rfl (by decide +kernel) ⟨Nat.le_of_ble_eq_true rfl, Nat.le_of_ble_eq_true rfl⟩) (As := [.int x1, .int x2]) rfl hl.1 rfl (Nat.le_of_ble_eq_true rfl) dL_bestBuffer_5 ⟨Nat.le_of_ble_eq_true rfl, Nat.le_of_ble_eq_true rfl⟩ (fun k E ce q9 H locs er hE hP hS hcell hv hcl => ?_) (fun H locs u er hP hS => ?_)
    · obtain ⟨rfl, hk2⟩ := hk k er
      rcases hk2 with ⟨rfl, rfl⟩ | ⟨rfl, rfl⟩
      · subst hE
        refine vx_catch (name := exN 1) C.2.2.2.2.1 [] ⟨0, 10, 13, 13⟩ [⟨0, 10, 17, 15⟩] (ht.trans rfl) (fun z hz => absurd hz List.not_mem_nil) rfl (by decide) (C.2.2.2.2.2.1 _ (List.mem_cons_of_mem _ lc1)) (YC.at Y (by decide) (by decide)) hcell hv hcl ?_
        refine lv_astore (lv' := [(4, .ref q9), (0, .ref (ad 0)), (1, .int x1), (2, .int x2), (3, .ref (ad 95))]) C.1 C.2.1 dL_bestBuffer_13 hl (by decide) rfl (fun ls hl => ?_)
        refine lv_iconst (v := 1) C.1 C.2.1 dL_bestBuffer_15 (by decide) ?_
        refine W.widen (k := 2) (n := 12) (by omega) (by omega) ?_
        exact k_iret C hP hS dL_bestBuffer_16
      · subst hE
        refine vx_catch (name := exN 2) C.2.2.2.2.1 [⟨0, 10, 13, 13⟩] ⟨0, 10, 17, 15⟩ [] (ht.trans rfl) (fun z hz => Or.inr (by rw [List.mem_singleton.mp hz]; exact ⟨by decide, exN 1, C.2.2.2.2.2.1 _ (List.mem_cons_of_mem _ lc1), N 2 1 (by decide) (by decide) (by decide) (by decide) (by decide)⟩)) rfl (by decide) (C.2.2.2.2.2.1 _ (List.mem_cons_of_mem _ lc2)) (YC.at Y (by decide) (by decide)) hcell hv hcl ?_
        refine lv_astore (lv' := [(4, .ref q9), (0, .ref (ad 0)), (1, .int x1), (2, .int x2), (3, .ref (ad 95))]) C.1 C.2.1 dL_bestBuffer_17 hl (by decide) rfl (fun ls hl => ?_)
        refine lv_iconst (v := 2) C.1 C.2.1 dL_bestBuffer_19 (by decide) ?_
        refine W.widen (k := 2) (n := 12) (by omega) (by omega) ?_
        exact k_iret C hP hS dL_bestBuffer_20
    · obtain ⟨rfl, rfl⟩ := hu u er
      have hP : va_P D vwCl (wA cs ad u.2 Hs T M dr hs o od) H := hP
      refine k_i2l C rfl dL_bestBuffer_8 ?_
      refine k_lastO C G hP hS dL_bestBuffer_9 (fun H locs hP hS => ?_)
      refine lv_goto (tgt := 21) C.1 C.2.1 dL_bestBuffer_10 (by decide) ?_
      refine lv_iconst (v := 0) C.1 C.2.1 dL_bestBuffer_21 (by decide) ?_
      refine W.widen (k := 2) (n := 12) (by omega) (by omega) ?_
      exact k_iret C hP hS dL_bestBuffer_22)
abbrev rmL_append : Room := { frames := 7, cells := 1, slots := 6, locals := 117 }
def wsW_append : List Cond := Cond.codeWith yL_append cL_append 4 (some .int) [(0, 9, 12, 13), (0, 9, 15, 15)] :: lwG
set_option maxRecDepth 100000 in
set_option maxHeartbeats 4000000 in
theorem m_L_append (l : Launch) (hfl : l.stackTraces = false) {D : va_G} {cs : Nat → ClassId} {ad : Nat → Nat} (hAd : adOK ad) (sz : Nat) {Ls : Nat → SL} {Hs T M : SL} {dr hs o : Int64} {od : UInt64} {x1 : Int32} {res : Sum (Int32 × SL) Nat} (h : f_X5_append T x1 = some res) {v : Int32} {w' : va_W} (hu : ∀ u : Int32 × SL, res = Sum.inl u → v = 0 ∧ w' = wA cs ad Ls Hs u.2 M dr hs (u.1 : Int32).toInt64 od) (hk : ∀ k : Nat, res = Sum.inr k → w' = wA cs ad Ls Hs T M dr hs o od ∧ ((k = 1 ∧ v = 1) ∨ (k = 2 ∧ v = 2))) : Met l yL_append wsW_append rmL_append (PW D cs ad sz (wA cs ad Ls Hs T M dr hs o od) [.ref (ad 0), .int x1, .ref (ad 95)]) (va_Qi (fun r' (_ : Unit) => r' = v) (fun _ t => va_P D vwCl w' t.heap) (Afr ad sz)) 1 6 (Afr ad sz) :=
  k_metW (by decide) rfl (Nat.le_of_ble_eq_true rfl) hAd (fun p e s m below meth c ls C G X N Y ht hP hsz hl hS => by
    subst hsz
    refine lv_aload_n C.1 C.2.1 dL_append_0 rfl (lv_at hl 2 rfl) ?_
    refine lv_iconst (v := 0) C.1 C.2.1 dL_append_1 (by decide) ?_
    refine lv_aload_n C.1 C.2.1 dL_append_2 rfl (lv_at hl 0 rfl) ?_
    refine lv_iload_n C.1 C.2.1 dL_append_3 rfl (lv_at hl 1 rfl) ?_
    refine k_callXVi C G X hP hS (m_X5_append l hfl G.2.1 _ h) g_obj rfl (cwV 1 C.2.2.2.2.2.1 (lwG_cons wg_X5_append) rfl rfl rfl (by decide +kernel) ⟨Nat.le_of_ble_eq_true rfl, Nat.le_of_ble_eq_true rfl⟩) (As := [.int x1]) rfl hl.1 rfl (Nat.le_of_ble_eq_true rfl) dL_append_4 ⟨Nat.le_of_ble_eq_true rfl, Nat.le_of_ble_eq_true rfl⟩ (fun k E ce q9 H locs er hE hP hS hcell hv hcl => ?_) (fun H locs u er hP hS => ?_)
    · obtain ⟨rfl, hk2⟩ := hk k er
      rcases hk2 with ⟨rfl, rfl⟩ | ⟨rfl, rfl⟩
      · subst hE
        refine vx_catch (name := exN 1) C.2.2.2.2.1 [] ⟨0, 9, 12, 13⟩ [⟨0, 9, 15, 15⟩] (ht.trans rfl) (fun z hz => absurd hz List.not_mem_nil) rfl (by decide) (C.2.2.2.2.2.1 _ (List.mem_cons_of_mem _ lc1)) (YC.at Y (by decide) (by decide)) hcell hv hcl ?_
        refine lv_astore_n (lv' := [(3, .ref q9), (0, .ref (ad 0)), (1, .int x1), (2, .ref (ad 95))]) C.1 C.2.1 dL_append_12 rfl hl (by decide) rfl (fun ls hl => ?_)
        refine lv_iconst (v := 1) C.1 C.2.1 dL_append_13 (by decide) ?_
        refine W.widen (k := 1) (n := 6) (by omega) (by omega) ?_
        exact k_iret C hP hS dL_append_14
      · subst hE
        refine vx_catch (name := exN 2) C.2.2.2.2.1 [⟨0, 9, 12, 13⟩] ⟨0, 9, 15, 15⟩ [] (ht.trans rfl) (fun z hz => Or.inr (by rw [List.mem_singleton.mp hz]; exact ⟨by decide, exN 1, C.2.2.2.2.2.1 _ (List.mem_cons_of_mem _ lc1), N 2 1 (by decide) (by decide) (by decide) (by decide) (by decide)⟩)) rfl (by decide) (C.2.2.2.2.2.1 _ (List.mem_cons_of_mem _ lc2)) (YC.at Y (by decide) (by decide)) hcell hv hcl ?_
        refine lv_astore_n (lv' := [(3, .ref q9), (0, .ref (ad 0)), (1, .int x1), (2, .ref (ad 95))]) C.1 C.2.1 dL_append_15 rfl hl (by decide) rfl (fun ls hl => ?_)
        refine lv_iconst (v := 2) C.1 C.2.1 dL_append_16 (by decide) ?_
        refine W.widen (k := 1) (n := 6) (by omega) (by omega) ?_
        exact k_iret C hP hS dL_append_17
    · obtain ⟨rfl, rfl⟩ := hu u er
      have hP : va_P D vwCl (wA cs ad Ls Hs u.2 M dr hs o od) H := hP
      refine k_i2l C rfl dL_append_7 ?_
      refine k_lastO C G hP hS dL_append_8 (fun H locs hP hS => ?_)
      refine lv_goto (tgt := 18) C.1 C.2.1 dL_append_9 (by decide) ?_
      refine lv_iconst (v := 0) C.1 C.2.1 dL_append_18 (by decide) ?_
      refine W.widen (k := 1) (n := 6) (by omega) (by omega) ?_
      exact k_iret C hP hS dL_append_19)
abbrev rmL_undo : Room := { frames := 7, cells := 1, slots := 6, locals := 133 }
def wsW_undo : List Cond := Cond.codeWith yL_undo cL_undo 3 (some .int) [(0, 8, 11, 15)] :: lwG
set_option maxRecDepth 100000 in
set_option maxHeartbeats 4000000 in
theorem m_L_undo (l : Launch) (hfl : l.stackTraces = false) {D : va_G} {cs : Nat → ClassId} {ad : Nat → Nat} (hAd : adOK ad) (sz : Nat) {Ls : Nat → SL} {Hs T M : SL} {dr hs o : Int64} {od : UInt64} {res : Sum (Int32 × (Nat → SL) × SL) Nat} (h : f_X5_undo Ls Hs = some res) {v : Int32} {w' : va_W} (hu : ∀ u : Int32 × (Nat → SL) × SL, res = Sum.inl u → v = 0 ∧ w' = wA cs ad u.2.1 u.2.2 T M dr hs (u.1 : Int32).toInt64 od) (hk : ∀ k : Nat, res = Sum.inr k → w' = wA cs ad Ls Hs T M dr hs o od ∧ ((k = 2 ∧ v = 1))) : Met l yL_undo wsW_undo rmL_undo (PW D cs ad sz (wA cs ad Ls Hs T M dr hs o od) [.ref (ad 0), .ref (ad 95)]) (va_Qi (fun r' (_ : Unit) => r' = v) (fun _ t => va_P D vwCl w' t.heap) (Afr ad sz)) 1 6 (Afr ad sz) :=
  k_metW (by decide) rfl (Nat.le_of_ble_eq_true rfl) hAd (fun p e s m below meth c ls C G X N Y ht hP hsz hl hS => by
    subst hsz
    refine lv_aload_n C.1 C.2.1 dL_undo_0 rfl (lv_at hl 1 rfl) ?_
    refine lv_iconst (v := 0) C.1 C.2.1 dL_undo_1 (by decide) ?_
    refine lv_aload_n C.1 C.2.1 dL_undo_2 rfl (lv_at hl 0 rfl) ?_
    refine k_callXVi C G X hP hS (m_X5_undo l hfl G.2.1 _ h) g_obj rfl (cwV 0 C.2.2.2.2.2.1 (lwG_cons wg_X5_undo) rfl rfl rfl (by decide +kernel) ⟨Nat.le_of_ble_eq_true rfl, Nat.le_of_ble_eq_true rfl⟩) (As := []) rfl hl.1 rfl (Nat.le_of_ble_eq_true rfl) dL_undo_3 ⟨Nat.le_of_ble_eq_true rfl, Nat.le_of_ble_eq_true rfl⟩ (fun k E ce q9 H locs er hE hP hS hcell hv hcl => ?_) (fun H locs u er hP hS => ?_)
    · obtain ⟨rfl, hk2⟩ := hk k er
      obtain ⟨rfl, rfl⟩ := hk2
      subst hE
      refine vx_catch (name := exN 2) C.2.2.2.2.1 [] ⟨0, 8, 11, 15⟩ [] (ht.trans rfl) (fun z hz => absurd hz List.not_mem_nil) rfl (by decide) (C.2.2.2.2.2.1 _ (List.mem_cons_of_mem _ lc2)) (YC.at Y (by decide) (by decide)) hcell hv hcl ?_
      refine lv_astore_n (lv' := [(2, .ref q9), (0, .ref (ad 0)), (1, .ref (ad 95))]) C.1 C.2.1 dL_undo_11 rfl hl (by decide) rfl (fun ls hl => ?_)
      refine lv_iconst (v := 1) C.1 C.2.1 dL_undo_12 (by decide) ?_
      refine W.widen (k := 1) (n := 6) (by omega) (by omega) ?_
      exact k_iret C hP hS dL_undo_13
    · obtain ⟨rfl, rfl⟩ := hu u er
      have hP : va_P D vwCl (wA cs ad u.2.1 u.2.2 T M dr hs o od) H := hP
      refine k_i2l C rfl dL_undo_6 ?_
      refine k_lastO C G hP hS dL_undo_7 (fun H locs hP hS => ?_)
      refine lv_goto (tgt := 14) C.1 C.2.1 dL_undo_8 (by decide) ?_
      refine lv_iconst (v := 0) C.1 C.2.1 dL_undo_14 (by decide) ?_
      refine W.widen (k := 1) (n := 6) (by omega) (by omega) ?_
      exact k_iret C hP hS dL_undo_15)
