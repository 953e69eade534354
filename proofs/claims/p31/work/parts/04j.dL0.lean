/-! THE LAW, what stands where -/
theorem dL_cell_0 : decode cL_cell 0 = .ok (.iload_n 1, 1) := by decide +kernel
theorem dL_cell_1 : decode cL_cell 1 = .ok (.aload_n 0, 1) := by decide +kernel
theorem dL_cell_2 : decode cL_cell 2 = .ok (.arraylength, 1) := by decide +kernel
theorem dL_cell_3 : decode cL_cell 3 = .ok (.if_icmp .ge 9, 3) := by decide +kernel
theorem dL_cell_6 : decode cL_cell 6 = .ok (.aload_n 0, 1) := by decide +kernel
theorem dL_cell_7 : decode cL_cell 7 = .ok (.iload_n 1, 1) := by decide +kernel
theorem dL_cell_8 : decode cL_cell 8 = .ok (.iaload, 1) := by decide +kernel
theorem dL_cell_9 : decode cL_cell 9 = .ok (.goto 9, 3) := by decide +kernel
theorem dL_cell_12 : decode cL_cell 12 = .ok (.ldc 7, 2) := by decide +kernel
theorem dL_cell_14 : decode cL_cell 14 = .ok (.iload_n 1, 1) := by decide +kernel
theorem dL_cell_15 : decode cL_cell 15 = .ok (.iconst 1, 1) := by decide +kernel
theorem dL_cell_16 : decode cL_cell 16 = .ok (.iadd, 1) := by decide +kernel
theorem dL_cell_17 : decode cL_cell 17 = .ok (.imul, 1) := by decide +kernel
theorem dL_cell_18 : decode cL_cell 18 = .ok (.ireturn, 1) := by decide +kernel
theorem dL_low_0 : decode cL_low 0 = .ok (.iload_n 0, 1) := by decide +kernel
theorem dL_low_1 : decode cL_low 1 = .ok (.ldc 8, 2) := by decide +kernel
theorem dL_low_3 : decode cL_low 3 = .ok (.iand, 1) := by decide +kernel
theorem dL_low_4 : decode cL_low 4 = .ok (.iload_n 1, 1) := by decide +kernel
theorem dL_low_5 : decode cL_low 5 = .ok (.irem, 1) := by decide +kernel
theorem dL_low_6 : decode cL_low 6 = .ok (.ireturn, 1) := by decide +kernel
theorem dL_addMachine_0 : decode cL_addMachine 0 = .ok (.aload_n 0, 1) := by decide +kernel
theorem dL_addMachine_1 : decode cL_addMachine 1 = .ok (.iload_n 1, 1) := by decide +kernel
theorem dL_addMachine_2 : decode cL_addMachine 2 = .ok (.iload_n 2, 1) := by decide +kernel
theorem dL_addMachine_3 : decode cL_addMachine 3 = .ok (.iload_n 3, 1) := by decide +kernel
theorem dL_addMachine_4 : decode cL_addMachine 4 = .ok (.invokevirtual 9, 3) := by decide +kernel
theorem dL_addMachine_7 : decode cL_addMachine 7 = .ok (.istore 4, 2) := by decide +kernel
theorem dL_addMachine_9 : decode cL_addMachine 9 = .ok (.goto 13, 3) := by decide +kernel
theorem dL_addMachine_12 : decode cL_addMachine 12 = .ok (.astore 5, 2) := by decide +kernel
theorem dL_addMachine_14 : decode cL_addMachine 14 = .ok (.ldc 17, 2) := by decide +kernel
theorem dL_addMachine_16 : decode cL_addMachine 16 = .ok (.ireturn, 1) := by decide +kernel
theorem dL_addMachine_17 : decode cL_addMachine 17 = .ok (.astore 5, 2) := by decide +kernel
theorem dL_addMachine_19 : decode cL_addMachine 19 = .ok (.ldc 20, 2) := by decide +kernel
theorem dL_addMachine_21 : decode cL_addMachine 21 = .ok (.ireturn, 1) := by decide +kernel
theorem dL_addMachine_22 : decode cL_addMachine 22 = .ok (.iload 4, 2) := by decide +kernel
theorem dL_addMachine_24 : decode cL_addMachine 24 = .ok (.ireturn, 1) := by decide +kernel
theorem dL_setMachine_0 : decode cL_setMachine 0 = .ok (.aload_n 0, 1) := by decide +kernel
theorem dL_setMachine_1 : decode cL_setMachine 1 = .ok (.iload_n 1, 1) := by decide +kernel
theorem dL_setMachine_2 : decode cL_setMachine 2 = .ok (.iload_n 2, 1) := by decide +kernel
theorem dL_setMachine_3 : decode cL_setMachine 3 = .ok (.iload_n 3, 1) := by decide +kernel
theorem dL_setMachine_4 : decode cL_setMachine 4 = .ok (.iload 4, 2) := by decide +kernel
theorem dL_setMachine_6 : decode cL_setMachine 6 = .ok (.iload 5, 2) := by decide +kernel
theorem dL_setMachine_8 : decode cL_setMachine 8 = .ok (.invokevirtual 21, 3) := by decide +kernel
theorem dL_setMachine_11 : decode cL_setMachine 11 = .ok (.istore 6, 2) := by decide +kernel
theorem dL_setMachine_13 : decode cL_setMachine 13 = .ok (.goto 13, 3) := by decide +kernel
theorem dL_setMachine_16 : decode cL_setMachine 16 = .ok (.astore 7, 2) := by decide +kernel
theorem dL_setMachine_18 : decode cL_setMachine 18 = .ok (.ldc 27, 2) := by decide +kernel
theorem dL_setMachine_20 : decode cL_setMachine 20 = .ok (.ireturn, 1) := by decide +kernel
theorem dL_setMachine_21 : decode cL_setMachine 21 = .ok (.astore 7, 2) := by decide +kernel
theorem dL_setMachine_23 : decode cL_setMachine 23 = .ok (.ldc 17, 2) := by decide +kernel
theorem dL_setMachine_25 : decode cL_setMachine 25 = .ok (.ireturn, 1) := by decide +kernel
theorem dL_setMachine_26 : decode cL_setMachine 26 = .ok (.iload 6, 2) := by decide +kernel
theorem dL_setMachine_28 : decode cL_setMachine 28 = .ok (.ireturn, 1) := by decide +kernel
theorem dL_setCapacity_0 : decode cL_setCapacity 0 = .ok (.aload_n 0, 1) := by decide +kernel
theorem dL_setCapacity_1 : decode cL_setCapacity 1 = .ok (.iload_n 1, 1) := by decide +kernel
theorem dL_setCapacity_2 : decode cL_setCapacity 2 = .ok (.iload_n 2, 1) := by decide +kernel
theorem dL_setCapacity_3 : decode cL_setCapacity 3 = .ok (.invokevirtual 28, 3) := by decide +kernel
theorem dL_setCapacity_6 : decode cL_setCapacity 6 = .ok (.istore_n 3, 1) := by decide +kernel
theorem dL_setCapacity_7 : decode cL_setCapacity 7 = .ok (.goto 13, 3) := by decide +kernel
theorem dL_setCapacity_10 : decode cL_setCapacity 10 = .ok (.astore 4, 2) := by decide +kernel
theorem dL_setCapacity_12 : decode cL_setCapacity 12 = .ok (.ldc 27, 2) := by decide +kernel
theorem dL_setCapacity_14 : decode cL_setCapacity 14 = .ok (.ireturn, 1) := by decide +kernel
theorem dL_setCapacity_15 : decode cL_setCapacity 15 = .ok (.astore 4, 2) := by decide +kernel
theorem dL_setCapacity_17 : decode cL_setCapacity 17 = .ok (.ldc 17, 2) := by decide +kernel
theorem dL_setCapacity_19 : decode cL_setCapacity 19 = .ok (.ireturn, 1) := by decide +kernel
theorem dL_setCapacity_20 : decode cL_setCapacity 20 = .ok (.iload_n 3, 1) := by decide +kernel
theorem dL_setCapacity_21 : decode cL_setCapacity 21 = .ok (.ireturn, 1) := by decide +kernel
theorem dL_addStop_0 : decode cL_addStop 0 = .ok (.aload_n 0, 1) := by decide +kernel
theorem dL_addStop_1 : decode cL_addStop 1 = .ok (.iload_n 1, 1) := by decide +kernel
theorem dL_addStop_2 : decode cL_addStop 2 = .ok (.iload_n 2, 1) := by decide +kernel
theorem dL_addStop_3 : decode cL_addStop 3 = .ok (.iload_n 3, 1) := by decide +kernel
theorem dL_addStop_4 : decode cL_addStop 4 = .ok (.invokevirtual 32, 3) := by decide +kernel
theorem dL_addStop_7 : decode cL_addStop 7 = .ok (.istore 4, 2) := by decide +kernel
theorem dL_addStop_9 : decode cL_addStop 9 = .ok (.goto 18, 3) := by decide +kernel
theorem dL_addStop_12 : decode cL_addStop 12 = .ok (.astore 5, 2) := by decide +kernel
theorem dL_addStop_14 : decode cL_addStop 14 = .ok (.ldc 27, 2) := by decide +kernel
theorem dL_addStop_16 : decode cL_addStop 16 = .ok (.ireturn, 1) := by decide +kernel
theorem dL_addStop_17 : decode cL_addStop 17 = .ok (.astore 5, 2) := by decide +kernel
theorem dL_addStop_19 : decode cL_addStop 19 = .ok (.ldc 17, 2) := by decide +kernel
theorem dL_addStop_21 : decode cL_addStop 21 = .ok (.ireturn, 1) := by decide +kernel
theorem dL_addStop_22 : decode cL_addStop 22 = .ok (.astore 5, 2) := by decide +kernel
theorem dL_addStop_24 : decode cL_addStop 24 = .ok (.ldc 20, 2) := by decide +kernel
theorem dL_addStop_26 : decode cL_addStop 26 = .ok (.ireturn, 1) := by decide +kernel
theorem dL_addStop_27 : decode cL_addStop 27 = .ok (.iload 4, 2) := by decide +kernel
theorem dL_addStop_29 : decode cL_addStop 29 = .ok (.ireturn, 1) := by decide +kernel
theorem dL_addRandomStops_0 : decode cL_addRandomStops 0 = .ok (.aload_n 0, 1) := by decide +kernel
theorem dL_addRandomStops_1 : decode cL_addRandomStops 1 = .ok (.iload_n 1, 1) := by decide +kernel
theorem dL_addRandomStops_2 : decode cL_addRandomStops 2 = .ok (.iload_n 2, 1) := by decide +kernel
theorem dL_addRandomStops_3 : decode cL_addRandomStops 3 = .ok (.iload_n 3, 1) := by decide +kernel
theorem dL_addRandomStops_4 : decode cL_addRandomStops 4 = .ok (.iload 4, 2) := by decide +kernel
theorem dL_addRandomStops_6 : decode cL_addRandomStops 6 = .ok (.iload 5, 2) := by decide +kernel
theorem dL_addRandomStops_8 : decode cL_addRandomStops 8 = .ok (.invokevirtual 35, 3) := by decide +kernel
theorem dL_addRandomStops_11 : decode cL_addRandomStops 11 = .ok (.istore 6, 2) := by decide +kernel
theorem dL_addRandomStops_13 : decode cL_addRandomStops 13 = .ok (.goto 18, 3) := by decide +kernel
theorem dL_addRandomStops_16 : decode cL_addRandomStops 16 = .ok (.astore 7, 2) := by decide +kernel
theorem dL_addRandomStops_18 : decode cL_addRandomStops 18 = .ok (.ldc 27, 2) := by decide +kernel
theorem dL_addRandomStops_20 : decode cL_addRandomStops 20 = .ok (.ireturn, 1) := by decide +kernel
theorem dL_addRandomStops_21 : decode cL_addRandomStops 21 = .ok (.astore 7, 2) := by decide +kernel
theorem dL_addRandomStops_23 : decode cL_addRandomStops 23 = .ok (.ldc 17, 2) := by decide +kernel
theorem dL_addRandomStops_25 : decode cL_addRandomStops 25 = .ok (.ireturn, 1) := by decide +kernel
theorem dL_addRandomStops_26 : decode cL_addRandomStops 26 = .ok (.astore 7, 2) := by decide +kernel
theorem dL_addRandomStops_28 : decode cL_addRandomStops 28 = .ok (.ldc 20, 2) := by decide +kernel
theorem dL_addRandomStops_30 : decode cL_addRandomStops 30 = .ok (.ireturn, 1) := by decide +kernel
theorem dL_addRandomStops_31 : decode cL_addRandomStops 31 = .ok (.iload 6, 2) := by decide +kernel
theorem dL_addRandomStops_33 : decode cL_addRandomStops 33 = .ok (.ireturn, 1) := by decide +kernel
theorem dL_stop_0 : decode cL_stop 0 = .ok (.aload_n 0, 1) := by decide +kernel
theorem dL_stop_1 : decode cL_stop 1 = .ok (.iload_n 1, 1) := by decide +kernel
theorem dL_stop_2 : decode cL_stop 2 = .ok (.iload_n 2, 1) := by decide +kernel
theorem dL_stop_3 : decode cL_stop 3 = .ok (.invokevirtual 38, 3) := by decide +kernel
theorem dL_stop_6 : decode cL_stop 6 = .ok (.istore_n 3, 1) := by decide +kernel
theorem dL_stop_7 : decode cL_stop 7 = .ok (.goto 13, 3) := by decide +kernel
theorem dL_stop_10 : decode cL_stop 10 = .ok (.astore 4, 2) := by decide +kernel
theorem dL_stop_12 : decode cL_stop 12 = .ok (.ldc 27, 2) := by decide +kernel
theorem dL_stop_14 : decode cL_stop 14 = .ok (.ireturn, 1) := by decide +kernel
theorem dL_stop_15 : decode cL_stop 15 = .ok (.astore 4, 2) := by decide +kernel
theorem dL_stop_17 : decode cL_stop 17 = .ok (.ldc 17, 2) := by decide +kernel
theorem dL_stop_19 : decode cL_stop 19 = .ok (.ireturn, 1) := by decide +kernel
theorem dL_stop_20 : decode cL_stop 20 = .ok (.iload_n 3, 1) := by decide +kernel
theorem dL_stop_21 : decode cL_stop 21 = .ok (.ireturn, 1) := by decide +kernel
theorem dL_run_0 : decode cL_run 0 = .ok (.aload_n 0, 1) := by decide +kernel
theorem dL_run_1 : decode cL_run 1 = .ok (.iload_n 1, 1) := by decide +kernel
theorem dL_run_2 : decode cL_run 2 = .ok (.invokevirtual 41, 3) := by decide +kernel
theorem dL_run_5 : decode cL_run 5 = .ok (.istore_n 2, 1) := by decide +kernel
theorem dL_run_6 : decode cL_run 6 = .ok (.goto 11, 3) := by decide +kernel
theorem dL_run_9 : decode cL_run 9 = .ok (.astore_n 3, 1) := by decide +kernel
theorem dL_run_10 : decode cL_run 10 = .ok (.ldc 17, 2) := by decide +kernel
theorem dL_run_12 : decode cL_run 12 = .ok (.ireturn, 1) := by decide +kernel
theorem dL_run_13 : decode cL_run 13 = .ok (.astore_n 3, 1) := by decide +kernel
theorem dL_run_14 : decode cL_run 14 = .ok (.ldc 20, 2) := by decide +kernel
theorem dL_run_16 : decode cL_run 16 = .ok (.ireturn, 1) := by decide +kernel
theorem dL_run_17 : decode cL_run 17 = .ok (.iload_n 2, 1) := by decide +kernel
theorem dL_run_18 : decode cL_run 18 = .ok (.ireturn, 1) := by decide +kernel
theorem dL_setting_0 : decode cL_setting 0 = .ok (.aload_n 0, 1) := by decide +kernel
theorem dL_setting_1 : decode cL_setting 1 = .ok (.iload_n 1, 1) := by decide +kernel
theorem dL_setting_2 : decode cL_setting 2 = .ok (.iload_n 2, 1) := by decide +kernel
theorem dL_setting_3 : decode cL_setting 3 = .ok (.invokevirtual 45, 3) := by decide +kernel
theorem dL_setting_6 : decode cL_setting 6 = .ok (.istore_n 3, 1) := by decide +kernel
theorem dL_setting_7 : decode cL_setting 7 = .ok (.goto 13, 3) := by decide +kernel
theorem dL_setting_10 : decode cL_setting 10 = .ok (.astore 4, 2) := by decide +kernel
theorem dL_setting_12 : decode cL_setting 12 = .ok (.ldc 27, 2) := by decide +kernel
theorem dL_setting_14 : decode cL_setting 14 = .ok (.ireturn, 1) := by decide +kernel
theorem dL_setting_15 : decode cL_setting 15 = .ok (.astore 4, 2) := by decide +kernel
theorem dL_setting_17 : decode cL_setting 17 = .ok (.ldc 17, 2) := by decide +kernel
theorem dL_setting_19 : decode cL_setting 19 = .ok (.ireturn, 1) := by decide +kernel
theorem dL_setting_20 : decode cL_setting 20 = .ok (.iload_n 3, 1) := by decide +kernel
theorem dL_setting_21 : decode cL_setting 21 = .ok (.ireturn, 1) := by decide +kernel
theorem dL_machine_0 : decode cL_machine 0 = .ok (.aload_n 0, 1) := by decide +kernel
theorem dL_machine_1 : decode cL_machine 1 = .ok (.iload_n 1, 1) := by decide +kernel
theorem dL_machine_2 : decode cL_machine 2 = .ok (.iload_n 2, 1) := by decide +kernel
theorem dL_machine_3 : decode cL_machine 3 = .ok (.invokevirtual 48, 3) := by decide +kernel
theorem dL_machine_6 : decode cL_machine 6 = .ok (.istore_n 3, 1) := by decide +kernel
theorem dL_machine_7 : decode cL_machine 7 = .ok (.goto 13, 3) := by decide +kernel
theorem dL_machine_10 : decode cL_machine 10 = .ok (.astore 4, 2) := by decide +kernel
theorem dL_machine_12 : decode cL_machine 12 = .ok (.ldc 27, 2) := by decide +kernel
theorem dL_machine_14 : decode cL_machine 14 = .ok (.ireturn, 1) := by decide +kernel
theorem dL_machine_15 : decode cL_machine 15 = .ok (.astore 4, 2) := by decide +kernel
theorem dL_machine_17 : decode cL_machine 17 = .ok (.ldc 17, 2) := by decide +kernel
theorem dL_machine_19 : decode cL_machine 19 = .ok (.ireturn, 1) := by decide +kernel
theorem dL_machine_20 : decode cL_machine 20 = .ok (.iload_n 3, 1) := by decide +kernel
theorem dL_machine_21 : decode cL_machine 21 = .ok (.ireturn, 1) := by decide +kernel
theorem dL_count_0 : decode cL_count 0 = .ok (.aload_n 0, 1) := by decide +kernel
theorem dL_count_1 : decode cL_count 1 = .ok (.iload_n 1, 1) := by decide +kernel
theorem dL_count_2 : decode cL_count 2 = .ok (.iload_n 2, 1) := by decide +kernel
theorem dL_count_3 : decode cL_count 3 = .ok (.invokevirtual 51, 3) := by decide +kernel
theorem dL_count_6 : decode cL_count 6 = .ok (.istore_n 3, 1) := by decide +kernel
theorem dL_count_7 : decode cL_count 7 = .ok (.goto 13, 3) := by decide +kernel
theorem dL_count_10 : decode cL_count 10 = .ok (.astore 4, 2) := by decide +kernel
theorem dL_count_12 : decode cL_count 12 = .ok (.ldc 27, 2) := by decide +kernel
theorem dL_count_14 : decode cL_count 14 = .ok (.ireturn, 1) := by decide +kernel
theorem dL_count_15 : decode cL_count 15 = .ok (.astore 4, 2) := by decide +kernel
theorem dL_count_17 : decode cL_count 17 = .ok (.ldc 17, 2) := by decide +kernel
theorem dL_count_19 : decode cL_count 19 = .ok (.ireturn, 1) := by decide +kernel
theorem dL_count_20 : decode cL_count 20 = .ok (.iload_n 3, 1) := by decide +kernel
theorem dL_count_21 : decode cL_count 21 = .ok (.ireturn, 1) := by decide +kernel
theorem dL_bound_0 : decode cL_bound 0 = .ok (.aload_n 0, 1) := by decide +kernel
theorem dL_bound_1 : decode cL_bound 1 = .ok (.iload_n 1, 1) := by decide +kernel
theorem dL_bound_2 : decode cL_bound 2 = .ok (.invokevirtual 54, 3) := by decide +kernel
theorem dL_bound_5 : decode cL_bound 5 = .ok (.istore_n 2, 1) := by decide +kernel
theorem dL_bound_6 : decode cL_bound 6 = .ok (.goto 11, 3) := by decide +kernel
theorem dL_bound_9 : decode cL_bound 9 = .ok (.astore_n 3, 1) := by decide +kernel
theorem dL_bound_10 : decode cL_bound 10 = .ok (.ldc 17, 2) := by decide +kernel
theorem dL_bound_12 : decode cL_bound 12 = .ok (.ireturn, 1) := by decide +kernel
theorem dL_bound_13 : decode cL_bound 13 = .ok (.astore_n 3, 1) := by decide +kernel
theorem dL_bound_14 : decode cL_bound 14 = .ok (.ldc 20, 2) := by decide +kernel
theorem dL_bound_16 : decode cL_bound 16 = .ok (.ireturn, 1) := by decide +kernel
theorem dL_bound_17 : decode cL_bound 17 = .ok (.iload_n 2, 1) := by decide +kernel
theorem dL_bound_18 : decode cL_bound 18 = .ok (.ireturn, 1) := by decide +kernel
theorem dL_limiting_0 : decode cL_limiting 0 = .ok (.aload_n 0, 1) := by decide +kernel
theorem dL_limiting_1 : decode cL_limiting 1 = .ok (.invokevirtual 57, 3) := by decide +kernel
theorem dL_limiting_4 : decode cL_limiting 4 = .ok (.istore_n 1, 1) := by decide +kernel
theorem dL_limiting_5 : decode cL_limiting 5 = .ok (.goto 7, 3) := by decide +kernel
theorem dL_limiting_8 : decode cL_limiting 8 = .ok (.astore_n 2, 1) := by decide +kernel
theorem dL_limiting_9 : decode cL_limiting 9 = .ok (.ldc 20, 2) := by decide +kernel
theorem dL_limiting_11 : decode cL_limiting 11 = .ok (.ireturn, 1) := by decide +kernel
theorem dL_limiting_12 : decode cL_limiting 12 = .ok (.iload_n 1, 1) := by decide +kernel
theorem dL_limiting_13 : decode cL_limiting 13 = .ok (.ireturn, 1) := by decide +kernel
theorem dL_slowest_0 : decode cL_slowest 0 = .ok (.aload_n 0, 1) := by decide +kernel
theorem dL_slowest_1 : decode cL_slowest 1 = .ok (.iload_n 1, 1) := by decide +kernel
theorem dL_slowest_2 : decode cL_slowest 2 = .ok (.invokevirtual 61, 3) := by decide +kernel
theorem dL_slowest_5 : decode cL_slowest 5 = .ok (.istore_n 2, 1) := by decide +kernel
theorem dL_slowest_6 : decode cL_slowest 6 = .ok (.goto 11, 3) := by decide +kernel
theorem dL_slowest_9 : decode cL_slowest 9 = .ok (.astore_n 3, 1) := by decide +kernel
theorem dL_slowest_10 : decode cL_slowest 10 = .ok (.ldc 17, 2) := by decide +kernel
theorem dL_slowest_12 : decode cL_slowest 12 = .ok (.ireturn, 1) := by decide +kernel
theorem dL_slowest_13 : decode cL_slowest 13 = .ok (.astore_n 3, 1) := by decide +kernel
theorem dL_slowest_14 : decode cL_slowest 14 = .ok (.ldc 20, 2) := by decide +kernel
theorem dL_slowest_16 : decode cL_slowest 16 = .ok (.ireturn, 1) := by decide +kernel
theorem dL_slowest_17 : decode cL_slowest 17 = .ok (.iload_n 2, 1) := by decide +kernel
theorem dL_slowest_18 : decode cL_slowest 18 = .ok (.ireturn, 1) := by decide +kernel
theorem dL_outputWith_0 : decode cL_outputWith 0 = .ok (.aload_n 0, 1) := by decide +kernel
theorem dL_outputWith_1 : decode cL_outputWith 1 = .ok (.iload_n 1, 1) := by decide +kernel
theorem dL_outputWith_2 : decode cL_outputWith 2 = .ok (.iload_n 2, 1) := by decide +kernel
theorem dL_outputWith_3 : decode cL_outputWith 3 = .ok (.iload_n 3, 1) := by decide +kernel
theorem dL_outputWith_4 : decode cL_outputWith 4 = .ok (.invokevirtual 64, 3) := by decide +kernel
theorem dL_outputWith_7 : decode cL_outputWith 7 = .ok (.istore 4, 2) := by decide +kernel
theorem dL_outputWith_9 : decode cL_outputWith 9 = .ok (.goto 13, 3) := by decide +kernel
theorem dL_outputWith_12 : decode cL_outputWith 12 = .ok (.astore 5, 2) := by decide +kernel
theorem dL_outputWith_14 : decode cL_outputWith 14 = .ok (.ldc 27, 2) := by decide +kernel
theorem dL_outputWith_16 : decode cL_outputWith 16 = .ok (.ireturn, 1) := by decide +kernel
theorem dL_outputWith_17 : decode cL_outputWith 17 = .ok (.astore 5, 2) := by decide +kernel
theorem dL_outputWith_19 : decode cL_outputWith 19 = .ok (.ldc 17, 2) := by decide +kernel
theorem dL_outputWith_21 : decode cL_outputWith 21 = .ok (.ireturn, 1) := by decide +kernel
theorem dL_outputWith_22 : decode cL_outputWith 22 = .ok (.iload 4, 2) := by decide +kernel
theorem dL_outputWith_24 : decode cL_outputWith 24 = .ok (.ireturn, 1) := by decide +kernel
theorem dL_capacityFor_0 : decode cL_capacityFor 0 = .ok (.aload_n 0, 1) := by decide +kernel
theorem dL_capacityFor_1 : decode cL_capacityFor 1 = .ok (.iload_n 1, 1) := by decide +kernel
theorem dL_capacityFor_2 : decode cL_capacityFor 2 = .ok (.iload_n 2, 1) := by decide +kernel
theorem dL_capacityFor_3 : decode cL_capacityFor 3 = .ok (.iload_n 3, 1) := by decide +kernel
theorem dL_capacityFor_4 : decode cL_capacityFor 4 = .ok (.invokevirtual 67, 3) := by decide +kernel
theorem dL_capacityFor_7 : decode cL_capacityFor 7 = .ok (.istore 4, 2) := by decide +kernel
theorem dL_capacityFor_9 : decode cL_capacityFor 9 = .ok (.goto 13, 3) := by decide +kernel
theorem dL_capacityFor_12 : decode cL_capacityFor 12 = .ok (.astore 5, 2) := by decide +kernel
theorem dL_capacityFor_14 : decode cL_capacityFor 14 = .ok (.ldc 27, 2) := by decide +kernel
theorem dL_capacityFor_16 : decode cL_capacityFor 16 = .ok (.ireturn, 1) := by decide +kernel
theorem dL_capacityFor_17 : decode cL_capacityFor 17 = .ok (.astore 5, 2) := by decide +kernel
theorem dL_capacityFor_19 : decode cL_capacityFor 19 = .ok (.ldc 17, 2) := by decide +kernel
theorem dL_capacityFor_21 : decode cL_capacityFor 21 = .ok (.ireturn, 1) := by decide +kernel
theorem dL_capacityFor_22 : decode cL_capacityFor 22 = .ok (.iload 4, 2) := by decide +kernel
theorem dL_capacityFor_24 : decode cL_capacityFor 24 = .ok (.ireturn, 1) := by decide +kernel
theorem dL_bestBuffer_0 : decode cL_bestBuffer 0 = .ok (.aload_n 0, 1) := by decide +kernel
theorem dL_bestBuffer_1 : decode cL_bestBuffer 1 = .ok (.iload_n 1, 1) := by decide +kernel
theorem dL_bestBuffer_2 : decode cL_bestBuffer 2 = .ok (.iload_n 2, 1) := by decide +kernel
theorem dL_bestBuffer_3 : decode cL_bestBuffer 3 = .ok (.invokevirtual 70, 3) := by decide +kernel
theorem dL_bestBuffer_6 : decode cL_bestBuffer 6 = .ok (.istore_n 3, 1) := by decide +kernel
theorem dL_bestBuffer_7 : decode cL_bestBuffer 7 = .ok (.goto 13, 3) := by decide +kernel
theorem dL_bestBuffer_10 : decode cL_bestBuffer 10 = .ok (.astore 4, 2) := by decide +kernel
theorem dL_bestBuffer_12 : decode cL_bestBuffer 12 = .ok (.ldc 17, 2) := by decide +kernel
theorem dL_bestBuffer_14 : decode cL_bestBuffer 14 = .ok (.ireturn, 1) := by decide +kernel
theorem dL_bestBuffer_15 : decode cL_bestBuffer 15 = .ok (.astore 4, 2) := by decide +kernel
theorem dL_bestBuffer_17 : decode cL_bestBuffer 17 = .ok (.ldc 20, 2) := by decide +kernel
theorem dL_bestBuffer_19 : decode cL_bestBuffer 19 = .ok (.ireturn, 1) := by decide +kernel
theorem dL_bestBuffer_20 : decode cL_bestBuffer 20 = .ok (.iload_n 3, 1) := by decide +kernel
theorem dL_bestBuffer_21 : decode cL_bestBuffer 21 = .ok (.ireturn, 1) := by decide +kernel
theorem dL_append_0 : decode cL_append 0 = .ok (.aload_n 0, 1) := by decide +kernel
theorem dL_append_1 : decode cL_append 1 = .ok (.iload_n 1, 1) := by decide +kernel
theorem dL_append_2 : decode cL_append 2 = .ok (.invokevirtual 73, 3) := by decide +kernel
theorem dL_append_5 : decode cL_append 5 = .ok (.istore_n 2, 1) := by decide +kernel
theorem dL_append_6 : decode cL_append 6 = .ok (.goto 11, 3) := by decide +kernel
theorem dL_append_9 : decode cL_append 9 = .ok (.astore_n 3, 1) := by decide +kernel
theorem dL_append_10 : decode cL_append 10 = .ok (.ldc 17, 2) := by decide +kernel
theorem dL_append_12 : decode cL_append 12 = .ok (.ireturn, 1) := by decide +kernel
theorem dL_append_13 : decode cL_append 13 = .ok (.astore_n 3, 1) := by decide +kernel
theorem dL_append_14 : decode cL_append 14 = .ok (.ldc 20, 2) := by decide +kernel
theorem dL_append_16 : decode cL_append 16 = .ok (.ireturn, 1) := by decide +kernel
theorem dL_append_17 : decode cL_append 17 = .ok (.iload_n 2, 1) := by decide +kernel
theorem dL_append_18 : decode cL_append 18 = .ok (.ireturn, 1) := by decide +kernel
theorem dL_undo_0 : decode cL_undo 0 = .ok (.aload_n 0, 1) := by decide +kernel
theorem dL_undo_1 : decode cL_undo 1 = .ok (.invokevirtual 76, 3) := by decide +kernel
theorem dL_undo_4 : decode cL_undo 4 = .ok (.istore_n 1, 1) := by decide +kernel
theorem dL_undo_5 : decode cL_undo 5 = .ok (.goto 7, 3) := by decide +kernel
theorem dL_undo_8 : decode cL_undo 8 = .ok (.astore_n 2, 1) := by decide +kernel
theorem dL_undo_9 : decode cL_undo 9 = .ok (.ldc 20, 2) := by decide +kernel
theorem dL_undo_11 : decode cL_undo 11 = .ok (.ireturn, 1) := by decide +kernel
theorem dL_undo_12 : decode cL_undo 12 = .ok (.iload_n 1, 1) := by decide +kernel
theorem dL_undo_13 : decode cL_undo 13 = .ok (.ireturn, 1) := by decide +kernel
theorem dL_print_0 : decode cL_print 0 = .ok (.ldc2_w 79, 3) := by decide +kernel
theorem dL_print_3 : decode cL_print 3 = .ok (.ldc2_w 79, 3) := by decide +kernel
theorem dL_print_6 : decode cL_print 6 = .ok (.aload_n 0, 1) := by decide +kernel
theorem dL_print_7 : decode cL_print 7 = .ok (.invokevirtual 81, 3) := by decide +kernel
theorem dL_print_10 : decode cL_print 10 = .ok (.i2l, 1) := by decide +kernel
theorem dL_print_11 : decode cL_print 11 = .ok (.lmul, 1) := by decide +kernel
theorem dL_print_12 : decode cL_print 12 = .ok (.aload_n 0, 1) := by decide +kernel
theorem dL_print_13 : decode cL_print 13 = .ok (.invokevirtual 84, 3) := by decide +kernel
theorem dL_print_16 : decode cL_print 16 = .ok (.i2l, 1) := by decide +kernel
theorem dL_print_17 : decode cL_print 17 = .ok (.ladd, 1) := by decide +kernel
theorem dL_print_18 : decode cL_print 18 = .ok (.lmul, 1) := by decide +kernel
theorem dL_print_19 : decode cL_print 19 = .ok (.aload_n 0, 1) := by decide +kernel
theorem dL_print_20 : decode cL_print 20 = .ok (.iconst 1, 1) := by decide +kernel
theorem dL_print_21 : decode cL_print 21 = .ok (.invokevirtual 87, 3) := by decide +kernel
theorem dL_print_24 : decode cL_print 24 = .ok (.i2l, 1) := by decide +kernel
theorem dL_print_25 : decode cL_print 25 = .ok (.ladd, 1) := by decide +kernel
theorem dL_print_26 : decode cL_print 26 = .ok (.lstore_n 1, 1) := by decide +kernel
theorem dL_print_27 : decode cL_print 27 = .ok (.iconst 0, 1) := by decide +kernel
theorem dL_print_28 : decode cL_print 28 = .ok (.istore_n 3, 1) := by decide +kernel
theorem dL_print_29 : decode cL_print 29 = .ok (.iload_n 3, 1) := by decide +kernel
theorem dL_print_30 : decode cL_print 30 = .ok (.aload_n 0, 1) := by decide +kernel
theorem dL_print_31 : decode cL_print 31 = .ok (.iconst 0, 1) := by decide +kernel
theorem dL_print_32 : decode cL_print 32 = .ok (.invokevirtual 87, 3) := by decide +kernel
theorem dL_print_35 : decode cL_print 35 = .ok (.if_icmp .ge 100, 3) := by decide +kernel
theorem dL_print_38 : decode cL_print 38 = .ok (.iconst 0, 1) := by decide +kernel
theorem dL_print_39 : decode cL_print 39 = .ok (.istore 4, 2) := by decide +kernel
theorem dL_print_41 : decode cL_print 41 = .ok (.iload 4, 2) := by decide +kernel
theorem dL_print_43 : decode cL_print 43 = .ok (.bipush 6, 2) := by decide +kernel
theorem dL_print_45 : decode cL_print 45 = .ok (.if_icmp .ge 24, 3) := by decide +kernel
theorem dL_print_48 : decode cL_print 48 = .ok (.ldc2_w 79, 3) := by decide +kernel
theorem dL_print_51 : decode cL_print 51 = .ok (.lload_n 1, 1) := by decide +kernel
theorem dL_print_52 : decode cL_print 52 = .ok (.lmul, 1) := by decide +kernel
theorem dL_print_53 : decode cL_print 53 = .ok (.aload_n 0, 1) := by decide +kernel
theorem dL_print_54 : decode cL_print 54 = .ok (.iload_n 3, 1) := by decide +kernel
theorem dL_print_55 : decode cL_print 55 = .ok (.iload 4, 2) := by decide +kernel
theorem dL_print_57 : decode cL_print 57 = .ok (.invokestatic 91, 3) := by decide +kernel
theorem dL_print_60 : decode cL_print 60 = .ok (.i2l, 1) := by decide +kernel
theorem dL_print_61 : decode cL_print 61 = .ok (.ladd, 1) := by decide +kernel
theorem dL_print_62 : decode cL_print 62 = .ok (.lstore_n 1, 1) := by decide +kernel
theorem dL_print_63 : decode cL_print 63 = .ok (.iinc 4 1, 3) := by decide +kernel
theorem dL_print_66 : decode cL_print 66 = .ok (.goto (-25), 3) := by decide +kernel
theorem dL_print_69 : decode cL_print 69 = .ok (.iconst 0, 1) := by decide +kernel
theorem dL_print_70 : decode cL_print 70 = .ok (.istore 4, 2) := by decide +kernel
theorem dL_print_72 : decode cL_print 72 = .ok (.iload 4, 2) := by decide +kernel
theorem dL_print_74 : decode cL_print 74 = .ok (.iconst 5, 1) := by decide +kernel
theorem dL_print_75 : decode cL_print 75 = .ok (.if_icmp .ge 24, 3) := by decide +kernel
theorem dL_print_78 : decode cL_print 78 = .ok (.ldc2_w 79, 3) := by decide +kernel
theorem dL_print_81 : decode cL_print 81 = .ok (.lload_n 1, 1) := by decide +kernel
theorem dL_print_82 : decode cL_print 82 = .ok (.lmul, 1) := by decide +kernel
theorem dL_print_83 : decode cL_print 83 = .ok (.aload_n 0, 1) := by decide +kernel
theorem dL_print_84 : decode cL_print 84 = .ok (.iload_n 3, 1) := by decide +kernel
theorem dL_print_85 : decode cL_print 85 = .ok (.iload 4, 2) := by decide +kernel
theorem dL_print_87 : decode cL_print 87 = .ok (.invokestatic 96, 3) := by decide +kernel
theorem dL_print_90 : decode cL_print 90 = .ok (.i2l, 1) := by decide +kernel
theorem dL_print_91 : decode cL_print 91 = .ok (.ladd, 1) := by decide +kernel
theorem dL_print_92 : decode cL_print 92 = .ok (.lstore_n 1, 1) := by decide +kernel
theorem dL_print_93 : decode cL_print 93 = .ok (.iinc 4 1, 3) := by decide +kernel
theorem dL_print_96 : decode cL_print 96 = .ok (.goto (-24), 3) := by decide +kernel
theorem dL_print_99 : decode cL_print 99 = .ok (.iconst 0, 1) := by decide +kernel
theorem dL_print_100 : decode cL_print 100 = .ok (.istore 4, 2) := by decide +kernel
theorem dL_print_102 : decode cL_print 102 = .ok (.iload 4, 2) := by decide +kernel
theorem dL_print_104 : decode cL_print 104 = .ok (.iconst 4, 1) := by decide +kernel
theorem dL_print_105 : decode cL_print 105 = .ok (.if_icmp .ge 24, 3) := by decide +kernel
theorem dL_print_108 : decode cL_print 108 = .ok (.ldc2_w 79, 3) := by decide +kernel
theorem dL_print_111 : decode cL_print 111 = .ok (.lload_n 1, 1) := by decide +kernel
theorem dL_print_112 : decode cL_print 112 = .ok (.lmul, 1) := by decide +kernel
theorem dL_print_113 : decode cL_print 113 = .ok (.aload_n 0, 1) := by decide +kernel
theorem dL_print_114 : decode cL_print 114 = .ok (.iload_n 3, 1) := by decide +kernel
theorem dL_print_115 : decode cL_print 115 = .ok (.iload 4, 2) := by decide +kernel
theorem dL_print_117 : decode cL_print 117 = .ok (.invokestatic 98, 3) := by decide +kernel
theorem dL_print_120 : decode cL_print 120 = .ok (.i2l, 1) := by decide +kernel
theorem dL_print_121 : decode cL_print 121 = .ok (.ladd, 1) := by decide +kernel
theorem dL_print_122 : decode cL_print 122 = .ok (.lstore_n 1, 1) := by decide +kernel
theorem dL_print_123 : decode cL_print 123 = .ok (.iinc 4 1, 3) := by decide +kernel
theorem dL_print_126 : decode cL_print 126 = .ok (.goto (-24), 3) := by decide +kernel
theorem dL_print_129 : decode cL_print 129 = .ok (.iinc 3 1, 3) := by decide +kernel
theorem dL_print_132 : decode cL_print 132 = .ok (.goto (-103), 3) := by decide +kernel
theorem dL_print_135 : decode cL_print 135 = .ok (.iconst 0, 1) := by decide +kernel
theorem dL_print_136 : decode cL_print 136 = .ok (.istore_n 3, 1) := by decide +kernel
theorem dL_print_137 : decode cL_print 137 = .ok (.iload_n 3, 1) := by decide +kernel
theorem dL_print_138 : decode cL_print 138 = .ok (.aload_n 0, 1) := by decide +kernel
theorem dL_print_139 : decode cL_print 139 = .ok (.iconst 1, 1) := by decide +kernel
theorem dL_print_140 : decode cL_print 140 = .ok (.invokevirtual 87, 3) := by decide +kernel
theorem dL_print_143 : decode cL_print 143 = .ok (.if_icmp .ge 47, 3) := by decide +kernel
theorem dL_print_146 : decode cL_print 146 = .ok (.ldc2_w 79, 3) := by decide +kernel
theorem dL_print_149 : decode cL_print 149 = .ok (.ldc2_w 79, 3) := by decide +kernel
theorem dL_print_152 : decode cL_print 152 = .ok (.ldc2_w 79, 3) := by decide +kernel
theorem dL_print_155 : decode cL_print 155 = .ok (.lload_n 1, 1) := by decide +kernel
theorem dL_print_156 : decode cL_print 156 = .ok (.lmul, 1) := by decide +kernel
theorem dL_print_157 : decode cL_print 157 = .ok (.aload_n 0, 1) := by decide +kernel
theorem dL_print_158 : decode cL_print 158 = .ok (.iload_n 3, 1) := by decide +kernel
theorem dL_print_159 : decode cL_print 159 = .ok (.iconst 0, 1) := by decide +kernel
theorem dL_print_160 : decode cL_print 160 = .ok (.invokestatic 100, 3) := by decide +kernel
theorem dL_print_163 : decode cL_print 163 = .ok (.i2l, 1) := by decide +kernel
theorem dL_print_164 : decode cL_print 164 = .ok (.ladd, 1) := by decide +kernel
theorem dL_print_165 : decode cL_print 165 = .ok (.lmul, 1) := by decide +kernel
theorem dL_print_166 : decode cL_print 166 = .ok (.aload_n 0, 1) := by decide +kernel
theorem dL_print_167 : decode cL_print 167 = .ok (.iload_n 3, 1) := by decide +kernel
theorem dL_print_168 : decode cL_print 168 = .ok (.iconst 1, 1) := by decide +kernel
theorem dL_print_169 : decode cL_print 169 = .ok (.invokestatic 100, 3) := by decide +kernel
theorem dL_print_172 : decode cL_print 172 = .ok (.i2l, 1) := by decide +kernel
theorem dL_print_173 : decode cL_print 173 = .ok (.ladd, 1) := by decide +kernel
theorem dL_print_174 : decode cL_print 174 = .ok (.lmul, 1) := by decide +kernel
theorem dL_print_175 : decode cL_print 175 = .ok (.aload_n 0, 1) := by decide +kernel
theorem dL_print_176 : decode cL_print 176 = .ok (.iload_n 3, 1) := by decide +kernel
theorem dL_print_177 : decode cL_print 177 = .ok (.iconst 2, 1) := by decide +kernel
theorem dL_print_178 : decode cL_print 178 = .ok (.invokestatic 100, 3) := by decide +kernel
theorem dL_print_181 : decode cL_print 181 = .ok (.i2l, 1) := by decide +kernel
theorem dL_print_182 : decode cL_print 182 = .ok (.ladd, 1) := by decide +kernel
theorem dL_print_183 : decode cL_print 183 = .ok (.lstore_n 1, 1) := by decide +kernel
theorem dL_print_184 : decode cL_print 184 = .ok (.iinc 3 1, 3) := by decide +kernel
theorem dL_print_187 : decode cL_print 187 = .ok (.goto (-50), 3) := by decide +kernel
theorem dL_print_190 : decode cL_print 190 = .ok (.lload_n 1, 1) := by decide +kernel
theorem dL_print_191 : decode cL_print 191 = .ok (.lreturn, 1) := by decide +kernel
theorem dL_refused_0 : decode cL_refused 0 = .ok (.aload_n 0, 1) := by decide +kernel
theorem dL_refused_1 : decode cL_refused 1 = .ok (.invokestatic 102, 3) := by decide +kernel
theorem dL_refused_4 : decode cL_refused 4 = .ok (.lstore_n 1, 1) := by decide +kernel
theorem dL_refused_5 : decode cL_refused 5 = .ok (.aload_n 0, 1) := by decide +kernel
theorem dL_refused_6 : decode cL_refused 6 = .ok (.iconst 0, 1) := by decide +kernel
theorem dL_refused_7 : decode cL_refused 7 = .ok (.iconst 1, 1) := by decide +kernel
theorem dL_refused_8 : decode cL_refused 8 = .ok (.iconst 1, 1) := by decide +kernel
theorem dL_refused_9 : decode cL_refused 9 = .ok (.invokestatic 106, 3) := by decide +kernel
theorem dL_refused_12 : decode cL_refused 12 = .ok (.ldc 17, 2) := by decide +kernel
theorem dL_refused_14 : decode cL_refused 14 = .ok (.if_icmp .ne 142, 3) := by decide +kernel
theorem dL_refused_17 : decode cL_refused 17 = .ok (.aload_n 0, 1) := by decide +kernel
