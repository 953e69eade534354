theorem dX4_init_0 : decode cX4_init 0 = .ok (.aload_n 0, 1) := by decide +kernel
theorem dX4_init_1 : decode cX4_init 1 = .ok (.invokespecial 3, 3) := by decide +kernel
theorem dX4_init_4 : decode cX4_init 4 = .ok (.aload_n 0, 1) := by decide +kernel
theorem dX4_init_5 : decode cX4_init 5 = .ok (.bipush 40, 2) := by decide +kernel
theorem dX4_init_7 : decode cX4_init 7 = .ok (.newarray .int, 2) := by decide +kernel
theorem dX4_init_9 : decode cX4_init 9 = .ok (.putfield 9, 3) := by decide +kernel
theorem dX4_init_12 : decode cX4_init 12 = .ok (.aload_n 0, 1) := by decide +kernel
theorem dX4_init_13 : decode cX4_init 13 = .ok (.bipush 40, 2) := by decide +kernel
theorem dX4_init_15 : decode cX4_init 15 = .ok (.newarray .int, 2) := by decide +kernel
theorem dX4_init_17 : decode cX4_init 17 = .ok (.putfield 15, 3) := by decide +kernel
theorem dX4_init_20 : decode cX4_init 20 = .ok (.aload_n 0, 1) := by decide +kernel
theorem dX4_init_21 : decode cX4_init 21 = .ok (.bipush 40, 2) := by decide +kernel
theorem dX4_init_23 : decode cX4_init 23 = .ok (.newarray .int, 2) := by decide +kernel
theorem dX4_init_25 : decode cX4_init 25 = .ok (.putfield 18, 3) := by decide +kernel
theorem dX4_init_28 : decode cX4_init 28 = .ok (.return_, 1) := by decide +kernel
theorem dX4_copy_0 : decode cX4_copy 0 = .ok (.aload_n 0, 1) := by decide +kernel
theorem dX4_copy_1 : decode cX4_copy 1 = .ok (.getfield 21, 3) := by decide +kernel
theorem dX4_copy_4 : decode cX4_copy 4 = .ok (.istore_n 2, 1) := by decide +kernel
theorem dX4_copy_5 : decode cX4_copy 5 = .ok (.aload_n 0, 1) := by decide +kernel
theorem dX4_copy_6 : decode cX4_copy 6 = .ok (.getfield 9, 3) := by decide +kernel
theorem dX4_copy_9 : decode cX4_copy 9 = .ok (.iconst 0, 1) := by decide +kernel
theorem dX4_copy_10 : decode cX4_copy 10 = .ok (.aload_n 1, 1) := by decide +kernel
theorem dX4_copy_11 : decode cX4_copy 11 = .ok (.getfield 9, 3) := by decide +kernel
theorem dX4_copy_14 : decode cX4_copy 14 = .ok (.iconst 0, 1) := by decide +kernel
theorem dX4_copy_15 : decode cX4_copy 15 = .ok (.iload_n 2, 1) := by decide +kernel
theorem dX4_copy_16 : decode cX4_copy 16 = .ok (.invokestatic 25, 3) := by decide +kernel
theorem dX4_copy_19 : decode cX4_copy 19 = .ok (.aload_n 0, 1) := by decide +kernel
theorem dX4_copy_20 : decode cX4_copy 20 = .ok (.getfield 15, 3) := by decide +kernel
theorem dX4_copy_23 : decode cX4_copy 23 = .ok (.iconst 0, 1) := by decide +kernel
theorem dX4_copy_24 : decode cX4_copy 24 = .ok (.aload_n 1, 1) := by decide +kernel
theorem dX4_copy_25 : decode cX4_copy 25 = .ok (.getfield 15, 3) := by decide +kernel
theorem dX4_copy_28 : decode cX4_copy 28 = .ok (.iconst 0, 1) := by decide +kernel
theorem dX4_copy_29 : decode cX4_copy 29 = .ok (.iload_n 2, 1) := by decide +kernel
theorem dX4_copy_30 : decode cX4_copy 30 = .ok (.invokestatic 25, 3) := by decide +kernel
theorem dX4_copy_33 : decode cX4_copy 33 = .ok (.aload_n 0, 1) := by decide +kernel
theorem dX4_copy_34 : decode cX4_copy 34 = .ok (.getfield 18, 3) := by decide +kernel
theorem dX4_copy_37 : decode cX4_copy 37 = .ok (.iconst 0, 1) := by decide +kernel
theorem dX4_copy_38 : decode cX4_copy 38 = .ok (.aload_n 1, 1) := by decide +kernel
theorem dX4_copy_39 : decode cX4_copy 39 = .ok (.getfield 18, 3) := by decide +kernel
theorem dX4_copy_42 : decode cX4_copy 42 = .ok (.iconst 0, 1) := by decide +kernel
theorem dX4_copy_43 : decode cX4_copy 43 = .ok (.iload_n 2, 1) := by decide +kernel
theorem dX4_copy_44 : decode cX4_copy 44 = .ok (.invokestatic 25, 3) := by decide +kernel
theorem dX4_copy_47 : decode cX4_copy 47 = .ok (.aload_n 1, 1) := by decide +kernel
theorem dX4_copy_48 : decode cX4_copy 48 = .ok (.iload_n 2, 1) := by decide +kernel
theorem dX4_copy_49 : decode cX4_copy 49 = .ok (.putfield 21, 3) := by decide +kernel
theorem dX4_copy_52 : decode cX4_copy 52 = .ok (.return_, 1) := by decide +kernel
theorem dX4_plan_0 : decode cX4_plan 0 = .ok (.aload_n 0, 1) := by decide +kernel
theorem dX4_plan_1 : decode cX4_plan 1 = .ok (.getfield 21, 3) := by decide +kernel
theorem dX4_plan_4 : decode cX4_plan 4 = .ok (.bipush 40, 2) := by decide +kernel
theorem dX4_plan_6 : decode cX4_plan 6 = .ok (.if_icmp .ge 43, 3) := by decide +kernel
theorem dX4_plan_9 : decode cX4_plan 9 = .ok (.aload_n 0, 1) := by decide +kernel
theorem dX4_plan_10 : decode cX4_plan 10 = .ok (.getfield 9, 3) := by decide +kernel
theorem dX4_plan_13 : decode cX4_plan 13 = .ok (.aload_n 0, 1) := by decide +kernel
theorem dX4_plan_14 : decode cX4_plan 14 = .ok (.getfield 21, 3) := by decide +kernel
theorem dX4_plan_17 : decode cX4_plan 17 = .ok (.iload_n 1, 1) := by decide +kernel
theorem dX4_plan_18 : decode cX4_plan 18 = .ok (.iastore, 1) := by decide +kernel
theorem dX4_plan_19 : decode cX4_plan 19 = .ok (.aload_n 0, 1) := by decide +kernel
theorem dX4_plan_20 : decode cX4_plan 20 = .ok (.getfield 15, 3) := by decide +kernel
theorem dX4_plan_23 : decode cX4_plan 23 = .ok (.aload_n 0, 1) := by decide +kernel
theorem dX4_plan_24 : decode cX4_plan 24 = .ok (.getfield 21, 3) := by decide +kernel
theorem dX4_plan_27 : decode cX4_plan 27 = .ok (.iload_n 2, 1) := by decide +kernel
theorem dX4_plan_28 : decode cX4_plan 28 = .ok (.iastore, 1) := by decide +kernel
theorem dX4_plan_29 : decode cX4_plan 29 = .ok (.aload_n 0, 1) := by decide +kernel
theorem dX4_plan_30 : decode cX4_plan 30 = .ok (.getfield 18, 3) := by decide +kernel
theorem dX4_plan_33 : decode cX4_plan 33 = .ok (.aload_n 0, 1) := by decide +kernel
theorem dX4_plan_34 : decode cX4_plan 34 = .ok (.getfield 21, 3) := by decide +kernel
theorem dX4_plan_37 : decode cX4_plan 37 = .ok (.iload_n 3, 1) := by decide +kernel
theorem dX4_plan_38 : decode cX4_plan 38 = .ok (.iastore, 1) := by decide +kernel
theorem dX4_plan_39 : decode cX4_plan 39 = .ok (.aload_n 0, 1) := by decide +kernel
theorem dX4_plan_40 : decode cX4_plan 40 = .ok (.dup, 1) := by decide +kernel
theorem dX4_plan_41 : decode cX4_plan 41 = .ok (.getfield 21, 3) := by decide +kernel
theorem dX4_plan_44 : decode cX4_plan 44 = .ok (.iconst 1, 1) := by decide +kernel
theorem dX4_plan_45 : decode cX4_plan 45 = .ok (.iadd, 1) := by decide +kernel
theorem dX4_plan_46 : decode cX4_plan 46 = .ok (.putfield 21, 3) := by decide +kernel
theorem dX4_plan_49 : decode cX4_plan 49 = .ok (.return_, 1) := by decide +kernel
set_option maxRecDepth 20000 in
theorem ggX4_dropAfter_X4_plan : GoodIn wsX4_dropAfter wsX4_plan := goodIn_r _ [9, 1, 3, 2, 4, 10, 11, 12, 13, 14] (by decide +kernel) (by decide +kernel)
set_option maxRecDepth 20000 in
theorem gX4_dropAfter_X4_plan : GoodIn wsX4_dropAfter (wsV RX4 31 RX4 yX4_plan wsX4_plan) := goodIn_app (goodIn_of _ (by decide +kernel)) ggX4_dropAfter_X4_plan
theorem dX4_dropAfter_0 : decode cX4_dropAfter 0 = .ok (.aload_n 0, 1) := by decide +kernel
theorem dX4_dropAfter_1 : decode cX4_dropAfter 1 = .ok (.getfield 21, 3) := by decide +kernel
theorem dX4_dropAfter_4 : decode cX4_dropAfter 4 = .ok (.istore_n 2, 1) := by decide +kernel
theorem dX4_dropAfter_5 : decode cX4_dropAfter 5 = .ok (.aload_n 0, 1) := by decide +kernel
theorem dX4_dropAfter_6 : decode cX4_dropAfter 6 = .ok (.iconst 0, 1) := by decide +kernel
theorem dX4_dropAfter_7 : decode cX4_dropAfter 7 = .ok (.putfield 21, 3) := by decide +kernel
theorem dX4_dropAfter_10 : decode cX4_dropAfter 10 = .ok (.iconst 0, 1) := by decide +kernel
theorem dX4_dropAfter_11 : decode cX4_dropAfter 11 = .ok (.istore_n 3, 1) := by decide +kernel
theorem dX4_dropAfter_12 : decode cX4_dropAfter 12 = .ok (.iload_n 3, 1) := by decide +kernel
theorem dX4_dropAfter_13 : decode cX4_dropAfter 13 = .ok (.iload_n 2, 1) := by decide +kernel
theorem dX4_dropAfter_14 : decode cX4_dropAfter 14 = .ok (.if_icmp .ge 41, 3) := by decide +kernel
theorem dX4_dropAfter_17 : decode cX4_dropAfter 17 = .ok (.aload_n 0, 1) := by decide +kernel
theorem dX4_dropAfter_18 : decode cX4_dropAfter 18 = .ok (.getfield 15, 3) := by decide +kernel
theorem dX4_dropAfter_21 : decode cX4_dropAfter 21 = .ok (.iload_n 3, 1) := by decide +kernel
theorem dX4_dropAfter_22 : decode cX4_dropAfter 22 = .ok (.iaload, 1) := by decide +kernel
theorem dX4_dropAfter_23 : decode cX4_dropAfter 23 = .ok (.iload_n 1, 1) := by decide +kernel
theorem dX4_dropAfter_24 : decode cX4_dropAfter 24 = .ok (.if_icmp .gt 25, 3) := by decide +kernel
theorem dX4_dropAfter_27 : decode cX4_dropAfter 27 = .ok (.aload_n 0, 1) := by decide +kernel
theorem dX4_dropAfter_28 : decode cX4_dropAfter 28 = .ok (.aload_n 0, 1) := by decide +kernel
theorem dX4_dropAfter_29 : decode cX4_dropAfter 29 = .ok (.getfield 9, 3) := by decide +kernel
theorem dX4_dropAfter_32 : decode cX4_dropAfter 32 = .ok (.iload_n 3, 1) := by decide +kernel
theorem dX4_dropAfter_33 : decode cX4_dropAfter 33 = .ok (.iaload, 1) := by decide +kernel
theorem dX4_dropAfter_34 : decode cX4_dropAfter 34 = .ok (.aload_n 0, 1) := by decide +kernel
theorem dX4_dropAfter_35 : decode cX4_dropAfter 35 = .ok (.getfield 15, 3) := by decide +kernel
theorem dX4_dropAfter_38 : decode cX4_dropAfter 38 = .ok (.iload_n 3, 1) := by decide +kernel
theorem dX4_dropAfter_39 : decode cX4_dropAfter 39 = .ok (.iaload, 1) := by decide +kernel
theorem dX4_dropAfter_40 : decode cX4_dropAfter 40 = .ok (.aload_n 0, 1) := by decide +kernel
theorem dX4_dropAfter_41 : decode cX4_dropAfter 41 = .ok (.getfield 18, 3) := by decide +kernel
theorem dX4_dropAfter_44 : decode cX4_dropAfter 44 = .ok (.iload_n 3, 1) := by decide +kernel
theorem dX4_dropAfter_45 : decode cX4_dropAfter 45 = .ok (.iaload, 1) := by decide +kernel
theorem dX4_dropAfter_46 : decode cX4_dropAfter 46 = .ok (.invokevirtual 31, 3) := by decide +kernel
theorem dX4_dropAfter_49 : decode cX4_dropAfter 49 = .ok (.iinc 3 1, 3) := by decide +kernel
theorem dX4_dropAfter_52 : decode cX4_dropAfter 52 = .ok (.goto (-40), 3) := by decide +kernel
theorem dX4_dropAfter_55 : decode cX4_dropAfter 55 = .ok (.iload_n 2, 1) := by decide +kernel
theorem dX4_dropAfter_56 : decode cX4_dropAfter 56 = .ok (.aload_n 0, 1) := by decide +kernel
theorem dX4_dropAfter_57 : decode cX4_dropAfter 57 = .ok (.getfield 21, 3) := by decide +kernel
theorem dX4_dropAfter_60 : decode cX4_dropAfter 60 = .ok (.isub, 1) := by decide +kernel
theorem dX4_dropAfter_61 : decode cX4_dropAfter 61 = .ok (.ireturn, 1) := by decide +kernel
theorem dX4_value_0 : decode cX4_value 0 = .ok (.iload_n 2, 1) := by decide +kernel
theorem dX4_value_1 : decode cX4_value 1 = .ok (.ifCond .ne 10, 3) := by decide +kernel
theorem dX4_value_4 : decode cX4_value 4 = .ok (.aload_n 0, 1) := by decide +kernel
theorem dX4_value_5 : decode cX4_value 5 = .ok (.getfield 9, 3) := by decide +kernel
theorem dX4_value_8 : decode cX4_value 8 = .ok (.iload_n 1, 1) := by decide +kernel
theorem dX4_value_9 : decode cX4_value 9 = .ok (.iaload, 1) := by decide +kernel
theorem dX4_value_10 : decode cX4_value 10 = .ok (.ireturn, 1) := by decide +kernel
theorem dX4_value_11 : decode cX4_value 11 = .ok (.iload_n 2, 1) := by decide +kernel
theorem dX4_value_12 : decode cX4_value 12 = .ok (.iconst 1, 1) := by decide +kernel
theorem dX4_value_13 : decode cX4_value 13 = .ok (.if_icmp .ne 12, 3) := by decide +kernel
theorem dX4_value_16 : decode cX4_value 16 = .ok (.aload_n 0, 1) := by decide +kernel
theorem dX4_value_17 : decode cX4_value 17 = .ok (.getfield 15, 3) := by decide +kernel
theorem dX4_value_20 : decode cX4_value 20 = .ok (.iload_n 1, 1) := by decide +kernel
theorem dX4_value_21 : decode cX4_value 21 = .ok (.iaload, 1) := by decide +kernel
theorem dX4_value_22 : decode cX4_value 22 = .ok (.goto 9, 3) := by decide +kernel
theorem dX4_value_25 : decode cX4_value 25 = .ok (.aload_n 0, 1) := by decide +kernel
theorem dX4_value_26 : decode cX4_value 26 = .ok (.getfield 18, 3) := by decide +kernel
theorem dX4_value_29 : decode cX4_value 29 = .ok (.iload_n 1, 1) := by decide +kernel
theorem dX4_value_30 : decode cX4_value 30 = .ok (.iaload, 1) := by decide +kernel
theorem dX4_value_31 : decode cX4_value 31 = .ok (.ireturn, 1) := by decide +kernel
theorem dX4_lookAt_0 : decode cX4_lookAt 0 = .ok (.ldc 35, 2) := by decide +kernel
theorem dX4_lookAt_2 : decode cX4_lookAt 2 = .ok (.istore_n 2, 1) := by decide +kernel
theorem dX4_lookAt_3 : decode cX4_lookAt 3 = .ok (.aload_n 0, 1) := by decide +kernel
theorem dX4_lookAt_4 : decode cX4_lookAt 4 = .ok (.iconst 0, 1) := by decide +kernel
theorem dX4_lookAt_5 : decode cX4_lookAt 5 = .ok (.putfield 36, 3) := by decide +kernel
theorem dX4_lookAt_8 : decode cX4_lookAt 8 = .ok (.iconst 0, 1) := by decide +kernel
theorem dX4_lookAt_9 : decode cX4_lookAt 9 = .ok (.istore_n 3, 1) := by decide +kernel
theorem dX4_lookAt_10 : decode cX4_lookAt 10 = .ok (.iload_n 3, 1) := by decide +kernel
theorem dX4_lookAt_11 : decode cX4_lookAt 11 = .ok (.aload_n 0, 1) := by decide +kernel
theorem dX4_lookAt_12 : decode cX4_lookAt 12 = .ok (.getfield 21, 3) := by decide +kernel
theorem dX4_lookAt_15 : decode cX4_lookAt 15 = .ok (.if_icmp .ge 74, 3) := by decide +kernel
theorem dX4_lookAt_18 : decode cX4_lookAt 18 = .ok (.aload_n 0, 1) := by decide +kernel
theorem dX4_lookAt_19 : decode cX4_lookAt 19 = .ok (.getfield 15, 3) := by decide +kernel
theorem dX4_lookAt_22 : decode cX4_lookAt 22 = .ok (.iload_n 3, 1) := by decide +kernel
theorem dX4_lookAt_23 : decode cX4_lookAt 23 = .ok (.iaload, 1) := by decide +kernel
theorem dX4_lookAt_24 : decode cX4_lookAt 24 = .ok (.istore 4, 2) := by decide +kernel
theorem dX4_lookAt_26 : decode cX4_lookAt 26 = .ok (.iload 4, 2) := by decide +kernel
theorem dX4_lookAt_28 : decode cX4_lookAt 28 = .ok (.aload_n 0, 1) := by decide +kernel
theorem dX4_lookAt_29 : decode cX4_lookAt 29 = .ok (.getfield 18, 3) := by decide +kernel
theorem dX4_lookAt_32 : decode cX4_lookAt 32 = .ok (.iload_n 3, 1) := by decide +kernel
theorem dX4_lookAt_33 : decode cX4_lookAt 33 = .ok (.iaload, 1) := by decide +kernel
theorem dX4_lookAt_34 : decode cX4_lookAt 34 = .ok (.iadd, 1) := by decide +kernel
theorem dX4_lookAt_35 : decode cX4_lookAt 35 = .ok (.istore 5, 2) := by decide +kernel
theorem dX4_lookAt_37 : decode cX4_lookAt 37 = .ok (.iload 4, 2) := by decide +kernel
theorem dX4_lookAt_39 : decode cX4_lookAt 39 = .ok (.iload_n 1, 1) := by decide +kernel
theorem dX4_lookAt_40 : decode cX4_lookAt 40 = .ok (.if_icmp .le 13, 3) := by decide +kernel
theorem dX4_lookAt_43 : decode cX4_lookAt 43 = .ok (.iload_n 2, 1) := by decide +kernel
theorem dX4_lookAt_44 : decode cX4_lookAt 44 = .ok (.iload 4, 2) := by decide +kernel
theorem dX4_lookAt_46 : decode cX4_lookAt 46 = .ok (.invokestatic 39, 3) := by decide +kernel
theorem dX4_lookAt_49 : decode cX4_lookAt 49 = .ok (.istore_n 2, 1) := by decide +kernel
theorem dX4_lookAt_50 : decode cX4_lookAt 50 = .ok (.goto 33, 3) := by decide +kernel
theorem dX4_lookAt_53 : decode cX4_lookAt 53 = .ok (.iload 5, 2) := by decide +kernel
theorem dX4_lookAt_55 : decode cX4_lookAt 55 = .ok (.iload_n 1, 1) := by decide +kernel
theorem dX4_lookAt_56 : decode cX4_lookAt 56 = .ok (.if_icmp .le 27, 3) := by decide +kernel
theorem dX4_lookAt_59 : decode cX4_lookAt 59 = .ok (.aload_n 0, 1) := by decide +kernel
theorem dX4_lookAt_60 : decode cX4_lookAt 60 = .ok (.dup, 1) := by decide +kernel
theorem dX4_lookAt_61 : decode cX4_lookAt 61 = .ok (.getfield 36, 3) := by decide +kernel
theorem dX4_lookAt_64 : decode cX4_lookAt 64 = .ok (.iconst 1, 1) := by decide +kernel
theorem dX4_lookAt_65 : decode cX4_lookAt 65 = .ok (.aload_n 0, 1) := by decide +kernel
theorem dX4_lookAt_66 : decode cX4_lookAt 66 = .ok (.getfield 9, 3) := by decide +kernel
theorem dX4_lookAt_69 : decode cX4_lookAt 69 = .ok (.iload_n 3, 1) := by decide +kernel
theorem dX4_lookAt_70 : decode cX4_lookAt 70 = .ok (.iaload, 1) := by decide +kernel
theorem dX4_lookAt_71 : decode cX4_lookAt 71 = .ok (.ishl, 1) := by decide +kernel
theorem dX4_lookAt_72 : decode cX4_lookAt 72 = .ok (.ior, 1) := by decide +kernel
theorem dX4_lookAt_73 : decode cX4_lookAt 73 = .ok (.putfield 36, 3) := by decide +kernel
theorem dX4_lookAt_76 : decode cX4_lookAt 76 = .ok (.iload_n 2, 1) := by decide +kernel
theorem dX4_lookAt_77 : decode cX4_lookAt 77 = .ok (.iload 5, 2) := by decide +kernel
theorem dX4_lookAt_79 : decode cX4_lookAt 79 = .ok (.invokestatic 39, 3) := by decide +kernel
theorem dX4_lookAt_82 : decode cX4_lookAt 82 = .ok (.istore_n 2, 1) := by decide +kernel
theorem dX4_lookAt_83 : decode cX4_lookAt 83 = .ok (.iinc 3 1, 3) := by decide +kernel
theorem dX4_lookAt_86 : decode cX4_lookAt 86 = .ok (.goto (-76), 3) := by decide +kernel
theorem dX4_lookAt_89 : decode cX4_lookAt 89 = .ok (.iload_n 2, 1) := by decide +kernel
theorem dX4_lookAt_90 : decode cX4_lookAt 90 = .ok (.ireturn, 1) := by decide +kernel
theorem dX4_isDown_0 : decode cX4_isDown 0 = .ok (.aload_n 0, 1) := by decide +kernel
theorem dX4_isDown_1 : decode cX4_isDown 1 = .ok (.getfield 36, 3) := by decide +kernel
theorem dX4_isDown_4 : decode cX4_isDown 4 = .ok (.iload_n 1, 1) := by decide +kernel
theorem dX4_isDown_5 : decode cX4_isDown 5 = .ok (.ishr, 1) := by decide +kernel
theorem dX4_isDown_6 : decode cX4_isDown 6 = .ok (.iconst 1, 1) := by decide +kernel
theorem dX4_isDown_7 : decode cX4_isDown 7 = .ok (.iand, 1) := by decide +kernel
theorem dX4_isDown_8 : decode cX4_isDown 8 = .ok (.iconst 1, 1) := by decide +kernel
theorem dX4_isDown_9 : decode cX4_isDown 9 = .ok (.if_icmp .ne 7, 3) := by decide +kernel
theorem dX4_isDown_12 : decode cX4_isDown 12 = .ok (.iconst 1, 1) := by decide +kernel
theorem dX4_isDown_13 : decode cX4_isDown 13 = .ok (.goto 4, 3) := by decide +kernel
theorem dX4_isDown_16 : decode cX4_isDown 16 = .ok (.iconst 0, 1) := by decide +kernel
theorem dX4_isDown_17 : decode cX4_isDown 17 = .ok (.ireturn, 1) := by decide +kernel
