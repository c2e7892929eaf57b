theorem dX0_closed_0 : decode cX0_closed 0 = .ok (.iload_n 0, 1) := by decide +kernel
theorem dX0_closed_1 : decode cX0_closed 1 = .ok (.bipush 63, 2) := by decide +kernel
theorem dX0_closed_3 : decode cX0_closed 3 = .ok (.iand, 1) := by decide +kernel
theorem dX0_closed_4 : decode cX0_closed 4 = .ok (.ireturn, 1) := by decide +kernel
theorem dX0_running_0 : decode cX0_running 0 = .ok (.iload_n 0, 1) := by decide +kernel
theorem dX0_running_1 : decode cX0_running 1 = .ok (.bipush 6, 2) := by decide +kernel
theorem dX0_running_3 : decode cX0_running 3 = .ok (.ishr, 1) := by decide +kernel
theorem dX0_running_4 : decode cX0_running 4 = .ok (.bipush 7, 2) := by decide +kernel
theorem dX0_running_6 : decode cX0_running 6 = .ok (.iand, 1) := by decide +kernel
theorem dX0_running_7 : decode cX0_running 7 = .ok (.ireturn, 1) := by decide +kernel
theorem dX0_isRunning_0 : decode cX0_isRunning 0 = .ok (.iload_n 0, 1) := by decide +kernel
theorem dX0_isRunning_1 : decode cX0_isRunning 1 = .ok (.invokestatic 11, 3) := by decide +kernel
theorem dX0_isRunning_4 : decode cX0_isRunning 4 = .ok (.iload_n 1, 1) := by decide +kernel
theorem dX0_isRunning_5 : decode cX0_isRunning 5 = .ok (.invokestatic 15, 3) := by decide +kernel
theorem dX0_isRunning_8 : decode cX0_isRunning 8 = .ok (.ifCond .eq 7, 3) := by decide +kernel
theorem dX0_isRunning_11 : decode cX0_isRunning 11 = .ok (.iconst 1, 1) := by decide +kernel
theorem dX0_isRunning_12 : decode cX0_isRunning 12 = .ok (.goto 4, 3) := by decide +kernel
theorem dX0_isRunning_15 : decode cX0_isRunning 15 = .ok (.iconst 0, 1) := by decide +kernel
theorem dX0_isRunning_16 : decode cX0_isRunning 16 = .ok (.ireturn, 1) := by decide +kernel
theorem dX0_left_0 : decode cX0_left 0 = .ok (.iload_n 0, 1) := by decide +kernel
theorem dX0_left_1 : decode cX0_left 1 = .ok (.iload_n 1, 1) := by decide +kernel
theorem dX0_left_2 : decode cX0_left 2 = .ok (.invokestatic 19, 3) := by decide +kernel
theorem dX0_left_5 : decode cX0_left 5 = .ok (.ishr, 1) := by decide +kernel
theorem dX0_left_6 : decode cX0_left 6 = .ok (.iconst 3, 1) := by decide +kernel
theorem dX0_left_7 : decode cX0_left 7 = .ok (.iand, 1) := by decide +kernel
theorem dX0_left_8 : decode cX0_left 8 = .ok (.ireturn, 1) := by decide +kernel
theorem dX0_ready_0 : decode cX0_ready 0 = .ok (.iload_n 0, 1) := by decide +kernel
theorem dX0_ready_1 : decode cX0_ready 1 = .ok (.invokestatic 11, 3) := by decide +kernel
theorem dX0_ready_4 : decode cX0_ready 4 = .ok (.istore_n 1, 1) := by decide +kernel
theorem dX0_ready_5 : decode cX0_ready 5 = .ok (.iconst 0, 1) := by decide +kernel
theorem dX0_ready_6 : decode cX0_ready 6 = .ok (.istore_n 2, 1) := by decide +kernel
theorem dX0_ready_7 : decode cX0_ready 7 = .ok (.iload_n 2, 1) := by decide +kernel
theorem dX0_ready_8 : decode cX0_ready 8 = .ok (.iconst 3, 1) := by decide +kernel
theorem dX0_ready_9 : decode cX0_ready 9 = .ok (.if_icmp .ge 25, 3) := by decide +kernel
theorem dX0_ready_12 : decode cX0_ready 12 = .ok (.iload_n 0, 1) := by decide +kernel
theorem dX0_ready_13 : decode cX0_ready 13 = .ok (.iload_n 2, 1) := by decide +kernel
theorem dX0_ready_14 : decode cX0_ready 14 = .ok (.invokestatic 22, 3) := by decide +kernel
theorem dX0_ready_17 : decode cX0_ready 17 = .ok (.ifCond .le 11, 3) := by decide +kernel
theorem dX0_ready_20 : decode cX0_ready 20 = .ok (.iload_n 1, 1) := by decide +kernel
theorem dX0_ready_21 : decode cX0_ready 21 = .ok (.iconst 1, 1) := by decide +kernel
theorem dX0_ready_22 : decode cX0_ready 22 = .ok (.iload_n 2, 1) := by decide +kernel
theorem dX0_ready_23 : decode cX0_ready 23 = .ok (.ishl, 1) := by decide +kernel
theorem dX0_ready_24 : decode cX0_ready 24 = .ok (.iconst (-1), 1) := by decide +kernel
theorem dX0_ready_25 : decode cX0_ready 25 = .ok (.ixor, 1) := by decide +kernel
theorem dX0_ready_26 : decode cX0_ready 26 = .ok (.iand, 1) := by decide +kernel
theorem dX0_ready_27 : decode cX0_ready 27 = .ok (.istore_n 1, 1) := by decide +kernel
theorem dX0_ready_28 : decode cX0_ready 28 = .ok (.iinc 2 1, 3) := by decide +kernel
theorem dX0_ready_31 : decode cX0_ready 31 = .ok (.goto (-24), 3) := by decide +kernel
theorem dX0_ready_34 : decode cX0_ready 34 = .ok (.iload_n 1, 1) := by decide +kernel
theorem dX0_ready_35 : decode cX0_ready 35 = .ok (.ireturn, 1) := by decide +kernel
theorem dX0_ticked_0 : decode cX0_ticked 0 = .ok (.iload_n 0, 1) := by decide +kernel
theorem dX0_ticked_1 : decode cX0_ticked 1 = .ok (.istore_n 1, 1) := by decide +kernel
theorem dX0_ticked_2 : decode cX0_ticked 2 = .ok (.iconst 0, 1) := by decide +kernel
theorem dX0_ticked_3 : decode cX0_ticked 3 = .ok (.istore_n 2, 1) := by decide +kernel
theorem dX0_ticked_4 : decode cX0_ticked 4 = .ok (.iload_n 2, 1) := by decide +kernel
theorem dX0_ticked_5 : decode cX0_ticked 5 = .ok (.iconst 3, 1) := by decide +kernel
theorem dX0_ticked_6 : decode cX0_ticked 6 = .ok (.if_icmp .ge 26, 3) := by decide +kernel
theorem dX0_ticked_9 : decode cX0_ticked 9 = .ok (.iload_n 0, 1) := by decide +kernel
theorem dX0_ticked_10 : decode cX0_ticked 10 = .ok (.iload_n 2, 1) := by decide +kernel
theorem dX0_ticked_11 : decode cX0_ticked 11 = .ok (.invokestatic 22, 3) := by decide +kernel
theorem dX0_ticked_14 : decode cX0_ticked 14 = .ok (.ifCond .le 12, 3) := by decide +kernel
theorem dX0_ticked_17 : decode cX0_ticked 17 = .ok (.iload_n 1, 1) := by decide +kernel
theorem dX0_ticked_18 : decode cX0_ticked 18 = .ok (.iconst 1, 1) := by decide +kernel
theorem dX0_ticked_19 : decode cX0_ticked 19 = .ok (.iload_n 2, 1) := by decide +kernel
theorem dX0_ticked_20 : decode cX0_ticked 20 = .ok (.invokestatic 19, 3) := by decide +kernel
theorem dX0_ticked_23 : decode cX0_ticked 23 = .ok (.ishl, 1) := by decide +kernel
theorem dX0_ticked_24 : decode cX0_ticked 24 = .ok (.isub, 1) := by decide +kernel
theorem dX0_ticked_25 : decode cX0_ticked 25 = .ok (.istore_n 1, 1) := by decide +kernel
theorem dX0_ticked_26 : decode cX0_ticked 26 = .ok (.iinc 2 1, 3) := by decide +kernel
theorem dX0_ticked_29 : decode cX0_ticked 29 = .ok (.goto (-25), 3) := by decide +kernel
theorem dX0_ticked_32 : decode cX0_ticked 32 = .ok (.iload_n 1, 1) := by decide +kernel
theorem dX0_ticked_33 : decode cX0_ticked 33 = .ok (.ireturn, 1) := by decide +kernel
theorem dX0_withStarted_0 : decode cX0_withStarted 0 = .ok (.iload_n 0, 1) := by decide +kernel
theorem dX0_withStarted_1 : decode cX0_withStarted 1 = .ok (.iconst 1, 1) := by decide +kernel
theorem dX0_withStarted_2 : decode cX0_withStarted 2 = .ok (.bipush 6, 2) := by decide +kernel
theorem dX0_withStarted_4 : decode cX0_withStarted 4 = .ok (.iload_n 1, 1) := by decide +kernel
theorem dX0_withStarted_5 : decode cX0_withStarted 5 = .ok (.iadd, 1) := by decide +kernel
theorem dX0_withStarted_6 : decode cX0_withStarted 6 = .ok (.ishl, 1) := by decide +kernel
theorem dX0_withStarted_7 : decode cX0_withStarted 7 = .ok (.ior, 1) := by decide +kernel
theorem dX0_withStarted_8 : decode cX0_withStarted 8 = .ok (.iload_n 2, 1) := by decide +kernel
theorem dX0_withStarted_9 : decode cX0_withStarted 9 = .ok (.iload_n 1, 1) := by decide +kernel
theorem dX0_withStarted_10 : decode cX0_withStarted 10 = .ok (.invokestatic 19, 3) := by decide +kernel
theorem dX0_withStarted_13 : decode cX0_withStarted 13 = .ok (.ishl, 1) := by decide +kernel
theorem dX0_withStarted_14 : decode cX0_withStarted 14 = .ok (.ior, 1) := by decide +kernel
theorem dX0_withStarted_15 : decode cX0_withStarted 15 = .ok (.ireturn, 1) := by decide +kernel
theorem dX0_withStopped_0 : decode cX0_withStopped 0 = .ok (.iload_n 0, 1) := by decide +kernel
theorem dX0_withStopped_1 : decode cX0_withStopped 1 = .ok (.iconst 1, 1) := by decide +kernel
theorem dX0_withStopped_2 : decode cX0_withStopped 2 = .ok (.bipush 6, 2) := by decide +kernel
theorem dX0_withStopped_4 : decode cX0_withStopped 4 = .ok (.iload_n 1, 1) := by decide +kernel
theorem dX0_withStopped_5 : decode cX0_withStopped 5 = .ok (.iadd, 1) := by decide +kernel
theorem dX0_withStopped_6 : decode cX0_withStopped 6 = .ok (.ishl, 1) := by decide +kernel
theorem dX0_withStopped_7 : decode cX0_withStopped 7 = .ok (.iconst (-1), 1) := by decide +kernel
theorem dX0_withStopped_8 : decode cX0_withStopped 8 = .ok (.ixor, 1) := by decide +kernel
theorem dX0_withStopped_9 : decode cX0_withStopped 9 = .ok (.iand, 1) := by decide +kernel
theorem dX0_withStopped_10 : decode cX0_withStopped 10 = .ok (.iconst 3, 1) := by decide +kernel
theorem dX0_withStopped_11 : decode cX0_withStopped 11 = .ok (.iload_n 1, 1) := by decide +kernel
theorem dX0_withStopped_12 : decode cX0_withStopped 12 = .ok (.invokestatic 19, 3) := by decide +kernel
theorem dX0_withStopped_15 : decode cX0_withStopped 15 = .ok (.ishl, 1) := by decide +kernel
theorem dX0_withStopped_16 : decode cX0_withStopped 16 = .ok (.iconst (-1), 1) := by decide +kernel
theorem dX0_withStopped_17 : decode cX0_withStopped 17 = .ok (.ixor, 1) := by decide +kernel
theorem dX0_withStopped_18 : decode cX0_withStopped 18 = .ok (.iand, 1) := by decide +kernel
theorem dX0_withStopped_19 : decode cX0_withStopped 19 = .ok (.ireturn, 1) := by decide +kernel
theorem dX0_withClosed_0 : decode cX0_withClosed 0 = .ok (.iload_n 0, 1) := by decide +kernel
theorem dX0_withClosed_1 : decode cX0_withClosed 1 = .ok (.iconst 1, 1) := by decide +kernel
theorem dX0_withClosed_2 : decode cX0_withClosed 2 = .ok (.iload_n 1, 1) := by decide +kernel
theorem dX0_withClosed_3 : decode cX0_withClosed 3 = .ok (.ishl, 1) := by decide +kernel
theorem dX0_withClosed_4 : decode cX0_withClosed 4 = .ok (.ior, 1) := by decide +kernel
theorem dX0_withClosed_5 : decode cX0_withClosed 5 = .ok (.ireturn, 1) := by decide +kernel
theorem dX0_withOpened_0 : decode cX0_withOpened 0 = .ok (.iload_n 0, 1) := by decide +kernel
theorem dX0_withOpened_1 : decode cX0_withOpened 1 = .ok (.iload_n 1, 1) := by decide +kernel
theorem dX0_withOpened_2 : decode cX0_withOpened 2 = .ok (.iconst (-1), 1) := by decide +kernel
theorem dX0_withOpened_3 : decode cX0_withOpened 3 = .ok (.ixor, 1) := by decide +kernel
theorem dX0_withOpened_4 : decode cX0_withOpened 4 = .ok (.iand, 1) := by decide +kernel
theorem dX0_withOpened_5 : decode cX0_withOpened 5 = .ok (.ireturn, 1) := by decide +kernel
theorem dX0_leftAt_0 : decode cX0_leftAt 0 = .ok (.bipush 9, 2) := by decide +kernel
theorem dX0_leftAt_2 : decode cX0_leftAt 2 = .ok (.iconst 2, 1) := by decide +kernel
theorem dX0_leftAt_3 : decode cX0_leftAt 3 = .ok (.iload_n 0, 1) := by decide +kernel
theorem dX0_leftAt_4 : decode cX0_leftAt 4 = .ok (.imul, 1) := by decide +kernel
theorem dX0_leftAt_5 : decode cX0_leftAt 5 = .ok (.iadd, 1) := by decide +kernel
theorem dX0_leftAt_6 : decode cX0_leftAt 6 = .ok (.ireturn, 1) := by decide +kernel
theorem dX1_init_0 : decode cX1_init 0 = .ok (.aload_n 0, 1) := by decide +kernel
theorem dX1_init_1 : decode cX1_init 1 = .ok (.invokespecial 3, 3) := by decide +kernel
theorem dX1_init_4 : decode cX1_init 4 = .ok (.aload_n 0, 1) := by decide +kernel
theorem dX1_init_5 : decode cX1_init 5 = .ok (.bipush 6, 2) := by decide +kernel
theorem dX1_init_7 : decode cX1_init 7 = .ok (.newarray .int, 2) := by decide +kernel
theorem dX1_init_9 : decode cX1_init 9 = .ok (.putfield 9, 3) := by decide +kernel
theorem dX1_init_12 : decode cX1_init 12 = .ok (.aload_n 0, 1) := by decide +kernel
theorem dX1_init_13 : decode cX1_init 13 = .ok (.bipush 6, 2) := by decide +kernel
theorem dX1_init_15 : decode cX1_init 15 = .ok (.newarray .int, 2) := by decide +kernel
theorem dX1_init_17 : decode cX1_init 17 = .ok (.putfield 15, 3) := by decide +kernel
theorem dX1_init_20 : decode cX1_init 20 = .ok (.aload_n 0, 1) := by decide +kernel
theorem dX1_init_21 : decode cX1_init 21 = .ok (.bipush 6, 2) := by decide +kernel
theorem dX1_init_23 : decode cX1_init 23 = .ok (.newarray .int, 2) := by decide +kernel
theorem dX1_init_25 : decode cX1_init 25 = .ok (.putfield 18, 3) := by decide +kernel
theorem dX1_init_28 : decode cX1_init 28 = .ok (.aload_n 0, 1) := by decide +kernel
theorem dX1_init_29 : decode cX1_init 29 = .ok (.iconst 3, 1) := by decide +kernel
theorem dX1_init_30 : decode cX1_init 30 = .ok (.newarray .int, 2) := by decide +kernel
theorem dX1_init_32 : decode cX1_init 32 = .ok (.putfield 21, 3) := by decide +kernel
theorem dX1_init_35 : decode cX1_init 35 = .ok (.aload_n 0, 1) := by decide +kernel
theorem dX1_init_36 : decode cX1_init 36 = .ok (.iconst 3, 1) := by decide +kernel
theorem dX1_init_37 : decode cX1_init 37 = .ok (.newarray .int, 2) := by decide +kernel
theorem dX1_init_39 : decode cX1_init 39 = .ok (.putfield 24, 3) := by decide +kernel
theorem dX1_init_42 : decode cX1_init 42 = .ok (.aload_n 0, 1) := by decide +kernel
theorem dX1_init_43 : decode cX1_init 43 = .ok (.iconst 3, 1) := by decide +kernel
theorem dX1_init_44 : decode cX1_init 44 = .ok (.newarray .int, 2) := by decide +kernel
theorem dX1_init_46 : decode cX1_init 46 = .ok (.putfield 27, 3) := by decide +kernel
theorem dX1_init_49 : decode cX1_init 49 = .ok (.aload_n 0, 1) := by decide +kernel
theorem dX1_init_50 : decode cX1_init 50 = .ok (.iconst 3, 1) := by decide +kernel
theorem dX1_init_51 : decode cX1_init 51 = .ok (.newarray .int, 2) := by decide +kernel
theorem dX1_init_53 : decode cX1_init 53 = .ok (.putfield 30, 3) := by decide +kernel
theorem dX1_init_56 : decode cX1_init 56 = .ok (.aload_n 0, 1) := by decide +kernel
theorem dX1_init_57 : decode cX1_init 57 = .ok (.iconst 0, 1) := by decide +kernel
theorem dX1_init_58 : decode cX1_init 58 = .ok (.putfield 35, 3) := by decide +kernel
theorem dX1_init_61 : decode cX1_init 61 = .ok (.return_, 1) := by decide +kernel
theorem dX1_hasLine_0 : decode cX1_hasLine 0 = .ok (.iload_n 1, 1) := by decide +kernel
theorem dX1_hasLine_1 : decode cX1_hasLine 1 = .ok (.ifCond .lt 15, 3) := by decide +kernel
theorem dX1_hasLine_4 : decode cX1_hasLine 4 = .ok (.iload_n 1, 1) := by decide +kernel
theorem dX1_hasLine_5 : decode cX1_hasLine 5 = .ok (.aload_n 0, 1) := by decide +kernel
theorem dX1_hasLine_6 : decode cX1_hasLine 6 = .ok (.getfield 39, 3) := by decide +kernel
theorem dX1_hasLine_9 : decode cX1_hasLine 9 = .ok (.if_icmp .ge 7, 3) := by decide +kernel
theorem dX1_hasLine_12 : decode cX1_hasLine 12 = .ok (.iconst 1, 1) := by decide +kernel
theorem dX1_hasLine_13 : decode cX1_hasLine 13 = .ok (.goto 4, 3) := by decide +kernel
theorem dX1_hasLine_16 : decode cX1_hasLine 16 = .ok (.iconst 0, 1) := by decide +kernel
theorem dX1_hasLine_17 : decode cX1_hasLine 17 = .ok (.ireturn, 1) := by decide +kernel
theorem dX1_hasMachine_0 : decode cX1_hasMachine 0 = .ok (.iload_n 1, 1) := by decide +kernel
theorem dX1_hasMachine_1 : decode cX1_hasMachine 1 = .ok (.ifCond .lt 15, 3) := by decide +kernel
theorem dX1_hasMachine_4 : decode cX1_hasMachine 4 = .ok (.iload_n 1, 1) := by decide +kernel
theorem dX1_hasMachine_5 : decode cX1_hasMachine 5 = .ok (.aload_n 0, 1) := by decide +kernel
theorem dX1_hasMachine_6 : decode cX1_hasMachine 6 = .ok (.getfield 42, 3) := by decide +kernel
theorem dX1_hasMachine_9 : decode cX1_hasMachine 9 = .ok (.if_icmp .ge 7, 3) := by decide +kernel
theorem dX1_hasMachine_12 : decode cX1_hasMachine 12 = .ok (.iconst 1, 1) := by decide +kernel
theorem dX1_hasMachine_13 : decode cX1_hasMachine 13 = .ok (.goto 4, 3) := by decide +kernel
theorem dX1_hasMachine_16 : decode cX1_hasMachine 16 = .ok (.iconst 0, 1) := by decide +kernel
theorem dX1_hasMachine_17 : decode cX1_hasMachine 17 = .ok (.ireturn, 1) := by decide +kernel
theorem dX1_addLine_0 : decode cX1_addLine 0 = .ok (.aload_n 0, 1) := by decide +kernel
theorem dX1_addLine_1 : decode cX1_addLine 1 = .ok (.getfield 39, 3) := by decide +kernel
theorem dX1_addLine_4 : decode cX1_addLine 4 = .ok (.istore 4, 2) := by decide +kernel
theorem dX1_addLine_6 : decode cX1_addLine 6 = .ok (.aload_n 0, 1) := by decide +kernel
theorem dX1_addLine_7 : decode cX1_addLine 7 = .ok (.getfield 9, 3) := by decide +kernel
theorem dX1_addLine_10 : decode cX1_addLine 10 = .ok (.iload 4, 2) := by decide +kernel
theorem dX1_addLine_12 : decode cX1_addLine 12 = .ok (.iload_n 1, 1) := by decide +kernel
theorem dX1_addLine_13 : decode cX1_addLine 13 = .ok (.iastore, 1) := by decide +kernel
theorem dX1_addLine_14 : decode cX1_addLine 14 = .ok (.aload_n 0, 1) := by decide +kernel
theorem dX1_addLine_15 : decode cX1_addLine 15 = .ok (.getfield 15, 3) := by decide +kernel
theorem dX1_addLine_18 : decode cX1_addLine 18 = .ok (.iload 4, 2) := by decide +kernel
theorem dX1_addLine_20 : decode cX1_addLine 20 = .ok (.iload_n 2, 1) := by decide +kernel
theorem dX1_addLine_21 : decode cX1_addLine 21 = .ok (.iastore, 1) := by decide +kernel
theorem dX1_addLine_22 : decode cX1_addLine 22 = .ok (.aload_n 0, 1) := by decide +kernel
theorem dX1_addLine_23 : decode cX1_addLine 23 = .ok (.getfield 18, 3) := by decide +kernel
theorem dX1_addLine_26 : decode cX1_addLine 26 = .ok (.iload 4, 2) := by decide +kernel
theorem dX1_addLine_28 : decode cX1_addLine 28 = .ok (.iload_n 3, 1) := by decide +kernel
theorem dX1_addLine_29 : decode cX1_addLine 29 = .ok (.iastore, 1) := by decide +kernel
theorem dX1_addLine_30 : decode cX1_addLine 30 = .ok (.aload_n 0, 1) := by decide +kernel
theorem dX1_addLine_31 : decode cX1_addLine 31 = .ok (.dup, 1) := by decide +kernel
theorem dX1_addLine_32 : decode cX1_addLine 32 = .ok (.getfield 39, 3) := by decide +kernel
theorem dX1_addLine_35 : decode cX1_addLine 35 = .ok (.iconst 1, 1) := by decide +kernel
theorem dX1_addLine_36 : decode cX1_addLine 36 = .ok (.iadd, 1) := by decide +kernel
theorem dX1_addLine_37 : decode cX1_addLine 37 = .ok (.putfield 39, 3) := by decide +kernel
theorem dX1_addLine_40 : decode cX1_addLine 40 = .ok (.iload 4, 2) := by decide +kernel
theorem dX1_addLine_42 : decode cX1_addLine 42 = .ok (.ireturn, 1) := by decide +kernel
theorem dX1_addMachine_0 : decode cX1_addMachine 0 = .ok (.aload_n 0, 1) := by decide +kernel
theorem dX1_addMachine_1 : decode cX1_addMachine 1 = .ok (.getfield 42, 3) := by decide +kernel
theorem dX1_addMachine_4 : decode cX1_addMachine 4 = .ok (.istore 5, 2) := by decide +kernel
theorem dX1_addMachine_6 : decode cX1_addMachine 6 = .ok (.aload_n 0, 1) := by decide +kernel
theorem dX1_addMachine_7 : decode cX1_addMachine 7 = .ok (.getfield 21, 3) := by decide +kernel
theorem dX1_addMachine_10 : decode cX1_addMachine 10 = .ok (.iload 5, 2) := by decide +kernel
theorem dX1_addMachine_12 : decode cX1_addMachine 12 = .ok (.iload_n 1, 1) := by decide +kernel
theorem dX1_addMachine_13 : decode cX1_addMachine 13 = .ok (.iastore, 1) := by decide +kernel
theorem dX1_addMachine_14 : decode cX1_addMachine 14 = .ok (.aload_n 0, 1) := by decide +kernel
theorem dX1_addMachine_15 : decode cX1_addMachine 15 = .ok (.getfield 24, 3) := by decide +kernel
theorem dX1_addMachine_18 : decode cX1_addMachine 18 = .ok (.iload 5, 2) := by decide +kernel
theorem dX1_addMachine_20 : decode cX1_addMachine 20 = .ok (.iload_n 2, 1) := by decide +kernel
theorem dX1_addMachine_21 : decode cX1_addMachine 21 = .ok (.iastore, 1) := by decide +kernel
theorem dX1_addMachine_22 : decode cX1_addMachine 22 = .ok (.aload_n 0, 1) := by decide +kernel
theorem dX1_addMachine_23 : decode cX1_addMachine 23 = .ok (.getfield 27, 3) := by decide +kernel
theorem dX1_addMachine_26 : decode cX1_addMachine 26 = .ok (.iload 5, 2) := by decide +kernel
theorem dX1_addMachine_28 : decode cX1_addMachine 28 = .ok (.iload_n 3, 1) := by decide +kernel
theorem dX1_addMachine_29 : decode cX1_addMachine 29 = .ok (.iastore, 1) := by decide +kernel
theorem dX1_addMachine_30 : decode cX1_addMachine 30 = .ok (.aload_n 0, 1) := by decide +kernel
theorem dX1_addMachine_31 : decode cX1_addMachine 31 = .ok (.getfield 30, 3) := by decide +kernel
theorem dX1_addMachine_34 : decode cX1_addMachine 34 = .ok (.iload 5, 2) := by decide +kernel
theorem dX1_addMachine_36 : decode cX1_addMachine 36 = .ok (.iload 4, 2) := by decide +kernel
theorem dX1_addMachine_38 : decode cX1_addMachine 38 = .ok (.iastore, 1) := by decide +kernel
theorem dX1_addMachine_39 : decode cX1_addMachine 39 = .ok (.aload_n 0, 1) := by decide +kernel
theorem dX1_addMachine_40 : decode cX1_addMachine 40 = .ok (.dup, 1) := by decide +kernel
theorem dX1_addMachine_41 : decode cX1_addMachine 41 = .ok (.getfield 42, 3) := by decide +kernel
theorem dX1_addMachine_44 : decode cX1_addMachine 44 = .ok (.iconst 1, 1) := by decide +kernel
theorem dX1_addMachine_45 : decode cX1_addMachine 45 = .ok (.iadd, 1) := by decide +kernel
theorem dX1_addMachine_46 : decode cX1_addMachine 46 = .ok (.putfield 42, 3) := by decide +kernel
theorem dX1_addMachine_49 : decode cX1_addMachine 49 = .ok (.iload 5, 2) := by decide +kernel
theorem dX1_addMachine_51 : decode cX1_addMachine 51 = .ok (.ireturn, 1) := by decide +kernel
theorem dX1_copyFrom_0 : decode cX1_copyFrom 0 = .ok (.aload_n 0, 1) := by decide +kernel
theorem dX1_copyFrom_1 : decode cX1_copyFrom 1 = .ok (.aload_n 1, 1) := by decide +kernel
theorem dX1_copyFrom_2 : decode cX1_copyFrom 2 = .ok (.getfield 39, 3) := by decide +kernel
theorem dX1_copyFrom_5 : decode cX1_copyFrom 5 = .ok (.putfield 39, 3) := by decide +kernel
theorem dX1_copyFrom_8 : decode cX1_copyFrom 8 = .ok (.aload_n 0, 1) := by decide +kernel
theorem dX1_copyFrom_9 : decode cX1_copyFrom 9 = .ok (.aload_n 1, 1) := by decide +kernel
theorem dX1_copyFrom_10 : decode cX1_copyFrom 10 = .ok (.getfield 42, 3) := by decide +kernel
theorem dX1_copyFrom_13 : decode cX1_copyFrom 13 = .ok (.putfield 42, 3) := by decide +kernel
theorem dX1_copyFrom_16 : decode cX1_copyFrom 16 = .ok (.aload_n 0, 1) := by decide +kernel
theorem dX1_copyFrom_17 : decode cX1_copyFrom 17 = .ok (.aload_n 1, 1) := by decide +kernel
theorem dX1_copyFrom_18 : decode cX1_copyFrom 18 = .ok (.getfield 35, 3) := by decide +kernel
theorem dX1_copyFrom_21 : decode cX1_copyFrom 21 = .ok (.putfield 35, 3) := by decide +kernel
theorem dX1_copyFrom_24 : decode cX1_copyFrom 24 = .ok (.aload_n 0, 1) := by decide +kernel
theorem dX1_copyFrom_25 : decode cX1_copyFrom 25 = .ok (.aload_n 1, 1) := by decide +kernel
theorem dX1_copyFrom_26 : decode cX1_copyFrom 26 = .ok (.getfield 45, 3) := by decide +kernel
theorem dX1_copyFrom_29 : decode cX1_copyFrom 29 = .ok (.putfield 45, 3) := by decide +kernel
theorem dX1_copyFrom_32 : decode cX1_copyFrom 32 = .ok (.aload_n 1, 1) := by decide +kernel
theorem dX1_copyFrom_33 : decode cX1_copyFrom 33 = .ok (.getfield 9, 3) := by decide +kernel
theorem dX1_copyFrom_36 : decode cX1_copyFrom 36 = .ok (.iconst 0, 1) := by decide +kernel
theorem dX1_copyFrom_37 : decode cX1_copyFrom 37 = .ok (.aload_n 0, 1) := by decide +kernel
theorem dX1_copyFrom_38 : decode cX1_copyFrom 38 = .ok (.getfield 9, 3) := by decide +kernel
theorem dX1_copyFrom_41 : decode cX1_copyFrom 41 = .ok (.iconst 0, 1) := by decide +kernel
theorem dX1_copyFrom_42 : decode cX1_copyFrom 42 = .ok (.bipush 6, 2) := by decide +kernel
theorem dX1_copyFrom_44 : decode cX1_copyFrom 44 = .ok (.invokestatic 48, 3) := by decide +kernel
theorem dX1_copyFrom_47 : decode cX1_copyFrom 47 = .ok (.aload_n 1, 1) := by decide +kernel
theorem dX1_copyFrom_48 : decode cX1_copyFrom 48 = .ok (.getfield 15, 3) := by decide +kernel
theorem dX1_copyFrom_51 : decode cX1_copyFrom 51 = .ok (.iconst 0, 1) := by decide +kernel
theorem dX1_copyFrom_52 : decode cX1_copyFrom 52 = .ok (.aload_n 0, 1) := by decide +kernel
theorem dX1_copyFrom_53 : decode cX1_copyFrom 53 = .ok (.getfield 15, 3) := by decide +kernel
theorem dX1_copyFrom_56 : decode cX1_copyFrom 56 = .ok (.iconst 0, 1) := by decide +kernel
theorem dX1_copyFrom_57 : decode cX1_copyFrom 57 = .ok (.bipush 6, 2) := by decide +kernel
theorem dX1_copyFrom_59 : decode cX1_copyFrom 59 = .ok (.invokestatic 48, 3) := by decide +kernel
theorem dX1_copyFrom_62 : decode cX1_copyFrom 62 = .ok (.aload_n 1, 1) := by decide +kernel
theorem dX1_copyFrom_63 : decode cX1_copyFrom 63 = .ok (.getfield 18, 3) := by decide +kernel
theorem dX1_copyFrom_66 : decode cX1_copyFrom 66 = .ok (.iconst 0, 1) := by decide +kernel
theorem dX1_copyFrom_67 : decode cX1_copyFrom 67 = .ok (.aload_n 0, 1) := by decide +kernel
theorem dX1_copyFrom_68 : decode cX1_copyFrom 68 = .ok (.getfield 18, 3) := by decide +kernel
theorem dX1_copyFrom_71 : decode cX1_copyFrom 71 = .ok (.iconst 0, 1) := by decide +kernel
theorem dX1_copyFrom_72 : decode cX1_copyFrom 72 = .ok (.bipush 6, 2) := by decide +kernel
theorem dX1_copyFrom_74 : decode cX1_copyFrom 74 = .ok (.invokestatic 48, 3) := by decide +kernel
theorem dX1_copyFrom_77 : decode cX1_copyFrom 77 = .ok (.aload_n 1, 1) := by decide +kernel
theorem dX1_copyFrom_78 : decode cX1_copyFrom 78 = .ok (.getfield 21, 3) := by decide +kernel
theorem dX1_copyFrom_81 : decode cX1_copyFrom 81 = .ok (.iconst 0, 1) := by decide +kernel
theorem dX1_copyFrom_82 : decode cX1_copyFrom 82 = .ok (.aload_n 0, 1) := by decide +kernel
theorem dX1_copyFrom_83 : decode cX1_copyFrom 83 = .ok (.getfield 21, 3) := by decide +kernel
theorem dX1_copyFrom_86 : decode cX1_copyFrom 86 = .ok (.iconst 0, 1) := by decide +kernel
theorem dX1_copyFrom_87 : decode cX1_copyFrom 87 = .ok (.iconst 3, 1) := by decide +kernel
theorem dX1_copyFrom_88 : decode cX1_copyFrom 88 = .ok (.invokestatic 48, 3) := by decide +kernel
theorem dX1_copyFrom_91 : decode cX1_copyFrom 91 = .ok (.aload_n 1, 1) := by decide +kernel
theorem dX1_copyFrom_92 : decode cX1_copyFrom 92 = .ok (.getfield 24, 3) := by decide +kernel
theorem dX1_copyFrom_95 : decode cX1_copyFrom 95 = .ok (.iconst 0, 1) := by decide +kernel
theorem dX1_copyFrom_96 : decode cX1_copyFrom 96 = .ok (.aload_n 0, 1) := by decide +kernel
theorem dX1_copyFrom_97 : decode cX1_copyFrom 97 = .ok (.getfield 24, 3) := by decide +kernel
theorem dX1_copyFrom_100 : decode cX1_copyFrom 100 = .ok (.iconst 0, 1) := by decide +kernel
theorem dX1_copyFrom_101 : decode cX1_copyFrom 101 = .ok (.iconst 3, 1) := by decide +kernel
theorem dX1_copyFrom_102 : decode cX1_copyFrom 102 = .ok (.invokestatic 48, 3) := by decide +kernel
theorem dX1_copyFrom_105 : decode cX1_copyFrom 105 = .ok (.aload_n 1, 1) := by decide +kernel
theorem dX1_copyFrom_106 : decode cX1_copyFrom 106 = .ok (.getfield 27, 3) := by decide +kernel
theorem dX1_copyFrom_109 : decode cX1_copyFrom 109 = .ok (.iconst 0, 1) := by decide +kernel
theorem dX1_copyFrom_110 : decode cX1_copyFrom 110 = .ok (.aload_n 0, 1) := by decide +kernel
theorem dX1_copyFrom_111 : decode cX1_copyFrom 111 = .ok (.getfield 27, 3) := by decide +kernel
theorem dX1_copyFrom_114 : decode cX1_copyFrom 114 = .ok (.iconst 0, 1) := by decide +kernel
theorem dX1_copyFrom_115 : decode cX1_copyFrom 115 = .ok (.iconst 3, 1) := by decide +kernel
theorem dX1_copyFrom_116 : decode cX1_copyFrom 116 = .ok (.invokestatic 48, 3) := by decide +kernel
theorem dX1_copyFrom_119 : decode cX1_copyFrom 119 = .ok (.aload_n 1, 1) := by decide +kernel
theorem dX1_copyFrom_120 : decode cX1_copyFrom 120 = .ok (.getfield 30, 3) := by decide +kernel
theorem dX1_copyFrom_123 : decode cX1_copyFrom 123 = .ok (.iconst 0, 1) := by decide +kernel
theorem dX1_copyFrom_124 : decode cX1_copyFrom 124 = .ok (.aload_n 0, 1) := by decide +kernel
theorem dX1_copyFrom_125 : decode cX1_copyFrom 125 = .ok (.getfield 30, 3) := by decide +kernel
theorem dX1_copyFrom_128 : decode cX1_copyFrom 128 = .ok (.iconst 0, 1) := by decide +kernel
theorem dX1_copyFrom_129 : decode cX1_copyFrom 129 = .ok (.iconst 3, 1) := by decide +kernel
theorem dX1_copyFrom_130 : decode cX1_copyFrom 130 = .ok (.invokestatic 48, 3) := by decide +kernel
theorem dX1_copyFrom_133 : decode cX1_copyFrom 133 = .ok (.return_, 1) := by decide +kernel
theorem dX2_init_0 : decode cX2_init 0 = .ok (.aload_n 0, 1) := by decide +kernel
theorem dX2_init_1 : decode cX2_init 1 = .ok (.invokespecial 3, 3) := by decide +kernel
theorem dX2_init_4 : decode cX2_init 4 = .ok (.aload_n 0, 1) := by decide +kernel
theorem dX2_init_5 : decode cX2_init 5 = .ok (.sipush 384, 3) := by decide +kernel
theorem dX2_init_8 : decode cX2_init 8 = .ok (.newarray .int, 2) := by decide +kernel
theorem dX2_init_10 : decode cX2_init 10 = .ok (.putfield 9, 3) := by decide +kernel
theorem dX2_init_13 : decode cX2_init 13 = .ok (.aload_n 0, 1) := by decide +kernel
theorem dX2_init_14 : decode cX2_init 14 = .ok (.sipush 384, 3) := by decide +kernel
theorem dX2_init_17 : decode cX2_init 17 = .ok (.newarray .int, 2) := by decide +kernel
theorem dX2_init_19 : decode cX2_init 19 = .ok (.putfield 15, 3) := by decide +kernel
theorem dX2_init_22 : decode cX2_init 22 = .ok (.iconst 0, 1) := by decide +kernel
theorem dX2_init_23 : decode cX2_init 23 = .ok (.istore_n 1, 1) := by decide +kernel
theorem dX2_init_24 : decode cX2_init 24 = .ok (.iload_n 1, 1) := by decide +kernel
theorem dX2_init_25 : decode cX2_init 25 = .ok (.bipush 6, 2) := by decide +kernel
theorem dX2_init_27 : decode cX2_init 27 = .ok (.if_icmp .ge 18, 3) := by decide +kernel
theorem dX2_init_30 : decode cX2_init 30 = .ok (.aload_n 0, 1) := by decide +kernel
theorem dX2_init_31 : decode cX2_init 31 = .ok (.getfield 9, 3) := by decide +kernel
theorem dX2_init_34 : decode cX2_init 34 = .ok (.iload_n 1, 1) := by decide +kernel
theorem dX2_init_35 : decode cX2_init 35 = .ok (.iconst 1, 1) := by decide +kernel
theorem dX2_init_36 : decode cX2_init 36 = .ok (.iload_n 1, 1) := by decide +kernel
theorem dX2_init_37 : decode cX2_init 37 = .ok (.ishl, 1) := by decide +kernel
theorem dX2_init_38 : decode cX2_init 38 = .ok (.iastore, 1) := by decide +kernel
theorem dX2_init_39 : decode cX2_init 39 = .ok (.iinc 1 1, 3) := by decide +kernel
theorem dX2_init_42 : decode cX2_init 42 = .ok (.goto (-18), 3) := by decide +kernel
theorem dX2_init_45 : decode cX2_init 45 = .ok (.return_, 1) := by decide +kernel
theorem dX2_busesWith_0 : decode cX2_busesWith 0 = .ok (.aload_n 0, 1) := by decide +kernel
theorem dX2_busesWith_1 : decode cX2_busesWith 1 = .ok (.getfield 9, 3) := by decide +kernel
theorem dX2_busesWith_4 : decode cX2_busesWith 4 = .ok (.iload_n 1, 1) := by decide +kernel
theorem dX2_busesWith_5 : decode cX2_busesWith 5 = .ok (.bipush 6, 2) := by decide +kernel
theorem dX2_busesWith_7 : decode cX2_busesWith 7 = .ok (.imul, 1) := by decide +kernel
theorem dX2_busesWith_8 : decode cX2_busesWith 8 = .ok (.iload_n 2, 1) := by decide +kernel
theorem dX2_busesWith_9 : decode cX2_busesWith 9 = .ok (.iadd, 1) := by decide +kernel
theorem dX2_busesWith_10 : decode cX2_busesWith 10 = .ok (.iaload, 1) := by decide +kernel
theorem dX2_busesWith_11 : decode cX2_busesWith 11 = .ok (.ireturn, 1) := by decide +kernel
theorem dX2_drawAround_0 : decode cX2_drawAround 0 = .ok (.aload_n 0, 1) := by decide +kernel
theorem dX2_drawAround_1 : decode cX2_drawAround 1 = .ok (.getfield 15, 3) := by decide +kernel
theorem dX2_drawAround_4 : decode cX2_drawAround 4 = .ok (.iload_n 1, 1) := by decide +kernel
theorem dX2_drawAround_5 : decode cX2_drawAround 5 = .ok (.bipush 6, 2) := by decide +kernel
theorem dX2_drawAround_7 : decode cX2_drawAround 7 = .ok (.imul, 1) := by decide +kernel
theorem dX2_drawAround_8 : decode cX2_drawAround 8 = .ok (.iload_n 2, 1) := by decide +kernel
theorem dX2_drawAround_9 : decode cX2_drawAround 9 = .ok (.iadd, 1) := by decide +kernel
theorem dX2_drawAround_10 : decode cX2_drawAround 10 = .ok (.iaload, 1) := by decide +kernel
theorem dX2_drawAround_11 : decode cX2_drawAround 11 = .ok (.ireturn, 1) := by decide +kernel
theorem dX2_learnLine_0 : decode cX2_learnLine 0 = .ok (.iconst 2, 1) := by decide +kernel
theorem dX2_learnLine_1 : decode cX2_learnLine 1 = .ok (.iload_n 2, 1) := by decide +kernel
theorem dX2_learnLine_2 : decode cX2_learnLine 2 = .ok (.ishl, 1) := by decide +kernel
theorem dX2_learnLine_3 : decode cX2_learnLine 3 = .ok (.istore_n 3, 1) := by decide +kernel
theorem dX2_learnLine_4 : decode cX2_learnLine 4 = .ok (.iconst 1, 1) := by decide +kernel
theorem dX2_learnLine_5 : decode cX2_learnLine 5 = .ok (.iload_n 2, 1) := by decide +kernel
theorem dX2_learnLine_6 : decode cX2_learnLine 6 = .ok (.ishl, 1) := by decide +kernel
theorem dX2_learnLine_7 : decode cX2_learnLine 7 = .ok (.istore 4, 2) := by decide +kernel
theorem dX2_learnLine_9 : decode cX2_learnLine 9 = .ok (.iload 4, 2) := by decide +kernel
theorem dX2_learnLine_11 : decode cX2_learnLine 11 = .ok (.iload_n 3, 1) := by decide +kernel
theorem dX2_learnLine_12 : decode cX2_learnLine 12 = .ok (.if_icmp .ge 23, 3) := by decide +kernel
theorem dX2_learnLine_15 : decode cX2_learnLine 15 = .ok (.aload_n 0, 1) := by decide +kernel
theorem dX2_learnLine_16 : decode cX2_learnLine 16 = .ok (.iload 4, 2) := by decide +kernel
theorem dX2_learnLine_18 : decode cX2_learnLine 18 = .ok (.iconst 1, 1) := by decide +kernel
theorem dX2_learnLine_19 : decode cX2_learnLine 19 = .ok (.iload_n 2, 1) := by decide +kernel
theorem dX2_learnLine_20 : decode cX2_learnLine 20 = .ok (.ishl, 1) := by decide +kernel
theorem dX2_learnLine_21 : decode cX2_learnLine 21 = .ok (.isub, 1) := by decide +kernel
theorem dX2_learnLine_22 : decode cX2_learnLine 22 = .ok (.iload 4, 2) := by decide +kernel
theorem dX2_learnLine_24 : decode cX2_learnLine 24 = .ok (.aload_n 1, 1) := by decide +kernel
theorem dX2_learnLine_25 : decode cX2_learnLine 25 = .ok (.iload_n 2, 1) := by decide +kernel
theorem dX2_learnLine_26 : decode cX2_learnLine 26 = .ok (.invokevirtual 18, 3) := by decide +kernel
theorem dX2_learnLine_29 : decode cX2_learnLine 29 = .ok (.iinc 4 1, 3) := by decide +kernel
theorem dX2_learnLine_32 : decode cX2_learnLine 32 = .ok (.goto (-23), 3) := by decide +kernel
theorem dX2_learnLine_35 : decode cX2_learnLine 35 = .ok (.return_, 1) := by decide +kernel
theorem dX2_join_0 : decode cX2_join 0 = .ok (.aload_n 3, 1) := by decide +kernel
theorem dX2_join_1 : decode cX2_join 1 = .ok (.getfield 22, 3) := by decide +kernel
theorem dX2_join_4 : decode cX2_join 4 = .ok (.iload 4, 2) := by decide +kernel
theorem dX2_join_6 : decode cX2_join 6 = .ok (.iaload, 1) := by decide +kernel
theorem dX2_join_7 : decode cX2_join 7 = .ok (.istore 5, 2) := by decide +kernel
theorem dX2_join_9 : decode cX2_join 9 = .ok (.aload_n 3, 1) := by decide +kernel
theorem dX2_join_10 : decode cX2_join 10 = .ok (.getfield 27, 3) := by decide +kernel
theorem dX2_join_13 : decode cX2_join 13 = .ok (.iload 4, 2) := by decide +kernel
theorem dX2_join_15 : decode cX2_join 15 = .ok (.iaload, 1) := by decide +kernel
theorem dX2_join_16 : decode cX2_join 16 = .ok (.istore 6, 2) := by decide +kernel
theorem dX2_join_18 : decode cX2_join 18 = .ok (.aload_n 0, 1) := by decide +kernel
theorem dX2_join_19 : decode cX2_join 19 = .ok (.iload_n 1, 1) := by decide +kernel
theorem dX2_join_20 : decode cX2_join 20 = .ok (.iload 5, 2) := by decide +kernel
theorem dX2_join_22 : decode cX2_join 22 = .ok (.invokevirtual 30, 3) := by decide +kernel
theorem dX2_join_25 : decode cX2_join 25 = .ok (.aload_n 0, 1) := by decide +kernel
theorem dX2_join_26 : decode cX2_join 26 = .ok (.iload_n 1, 1) := by decide +kernel
theorem dX2_join_27 : decode cX2_join 27 = .ok (.iload 6, 2) := by decide +kernel
theorem dX2_join_29 : decode cX2_join 29 = .ok (.invokevirtual 30, 3) := by decide +kernel
theorem dX2_join_32 : decode cX2_join 32 = .ok (.ior, 1) := by decide +kernel
theorem dX2_join_33 : decode cX2_join 33 = .ok (.istore 7, 2) := by decide +kernel
theorem dX2_join_35 : decode cX2_join 35 = .ok (.aload_n 3, 1) := by decide +kernel
theorem dX2_join_36 : decode cX2_join 36 = .ok (.getfield 34, 3) := by decide +kernel
theorem dX2_join_39 : decode cX2_join 39 = .ok (.iload 4, 2) := by decide +kernel
theorem dX2_join_41 : decode cX2_join 41 = .ok (.iaload, 1) := by decide +kernel
theorem dX2_join_42 : decode cX2_join 42 = .ok (.aload_n 0, 1) := by decide +kernel
theorem dX2_join_43 : decode cX2_join 43 = .ok (.iload_n 1, 1) := by decide +kernel
theorem dX2_join_44 : decode cX2_join 44 = .ok (.iload 5, 2) := by decide +kernel
theorem dX2_join_46 : decode cX2_join 46 = .ok (.invokevirtual 37, 3) := by decide +kernel
theorem dX2_join_49 : decode cX2_join 49 = .ok (.iadd, 1) := by decide +kernel
theorem dX2_join_50 : decode cX2_join 50 = .ok (.istore 8, 2) := by decide +kernel
theorem dX2_join_52 : decode cX2_join 52 = .ok (.aload_n 0, 1) := by decide +kernel
theorem dX2_join_53 : decode cX2_join 53 = .ok (.iload_n 1, 1) := by decide +kernel
theorem dX2_join_54 : decode cX2_join 54 = .ok (.iload 5, 2) := by decide +kernel
theorem dX2_join_56 : decode cX2_join 56 = .ok (.invokevirtual 30, 3) := by decide +kernel
theorem dX2_join_59 : decode cX2_join 59 = .ok (.iload 6, 2) := by decide +kernel
theorem dX2_join_61 : decode cX2_join 61 = .ok (.invokestatic 40, 3) := by decide +kernel
theorem dX2_join_64 : decode cX2_join 64 = .ok (.ifCond .ne 15, 3) := by decide +kernel
theorem dX2_join_67 : decode cX2_join 67 = .ok (.iload 8, 2) := by decide +kernel
theorem dX2_join_69 : decode cX2_join 69 = .ok (.aload_n 0, 1) := by decide +kernel
theorem dX2_join_70 : decode cX2_join 70 = .ok (.iload_n 1, 1) := by decide +kernel
theorem dX2_join_71 : decode cX2_join 71 = .ok (.iload 6, 2) := by decide +kernel
theorem dX2_join_73 : decode cX2_join 73 = .ok (.invokevirtual 37, 3) := by decide +kernel
theorem dX2_join_76 : decode cX2_join 76 = .ok (.iadd, 1) := by decide +kernel
theorem dX2_join_77 : decode cX2_join 77 = .ok (.istore 8, 2) := by decide +kernel
theorem dX2_join_79 : decode cX2_join 79 = .ok (.iconst 0, 1) := by decide +kernel
theorem dX2_join_80 : decode cX2_join 80 = .ok (.istore 9, 2) := by decide +kernel
theorem dX2_join_82 : decode cX2_join 82 = .ok (.iload 9, 2) := by decide +kernel
theorem dX2_join_84 : decode cX2_join 84 = .ok (.bipush 6, 2) := by decide +kernel
theorem dX2_join_86 : decode cX2_join 86 = .ok (.if_icmp .ge 84, 3) := by decide +kernel
theorem dX2_join_89 : decode cX2_join 89 = .ok (.iload 7, 2) := by decide +kernel
theorem dX2_join_91 : decode cX2_join 91 = .ok (.iload 9, 2) := by decide +kernel
theorem dX2_join_93 : decode cX2_join 93 = .ok (.invokestatic 40, 3) := by decide +kernel
theorem dX2_join_96 : decode cX2_join 96 = .ok (.ifCond .eq 7, 3) := by decide +kernel
theorem dX2_join_99 : decode cX2_join 99 = .ok (.iconst 1, 1) := by decide +kernel
theorem dX2_join_100 : decode cX2_join 100 = .ok (.goto 4, 3) := by decide +kernel
theorem dX2_join_103 : decode cX2_join 103 = .ok (.iconst 0, 1) := by decide +kernel
theorem dX2_join_104 : decode cX2_join 104 = .ok (.istore 10, 2) := by decide +kernel
theorem dX2_join_106 : decode cX2_join 106 = .ok (.aload_n 0, 1) := by decide +kernel
theorem dX2_join_107 : decode cX2_join 107 = .ok (.getfield 9, 3) := by decide +kernel
theorem dX2_join_110 : decode cX2_join 110 = .ok (.iload_n 2, 1) := by decide +kernel
theorem dX2_join_111 : decode cX2_join 111 = .ok (.bipush 6, 2) := by decide +kernel
theorem dX2_join_113 : decode cX2_join 113 = .ok (.imul, 1) := by decide +kernel
theorem dX2_join_114 : decode cX2_join 114 = .ok (.iload 9, 2) := by decide +kernel
theorem dX2_join_116 : decode cX2_join 116 = .ok (.iadd, 1) := by decide +kernel
theorem dX2_join_117 : decode cX2_join 117 = .ok (.iload 10, 2) := by decide +kernel
theorem dX2_join_119 : decode cX2_join 119 = .ok (.ifCond .eq 8, 3) := by decide +kernel
theorem dX2_join_122 : decode cX2_join 122 = .ok (.iload 7, 2) := by decide +kernel
theorem dX2_join_124 : decode cX2_join 124 = .ok (.goto 10, 3) := by decide +kernel
theorem dX2_join_127 : decode cX2_join 127 = .ok (.aload_n 0, 1) := by decide +kernel
theorem dX2_join_128 : decode cX2_join 128 = .ok (.iload_n 1, 1) := by decide +kernel
theorem dX2_join_129 : decode cX2_join 129 = .ok (.iload 9, 2) := by decide +kernel
theorem dX2_join_131 : decode cX2_join 131 = .ok (.invokevirtual 30, 3) := by decide +kernel
theorem dX2_join_134 : decode cX2_join 134 = .ok (.iastore, 1) := by decide +kernel
theorem dX2_join_135 : decode cX2_join 135 = .ok (.aload_n 0, 1) := by decide +kernel
theorem dX2_join_136 : decode cX2_join 136 = .ok (.getfield 15, 3) := by decide +kernel
theorem dX2_join_139 : decode cX2_join 139 = .ok (.iload_n 2, 1) := by decide +kernel
theorem dX2_join_140 : decode cX2_join 140 = .ok (.bipush 6, 2) := by decide +kernel
theorem dX2_join_142 : decode cX2_join 142 = .ok (.imul, 1) := by decide +kernel
theorem dX2_join_143 : decode cX2_join 143 = .ok (.iload 9, 2) := by decide +kernel
theorem dX2_join_145 : decode cX2_join 145 = .ok (.iadd, 1) := by decide +kernel
theorem dX2_join_146 : decode cX2_join 146 = .ok (.iload 10, 2) := by decide +kernel
theorem dX2_join_148 : decode cX2_join 148 = .ok (.ifCond .eq 8, 3) := by decide +kernel
theorem dX2_join_151 : decode cX2_join 151 = .ok (.iload 8, 2) := by decide +kernel
theorem dX2_join_153 : decode cX2_join 153 = .ok (.goto 10, 3) := by decide +kernel
theorem dX2_join_156 : decode cX2_join 156 = .ok (.aload_n 0, 1) := by decide +kernel
theorem dX2_join_157 : decode cX2_join 157 = .ok (.iload_n 1, 1) := by decide +kernel
theorem dX2_join_158 : decode cX2_join 158 = .ok (.iload 9, 2) := by decide +kernel
theorem dX2_join_160 : decode cX2_join 160 = .ok (.invokevirtual 37, 3) := by decide +kernel
theorem dX2_join_163 : decode cX2_join 163 = .ok (.iastore, 1) := by decide +kernel
theorem dX2_join_164 : decode cX2_join 164 = .ok (.iinc 9 1, 3) := by decide +kernel
theorem dX2_join_167 : decode cX2_join 167 = .ok (.goto (-85), 3) := by decide +kernel
theorem dX2_join_170 : decode cX2_join 170 = .ok (.return_, 1) := by decide +kernel
theorem dX3_init_0 : decode cX3_init 0 = .ok (.aload_n 0, 1) := by decide +kernel
theorem dX3_init_1 : decode cX3_init 1 = .ok (.invokespecial 3, 3) := by decide +kernel
theorem dX3_init_4 : decode cX3_init 4 = .ok (.aload_n 0, 1) := by decide +kernel
theorem dX3_init_5 : decode cX3_init 5 = .ok (.aload_n 1, 1) := by decide +kernel
theorem dX3_init_6 : decode cX3_init 6 = .ok (.putfield 9, 3) := by decide +kernel
theorem dX3_init_9 : decode cX3_init 9 = .ok (.aload_n 0, 1) := by decide +kernel
theorem dX3_init_10 : decode cX3_init 10 = .ok (.aload_n 2, 1) := by decide +kernel
theorem dX3_init_11 : decode cX3_init 11 = .ok (.putfield 15, 3) := by decide +kernel
theorem dX3_init_14 : decode cX3_init 14 = .ok (.return_, 1) := by decide +kernel
theorem dX3_liveBuses_0 : decode cX3_liveBuses 0 = .ok (.iconst 0, 1) := by decide +kernel
theorem dX3_liveBuses_1 : decode cX3_liveBuses 1 = .ok (.istore_n 2, 1) := by decide +kernel
theorem dX3_liveBuses_2 : decode cX3_liveBuses 2 = .ok (.iconst 0, 1) := by decide +kernel
theorem dX3_liveBuses_3 : decode cX3_liveBuses 3 = .ok (.istore_n 3, 1) := by decide +kernel
theorem dX3_liveBuses_4 : decode cX3_liveBuses 4 = .ok (.iload_n 3, 1) := by decide +kernel
theorem dX3_liveBuses_5 : decode cX3_liveBuses 5 = .ok (.aload_n 0, 1) := by decide +kernel
theorem dX3_liveBuses_6 : decode cX3_liveBuses 6 = .ok (.getfield 9, 3) := by decide +kernel
theorem dX3_liveBuses_9 : decode cX3_liveBuses 9 = .ok (.getfield 19, 3) := by decide +kernel
theorem dX3_liveBuses_12 : decode cX3_liveBuses 12 = .ok (.if_icmp .ge 40, 3) := by decide +kernel
theorem dX3_liveBuses_15 : decode cX3_liveBuses 15 = .ok (.iload_n 1, 1) := by decide +kernel
theorem dX3_liveBuses_16 : decode cX3_liveBuses 16 = .ok (.iload_n 3, 1) := by decide +kernel
theorem dX3_liveBuses_17 : decode cX3_liveBuses 17 = .ok (.invokestatic 25, 3) := by decide +kernel
theorem dX3_liveBuses_20 : decode cX3_liveBuses 20 = .ok (.ifCond .eq 26, 3) := by decide +kernel
theorem dX3_liveBuses_23 : decode cX3_liveBuses 23 = .ok (.iload_n 2, 1) := by decide +kernel
theorem dX3_liveBuses_24 : decode cX3_liveBuses 24 = .ok (.aload_n 0, 1) := by decide +kernel
theorem dX3_liveBuses_25 : decode cX3_liveBuses 25 = .ok (.getfield 15, 3) := by decide +kernel
theorem dX3_liveBuses_28 : decode cX3_liveBuses 28 = .ok (.iload_n 1, 1) := by decide +kernel
theorem dX3_liveBuses_29 : decode cX3_liveBuses 29 = .ok (.invokestatic 31, 3) := by decide +kernel
theorem dX3_liveBuses_32 : decode cX3_liveBuses 32 = .ok (.aload_n 0, 1) := by decide +kernel
theorem dX3_liveBuses_33 : decode cX3_liveBuses 33 = .ok (.getfield 9, 3) := by decide +kernel
theorem dX3_liveBuses_36 : decode cX3_liveBuses 36 = .ok (.getfield 35, 3) := by decide +kernel
theorem dX3_liveBuses_39 : decode cX3_liveBuses 39 = .ok (.iload_n 3, 1) := by decide +kernel
theorem dX3_liveBuses_40 : decode cX3_liveBuses 40 = .ok (.iaload, 1) := by decide +kernel
theorem dX3_liveBuses_41 : decode cX3_liveBuses 41 = .ok (.invokevirtual 39, 3) := by decide +kernel
theorem dX3_liveBuses_44 : decode cX3_liveBuses 44 = .ok (.ior, 1) := by decide +kernel
theorem dX3_liveBuses_45 : decode cX3_liveBuses 45 = .ok (.istore_n 2, 1) := by decide +kernel
theorem dX3_liveBuses_46 : decode cX3_liveBuses 46 = .ok (.iinc 3 1, 3) := by decide +kernel
theorem dX3_liveBuses_49 : decode cX3_liveBuses 49 = .ok (.goto (-45), 3) := by decide +kernel
theorem dX3_liveBuses_52 : decode cX3_liveBuses 52 = .ok (.iload_n 2, 1) := by decide +kernel
theorem dX3_liveBuses_53 : decode cX3_liveBuses 53 = .ok (.ireturn, 1) := by decide +kernel
theorem dX3_countLiveIslands_0 : decode cX3_countLiveIslands 0 = .ok (.aload_n 0, 1) := by decide +kernel
theorem dX3_countLiveIslands_1 : decode cX3_countLiveIslands 1 = .ok (.iload_n 1, 1) := by decide +kernel
theorem dX3_countLiveIslands_2 : decode cX3_countLiveIslands 2 = .ok (.invokevirtual 45, 3) := by decide +kernel
theorem dX3_countLiveIslands_5 : decode cX3_countLiveIslands 5 = .ok (.istore_n 2, 1) := by decide +kernel
theorem dX3_countLiveIslands_6 : decode cX3_countLiveIslands 6 = .ok (.iconst 0, 1) := by decide +kernel
theorem dX3_countLiveIslands_7 : decode cX3_countLiveIslands 7 = .ok (.istore_n 3, 1) := by decide +kernel
theorem dX3_countLiveIslands_8 : decode cX3_countLiveIslands 8 = .ok (.iconst 0, 1) := by decide +kernel
theorem dX3_countLiveIslands_9 : decode cX3_countLiveIslands 9 = .ok (.istore 4, 2) := by decide +kernel
theorem dX3_countLiveIslands_11 : decode cX3_countLiveIslands 11 = .ok (.iload 4, 2) := by decide +kernel
theorem dX3_countLiveIslands_13 : decode cX3_countLiveIslands 13 = .ok (.bipush 6, 2) := by decide +kernel
theorem dX3_countLiveIslands_15 : decode cX3_countLiveIslands 15 = .ok (.if_icmp .ge 59, 3) := by decide +kernel
theorem dX3_countLiveIslands_18 : decode cX3_countLiveIslands 18 = .ok (.aload_n 0, 1) := by decide +kernel
theorem dX3_countLiveIslands_19 : decode cX3_countLiveIslands 19 = .ok (.getfield 15, 3) := by decide +kernel
theorem dX3_countLiveIslands_22 : decode cX3_countLiveIslands 22 = .ok (.iload_n 1, 1) := by decide +kernel
theorem dX3_countLiveIslands_23 : decode cX3_countLiveIslands 23 = .ok (.invokestatic 31, 3) := by decide +kernel
theorem dX3_countLiveIslands_26 : decode cX3_countLiveIslands 26 = .ok (.iload 4, 2) := by decide +kernel
theorem dX3_countLiveIslands_28 : decode cX3_countLiveIslands 28 = .ok (.invokevirtual 39, 3) := by decide +kernel
theorem dX3_countLiveIslands_31 : decode cX3_countLiveIslands 31 = .ok (.istore 5, 2) := by decide +kernel
theorem dX3_countLiveIslands_33 : decode cX3_countLiveIslands 33 = .ok (.iload 5, 2) := by decide +kernel
theorem dX3_countLiveIslands_35 : decode cX3_countLiveIslands 35 = .ok (.iload 4, 2) := by decide +kernel
theorem dX3_countLiveIslands_37 : decode cX3_countLiveIslands 37 = .ok (.invokestatic 48, 3) := by decide +kernel
theorem dX3_countLiveIslands_40 : decode cX3_countLiveIslands 40 = .ok (.iand, 1) := by decide +kernel
theorem dX3_countLiveIslands_41 : decode cX3_countLiveIslands 41 = .ok (.ifCond .ne 7, 3) := by decide +kernel
theorem dX3_countLiveIslands_44 : decode cX3_countLiveIslands 44 = .ok (.iconst 1, 1) := by decide +kernel
theorem dX3_countLiveIslands_45 : decode cX3_countLiveIslands 45 = .ok (.goto 4, 3) := by decide +kernel
theorem dX3_countLiveIslands_48 : decode cX3_countLiveIslands 48 = .ok (.iconst 0, 1) := by decide +kernel
theorem dX3_countLiveIslands_49 : decode cX3_countLiveIslands 49 = .ok (.istore 6, 2) := by decide +kernel
theorem dX3_countLiveIslands_51 : decode cX3_countLiveIslands 51 = .ok (.iload 6, 2) := by decide +kernel
theorem dX3_countLiveIslands_53 : decode cX3_countLiveIslands 53 = .ok (.ifCond .eq 15, 3) := by decide +kernel
theorem dX3_countLiveIslands_56 : decode cX3_countLiveIslands 56 = .ok (.iload_n 2, 1) := by decide +kernel
theorem dX3_countLiveIslands_57 : decode cX3_countLiveIslands 57 = .ok (.iload 4, 2) := by decide +kernel
theorem dX3_countLiveIslands_59 : decode cX3_countLiveIslands 59 = .ok (.invokestatic 51, 3) := by decide +kernel
theorem dX3_countLiveIslands_62 : decode cX3_countLiveIslands 62 = .ok (.ifCond .eq 6, 3) := by decide +kernel
theorem dX3_countLiveIslands_65 : decode cX3_countLiveIslands 65 = .ok (.iinc 3 1, 3) := by decide +kernel
theorem dX3_countLiveIslands_68 : decode cX3_countLiveIslands 68 = .ok (.iinc 4 1, 3) := by decide +kernel
theorem dX3_countLiveIslands_71 : decode cX3_countLiveIslands 71 = .ok (.goto (-60), 3) := by decide +kernel
theorem dX3_countLiveIslands_74 : decode cX3_countLiveIslands 74 = .ok (.iload_n 3, 1) := by decide +kernel
theorem dX3_countLiveIslands_75 : decode cX3_countLiveIslands 75 = .ok (.ireturn, 1) := by decide +kernel
theorem dX3_spare_0 : decode cX3_spare 0 = .ok (.aload_n 0, 1) := by decide +kernel
theorem dX3_spare_1 : decode cX3_spare 1 = .ok (.iload_n 1, 1) := by decide +kernel
theorem dX3_spare_2 : decode cX3_spare 2 = .ok (.invokestatic 31, 3) := by decide +kernel
theorem dX3_spare_5 : decode cX3_spare 5 = .ok (.iload_n 1, 1) := by decide +kernel
theorem dX3_spare_6 : decode cX3_spare 6 = .ok (.invokestatic 54, 3) := by decide +kernel
theorem dX3_spare_9 : decode cX3_spare 9 = .ok (.iload_n 2, 1) := by decide +kernel
theorem dX3_spare_10 : decode cX3_spare 10 = .ok (.invokevirtual 57, 3) := by decide +kernel
theorem dX3_spare_13 : decode cX3_spare 13 = .ok (.ireturn, 1) := by decide +kernel
theorem dX3_spareOf_0 : decode cX3_spareOf 0 = .ok (.aload_n 0, 1) := by decide +kernel
theorem dX3_spareOf_1 : decode cX3_spareOf 1 = .ok (.getfield 15, 3) := by decide +kernel
theorem dX3_spareOf_4 : decode cX3_spareOf 4 = .ok (.iload_n 1, 1) := by decide +kernel
theorem dX3_spareOf_5 : decode cX3_spareOf 5 = .ok (.iload_n 3, 1) := by decide +kernel
theorem dX3_spareOf_6 : decode cX3_spareOf 6 = .ok (.invokevirtual 39, 3) := by decide +kernel
theorem dX3_spareOf_9 : decode cX3_spareOf 9 = .ok (.istore 4, 2) := by decide +kernel
theorem dX3_spareOf_11 : decode cX3_spareOf 11 = .ok (.aload_n 0, 1) := by decide +kernel
theorem dX3_spareOf_12 : decode cX3_spareOf 12 = .ok (.getfield 15, 3) := by decide +kernel
theorem dX3_spareOf_15 : decode cX3_spareOf 15 = .ok (.iload_n 1, 1) := by decide +kernel
theorem dX3_spareOf_16 : decode cX3_spareOf 16 = .ok (.iload_n 3, 1) := by decide +kernel
theorem dX3_spareOf_17 : decode cX3_spareOf 17 = .ok (.invokevirtual 61, 3) := by decide +kernel
theorem dX3_spareOf_20 : decode cX3_spareOf 20 = .ok (.ineg, 1) := by decide +kernel
theorem dX3_spareOf_21 : decode cX3_spareOf 21 = .ok (.istore 5, 2) := by decide +kernel
theorem dX3_spareOf_23 : decode cX3_spareOf 23 = .ok (.iconst 0, 1) := by decide +kernel
theorem dX3_spareOf_24 : decode cX3_spareOf 24 = .ok (.istore 6, 2) := by decide +kernel
theorem dX3_spareOf_26 : decode cX3_spareOf 26 = .ok (.iload 6, 2) := by decide +kernel
theorem dX3_spareOf_28 : decode cX3_spareOf 28 = .ok (.aload_n 0, 1) := by decide +kernel
theorem dX3_spareOf_29 : decode cX3_spareOf 29 = .ok (.getfield 9, 3) := by decide +kernel
theorem dX3_spareOf_32 : decode cX3_spareOf 32 = .ok (.getfield 19, 3) := by decide +kernel
theorem dX3_spareOf_35 : decode cX3_spareOf 35 = .ok (.if_icmp .ge 51, 3) := by decide +kernel
theorem dX3_spareOf_38 : decode cX3_spareOf 38 = .ok (.iload_n 2, 1) := by decide +kernel
theorem dX3_spareOf_39 : decode cX3_spareOf 39 = .ok (.iload 6, 2) := by decide +kernel
theorem dX3_spareOf_41 : decode cX3_spareOf 41 = .ok (.invokestatic 51, 3) := by decide +kernel
theorem dX3_spareOf_44 : decode cX3_spareOf 44 = .ok (.ifCond .eq 36, 3) := by decide +kernel
theorem dX3_spareOf_47 : decode cX3_spareOf 47 = .ok (.iload 4, 2) := by decide +kernel
theorem dX3_spareOf_49 : decode cX3_spareOf 49 = .ok (.aload_n 0, 1) := by decide +kernel
theorem dX3_spareOf_50 : decode cX3_spareOf 50 = .ok (.getfield 9, 3) := by decide +kernel
theorem dX3_spareOf_53 : decode cX3_spareOf 53 = .ok (.getfield 35, 3) := by decide +kernel
theorem dX3_spareOf_56 : decode cX3_spareOf 56 = .ok (.iload 6, 2) := by decide +kernel
theorem dX3_spareOf_58 : decode cX3_spareOf 58 = .ok (.iaload, 1) := by decide +kernel
theorem dX3_spareOf_59 : decode cX3_spareOf 59 = .ok (.invokestatic 51, 3) := by decide +kernel
theorem dX3_spareOf_62 : decode cX3_spareOf 62 = .ok (.ifCond .eq 18, 3) := by decide +kernel
theorem dX3_spareOf_65 : decode cX3_spareOf 65 = .ok (.iload 5, 2) := by decide +kernel
theorem dX3_spareOf_67 : decode cX3_spareOf 67 = .ok (.aload_n 0, 1) := by decide +kernel
theorem dX3_spareOf_68 : decode cX3_spareOf 68 = .ok (.getfield 9, 3) := by decide +kernel
theorem dX3_spareOf_71 : decode cX3_spareOf 71 = .ok (.getfield 64, 3) := by decide +kernel
theorem dX3_spareOf_74 : decode cX3_spareOf 74 = .ok (.iload 6, 2) := by decide +kernel
theorem dX3_spareOf_76 : decode cX3_spareOf 76 = .ok (.iaload, 1) := by decide +kernel
theorem dX3_spareOf_77 : decode cX3_spareOf 77 = .ok (.iadd, 1) := by decide +kernel
theorem dX3_spareOf_78 : decode cX3_spareOf 78 = .ok (.istore 5, 2) := by decide +kernel
theorem dX3_spareOf_80 : decode cX3_spareOf 80 = .ok (.iinc 6 1, 3) := by decide +kernel
theorem dX3_spareOf_83 : decode cX3_spareOf 83 = .ok (.goto (-57), 3) := by decide +kernel
theorem dX3_spareOf_86 : decode cX3_spareOf 86 = .ok (.iload 5, 2) := by decide +kernel
theorem dX3_spareOf_88 : decode cX3_spareOf 88 = .ok (.ireturn, 1) := by decide +kernel
theorem dX3_isTold_0 : decode cX3_isTold 0 = .ok (.iload_n 1, 1) := by decide +kernel
theorem dX3_isTold_1 : decode cX3_isTold 1 = .ok (.iconst 4, 1) := by decide +kernel
theorem dX3_isTold_2 : decode cX3_isTold 2 = .ok (.if_icmp .lt 14, 3) := by decide +kernel
theorem dX3_isTold_5 : decode cX3_isTold 5 = .ok (.aload_n 0, 1) := by decide +kernel
theorem dX3_isTold_6 : decode cX3_isTold 6 = .ok (.getfield 9, 3) := by decide +kernel
theorem dX3_isTold_9 : decode cX3_isTold 9 = .ok (.iload_n 1, 1) := by decide +kernel
theorem dX3_isTold_10 : decode cX3_isTold 10 = .ok (.iconst 4, 1) := by decide +kernel
theorem dX3_isTold_11 : decode cX3_isTold 11 = .ok (.isub, 1) := by decide +kernel
