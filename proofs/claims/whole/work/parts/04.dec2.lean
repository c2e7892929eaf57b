theorem dX3_isTold_12 : decode cX3_isTold 12 = .ok (.invokevirtual 67, 3) := by decide +kernel
theorem dX3_isTold_15 : decode cX3_isTold 15 = .ok (.ireturn, 1) := by decide +kernel
theorem dX3_isTold_16 : decode cX3_isTold 16 = .ok (.iload_n 1, 1) := by decide +kernel
theorem dX3_isTold_17 : decode cX3_isTold 17 = .ok (.iconst 1, 1) := by decide +kernel
theorem dX3_isTold_18 : decode cX3_isTold 18 = .ok (.if_icmp .lt 16, 3) := by decide +kernel
theorem dX3_isTold_21 : decode cX3_isTold 21 = .ok (.aload_n 0, 1) := by decide +kernel
theorem dX3_isTold_22 : decode cX3_isTold 22 = .ok (.getfield 9, 3) := by decide +kernel
theorem dX3_isTold_25 : decode cX3_isTold 25 = .ok (.iload_n 1, 1) := by decide +kernel
theorem dX3_isTold_26 : decode cX3_isTold 26 = .ok (.iconst 1, 1) := by decide +kernel
theorem dX3_isTold_27 : decode cX3_isTold 27 = .ok (.isub, 1) := by decide +kernel
theorem dX3_isTold_28 : decode cX3_isTold 28 = .ok (.invokevirtual 71, 3) := by decide +kernel
theorem dX3_isTold_31 : decode cX3_isTold 31 = .ok (.ifCond .eq 7, 3) := by decide +kernel
theorem dX3_isTold_34 : decode cX3_isTold 34 = .ok (.iconst 1, 1) := by decide +kernel
theorem dX3_isTold_35 : decode cX3_isTold 35 = .ok (.goto 4, 3) := by decide +kernel
theorem dX3_isTold_38 : decode cX3_isTold 38 = .ok (.iconst 0, 1) := by decide +kernel
theorem dX3_isTold_39 : decode cX3_isTold 39 = .ok (.ireturn, 1) := by decide +kernel
theorem dX3_stepsFrom_0 : decode cX3_stepsFrom 0 = .ok (.iload_n 1, 1) := by decide +kernel
theorem dX3_stepsFrom_1 : decode cX3_stepsFrom 1 = .ok (.invokestatic 31, 3) := by decide +kernel
theorem dX3_stepsFrom_4 : decode cX3_stepsFrom 4 = .ok (.istore_n 2, 1) := by decide +kernel
theorem dX3_stepsFrom_5 : decode cX3_stepsFrom 5 = .ok (.iload_n 1, 1) := by decide +kernel
theorem dX3_stepsFrom_6 : decode cX3_stepsFrom 6 = .ok (.invokestatic 74, 3) := by decide +kernel
theorem dX3_stepsFrom_9 : decode cX3_stepsFrom 9 = .ok (.istore_n 3, 1) := by decide +kernel
theorem dX3_stepsFrom_10 : decode cX3_stepsFrom 10 = .ok (.iload_n 1, 1) := by decide +kernel
theorem dX3_stepsFrom_11 : decode cX3_stepsFrom 11 = .ok (.invokestatic 54, 3) := by decide +kernel
theorem dX3_stepsFrom_14 : decode cX3_stepsFrom 14 = .ok (.istore 4, 2) := by decide +kernel
theorem dX3_stepsFrom_16 : decode cX3_stepsFrom 16 = .ok (.aload_n 0, 1) := by decide +kernel
theorem dX3_stepsFrom_17 : decode cX3_stepsFrom 17 = .ok (.iload_n 1, 1) := by decide +kernel
theorem dX3_stepsFrom_18 : decode cX3_stepsFrom 18 = .ok (.invokevirtual 45, 3) := by decide +kernel
theorem dX3_stepsFrom_21 : decode cX3_stepsFrom 21 = .ok (.istore 5, 2) := by decide +kernel
theorem dX3_stepsFrom_23 : decode cX3_stepsFrom 23 = .ok (.iconst 1, 1) := by decide +kernel
theorem dX3_stepsFrom_24 : decode cX3_stepsFrom 24 = .ok (.istore 6, 2) := by decide +kernel
theorem dX3_stepsFrom_26 : decode cX3_stepsFrom 26 = .ok (.iconst 0, 1) := by decide +kernel
theorem dX3_stepsFrom_27 : decode cX3_stepsFrom 27 = .ok (.istore 7, 2) := by decide +kernel
theorem dX3_stepsFrom_29 : decode cX3_stepsFrom 29 = .ok (.iload 7, 2) := by decide +kernel
theorem dX3_stepsFrom_31 : decode cX3_stepsFrom 31 = .ok (.aload_n 0, 1) := by decide +kernel
theorem dX3_stepsFrom_32 : decode cX3_stepsFrom 32 = .ok (.getfield 9, 3) := by decide +kernel
theorem dX3_stepsFrom_35 : decode cX3_stepsFrom 35 = .ok (.getfield 19, 3) := by decide +kernel
theorem dX3_stepsFrom_38 : decode cX3_stepsFrom 38 = .ok (.if_icmp .ge 43, 3) := by decide +kernel
theorem dX3_stepsFrom_41 : decode cX3_stepsFrom 41 = .ok (.iload_n 3, 1) := by decide +kernel
theorem dX3_stepsFrom_42 : decode cX3_stepsFrom 42 = .ok (.iload 7, 2) := by decide +kernel
theorem dX3_stepsFrom_44 : decode cX3_stepsFrom 44 = .ok (.invokestatic 51, 3) := by decide +kernel
theorem dX3_stepsFrom_47 : decode cX3_stepsFrom 47 = .ok (.ifCond .ne 28, 3) := by decide +kernel
theorem dX3_stepsFrom_50 : decode cX3_stepsFrom 50 = .ok (.aload_n 0, 1) := by decide +kernel
theorem dX3_stepsFrom_51 : decode cX3_stepsFrom 51 = .ok (.iload_n 2, 1) := by decide +kernel
theorem dX3_stepsFrom_52 : decode cX3_stepsFrom 52 = .ok (.iload 4, 2) := by decide +kernel
theorem dX3_stepsFrom_54 : decode cX3_stepsFrom 54 = .ok (.iload 5, 2) := by decide +kernel
theorem dX3_stepsFrom_56 : decode cX3_stepsFrom 56 = .ok (.iload 7, 2) := by decide +kernel
theorem dX3_stepsFrom_58 : decode cX3_stepsFrom 58 = .ok (.invokevirtual 77, 3) := by decide +kernel
theorem dX3_stepsFrom_61 : decode cX3_stepsFrom 61 = .ok (.ifCond .eq 14, 3) := by decide +kernel
theorem dX3_stepsFrom_64 : decode cX3_stepsFrom 64 = .ok (.iload 6, 2) := by decide +kernel
theorem dX3_stepsFrom_66 : decode cX3_stepsFrom 66 = .ok (.iconst 1, 1) := by decide +kernel
theorem dX3_stepsFrom_67 : decode cX3_stepsFrom 67 = .ok (.iconst 1, 1) := by decide +kernel
theorem dX3_stepsFrom_68 : decode cX3_stepsFrom 68 = .ok (.iload 7, 2) := by decide +kernel
theorem dX3_stepsFrom_70 : decode cX3_stepsFrom 70 = .ok (.iadd, 1) := by decide +kernel
theorem dX3_stepsFrom_71 : decode cX3_stepsFrom 71 = .ok (.ishl, 1) := by decide +kernel
theorem dX3_stepsFrom_72 : decode cX3_stepsFrom 72 = .ok (.ior, 1) := by decide +kernel
theorem dX3_stepsFrom_73 : decode cX3_stepsFrom 73 = .ok (.istore 6, 2) := by decide +kernel
theorem dX3_stepsFrom_75 : decode cX3_stepsFrom 75 = .ok (.iinc 7 1, 3) := by decide +kernel
theorem dX3_stepsFrom_78 : decode cX3_stepsFrom 78 = .ok (.goto (-49), 3) := by decide +kernel
theorem dX3_stepsFrom_81 : decode cX3_stepsFrom 81 = .ok (.iconst 0, 1) := by decide +kernel
theorem dX3_stepsFrom_82 : decode cX3_stepsFrom 82 = .ok (.istore 7, 2) := by decide +kernel
theorem dX3_stepsFrom_84 : decode cX3_stepsFrom 84 = .ok (.iload 7, 2) := by decide +kernel
theorem dX3_stepsFrom_86 : decode cX3_stepsFrom 86 = .ok (.aload_n 0, 1) := by decide +kernel
theorem dX3_stepsFrom_87 : decode cX3_stepsFrom 87 = .ok (.getfield 9, 3) := by decide +kernel
theorem dX3_stepsFrom_90 : decode cX3_stepsFrom 90 = .ok (.getfield 81, 3) := by decide +kernel
theorem dX3_stepsFrom_93 : decode cX3_stepsFrom 93 = .ok (.if_icmp .ge 43, 3) := by decide +kernel
theorem dX3_stepsFrom_96 : decode cX3_stepsFrom 96 = .ok (.iload_n 2, 1) := by decide +kernel
theorem dX3_stepsFrom_97 : decode cX3_stepsFrom 97 = .ok (.iload 7, 2) := by decide +kernel
theorem dX3_stepsFrom_99 : decode cX3_stepsFrom 99 = .ok (.invokestatic 51, 3) := by decide +kernel
theorem dX3_stepsFrom_102 : decode cX3_stepsFrom 102 = .ok (.ifCond .ne 28, 3) := by decide +kernel
theorem dX3_stepsFrom_105 : decode cX3_stepsFrom 105 = .ok (.aload_n 0, 1) := by decide +kernel
theorem dX3_stepsFrom_106 : decode cX3_stepsFrom 106 = .ok (.iload_n 2, 1) := by decide +kernel
theorem dX3_stepsFrom_107 : decode cX3_stepsFrom 107 = .ok (.iload 4, 2) := by decide +kernel
theorem dX3_stepsFrom_109 : decode cX3_stepsFrom 109 = .ok (.iload 5, 2) := by decide +kernel
theorem dX3_stepsFrom_111 : decode cX3_stepsFrom 111 = .ok (.iload 7, 2) := by decide +kernel
theorem dX3_stepsFrom_113 : decode cX3_stepsFrom 113 = .ok (.invokevirtual 84, 3) := by decide +kernel
theorem dX3_stepsFrom_116 : decode cX3_stepsFrom 116 = .ok (.ifCond .eq 14, 3) := by decide +kernel
theorem dX3_stepsFrom_119 : decode cX3_stepsFrom 119 = .ok (.iload 6, 2) := by decide +kernel
theorem dX3_stepsFrom_121 : decode cX3_stepsFrom 121 = .ok (.iconst 1, 1) := by decide +kernel
theorem dX3_stepsFrom_122 : decode cX3_stepsFrom 122 = .ok (.iconst 4, 1) := by decide +kernel
theorem dX3_stepsFrom_123 : decode cX3_stepsFrom 123 = .ok (.iload 7, 2) := by decide +kernel
theorem dX3_stepsFrom_125 : decode cX3_stepsFrom 125 = .ok (.iadd, 1) := by decide +kernel
theorem dX3_stepsFrom_126 : decode cX3_stepsFrom 126 = .ok (.ishl, 1) := by decide +kernel
theorem dX3_stepsFrom_127 : decode cX3_stepsFrom 127 = .ok (.ior, 1) := by decide +kernel
theorem dX3_stepsFrom_128 : decode cX3_stepsFrom 128 = .ok (.istore 6, 2) := by decide +kernel
theorem dX3_stepsFrom_130 : decode cX3_stepsFrom 130 = .ok (.iinc 7 1, 3) := by decide +kernel
theorem dX3_stepsFrom_133 : decode cX3_stepsFrom 133 = .ok (.goto (-49), 3) := by decide +kernel
theorem dX3_stepsFrom_136 : decode cX3_stepsFrom 136 = .ok (.iload 6, 2) := by decide +kernel
theorem dX3_stepsFrom_138 : decode cX3_stepsFrom 138 = .ok (.ireturn, 1) := by decide +kernel
theorem dX3_canCrank_0 : decode cX3_canCrank 0 = .ok (.aload_n 0, 1) := by decide +kernel
theorem dX3_canCrank_1 : decode cX3_canCrank 1 = .ok (.getfield 9, 3) := by decide +kernel
theorem dX3_canCrank_4 : decode cX3_canCrank 4 = .ok (.getfield 87, 3) := by decide +kernel
theorem dX3_canCrank_7 : decode cX3_canCrank 7 = .ok (.iload 4, 2) := by decide +kernel
theorem dX3_canCrank_9 : decode cX3_canCrank 9 = .ok (.iaload, 1) := by decide +kernel
theorem dX3_canCrank_10 : decode cX3_canCrank 10 = .ok (.istore 5, 2) := by decide +kernel
theorem dX3_canCrank_12 : decode cX3_canCrank 12 = .ok (.aload_n 0, 1) := by decide +kernel
theorem dX3_canCrank_13 : decode cX3_canCrank 13 = .ok (.getfield 9, 3) := by decide +kernel
theorem dX3_canCrank_16 : decode cX3_canCrank 16 = .ok (.getfield 35, 3) := by decide +kernel
theorem dX3_canCrank_19 : decode cX3_canCrank 19 = .ok (.iload 4, 2) := by decide +kernel
theorem dX3_canCrank_21 : decode cX3_canCrank 21 = .ok (.iaload, 1) := by decide +kernel
theorem dX3_canCrank_22 : decode cX3_canCrank 22 = .ok (.istore 6, 2) := by decide +kernel
theorem dX3_canCrank_24 : decode cX3_canCrank 24 = .ok (.iload 5, 2) := by decide +kernel
theorem dX3_canCrank_26 : decode cX3_canCrank 26 = .ok (.ifCond .eq 25, 3) := by decide +kernel
theorem dX3_canCrank_29 : decode cX3_canCrank 29 = .ok (.iload_n 3, 1) := by decide +kernel
theorem dX3_canCrank_30 : decode cX3_canCrank 30 = .ok (.iload 6, 2) := by decide +kernel
theorem dX3_canCrank_32 : decode cX3_canCrank 32 = .ok (.invokestatic 51, 3) := by decide +kernel
theorem dX3_canCrank_35 : decode cX3_canCrank 35 = .ok (.ifCond .eq 20, 3) := by decide +kernel
theorem dX3_canCrank_38 : decode cX3_canCrank 38 = .ok (.aload_n 0, 1) := by decide +kernel
theorem dX3_canCrank_39 : decode cX3_canCrank 39 = .ok (.iload_n 1, 1) := by decide +kernel
theorem dX3_canCrank_40 : decode cX3_canCrank 40 = .ok (.iload_n 2, 1) := by decide +kernel
theorem dX3_canCrank_41 : decode cX3_canCrank 41 = .ok (.iload 6, 2) := by decide +kernel
theorem dX3_canCrank_43 : decode cX3_canCrank 43 = .ok (.invokevirtual 57, 3) := by decide +kernel
theorem dX3_canCrank_46 : decode cX3_canCrank 46 = .ok (.iload 5, 2) := by decide +kernel
theorem dX3_canCrank_48 : decode cX3_canCrank 48 = .ok (.if_icmp .lt 7, 3) := by decide +kernel
theorem dX3_canCrank_51 : decode cX3_canCrank 51 = .ok (.iconst 1, 1) := by decide +kernel
theorem dX3_canCrank_52 : decode cX3_canCrank 52 = .ok (.goto 4, 3) := by decide +kernel
theorem dX3_canCrank_55 : decode cX3_canCrank 55 = .ok (.iconst 0, 1) := by decide +kernel
theorem dX3_canCrank_56 : decode cX3_canCrank 56 = .ok (.ireturn, 1) := by decide +kernel
theorem dX3_canCarry_0 : decode cX3_canCarry 0 = .ok (.aload_n 0, 1) := by decide +kernel
theorem dX3_canCarry_1 : decode cX3_canCarry 1 = .ok (.getfield 9, 3) := by decide +kernel
theorem dX3_canCarry_4 : decode cX3_canCarry 4 = .ok (.getfield 90, 3) := by decide +kernel
theorem dX3_canCarry_7 : decode cX3_canCarry 7 = .ok (.iload 4, 2) := by decide +kernel
theorem dX3_canCarry_9 : decode cX3_canCarry 9 = .ok (.iaload, 1) := by decide +kernel
theorem dX3_canCarry_10 : decode cX3_canCarry 10 = .ok (.istore 5, 2) := by decide +kernel
theorem dX3_canCarry_12 : decode cX3_canCarry 12 = .ok (.iload_n 3, 1) := by decide +kernel
theorem dX3_canCarry_13 : decode cX3_canCarry 13 = .ok (.iload 5, 2) := by decide +kernel
theorem dX3_canCarry_15 : decode cX3_canCarry 15 = .ok (.invokestatic 51, 3) := by decide +kernel
theorem dX3_canCarry_18 : decode cX3_canCarry 18 = .ok (.ifCond .ne 20, 3) := by decide +kernel
theorem dX3_canCarry_21 : decode cX3_canCarry 21 = .ok (.iload_n 3, 1) := by decide +kernel
theorem dX3_canCarry_22 : decode cX3_canCarry 22 = .ok (.aload_n 0, 1) := by decide +kernel
theorem dX3_canCarry_23 : decode cX3_canCarry 23 = .ok (.getfield 9, 3) := by decide +kernel
theorem dX3_canCarry_26 : decode cX3_canCarry 26 = .ok (.getfield 93, 3) := by decide +kernel
theorem dX3_canCarry_29 : decode cX3_canCarry 29 = .ok (.iload 4, 2) := by decide +kernel
theorem dX3_canCarry_31 : decode cX3_canCarry 31 = .ok (.iaload, 1) := by decide +kernel
theorem dX3_canCarry_32 : decode cX3_canCarry 32 = .ok (.invokestatic 51, 3) := by decide +kernel
theorem dX3_canCarry_35 : decode cX3_canCarry 35 = .ok (.ifCond .eq 7, 3) := by decide +kernel
theorem dX3_canCarry_38 : decode cX3_canCarry 38 = .ok (.iconst 1, 1) := by decide +kernel
theorem dX3_canCarry_39 : decode cX3_canCarry 39 = .ok (.goto 4, 3) := by decide +kernel
theorem dX3_canCarry_42 : decode cX3_canCarry 42 = .ok (.iconst 0, 1) := by decide +kernel
theorem dX3_canCarry_43 : decode cX3_canCarry 43 = .ok (.istore 6, 2) := by decide +kernel
theorem dX3_canCarry_45 : decode cX3_canCarry 45 = .ok (.iload 6, 2) := by decide +kernel
theorem dX3_canCarry_47 : decode cX3_canCarry 47 = .ok (.ifCond .eq 23, 3) := by decide +kernel
theorem dX3_canCarry_50 : decode cX3_canCarry 50 = .ok (.aload_n 0, 1) := by decide +kernel
theorem dX3_canCarry_51 : decode cX3_canCarry 51 = .ok (.iload_n 1, 1) := by decide +kernel
theorem dX3_canCarry_52 : decode cX3_canCarry 52 = .ok (.iconst 1, 1) := by decide +kernel
theorem dX3_canCarry_53 : decode cX3_canCarry 53 = .ok (.iload 4, 2) := by decide +kernel
theorem dX3_canCarry_55 : decode cX3_canCarry 55 = .ok (.ishl, 1) := by decide +kernel
theorem dX3_canCarry_56 : decode cX3_canCarry 56 = .ok (.ior, 1) := by decide +kernel
theorem dX3_canCarry_57 : decode cX3_canCarry 57 = .ok (.iload_n 2, 1) := by decide +kernel
theorem dX3_canCarry_58 : decode cX3_canCarry 58 = .ok (.iload 5, 2) := by decide +kernel
theorem dX3_canCarry_60 : decode cX3_canCarry 60 = .ok (.invokevirtual 57, 3) := by decide +kernel
theorem dX3_canCarry_63 : decode cX3_canCarry 63 = .ok (.ifCond .lt 7, 3) := by decide +kernel
theorem dX3_canCarry_66 : decode cX3_canCarry 66 = .ok (.iconst 1, 1) := by decide +kernel
theorem dX3_canCarry_67 : decode cX3_canCarry 67 = .ok (.goto 4, 3) := by decide +kernel
theorem dX3_canCarry_70 : decode cX3_canCarry 70 = .ok (.iconst 0, 1) := by decide +kernel
theorem dX3_canCarry_71 : decode cX3_canCarry 71 = .ok (.ireturn, 1) := by decide +kernel
theorem dX3_withStep_0 : decode cX3_withStep 0 = .ok (.iload_n 2, 1) := by decide +kernel
theorem dX3_withStep_1 : decode cX3_withStep 1 = .ok (.iconst 4, 1) := by decide +kernel
theorem dX3_withStep_2 : decode cX3_withStep 2 = .ok (.if_icmp .lt 11, 3) := by decide +kernel
theorem dX3_withStep_5 : decode cX3_withStep 5 = .ok (.iload_n 1, 1) := by decide +kernel
theorem dX3_withStep_6 : decode cX3_withStep 6 = .ok (.iload_n 2, 1) := by decide +kernel
theorem dX3_withStep_7 : decode cX3_withStep 7 = .ok (.iconst 4, 1) := by decide +kernel
theorem dX3_withStep_8 : decode cX3_withStep 8 = .ok (.isub, 1) := by decide +kernel
theorem dX3_withStep_9 : decode cX3_withStep 9 = .ok (.invokestatic 96, 3) := by decide +kernel
theorem dX3_withStep_12 : decode cX3_withStep 12 = .ok (.ireturn, 1) := by decide +kernel
theorem dX3_withStep_13 : decode cX3_withStep 13 = .ok (.iload_n 2, 1) := by decide +kernel
theorem dX3_withStep_14 : decode cX3_withStep 14 = .ok (.iconst 1, 1) := by decide +kernel
theorem dX3_withStep_15 : decode cX3_withStep 15 = .ok (.if_icmp .lt 22, 3) := by decide +kernel
theorem dX3_withStep_18 : decode cX3_withStep 18 = .ok (.iload_n 2, 1) := by decide +kernel
theorem dX3_withStep_19 : decode cX3_withStep 19 = .ok (.iconst 1, 1) := by decide +kernel
theorem dX3_withStep_20 : decode cX3_withStep 20 = .ok (.isub, 1) := by decide +kernel
theorem dX3_withStep_21 : decode cX3_withStep 21 = .ok (.istore_n 3, 1) := by decide +kernel
theorem dX3_withStep_22 : decode cX3_withStep 22 = .ok (.iload_n 1, 1) := by decide +kernel
theorem dX3_withStep_23 : decode cX3_withStep 23 = .ok (.iload_n 3, 1) := by decide +kernel
theorem dX3_withStep_24 : decode cX3_withStep 24 = .ok (.aload_n 0, 1) := by decide +kernel
theorem dX3_withStep_25 : decode cX3_withStep 25 = .ok (.getfield 9, 3) := by decide +kernel
theorem dX3_withStep_28 : decode cX3_withStep 28 = .ok (.getfield 99, 3) := by decide +kernel
theorem dX3_withStep_31 : decode cX3_withStep 31 = .ok (.iload_n 3, 1) := by decide +kernel
theorem dX3_withStep_32 : decode cX3_withStep 32 = .ok (.iaload, 1) := by decide +kernel
theorem dX3_withStep_33 : decode cX3_withStep 33 = .ok (.invokestatic 102, 3) := by decide +kernel
theorem dX3_withStep_36 : decode cX3_withStep 36 = .ok (.ireturn, 1) := by decide +kernel
theorem dX3_withStep_37 : decode cX3_withStep 37 = .ok (.iload_n 1, 1) := by decide +kernel
theorem dX3_withStep_38 : decode cX3_withStep 38 = .ok (.ireturn, 1) := by decide +kernel
theorem dX3_isReached_0 : decode cX3_isReached 0 = .ok (.iload_n 2, 1) := by decide +kernel
theorem dX3_isReached_1 : decode cX3_isReached 1 = .ok (.iload_n 1, 1) := by decide +kernel
theorem dX3_isReached_2 : decode cX3_isReached 2 = .ok (.invokestatic 54, 3) := by decide +kernel
theorem dX3_isReached_5 : decode cX3_isReached 5 = .ok (.iconst (-1), 1) := by decide +kernel
theorem dX3_isReached_6 : decode cX3_isReached 6 = .ok (.ixor, 1) := by decide +kernel
theorem dX3_isReached_7 : decode cX3_isReached 7 = .ok (.iand, 1) := by decide +kernel
theorem dX3_isReached_8 : decode cX3_isReached 8 = .ok (.ifCond .ne 19, 3) := by decide +kernel
theorem dX3_isReached_11 : decode cX3_isReached 11 = .ok (.iload_n 3, 1) := by decide +kernel
theorem dX3_isReached_12 : decode cX3_isReached 12 = .ok (.aload_n 0, 1) := by decide +kernel
theorem dX3_isReached_13 : decode cX3_isReached 13 = .ok (.iload_n 1, 1) := by decide +kernel
theorem dX3_isReached_14 : decode cX3_isReached 14 = .ok (.invokevirtual 45, 3) := by decide +kernel
theorem dX3_isReached_17 : decode cX3_isReached 17 = .ok (.iconst (-1), 1) := by decide +kernel
theorem dX3_isReached_18 : decode cX3_isReached 18 = .ok (.ixor, 1) := by decide +kernel
theorem dX3_isReached_19 : decode cX3_isReached 19 = .ok (.iand, 1) := by decide +kernel
theorem dX3_isReached_20 : decode cX3_isReached 20 = .ok (.ifCond .ne 7, 3) := by decide +kernel
theorem dX3_isReached_23 : decode cX3_isReached 23 = .ok (.iconst 1, 1) := by decide +kernel
theorem dX3_isReached_24 : decode cX3_isReached 24 = .ok (.goto 4, 3) := by decide +kernel
theorem dX3_isReached_27 : decode cX3_isReached 27 = .ok (.iconst 0, 1) := by decide +kernel
theorem dX3_isReached_28 : decode cX3_isReached 28 = .ok (.ireturn, 1) := by decide +kernel
theorem dX3_lostLines_0 : decode cX3_lostLines 0 = .ok (.iload_n 1, 1) := by decide +kernel
theorem dX3_lostLines_1 : decode cX3_lostLines 1 = .ok (.invokestatic 31, 3) := by decide +kernel
theorem dX3_lostLines_4 : decode cX3_lostLines 4 = .ok (.istore_n 2, 1) := by decide +kernel
theorem dX3_lostLines_5 : decode cX3_lostLines 5 = .ok (.aload_n 0, 1) := by decide +kernel
theorem dX3_lostLines_6 : decode cX3_lostLines 6 = .ok (.iload_n 1, 1) := by decide +kernel
theorem dX3_lostLines_7 : decode cX3_lostLines 7 = .ok (.invokevirtual 45, 3) := by decide +kernel
theorem dX3_lostLines_10 : decode cX3_lostLines 10 = .ok (.istore_n 3, 1) := by decide +kernel
theorem dX3_lostLines_11 : decode cX3_lostLines 11 = .ok (.iconst 0, 1) := by decide +kernel
theorem dX3_lostLines_12 : decode cX3_lostLines 12 = .ok (.istore 4, 2) := by decide +kernel
theorem dX3_lostLines_14 : decode cX3_lostLines 14 = .ok (.iconst 0, 1) := by decide +kernel
theorem dX3_lostLines_15 : decode cX3_lostLines 15 = .ok (.istore 5, 2) := by decide +kernel
theorem dX3_lostLines_17 : decode cX3_lostLines 17 = .ok (.iload 5, 2) := by decide +kernel
theorem dX3_lostLines_19 : decode cX3_lostLines 19 = .ok (.aload_n 0, 1) := by decide +kernel
theorem dX3_lostLines_20 : decode cX3_lostLines 20 = .ok (.getfield 9, 3) := by decide +kernel
theorem dX3_lostLines_23 : decode cX3_lostLines 23 = .ok (.getfield 81, 3) := by decide +kernel
theorem dX3_lostLines_26 : decode cX3_lostLines 26 = .ok (.if_icmp .ge 58, 3) := by decide +kernel
theorem dX3_lostLines_29 : decode cX3_lostLines 29 = .ok (.aload_n 0, 1) := by decide +kernel
theorem dX3_lostLines_30 : decode cX3_lostLines 30 = .ok (.getfield 9, 3) := by decide +kernel
theorem dX3_lostLines_33 : decode cX3_lostLines 33 = .ok (.getfield 90, 3) := by decide +kernel
theorem dX3_lostLines_36 : decode cX3_lostLines 36 = .ok (.iload 5, 2) := by decide +kernel
theorem dX3_lostLines_38 : decode cX3_lostLines 38 = .ok (.iaload, 1) := by decide +kernel
theorem dX3_lostLines_39 : decode cX3_lostLines 39 = .ok (.istore 6, 2) := by decide +kernel
theorem dX3_lostLines_41 : decode cX3_lostLines 41 = .ok (.iload_n 2, 1) := by decide +kernel
theorem dX3_lostLines_42 : decode cX3_lostLines 42 = .ok (.iload 5, 2) := by decide +kernel
theorem dX3_lostLines_44 : decode cX3_lostLines 44 = .ok (.invokestatic 51, 3) := by decide +kernel
theorem dX3_lostLines_47 : decode cX3_lostLines 47 = .ok (.ifCond .eq 31, 3) := by decide +kernel
theorem dX3_lostLines_50 : decode cX3_lostLines 50 = .ok (.iload_n 3, 1) := by decide +kernel
theorem dX3_lostLines_51 : decode cX3_lostLines 51 = .ok (.iload 6, 2) := by decide +kernel
theorem dX3_lostLines_53 : decode cX3_lostLines 53 = .ok (.invokestatic 51, 3) := by decide +kernel
theorem dX3_lostLines_56 : decode cX3_lostLines 56 = .ok (.ifCond .eq 13, 3) := by decide +kernel
theorem dX3_lostLines_59 : decode cX3_lostLines 59 = .ok (.aload_n 0, 1) := by decide +kernel
theorem dX3_lostLines_60 : decode cX3_lostLines 60 = .ok (.iload_n 1, 1) := by decide +kernel
theorem dX3_lostLines_61 : decode cX3_lostLines 61 = .ok (.iload 6, 2) := by decide +kernel
theorem dX3_lostLines_63 : decode cX3_lostLines 63 = .ok (.invokevirtual 105, 3) := by decide +kernel
theorem dX3_lostLines_66 : decode cX3_lostLines 66 = .ok (.ifCond .ge 12, 3) := by decide +kernel
theorem dX3_lostLines_69 : decode cX3_lostLines 69 = .ok (.iload 4, 2) := by decide +kernel
theorem dX3_lostLines_71 : decode cX3_lostLines 71 = .ok (.iconst 1, 1) := by decide +kernel
theorem dX3_lostLines_72 : decode cX3_lostLines 72 = .ok (.iload 5, 2) := by decide +kernel
theorem dX3_lostLines_74 : decode cX3_lostLines 74 = .ok (.ishl, 1) := by decide +kernel
theorem dX3_lostLines_75 : decode cX3_lostLines 75 = .ok (.ior, 1) := by decide +kernel
theorem dX3_lostLines_76 : decode cX3_lostLines 76 = .ok (.istore 4, 2) := by decide +kernel
theorem dX3_lostLines_78 : decode cX3_lostLines 78 = .ok (.iinc 5 1, 3) := by decide +kernel
theorem dX3_lostLines_81 : decode cX3_lostLines 81 = .ok (.goto (-64), 3) := by decide +kernel
theorem dX3_lostLines_84 : decode cX3_lostLines 84 = .ok (.iload 4, 2) := by decide +kernel
theorem dX3_lostLines_86 : decode cX3_lostLines 86 = .ok (.ireturn, 1) := by decide +kernel
theorem dX4_init_0 : decode cX4_init 0 = .ok (.aload_n 0, 1) := by decide +kernel
theorem dX4_init_1 : decode cX4_init 1 = .ok (.invokespecial 3, 3) := by decide +kernel
theorem dX4_init_4 : decode cX4_init 4 = .ok (.aload_n 0, 1) := by decide +kernel
theorem dX4_init_5 : decode cX4_init 5 = .ok (.sipush 8000, 3) := by decide +kernel
theorem dX4_init_8 : decode cX4_init 8 = .ok (.newarray .int, 2) := by decide +kernel
theorem dX4_init_10 : decode cX4_init 10 = .ok (.putfield 11, 3) := by decide +kernel
theorem dX4_init_13 : decode cX4_init 13 = .ok (.aload_n 0, 1) := by decide +kernel
theorem dX4_init_14 : decode cX4_init 14 = .ok (.sipush 8000, 3) := by decide +kernel
theorem dX4_init_17 : decode cX4_init 17 = .ok (.newarray .int, 2) := by decide +kernel
theorem dX4_init_19 : decode cX4_init 19 = .ok (.putfield 15, 3) := by decide +kernel
theorem dX4_init_22 : decode cX4_init 22 = .ok (.aload_n 0, 1) := by decide +kernel
theorem dX4_init_23 : decode cX4_init 23 = .ok (.sipush 1024, 3) := by decide +kernel
theorem dX4_init_26 : decode cX4_init 26 = .ok (.newarray .int, 2) := by decide +kernel
theorem dX4_init_28 : decode cX4_init 28 = .ok (.putfield 20, 3) := by decide +kernel
theorem dX4_init_31 : decode cX4_init 31 = .ok (.aload_n 0, 1) := by decide +kernel
theorem dX4_init_32 : decode cX4_init 32 = .ok (.aload_n 1, 1) := by decide +kernel
theorem dX4_init_33 : decode cX4_init 33 = .ok (.putfield 23, 3) := by decide +kernel
theorem dX4_init_36 : decode cX4_init 36 = .ok (.return_, 1) := by decide +kernel
theorem dX4_plan_0 : decode cX4_plan 0 = .ok (.aload_n 0, 1) := by decide +kernel
theorem dX4_plan_1 : decode cX4_plan 1 = .ok (.iload_n 1, 1) := by decide +kernel
theorem dX4_plan_2 : decode cX4_plan 2 = .ok (.sipush 511, 3) := by decide +kernel
theorem dX4_plan_5 : decode cX4_plan 5 = .ok (.sipush 1023, 3) := by decide +kernel
theorem dX4_plan_8 : decode cX4_plan 8 = .ok (.iload_n 2, 1) := by decide +kernel
theorem dX4_plan_9 : decode cX4_plan 9 = .ok (.iload_n 3, 1) := by decide +kernel
theorem dX4_plan_10 : decode cX4_plan 10 = .ok (.invokevirtual 27, 3) := by decide +kernel
theorem dX4_plan_13 : decode cX4_plan 13 = .ok (.iconst (-1), 1) := by decide +kernel
theorem dX4_plan_14 : decode cX4_plan 14 = .ok (.if_icmp .ne 5, 3) := by decide +kernel
theorem dX4_plan_17 : decode cX4_plan 17 = .ok (.iconst (-1), 1) := by decide +kernel
theorem dX4_plan_18 : decode cX4_plan 18 = .ok (.ireturn, 1) := by decide +kernel
theorem dX4_plan_19 : decode cX4_plan 19 = .ok (.aload_n 0, 1) := by decide +kernel
theorem dX4_plan_20 : decode cX4_plan 20 = .ok (.iload_n 1, 1) := by decide +kernel
theorem dX4_plan_21 : decode cX4_plan 21 = .ok (.sipush 32767, 3) := by decide +kernel
theorem dX4_plan_24 : decode cX4_plan 24 = .ok (.sipush 1023, 3) := by decide +kernel
theorem dX4_plan_27 : decode cX4_plan 27 = .ok (.iload_n 2, 1) := by decide +kernel
theorem dX4_plan_28 : decode cX4_plan 28 = .ok (.iload_n 3, 1) := by decide +kernel
theorem dX4_plan_29 : decode cX4_plan 29 = .ok (.invokevirtual 27, 3) := by decide +kernel
theorem dX4_plan_32 : decode cX4_plan 32 = .ok (.ireturn, 1) := by decide +kernel
theorem dX4_codeAt_0 : decode cX4_codeAt 0 = .ok (.aload_n 0, 1) := by decide +kernel
theorem dX4_codeAt_1 : decode cX4_codeAt 1 = .ok (.getfield 11, 3) := by decide +kernel
theorem dX4_codeAt_4 : decode cX4_codeAt 4 = .ok (.iload_n 1, 1) := by decide +kernel
theorem dX4_codeAt_5 : decode cX4_codeAt 5 = .ok (.iaload, 1) := by decide +kernel
theorem dX4_codeAt_6 : decode cX4_codeAt 6 = .ok (.ireturn, 1) := by decide +kernel
theorem dX4_ticksTo_0 : decode cX4_ticksTo 0 = .ok (.iconst 0, 1) := by decide +kernel
theorem dX4_ticksTo_1 : decode cX4_ticksTo 1 = .ok (.istore_n 2, 1) := by decide +kernel
theorem dX4_ticksTo_2 : decode cX4_ticksTo 2 = .ok (.iload_n 1, 1) := by decide +kernel
theorem dX4_ticksTo_3 : decode cX4_ticksTo 3 = .ok (.istore_n 3, 1) := by decide +kernel
theorem dX4_ticksTo_4 : decode cX4_ticksTo 4 = .ok (.iload_n 3, 1) := by decide +kernel
theorem dX4_ticksTo_5 : decode cX4_ticksTo 5 = .ok (.ifCond .le 25, 3) := by decide +kernel
theorem dX4_ticksTo_8 : decode cX4_ticksTo 8 = .ok (.iload_n 2, 1) := by decide +kernel
theorem dX4_ticksTo_9 : decode cX4_ticksTo 9 = .ok (.sipush 8000, 3) := by decide +kernel
theorem dX4_ticksTo_12 : decode cX4_ticksTo 12 = .ok (.if_icmp .ge 18, 3) := by decide +kernel
theorem dX4_ticksTo_15 : decode cX4_ticksTo 15 = .ok (.iinc 2 1, 3) := by decide +kernel
theorem dX4_ticksTo_18 : decode cX4_ticksTo 18 = .ok (.aload_n 0, 1) := by decide +kernel
theorem dX4_ticksTo_19 : decode cX4_ticksTo 19 = .ok (.getfield 15, 3) := by decide +kernel
theorem dX4_ticksTo_22 : decode cX4_ticksTo 22 = .ok (.iload_n 3, 1) := by decide +kernel
theorem dX4_ticksTo_23 : decode cX4_ticksTo 23 = .ok (.iaload, 1) := by decide +kernel
theorem dX4_ticksTo_24 : decode cX4_ticksTo 24 = .ok (.iconst 4, 1) := by decide +kernel
theorem dX4_ticksTo_25 : decode cX4_ticksTo 25 = .ok (.ishr, 1) := by decide +kernel
theorem dX4_ticksTo_26 : decode cX4_ticksTo 26 = .ok (.istore_n 3, 1) := by decide +kernel
theorem dX4_ticksTo_27 : decode cX4_ticksTo 27 = .ok (.goto (-23), 3) := by decide +kernel
theorem dX4_ticksTo_30 : decode cX4_ticksTo 30 = .ok (.iload_n 2, 1) := by decide +kernel
theorem dX4_ticksTo_31 : decode cX4_ticksTo 31 = .ok (.ireturn, 1) := by decide +kernel
theorem dX4_stepBefore_0 : decode cX4_stepBefore 0 = .ok (.iload_n 1, 1) := by decide +kernel
theorem dX4_stepBefore_1 : decode cX4_stepBefore 1 = .ok (.istore_n 3, 1) := by decide +kernel
theorem dX4_stepBefore_2 : decode cX4_stepBefore 2 = .ok (.iconst 0, 1) := by decide +kernel
theorem dX4_stepBefore_3 : decode cX4_stepBefore 3 = .ok (.istore 4, 2) := by decide +kernel
theorem dX4_stepBefore_5 : decode cX4_stepBefore 5 = .ok (.iload 4, 2) := by decide +kernel
theorem dX4_stepBefore_7 : decode cX4_stepBefore 7 = .ok (.iload_n 2, 1) := by decide +kernel
theorem dX4_stepBefore_8 : decode cX4_stepBefore 8 = .ok (.if_icmp .ge 18, 3) := by decide +kernel
theorem dX4_stepBefore_11 : decode cX4_stepBefore 11 = .ok (.aload_n 0, 1) := by decide +kernel
theorem dX4_stepBefore_12 : decode cX4_stepBefore 12 = .ok (.getfield 15, 3) := by decide +kernel
theorem dX4_stepBefore_15 : decode cX4_stepBefore 15 = .ok (.iload_n 3, 1) := by decide +kernel
theorem dX4_stepBefore_16 : decode cX4_stepBefore 16 = .ok (.iaload, 1) := by decide +kernel
theorem dX4_stepBefore_17 : decode cX4_stepBefore 17 = .ok (.iconst 4, 1) := by decide +kernel
theorem dX4_stepBefore_18 : decode cX4_stepBefore 18 = .ok (.ishr, 1) := by decide +kernel
theorem dX4_stepBefore_19 : decode cX4_stepBefore 19 = .ok (.istore_n 3, 1) := by decide +kernel
theorem dX4_stepBefore_20 : decode cX4_stepBefore 20 = .ok (.iinc 4 1, 3) := by decide +kernel
theorem dX4_stepBefore_23 : decode cX4_stepBefore 23 = .ok (.goto (-18), 3) := by decide +kernel
theorem dX4_stepBefore_26 : decode cX4_stepBefore 26 = .ok (.aload_n 0, 1) := by decide +kernel
theorem dX4_stepBefore_27 : decode cX4_stepBefore 27 = .ok (.getfield 15, 3) := by decide +kernel
theorem dX4_stepBefore_30 : decode cX4_stepBefore 30 = .ok (.iload_n 3, 1) := by decide +kernel
theorem dX4_stepBefore_31 : decode cX4_stepBefore 31 = .ok (.iaload, 1) := by decide +kernel
theorem dX4_stepBefore_32 : decode cX4_stepBefore 32 = .ok (.iconst 4, 1) := by decide +kernel
theorem dX4_stepBefore_33 : decode cX4_stepBefore 33 = .ok (.invokestatic 31, 3) := by decide +kernel
theorem dX4_stepBefore_36 : decode cX4_stepBefore 36 = .ok (.iand, 1) := by decide +kernel
theorem dX4_stepBefore_37 : decode cX4_stepBefore 37 = .ok (.ireturn, 1) := by decide +kernel
theorem dX4_canReach_0 : decode cX4_canReach 0 = .ok (.aload_n 0, 1) := by decide +kernel
theorem dX4_canReach_1 : decode cX4_canReach 1 = .ok (.iload_n 1, 1) := by decide +kernel
theorem dX4_canReach_2 : decode cX4_canReach 2 = .ok (.sipush 511, 3) := by decide +kernel
theorem dX4_canReach_5 : decode cX4_canReach 5 = .ok (.sipush 1023, 3) := by decide +kernel
theorem dX4_canReach_8 : decode cX4_canReach 8 = .ok (.iload_n 2, 1) := by decide +kernel
theorem dX4_canReach_9 : decode cX4_canReach 9 = .ok (.iload_n 3, 1) := by decide +kernel
theorem dX4_canReach_10 : decode cX4_canReach 10 = .ok (.invokevirtual 27, 3) := by decide +kernel
theorem dX4_canReach_13 : decode cX4_canReach 13 = .ok (.iconst (-1), 1) := by decide +kernel
theorem dX4_canReach_14 : decode cX4_canReach 14 = .ok (.if_icmp .eq 7, 3) := by decide +kernel
theorem dX4_canReach_17 : decode cX4_canReach 17 = .ok (.iconst 1, 1) := by decide +kernel
theorem dX4_canReach_18 : decode cX4_canReach 18 = .ok (.goto 4, 3) := by decide +kernel
theorem dX4_canReach_21 : decode cX4_canReach 21 = .ok (.iconst 0, 1) := by decide +kernel
theorem dX4_canReach_22 : decode cX4_canReach 22 = .ok (.ireturn, 1) := by decide +kernel
theorem dX4_neededAmong_0 : decode cX4_neededAmong 0 = .ok (.iconst 0, 1) := by decide +kernel
theorem dX4_neededAmong_1 : decode cX4_neededAmong 1 = .ok (.istore 5, 2) := by decide +kernel
theorem dX4_neededAmong_3 : decode cX4_neededAmong 3 = .ok (.iconst 0, 1) := by decide +kernel
theorem dX4_neededAmong_4 : decode cX4_neededAmong 4 = .ok (.istore 6, 2) := by decide +kernel
theorem dX4_neededAmong_6 : decode cX4_neededAmong 6 = .ok (.iload 6, 2) := by decide +kernel
theorem dX4_neededAmong_8 : decode cX4_neededAmong 8 = .ok (.bipush 10, 2) := by decide +kernel
theorem dX4_neededAmong_10 : decode cX4_neededAmong 10 = .ok (.if_icmp .ge 56, 3) := by decide +kernel
theorem dX4_neededAmong_13 : decode cX4_neededAmong 13 = .ok (.sipush 1023, 3) := by decide +kernel
theorem dX4_neededAmong_16 : decode cX4_neededAmong 16 = .ok (.iconst 1, 1) := by decide +kernel
theorem dX4_neededAmong_17 : decode cX4_neededAmong 17 = .ok (.iload 6, 2) := by decide +kernel
theorem dX4_neededAmong_19 : decode cX4_neededAmong 19 = .ok (.ishl, 1) := by decide +kernel
theorem dX4_neededAmong_20 : decode cX4_neededAmong 20 = .ok (.iconst (-1), 1) := by decide +kernel
theorem dX4_neededAmong_21 : decode cX4_neededAmong 21 = .ok (.ixor, 1) := by decide +kernel
theorem dX4_neededAmong_22 : decode cX4_neededAmong 22 = .ok (.iand, 1) := by decide +kernel
theorem dX4_neededAmong_23 : decode cX4_neededAmong 23 = .ok (.istore 7, 2) := by decide +kernel
theorem dX4_neededAmong_25 : decode cX4_neededAmong 25 = .ok (.iload_n 1, 1) := by decide +kernel
theorem dX4_neededAmong_26 : decode cX4_neededAmong 26 = .ok (.iload 6, 2) := by decide +kernel
theorem dX4_neededAmong_28 : decode cX4_neededAmong 28 = .ok (.invokestatic 35, 3) := by decide +kernel
theorem dX4_neededAmong_31 : decode cX4_neededAmong 31 = .ok (.ifCond .eq 29, 3) := by decide +kernel
theorem dX4_neededAmong_34 : decode cX4_neededAmong 34 = .ok (.aload_n 0, 1) := by decide +kernel
theorem dX4_neededAmong_35 : decode cX4_neededAmong 35 = .ok (.iload_n 2, 1) := by decide +kernel
theorem dX4_neededAmong_36 : decode cX4_neededAmong 36 = .ok (.sipush 511, 3) := by decide +kernel
theorem dX4_neededAmong_39 : decode cX4_neededAmong 39 = .ok (.iload 7, 2) := by decide +kernel
theorem dX4_neededAmong_41 : decode cX4_neededAmong 41 = .ok (.iload_n 3, 1) := by decide +kernel
theorem dX4_neededAmong_42 : decode cX4_neededAmong 42 = .ok (.iload 4, 2) := by decide +kernel
theorem dX4_neededAmong_44 : decode cX4_neededAmong 44 = .ok (.invokevirtual 27, 3) := by decide +kernel
theorem dX4_neededAmong_47 : decode cX4_neededAmong 47 = .ok (.iconst (-1), 1) := by decide +kernel
theorem dX4_neededAmong_48 : decode cX4_neededAmong 48 = .ok (.if_icmp .ne 12, 3) := by decide +kernel
theorem dX4_neededAmong_51 : decode cX4_neededAmong 51 = .ok (.iload 5, 2) := by decide +kernel
theorem dX4_neededAmong_53 : decode cX4_neededAmong 53 = .ok (.iconst 1, 1) := by decide +kernel
theorem dX4_neededAmong_54 : decode cX4_neededAmong 54 = .ok (.iload 6, 2) := by decide +kernel
theorem dX4_neededAmong_56 : decode cX4_neededAmong 56 = .ok (.ishl, 1) := by decide +kernel
theorem dX4_neededAmong_57 : decode cX4_neededAmong 57 = .ok (.ior, 1) := by decide +kernel
theorem dX4_neededAmong_58 : decode cX4_neededAmong 58 = .ok (.istore 5, 2) := by decide +kernel
theorem dX4_neededAmong_60 : decode cX4_neededAmong 60 = .ok (.iinc 6 1, 3) := by decide +kernel
theorem dX4_neededAmong_63 : decode cX4_neededAmong 63 = .ok (.goto (-57), 3) := by decide +kernel
theorem dX4_neededAmong_66 : decode cX4_neededAmong 66 = .ok (.iload 5, 2) := by decide +kernel
theorem dX4_neededAmong_68 : decode cX4_neededAmong 68 = .ok (.ireturn, 1) := by decide +kernel
theorem dX4_everReady_0 : decode cX4_everReady 0 = .ok (.iconst 0, 1) := by decide +kernel
theorem dX4_everReady_1 : decode cX4_everReady 1 = .ok (.istore_n 3, 1) := by decide +kernel
theorem dX4_everReady_2 : decode cX4_everReady 2 = .ok (.iconst 0, 1) := by decide +kernel
theorem dX4_everReady_3 : decode cX4_everReady 3 = .ok (.istore 4, 2) := by decide +kernel
theorem dX4_everReady_5 : decode cX4_everReady 5 = .ok (.iload 4, 2) := by decide +kernel
theorem dX4_everReady_7 : decode cX4_everReady 7 = .ok (.iload_n 2, 1) := by decide +kernel
theorem dX4_everReady_8 : decode cX4_everReady 8 = .ok (.if_icmp .ge 36, 3) := by decide +kernel
theorem dX4_everReady_11 : decode cX4_everReady 11 = .ok (.aload_n 0, 1) := by decide +kernel
theorem dX4_everReady_12 : decode cX4_everReady 12 = .ok (.iload_n 1, 1) := by decide +kernel
theorem dX4_everReady_13 : decode cX4_everReady 13 = .ok (.sipush 511, 3) := by decide +kernel
theorem dX4_everReady_16 : decode cX4_everReady 16 = .ok (.sipush 1023, 3) := by decide +kernel
theorem dX4_everReady_19 : decode cX4_everReady 19 = .ok (.iconst 1, 1) := by decide +kernel
theorem dX4_everReady_20 : decode cX4_everReady 20 = .ok (.iload 4, 2) := by decide +kernel
theorem dX4_everReady_22 : decode cX4_everReady 22 = .ok (.ishl, 1) := by decide +kernel
theorem dX4_everReady_23 : decode cX4_everReady 23 = .ok (.iconst 0, 1) := by decide +kernel
theorem dX4_everReady_24 : decode cX4_everReady 24 = .ok (.invokevirtual 27, 3) := by decide +kernel
theorem dX4_everReady_27 : decode cX4_everReady 27 = .ok (.iconst (-1), 1) := by decide +kernel
theorem dX4_everReady_28 : decode cX4_everReady 28 = .ok (.if_icmp .eq 10, 3) := by decide +kernel
theorem dX4_everReady_31 : decode cX4_everReady 31 = .ok (.iload_n 3, 1) := by decide +kernel
theorem dX4_everReady_32 : decode cX4_everReady 32 = .ok (.iconst 1, 1) := by decide +kernel
theorem dX4_everReady_33 : decode cX4_everReady 33 = .ok (.iload 4, 2) := by decide +kernel
theorem dX4_everReady_35 : decode cX4_everReady 35 = .ok (.ishl, 1) := by decide +kernel
theorem dX4_everReady_36 : decode cX4_everReady 36 = .ok (.ior, 1) := by decide +kernel
theorem dX4_everReady_37 : decode cX4_everReady 37 = .ok (.istore_n 3, 1) := by decide +kernel
theorem dX4_everReady_38 : decode cX4_everReady 38 = .ok (.iinc 4 1, 3) := by decide +kernel
theorem dX4_everReady_41 : decode cX4_everReady 41 = .ok (.goto (-36), 3) := by decide +kernel
theorem dX4_everReady_44 : decode cX4_everReady 44 = .ok (.iload_n 3, 1) := by decide +kernel
theorem dX4_everReady_45 : decode cX4_everReady 45 = .ok (.ireturn, 1) := by decide +kernel
theorem dX4_everLive_0 : decode cX4_everLive 0 = .ok (.iconst 0, 1) := by decide +kernel
theorem dX4_everLive_1 : decode cX4_everLive 1 = .ok (.istore_n 2, 1) := by decide +kernel
theorem dX4_everLive_2 : decode cX4_everLive 2 = .ok (.iconst 0, 1) := by decide +kernel
theorem dX4_everLive_3 : decode cX4_everLive 3 = .ok (.istore_n 3, 1) := by decide +kernel
theorem dX4_everLive_4 : decode cX4_everLive 4 = .ok (.iload_n 3, 1) := by decide +kernel
theorem dX4_everLive_5 : decode cX4_everLive 5 = .ok (.bipush 6, 2) := by decide +kernel
theorem dX4_everLive_7 : decode cX4_everLive 7 = .ok (.if_icmp .ge 34, 3) := by decide +kernel
theorem dX4_everLive_10 : decode cX4_everLive 10 = .ok (.aload_n 0, 1) := by decide +kernel
theorem dX4_everLive_11 : decode cX4_everLive 11 = .ok (.iload_n 1, 1) := by decide +kernel
theorem dX4_everLive_12 : decode cX4_everLive 12 = .ok (.sipush 511, 3) := by decide +kernel
theorem dX4_everLive_15 : decode cX4_everLive 15 = .ok (.sipush 1023, 3) := by decide +kernel
theorem dX4_everLive_18 : decode cX4_everLive 18 = .ok (.iconst 0, 1) := by decide +kernel
theorem dX4_everLive_19 : decode cX4_everLive 19 = .ok (.iconst 1, 1) := by decide +kernel
theorem dX4_everLive_20 : decode cX4_everLive 20 = .ok (.iload_n 3, 1) := by decide +kernel
theorem dX4_everLive_21 : decode cX4_everLive 21 = .ok (.ishl, 1) := by decide +kernel
theorem dX4_everLive_22 : decode cX4_everLive 22 = .ok (.invokevirtual 27, 3) := by decide +kernel
theorem dX4_everLive_25 : decode cX4_everLive 25 = .ok (.iconst (-1), 1) := by decide +kernel
theorem dX4_everLive_26 : decode cX4_everLive 26 = .ok (.if_icmp .eq 9, 3) := by decide +kernel
theorem dX4_everLive_29 : decode cX4_everLive 29 = .ok (.iload_n 2, 1) := by decide +kernel
theorem dX4_everLive_30 : decode cX4_everLive 30 = .ok (.iconst 1, 1) := by decide +kernel
theorem dX4_everLive_31 : decode cX4_everLive 31 = .ok (.iload_n 3, 1) := by decide +kernel
theorem dX4_everLive_32 : decode cX4_everLive 32 = .ok (.ishl, 1) := by decide +kernel
theorem dX4_everLive_33 : decode cX4_everLive 33 = .ok (.ior, 1) := by decide +kernel
theorem dX4_everLive_34 : decode cX4_everLive 34 = .ok (.istore_n 2, 1) := by decide +kernel
theorem dX4_everLive_35 : decode cX4_everLive 35 = .ok (.iinc 3 1, 3) := by decide +kernel
theorem dX4_everLive_38 : decode cX4_everLive 38 = .ok (.goto (-34), 3) := by decide +kernel
theorem dX4_everLive_41 : decode cX4_everLive 41 = .ok (.iload_n 2, 1) := by decide +kernel
theorem dX4_everLive_42 : decode cX4_everLive 42 = .ok (.ireturn, 1) := by decide +kernel
theorem dX4_explore_0 : decode cX4_explore 0 = .ok (.iload_n 1, 1) := by decide +kernel
theorem dX4_explore_1 : decode cX4_explore 1 = .ok (.iload_n 2, 1) := by decide +kernel
theorem dX4_explore_2 : decode cX4_explore 2 = .ok (.iand, 1) := by decide +kernel
theorem dX4_explore_3 : decode cX4_explore 3 = .ok (.istore 6, 2) := by decide +kernel
theorem dX4_explore_5 : decode cX4_explore 5 = .ok (.aload_n 0, 1) := by decide +kernel
theorem dX4_explore_6 : decode cX4_explore 6 = .ok (.iload_n 2, 1) := by decide +kernel
theorem dX4_explore_7 : decode cX4_explore 7 = .ok (.invokevirtual 39, 3) := by decide +kernel
theorem dX4_explore_10 : decode cX4_explore 10 = .ok (.aload_n 0, 1) := by decide +kernel
theorem dX4_explore_11 : decode cX4_explore 11 = .ok (.iload 6, 2) := by decide +kernel
theorem dX4_explore_13 : decode cX4_explore 13 = .ok (.iconst 0, 1) := by decide +kernel
theorem dX4_explore_14 : decode cX4_explore 14 = .ok (.invokevirtual 43, 3) := by decide +kernel
theorem dX4_explore_17 : decode cX4_explore 17 = .ok (.pop, 1) := by decide +kernel
theorem dX4_explore_18 : decode cX4_explore 18 = .ok (.aload_n 0, 1) := by decide +kernel
theorem dX4_explore_19 : decode cX4_explore 19 = .ok (.getfield 23, 3) := by decide +kernel
theorem dX4_explore_22 : decode cX4_explore 22 = .ok (.iload 6, 2) := by decide +kernel
theorem dX4_explore_24 : decode cX4_explore 24 = .ok (.iload 4, 2) := by decide +kernel
theorem dX4_explore_26 : decode cX4_explore 26 = .ok (.iload 5, 2) := by decide +kernel
theorem dX4_explore_28 : decode cX4_explore 28 = .ok (.invokevirtual 47, 3) := by decide +kernel
theorem dX4_explore_31 : decode cX4_explore 31 = .ok (.ifCond .eq 5, 3) := by decide +kernel
theorem dX4_explore_34 : decode cX4_explore 34 = .ok (.iconst 0, 1) := by decide +kernel
theorem dX4_explore_35 : decode cX4_explore 35 = .ok (.ireturn, 1) := by decide +kernel
theorem dX4_explore_36 : decode cX4_explore 36 = .ok (.iconst 0, 1) := by decide +kernel
theorem dX4_explore_37 : decode cX4_explore 37 = .ok (.istore 7, 2) := by decide +kernel
theorem dX4_explore_39 : decode cX4_explore 39 = .ok (.iload 7, 2) := by decide +kernel
theorem dX4_explore_41 : decode cX4_explore 41 = .ok (.aload_n 0, 1) := by decide +kernel
theorem dX4_explore_42 : decode cX4_explore 42 = .ok (.getfield 53, 3) := by decide +kernel
theorem dX4_explore_45 : decode cX4_explore 45 = .ok (.if_icmp .ge 130, 3) := by decide +kernel
theorem dX4_explore_48 : decode cX4_explore 48 = .ok (.iload 7, 2) := by decide +kernel
theorem dX4_explore_50 : decode cX4_explore 50 = .ok (.sipush 8000, 3) := by decide +kernel
theorem dX4_explore_53 : decode cX4_explore 53 = .ok (.if_icmp .ge 122, 3) := by decide +kernel
theorem dX4_explore_56 : decode cX4_explore 56 = .ok (.aload_n 0, 1) := by decide +kernel
theorem dX4_explore_57 : decode cX4_explore 57 = .ok (.getfield 23, 3) := by decide +kernel
theorem dX4_explore_60 : decode cX4_explore 60 = .ok (.aload_n 0, 1) := by decide +kernel
theorem dX4_explore_61 : decode cX4_explore 61 = .ok (.getfield 11, 3) := by decide +kernel
theorem dX4_explore_64 : decode cX4_explore 64 = .ok (.iload 7, 2) := by decide +kernel
theorem dX4_explore_66 : decode cX4_explore 66 = .ok (.iaload, 1) := by decide +kernel
theorem dX4_explore_67 : decode cX4_explore 67 = .ok (.invokevirtual 57, 3) := by decide +kernel
theorem dX4_explore_70 : decode cX4_explore 70 = .ok (.iload_n 3, 1) := by decide +kernel
theorem dX4_explore_71 : decode cX4_explore 71 = .ok (.iand, 1) := by decide +kernel
theorem dX4_explore_72 : decode cX4_explore 72 = .ok (.istore 8, 2) := by decide +kernel
theorem dX4_explore_74 : decode cX4_explore 74 = .ok (.aload_n 0, 1) := by decide +kernel
theorem dX4_explore_75 : decode cX4_explore 75 = .ok (.getfield 11, 3) := by decide +kernel
theorem dX4_explore_78 : decode cX4_explore 78 = .ok (.iload 7, 2) := by decide +kernel
theorem dX4_explore_80 : decode cX4_explore 80 = .ok (.iaload, 1) := by decide +kernel
theorem dX4_explore_81 : decode cX4_explore 81 = .ok (.invokestatic 60, 3) := by decide +kernel
theorem dX4_explore_84 : decode cX4_explore 84 = .ok (.istore 9, 2) := by decide +kernel
theorem dX4_explore_86 : decode cX4_explore 86 = .ok (.iconst 0, 1) := by decide +kernel
theorem dX4_explore_87 : decode cX4_explore 87 = .ok (.istore 10, 2) := by decide +kernel
theorem dX4_explore_89 : decode cX4_explore 89 = .ok (.iload 10, 2) := by decide +kernel
theorem dX4_explore_91 : decode cX4_explore 91 = .ok (.bipush 10, 2) := by decide +kernel
theorem dX4_explore_93 : decode cX4_explore 93 = .ok (.if_icmp .ge 76, 3) := by decide +kernel
theorem dX4_explore_96 : decode cX4_explore 96 = .ok (.iload 8, 2) := by decide +kernel
theorem dX4_explore_98 : decode cX4_explore 98 = .ok (.iload 10, 2) := by decide +kernel
theorem dX4_explore_100 : decode cX4_explore 100 = .ok (.invokestatic 35, 3) := by decide +kernel
theorem dX4_explore_103 : decode cX4_explore 103 = .ok (.ifCond .ne 6, 3) := by decide +kernel
theorem dX4_explore_106 : decode cX4_explore 106 = .ok (.goto 57, 3) := by decide +kernel
theorem dX4_explore_109 : decode cX4_explore 109 = .ok (.aload_n 0, 1) := by decide +kernel
theorem dX4_explore_110 : decode cX4_explore 110 = .ok (.getfield 23, 3) := by decide +kernel
theorem dX4_explore_113 : decode cX4_explore 113 = .ok (.iload 9, 2) := by decide +kernel
theorem dX4_explore_115 : decode cX4_explore 115 = .ok (.iload 10, 2) := by decide +kernel
theorem dX4_explore_117 : decode cX4_explore 117 = .ok (.invokevirtual 63, 3) := by decide +kernel
theorem dX4_explore_120 : decode cX4_explore 120 = .ok (.iload_n 2, 1) := by decide +kernel
theorem dX4_explore_121 : decode cX4_explore 121 = .ok (.iand, 1) := by decide +kernel
theorem dX4_explore_122 : decode cX4_explore 122 = .ok (.istore 11, 2) := by decide +kernel
theorem dX4_explore_124 : decode cX4_explore 124 = .ok (.aload_n 0, 1) := by decide +kernel
theorem dX4_explore_125 : decode cX4_explore 125 = .ok (.iload 11, 2) := by decide +kernel
theorem dX4_explore_127 : decode cX4_explore 127 = .ok (.iload 7, 2) := by decide +kernel
theorem dX4_explore_129 : decode cX4_explore 129 = .ok (.iconst 4, 1) := by decide +kernel
theorem dX4_explore_130 : decode cX4_explore 130 = .ok (.ishl, 1) := by decide +kernel
theorem dX4_explore_131 : decode cX4_explore 131 = .ok (.iload 10, 2) := by decide +kernel
theorem dX4_explore_133 : decode cX4_explore 133 = .ok (.ior, 1) := by decide +kernel
theorem dX4_explore_134 : decode cX4_explore 134 = .ok (.invokevirtual 43, 3) := by decide +kernel
theorem dX4_explore_137 : decode cX4_explore 137 = .ok (.ifCond .eq 26, 3) := by decide +kernel
theorem dX4_explore_140 : decode cX4_explore 140 = .ok (.aload_n 0, 1) := by decide +kernel
theorem dX4_explore_141 : decode cX4_explore 141 = .ok (.getfield 23, 3) := by decide +kernel
theorem dX4_explore_144 : decode cX4_explore 144 = .ok (.iload 11, 2) := by decide +kernel
theorem dX4_explore_146 : decode cX4_explore 146 = .ok (.iload 4, 2) := by decide +kernel
theorem dX4_explore_148 : decode cX4_explore 148 = .ok (.iload 5, 2) := by decide +kernel
theorem dX4_explore_150 : decode cX4_explore 150 = .ok (.invokevirtual 47, 3) := by decide +kernel
theorem dX4_explore_153 : decode cX4_explore 153 = .ok (.ifCond .eq 10, 3) := by decide +kernel
theorem dX4_explore_156 : decode cX4_explore 156 = .ok (.aload_n 0, 1) := by decide +kernel
theorem dX4_explore_157 : decode cX4_explore 157 = .ok (.getfield 53, 3) := by decide +kernel
theorem dX4_explore_160 : decode cX4_explore 160 = .ok (.iconst 1, 1) := by decide +kernel
theorem dX4_explore_161 : decode cX4_explore 161 = .ok (.isub, 1) := by decide +kernel
theorem dX4_explore_162 : decode cX4_explore 162 = .ok (.ireturn, 1) := by decide +kernel
theorem dX4_explore_163 : decode cX4_explore 163 = .ok (.iinc 10 1, 3) := by decide +kernel
theorem dX4_explore_166 : decode cX4_explore 166 = .ok (.goto (-77), 3) := by decide +kernel
theorem dX4_explore_169 : decode cX4_explore 169 = .ok (.iinc 7 1, 3) := by decide +kernel
theorem dX4_explore_172 : decode cX4_explore 172 = .ok (.goto (-133), 3) := by decide +kernel
theorem dX4_explore_175 : decode cX4_explore 175 = .ok (.iconst (-1), 1) := by decide +kernel
theorem dX4_explore_176 : decode cX4_explore 176 = .ok (.ireturn, 1) := by decide +kernel
theorem dX4_forget_0 : decode cX4_forget 0 = .ok (.iload_n 1, 1) := by decide +kernel
theorem dX4_forget_1 : decode cX4_forget 1 = .ok (.iconst 5, 1) := by decide +kernel
theorem dX4_forget_2 : decode cX4_forget 2 = .ok (.ishr, 1) := by decide +kernel
theorem dX4_forget_3 : decode cX4_forget 3 = .ok (.istore_n 2, 1) := by decide +kernel
theorem dX4_forget_4 : decode cX4_forget 4 = .ok (.iconst 0, 1) := by decide +kernel
theorem dX4_forget_5 : decode cX4_forget 5 = .ok (.istore_n 3, 1) := by decide +kernel
theorem dX4_forget_6 : decode cX4_forget 6 = .ok (.iload_n 3, 1) := by decide +kernel
theorem dX4_forget_7 : decode cX4_forget 7 = .ok (.iload_n 2, 1) := by decide +kernel
theorem dX4_forget_8 : decode cX4_forget 8 = .ok (.if_icmp .gt 16, 3) := by decide +kernel
theorem dX4_forget_11 : decode cX4_forget 11 = .ok (.aload_n 0, 1) := by decide +kernel
theorem dX4_forget_12 : decode cX4_forget 12 = .ok (.getfield 20, 3) := by decide +kernel
theorem dX4_forget_15 : decode cX4_forget 15 = .ok (.iload_n 3, 1) := by decide +kernel
theorem dX4_forget_16 : decode cX4_forget 16 = .ok (.iconst 0, 1) := by decide +kernel
theorem dX4_forget_17 : decode cX4_forget 17 = .ok (.iastore, 1) := by decide +kernel
theorem dX4_forget_18 : decode cX4_forget 18 = .ok (.iinc 3 1, 3) := by decide +kernel
theorem dX4_forget_21 : decode cX4_forget 21 = .ok (.goto (-15), 3) := by decide +kernel
theorem dX4_forget_24 : decode cX4_forget 24 = .ok (.aload_n 0, 1) := by decide +kernel
theorem dX4_forget_25 : decode cX4_forget 25 = .ok (.iconst 0, 1) := by decide +kernel
theorem dX4_forget_26 : decode cX4_forget 26 = .ok (.putfield 53, 3) := by decide +kernel
theorem dX4_forget_29 : decode cX4_forget 29 = .ok (.return_, 1) := by decide +kernel
theorem dX4_add_0 : decode cX4_add 0 = .ok (.iload_n 1, 1) := by decide +kernel
theorem dX4_add_1 : decode cX4_add 1 = .ok (.iconst 5, 1) := by decide +kernel
theorem dX4_add_2 : decode cX4_add 2 = .ok (.ishr, 1) := by decide +kernel
theorem dX4_add_3 : decode cX4_add 3 = .ok (.istore_n 3, 1) := by decide +kernel
theorem dX4_add_4 : decode cX4_add 4 = .ok (.iconst 1, 1) := by decide +kernel
theorem dX4_add_5 : decode cX4_add 5 = .ok (.iload_n 1, 1) := by decide +kernel
theorem dX4_add_6 : decode cX4_add 6 = .ok (.iconst 5, 1) := by decide +kernel
theorem dX4_add_7 : decode cX4_add 7 = .ok (.invokestatic 31, 3) := by decide +kernel
theorem dX4_add_10 : decode cX4_add 10 = .ok (.iand, 1) := by decide +kernel
theorem dX4_add_11 : decode cX4_add 11 = .ok (.ishl, 1) := by decide +kernel
theorem dX4_add_12 : decode cX4_add 12 = .ok (.istore 4, 2) := by decide +kernel
theorem dX4_add_14 : decode cX4_add 14 = .ok (.aload_n 0, 1) := by decide +kernel
theorem dX4_add_15 : decode cX4_add 15 = .ok (.getfield 20, 3) := by decide +kernel
theorem dX4_add_18 : decode cX4_add 18 = .ok (.iload_n 3, 1) := by decide +kernel
theorem dX4_add_19 : decode cX4_add 19 = .ok (.iaload, 1) := by decide +kernel
theorem dX4_add_20 : decode cX4_add 20 = .ok (.iload 4, 2) := by decide +kernel
theorem dX4_add_22 : decode cX4_add 22 = .ok (.iand, 1) := by decide +kernel
theorem dX4_add_23 : decode cX4_add 23 = .ok (.ifCond .ne 13, 3) := by decide +kernel
theorem dX4_add_26 : decode cX4_add 26 = .ok (.aload_n 0, 1) := by decide +kernel
theorem dX4_add_27 : decode cX4_add 27 = .ok (.getfield 53, 3) := by decide +kernel
theorem dX4_add_30 : decode cX4_add 30 = .ok (.sipush 8000, 3) := by decide +kernel
theorem dX4_add_33 : decode cX4_add 33 = .ok (.if_icmp .lt 5, 3) := by decide +kernel
theorem dX4_add_36 : decode cX4_add 36 = .ok (.iconst 0, 1) := by decide +kernel
theorem dX4_add_37 : decode cX4_add 37 = .ok (.ireturn, 1) := by decide +kernel
theorem dX4_add_38 : decode cX4_add 38 = .ok (.aload_n 0, 1) := by decide +kernel
theorem dX4_add_39 : decode cX4_add 39 = .ok (.getfield 20, 3) := by decide +kernel
theorem dX4_add_42 : decode cX4_add 42 = .ok (.iload_n 3, 1) := by decide +kernel
theorem dX4_add_43 : decode cX4_add 43 = .ok (.dup2, 1) := by decide +kernel
theorem dX4_add_44 : decode cX4_add 44 = .ok (.iaload, 1) := by decide +kernel
theorem dX4_add_45 : decode cX4_add 45 = .ok (.iload 4, 2) := by decide +kernel
theorem dX4_add_47 : decode cX4_add 47 = .ok (.ior, 1) := by decide +kernel
theorem dX4_add_48 : decode cX4_add 48 = .ok (.iastore, 1) := by decide +kernel
theorem dX4_add_49 : decode cX4_add 49 = .ok (.aload_n 0, 1) := by decide +kernel
theorem dX4_add_50 : decode cX4_add 50 = .ok (.getfield 11, 3) := by decide +kernel
theorem dX4_add_53 : decode cX4_add 53 = .ok (.aload_n 0, 1) := by decide +kernel
theorem dX4_add_54 : decode cX4_add 54 = .ok (.getfield 53, 3) := by decide +kernel
theorem dX4_add_57 : decode cX4_add 57 = .ok (.iload_n 1, 1) := by decide +kernel
theorem dX4_add_58 : decode cX4_add 58 = .ok (.iastore, 1) := by decide +kernel
theorem dX4_add_59 : decode cX4_add 59 = .ok (.aload_n 0, 1) := by decide +kernel
theorem dX4_add_60 : decode cX4_add 60 = .ok (.getfield 15, 3) := by decide +kernel
theorem dX4_add_63 : decode cX4_add 63 = .ok (.aload_n 0, 1) := by decide +kernel
theorem dX4_add_64 : decode cX4_add 64 = .ok (.getfield 53, 3) := by decide +kernel
theorem dX4_add_67 : decode cX4_add 67 = .ok (.iload_n 2, 1) := by decide +kernel
theorem dX4_add_68 : decode cX4_add 68 = .ok (.iastore, 1) := by decide +kernel
theorem dX4_add_69 : decode cX4_add 69 = .ok (.aload_n 0, 1) := by decide +kernel
theorem dX4_add_70 : decode cX4_add 70 = .ok (.dup, 1) := by decide +kernel
theorem dX4_add_71 : decode cX4_add 71 = .ok (.getfield 53, 3) := by decide +kernel
theorem dX4_add_74 : decode cX4_add 74 = .ok (.iconst 1, 1) := by decide +kernel
theorem dX4_add_75 : decode cX4_add 75 = .ok (.iadd, 1) := by decide +kernel
