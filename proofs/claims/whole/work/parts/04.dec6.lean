theorem dX6_tick_13 : decode cX6_tick 13 = .ok (.iload_n 1, 1) := by decide +kernel
theorem dX6_tick_14 : decode cX6_tick 14 = .ok (.ifCond .le 33, 3) := by decide +kernel
theorem dX6_tick_17 : decode cX6_tick 17 = .ok (.iload_n 1, 1) := by decide +kernel
theorem dX6_tick_18 : decode cX6_tick 18 = .ok (.iconst 4, 1) := by decide +kernel
theorem dX6_tick_19 : decode cX6_tick 19 = .ok (.if_icmp .ge 16, 3) := by decide +kernel
theorem dX6_tick_22 : decode cX6_tick 22 = .ok (.aload_n 0, 1) := by decide +kernel
theorem dX6_tick_23 : decode cX6_tick 23 = .ok (.iload_n 1, 1) := by decide +kernel
theorem dX6_tick_24 : decode cX6_tick 24 = .ok (.iconst 1, 1) := by decide +kernel
theorem dX6_tick_25 : decode cX6_tick 25 = .ok (.isub, 1) := by decide +kernel
theorem dX6_tick_26 : decode cX6_tick 26 = .ok (.invokevirtual 55, 3) := by decide +kernel
theorem dX6_tick_29 : decode cX6_tick 29 = .ok (.ifCond .eq 16, 3) := by decide +kernel
theorem dX6_tick_32 : decode cX6_tick 32 = .ok (.goto 15, 3) := by decide +kernel
theorem dX6_tick_35 : decode cX6_tick 35 = .ok (.aload_n 0, 1) := by decide +kernel
theorem dX6_tick_36 : decode cX6_tick 36 = .ok (.iload_n 1, 1) := by decide +kernel
theorem dX6_tick_37 : decode cX6_tick 37 = .ok (.iconst 4, 1) := by decide +kernel
theorem dX6_tick_38 : decode cX6_tick 38 = .ok (.isub, 1) := by decide +kernel
theorem dX6_tick_39 : decode cX6_tick 39 = .ok (.invokevirtual 52, 3) := by decide +kernel
theorem dX6_tick_42 : decode cX6_tick 42 = .ok (.ifCond .ne 5, 3) := by decide +kernel
theorem dX6_tick_45 : decode cX6_tick 45 = .ok (.iconst (-1), 1) := by decide +kernel
theorem dX6_tick_46 : decode cX6_tick 46 = .ok (.ireturn, 1) := by decide +kernel
theorem dX6_tick_47 : decode cX6_tick 47 = .ok (.aload_n 0, 1) := by decide +kernel
theorem dX6_tick_48 : decode cX6_tick 48 = .ok (.invokevirtual 65, 3) := by decide +kernel
theorem dX6_tick_51 : decode cX6_tick 51 = .ok (.aload_n 0, 1) := by decide +kernel
theorem dX6_tick_52 : decode cX6_tick 52 = .ok (.iload_n 1, 1) := by decide +kernel
theorem dX6_tick_53 : decode cX6_tick 53 = .ok (.invokevirtual 81, 3) := by decide +kernel
theorem dX6_tick_56 : decode cX6_tick 56 = .ok (.ifCond .ne 6, 3) := by decide +kernel
theorem dX6_tick_59 : decode cX6_tick 59 = .ok (.bipush (-5), 2) := by decide +kernel
theorem dX6_tick_61 : decode cX6_tick 61 = .ok (.ireturn, 1) := by decide +kernel
theorem dX6_tick_62 : decode cX6_tick 62 = .ok (.aload_n 0, 1) := by decide +kernel
theorem dX6_tick_63 : decode cX6_tick 63 = .ok (.aload_n 0, 1) := by decide +kernel
theorem dX6_tick_64 : decode cX6_tick 64 = .ok (.iload_n 1, 1) := by decide +kernel
theorem dX6_tick_65 : decode cX6_tick 65 = .ok (.invokevirtual 88, 3) := by decide +kernel
theorem dX6_tick_68 : decode cX6_tick 68 = .ok (.invokevirtual 91, 3) := by decide +kernel
theorem dX6_tick_71 : decode cX6_tick 71 = .ok (.aload_n 0, 1) := by decide +kernel
theorem dX6_tick_72 : decode cX6_tick 72 = .ok (.getfield 7, 3) := by decide +kernel
theorem dX6_tick_75 : decode cX6_tick 75 = .ok (.bipush 41, 2) := by decide +kernel
theorem dX6_tick_77 : decode cX6_tick 77 = .ok (.dup2, 1) := by decide +kernel
theorem dX6_tick_78 : decode cX6_tick 78 = .ok (.iaload, 1) := by decide +kernel
theorem dX6_tick_79 : decode cX6_tick 79 = .ok (.iconst 1, 1) := by decide +kernel
theorem dX6_tick_80 : decode cX6_tick 80 = .ok (.iadd, 1) := by decide +kernel
theorem dX6_tick_81 : decode cX6_tick 81 = .ok (.iastore, 1) := by decide +kernel
theorem dX6_tick_82 : decode cX6_tick 82 = .ok (.aload_n 0, 1) := by decide +kernel
theorem dX6_tick_83 : decode cX6_tick 83 = .ok (.getfield 7, 3) := by decide +kernel
theorem dX6_tick_86 : decode cX6_tick 86 = .ok (.bipush 41, 2) := by decide +kernel
theorem dX6_tick_88 : decode cX6_tick 88 = .ok (.iaload, 1) := by decide +kernel
theorem dX6_tick_89 : decode cX6_tick 89 = .ok (.ireturn, 1) := by decide +kernel
theorem dX6_openAll_0 : decode cX6_openAll 0 = .ok (.aload_n 0, 1) := by decide +kernel
theorem dX6_openAll_1 : decode cX6_openAll 1 = .ok (.invokevirtual 65, 3) := by decide +kernel
theorem dX6_openAll_4 : decode cX6_openAll 4 = .ok (.iconst 0, 1) := by decide +kernel
theorem dX6_openAll_5 : decode cX6_openAll 5 = .ok (.istore_n 1, 1) := by decide +kernel
theorem dX6_openAll_6 : decode cX6_openAll 6 = .ok (.iconst 0, 1) := by decide +kernel
theorem dX6_openAll_7 : decode cX6_openAll 7 = .ok (.istore_n 2, 1) := by decide +kernel
theorem dX6_openAll_8 : decode cX6_openAll 8 = .ok (.iload_n 2, 1) := by decide +kernel
theorem dX6_openAll_9 : decode cX6_openAll 9 = .ok (.aload_n 0, 1) := by decide +kernel
theorem dX6_openAll_10 : decode cX6_openAll 10 = .ok (.getfield 7, 3) := by decide +kernel
theorem dX6_openAll_13 : decode cX6_openAll 13 = .ok (.bipush 39, 2) := by decide +kernel
theorem dX6_openAll_15 : decode cX6_openAll 15 = .ok (.iaload, 1) := by decide +kernel
theorem dX6_openAll_16 : decode cX6_openAll 16 = .ok (.if_icmp .ge 64, 3) := by decide +kernel
theorem dX6_openAll_19 : decode cX6_openAll 19 = .ok (.aload_n 0, 1) := by decide +kernel
theorem dX6_openAll_20 : decode cX6_openAll 20 = .ok (.getfield 26, 3) := by decide +kernel
theorem dX6_openAll_23 : decode cX6_openAll 23 = .ok (.aload_n 0, 1) := by decide +kernel
theorem dX6_openAll_24 : decode cX6_openAll 24 = .ok (.getfield 7, 3) := by decide +kernel
theorem dX6_openAll_27 : decode cX6_openAll 27 = .ok (.iconst 0, 1) := by decide +kernel
theorem dX6_openAll_28 : decode cX6_openAll 28 = .ok (.iload_n 2, 1) := by decide +kernel
theorem dX6_openAll_29 : decode cX6_openAll 29 = .ok (.iadd, 1) := by decide +kernel
theorem dX6_openAll_30 : decode cX6_openAll 30 = .ok (.iaload, 1) := by decide +kernel
theorem dX6_openAll_31 : decode cX6_openAll 31 = .ok (.iaload, 1) := by decide +kernel
theorem dX6_openAll_32 : decode cX6_openAll 32 = .ok (.istore_n 3, 1) := by decide +kernel
theorem dX6_openAll_33 : decode cX6_openAll 33 = .ok (.aload_n 0, 1) := by decide +kernel
theorem dX6_openAll_34 : decode cX6_openAll 34 = .ok (.getfield 20, 3) := by decide +kernel
theorem dX6_openAll_37 : decode cX6_openAll 37 = .ok (.iload_n 2, 1) := by decide +kernel
theorem dX6_openAll_38 : decode cX6_openAll 38 = .ok (.iaload, 1) := by decide +kernel
theorem dX6_openAll_39 : decode cX6_openAll 39 = .ok (.iconst 1, 1) := by decide +kernel
theorem dX6_openAll_40 : decode cX6_openAll 40 = .ok (.if_icmp .ne 34, 3) := by decide +kernel
theorem dX6_openAll_43 : decode cX6_openAll 43 = .ok (.aload_n 0, 1) := by decide +kernel
theorem dX6_openAll_44 : decode cX6_openAll 44 = .ok (.getfield 32, 3) := by decide +kernel
theorem dX6_openAll_47 : decode cX6_openAll 47 = .ok (.iload_n 3, 1) := by decide +kernel
theorem dX6_openAll_48 : decode cX6_openAll 48 = .ok (.baload, 1) := by decide +kernel
theorem dX6_openAll_49 : decode cX6_openAll 49 = .ok (.ifCond .eq 12, 3) := by decide +kernel
theorem dX6_openAll_52 : decode cX6_openAll 52 = .ok (.aload_n 0, 1) := by decide +kernel
theorem dX6_openAll_53 : decode cX6_openAll 53 = .ok (.getfield 29, 3) := by decide +kernel
theorem dX6_openAll_56 : decode cX6_openAll 56 = .ok (.iload_n 3, 1) := by decide +kernel
theorem dX6_openAll_57 : decode cX6_openAll 57 = .ok (.iaload, 1) := by decide +kernel
theorem dX6_openAll_58 : decode cX6_openAll 58 = .ok (.ifCond .ge 16, 3) := by decide +kernel
theorem dX6_openAll_61 : decode cX6_openAll 61 = .ok (.aload_n 0, 1) := by decide +kernel
theorem dX6_openAll_62 : decode cX6_openAll 62 = .ok (.getfield 7, 3) := by decide +kernel
theorem dX6_openAll_65 : decode cX6_openAll 65 = .ok (.bipush 18, 2) := by decide +kernel
theorem dX6_openAll_67 : decode cX6_openAll 67 = .ok (.iload_n 2, 1) := by decide +kernel
theorem dX6_openAll_68 : decode cX6_openAll 68 = .ok (.iadd, 1) := by decide +kernel
theorem dX6_openAll_69 : decode cX6_openAll 69 = .ok (.iconst 0, 1) := by decide +kernel
theorem dX6_openAll_70 : decode cX6_openAll 70 = .ok (.iastore, 1) := by decide +kernel
theorem dX6_openAll_71 : decode cX6_openAll 71 = .ok (.iinc 1 1, 3) := by decide +kernel
theorem dX6_openAll_74 : decode cX6_openAll 74 = .ok (.iinc 2 1, 3) := by decide +kernel
theorem dX6_openAll_77 : decode cX6_openAll 77 = .ok (.goto (-69), 3) := by decide +kernel
theorem dX6_openAll_80 : decode cX6_openAll 80 = .ok (.iload_n 1, 1) := by decide +kernel
theorem dX6_openAll_81 : decode cX6_openAll 81 = .ok (.ireturn, 1) := by decide +kernel
theorem dX6_fail_0 : decode cX6_fail 0 = .ok (.aload_n 0, 1) := by decide +kernel
theorem dX6_fail_1 : decode cX6_fail 1 = .ok (.iload_n 1, 1) := by decide +kernel
theorem dX6_fail_2 : decode cX6_fail 2 = .ok (.invokevirtual 55, 3) := by decide +kernel
theorem dX6_fail_5 : decode cX6_fail 5 = .ok (.ifCond .ne 5, 3) := by decide +kernel
theorem dX6_fail_8 : decode cX6_fail 8 = .ok (.iconst (-1), 1) := by decide +kernel
theorem dX6_fail_9 : decode cX6_fail 9 = .ok (.ireturn, 1) := by decide +kernel
theorem dX6_fail_10 : decode cX6_fail 10 = .ok (.aload_n 0, 1) := by decide +kernel
theorem dX6_fail_11 : decode cX6_fail 11 = .ok (.getfield 7, 3) := by decide +kernel
theorem dX6_fail_14 : decode cX6_fail 14 = .ok (.bipush 36, 2) := by decide +kernel
theorem dX6_fail_16 : decode cX6_fail 16 = .ok (.iload_n 1, 1) := by decide +kernel
theorem dX6_fail_17 : decode cX6_fail 17 = .ok (.iadd, 1) := by decide +kernel
theorem dX6_fail_18 : decode cX6_fail 18 = .ok (.iaload, 1) := by decide +kernel
theorem dX6_fail_19 : decode cX6_fail 19 = .ok (.ifCond .ne 6, 3) := by decide +kernel
theorem dX6_fail_22 : decode cX6_fail 22 = .ok (.bipush (-3), 2) := by decide +kernel
theorem dX6_fail_24 : decode cX6_fail 24 = .ok (.ireturn, 1) := by decide +kernel
theorem dX6_fail_25 : decode cX6_fail 25 = .ok (.aload_n 0, 1) := by decide +kernel
theorem dX6_fail_26 : decode cX6_fail 26 = .ok (.getfield 7, 3) := by decide +kernel
theorem dX6_fail_29 : decode cX6_fail 29 = .ok (.bipush 36, 2) := by decide +kernel
theorem dX6_fail_31 : decode cX6_fail 31 = .ok (.iload_n 1, 1) := by decide +kernel
theorem dX6_fail_32 : decode cX6_fail 32 = .ok (.iadd, 1) := by decide +kernel
theorem dX6_fail_33 : decode cX6_fail 33 = .ok (.iconst 0, 1) := by decide +kernel
theorem dX6_fail_34 : decode cX6_fail 34 = .ok (.iastore, 1) := by decide +kernel
theorem dX6_fail_35 : decode cX6_fail 35 = .ok (.aload_n 0, 1) := by decide +kernel
theorem dX6_fail_36 : decode cX6_fail 36 = .ok (.invokevirtual 95, 3) := by decide +kernel
theorem dX6_fail_39 : decode cX6_fail 39 = .ok (.ireturn, 1) := by decide +kernel
theorem dX6_trip_0 : decode cX6_trip 0 = .ok (.aload_n 0, 1) := by decide +kernel
theorem dX6_trip_1 : decode cX6_trip 1 = .ok (.iload_n 1, 1) := by decide +kernel
theorem dX6_trip_2 : decode cX6_trip 2 = .ok (.invokevirtual 52, 3) := by decide +kernel
theorem dX6_trip_5 : decode cX6_trip 5 = .ok (.ifCond .ne 5, 3) := by decide +kernel
theorem dX6_trip_8 : decode cX6_trip 8 = .ok (.iconst (-1), 1) := by decide +kernel
theorem dX6_trip_9 : decode cX6_trip 9 = .ok (.ireturn, 1) := by decide +kernel
theorem dX6_trip_10 : decode cX6_trip 10 = .ok (.aload_n 0, 1) := by decide +kernel
theorem dX6_trip_11 : decode cX6_trip 11 = .ok (.getfield 7, 3) := by decide +kernel
theorem dX6_trip_14 : decode cX6_trip 14 = .ok (.bipush 18, 2) := by decide +kernel
theorem dX6_trip_16 : decode cX6_trip 16 = .ok (.iload_n 1, 1) := by decide +kernel
theorem dX6_trip_17 : decode cX6_trip 17 = .ok (.iadd, 1) := by decide +kernel
theorem dX6_trip_18 : decode cX6_trip 18 = .ok (.iaload, 1) := by decide +kernel
theorem dX6_trip_19 : decode cX6_trip 19 = .ok (.ifCond .ne 6, 3) := by decide +kernel
theorem dX6_trip_22 : decode cX6_trip 22 = .ok (.bipush (-3), 2) := by decide +kernel
theorem dX6_trip_24 : decode cX6_trip 24 = .ok (.ireturn, 1) := by decide +kernel
theorem dX6_trip_25 : decode cX6_trip 25 = .ok (.aload_n 0, 1) := by decide +kernel
theorem dX6_trip_26 : decode cX6_trip 26 = .ok (.getfield 7, 3) := by decide +kernel
theorem dX6_trip_29 : decode cX6_trip 29 = .ok (.bipush 18, 2) := by decide +kernel
theorem dX6_trip_31 : decode cX6_trip 31 = .ok (.iload_n 1, 1) := by decide +kernel
theorem dX6_trip_32 : decode cX6_trip 32 = .ok (.iadd, 1) := by decide +kernel
theorem dX6_trip_33 : decode cX6_trip 33 = .ok (.iconst 0, 1) := by decide +kernel
theorem dX6_trip_34 : decode cX6_trip 34 = .ok (.iastore, 1) := by decide +kernel
theorem dX6_trip_35 : decode cX6_trip 35 = .ok (.aload_n 0, 1) := by decide +kernel
theorem dX6_trip_36 : decode cX6_trip 36 = .ok (.invokevirtual 95, 3) := by decide +kernel
theorem dX6_trip_39 : decode cX6_trip 39 = .ok (.iconst 1, 1) := by decide +kernel
theorem dX6_trip_40 : decode cX6_trip 40 = .ok (.iadd, 1) := by decide +kernel
theorem dX6_trip_41 : decode cX6_trip 41 = .ok (.ireturn, 1) := by decide +kernel
theorem dX6_goOn_0 : decode cX6_goOn 0 = .ok (.iconst 0, 1) := by decide +kernel
theorem dX6_goOn_1 : decode cX6_goOn 1 = .ok (.istore_n 3, 1) := by decide +kernel
theorem dX6_goOn_2 : decode cX6_goOn 2 = .ok (.iconst 0, 1) := by decide +kernel
theorem dX6_goOn_3 : decode cX6_goOn 3 = .ok (.istore 4, 2) := by decide +kernel
theorem dX6_goOn_5 : decode cX6_goOn 5 = .ok (.iload 4, 2) := by decide +kernel
theorem dX6_goOn_7 : decode cX6_goOn 7 = .ok (.sipush 8000, 3) := by decide +kernel
theorem dX6_goOn_10 : decode cX6_goOn 10 = .ok (.if_icmp .ge 115, 3) := by decide +kernel
theorem dX6_goOn_13 : decode cX6_goOn 13 = .ok (.aload_n 0, 1) := by decide +kernel
theorem dX6_goOn_14 : decode cX6_goOn 14 = .ok (.getfield 35, 3) := by decide +kernel
theorem dX6_goOn_17 : decode cX6_goOn 17 = .ok (.iload 4, 2) := by decide +kernel
theorem dX6_goOn_19 : decode cX6_goOn 19 = .ok (.iaload, 1) := by decide +kernel
theorem dX6_goOn_20 : decode cX6_goOn 20 = .ok (.iload_n 1, 1) := by decide +kernel
theorem dX6_goOn_21 : decode cX6_goOn 21 = .ok (.if_icmp .ne 98, 3) := by decide +kernel
theorem dX6_goOn_24 : decode cX6_goOn 24 = .ok (.aload_n 0, 1) := by decide +kernel
theorem dX6_goOn_25 : decode cX6_goOn 25 = .ok (.iload 4, 2) := by decide +kernel
theorem dX6_goOn_27 : decode cX6_goOn 27 = .ok (.invokevirtual 99, 3) := by decide +kernel
theorem dX6_goOn_30 : decode cX6_goOn 30 = .ok (.iconst 0, 1) := by decide +kernel
theorem dX6_goOn_31 : decode cX6_goOn 31 = .ok (.istore 5, 2) := by decide +kernel
theorem dX6_goOn_33 : decode cX6_goOn 33 = .ok (.iload 5, 2) := by decide +kernel
theorem dX6_goOn_35 : decode cX6_goOn 35 = .ok (.bipush 10, 2) := by decide +kernel
theorem dX6_goOn_37 : decode cX6_goOn 37 = .ok (.if_icmp .ge 82, 3) := by decide +kernel
theorem dX6_goOn_40 : decode cX6_goOn 40 = .ok (.iload 5, 2) := by decide +kernel
theorem dX6_goOn_42 : decode cX6_goOn 42 = .ok (.iload_n 2, 1) := by decide +kernel
theorem dX6_goOn_43 : decode cX6_goOn 43 = .ok (.if_icmp .eq 70, 3) := by decide +kernel
theorem dX6_goOn_46 : decode cX6_goOn 46 = .ok (.aload_n 0, 1) := by decide +kernel
theorem dX6_goOn_47 : decode cX6_goOn 47 = .ok (.iload 5, 2) := by decide +kernel
theorem dX6_goOn_49 : decode cX6_goOn 49 = .ok (.invokevirtual 81, 3) := by decide +kernel
theorem dX6_goOn_52 : decode cX6_goOn 52 = .ok (.ifCond .eq 61, 3) := by decide +kernel
theorem dX6_goOn_55 : decode cX6_goOn 55 = .ok (.aload_n 0, 1) := by decide +kernel
theorem dX6_goOn_56 : decode cX6_goOn 56 = .ok (.iload 5, 2) := by decide +kernel
theorem dX6_goOn_58 : decode cX6_goOn 58 = .ok (.invokevirtual 88, 3) := by decide +kernel
theorem dX6_goOn_61 : decode cX6_goOn 61 = .ok (.istore 6, 2) := by decide +kernel
theorem dX6_goOn_63 : decode cX6_goOn 63 = .ok (.iload_n 3, 1) := by decide +kernel
theorem dX6_goOn_64 : decode cX6_goOn 64 = .ok (.ifCond .ne 13, 3) := by decide +kernel
theorem dX6_goOn_67 : decode cX6_goOn 67 = .ok (.aload_n 0, 1) := by decide +kernel
theorem dX6_goOn_68 : decode cX6_goOn 68 = .ok (.getfield 35, 3) := by decide +kernel
theorem dX6_goOn_71 : decode cX6_goOn 71 = .ok (.iload 6, 2) := by decide +kernel
theorem dX6_goOn_73 : decode cX6_goOn 73 = .ok (.iaload, 1) := by decide +kernel
theorem dX6_goOn_74 : decode cX6_goOn 74 = .ok (.ifCond .ge 7, 3) := by decide +kernel
theorem dX6_goOn_77 : decode cX6_goOn 77 = .ok (.iconst 1, 1) := by decide +kernel
theorem dX6_goOn_78 : decode cX6_goOn 78 = .ok (.goto 4, 3) := by decide +kernel
theorem dX6_goOn_81 : decode cX6_goOn 81 = .ok (.iconst 0, 1) := by decide +kernel
theorem dX6_goOn_82 : decode cX6_goOn 82 = .ok (.istore_n 3, 1) := by decide +kernel
theorem dX6_goOn_83 : decode cX6_goOn 83 = .ok (.aload_n 0, 1) := by decide +kernel
theorem dX6_goOn_84 : decode cX6_goOn 84 = .ok (.getfield 35, 3) := by decide +kernel
theorem dX6_goOn_87 : decode cX6_goOn 87 = .ok (.iload 6, 2) := by decide +kernel
theorem dX6_goOn_89 : decode cX6_goOn 89 = .ok (.aload_n 0, 1) := by decide +kernel
theorem dX6_goOn_90 : decode cX6_goOn 90 = .ok (.getfield 35, 3) := by decide +kernel
theorem dX6_goOn_93 : decode cX6_goOn 93 = .ok (.iload 6, 2) := by decide +kernel
theorem dX6_goOn_95 : decode cX6_goOn 95 = .ok (.iaload, 1) := by decide +kernel
theorem dX6_goOn_96 : decode cX6_goOn 96 = .ok (.ifCond .ge 9, 3) := by decide +kernel
theorem dX6_goOn_99 : decode cX6_goOn 99 = .ok (.iload_n 1, 1) := by decide +kernel
theorem dX6_goOn_100 : decode cX6_goOn 100 = .ok (.iconst 1, 1) := by decide +kernel
theorem dX6_goOn_101 : decode cX6_goOn 101 = .ok (.iadd, 1) := by decide +kernel
theorem dX6_goOn_102 : decode cX6_goOn 102 = .ok (.goto 10, 3) := by decide +kernel
theorem dX6_goOn_105 : decode cX6_goOn 105 = .ok (.aload_n 0, 1) := by decide +kernel
theorem dX6_goOn_106 : decode cX6_goOn 106 = .ok (.getfield 35, 3) := by decide +kernel
theorem dX6_goOn_109 : decode cX6_goOn 109 = .ok (.iload 6, 2) := by decide +kernel
theorem dX6_goOn_111 : decode cX6_goOn 111 = .ok (.iaload, 1) := by decide +kernel
theorem dX6_goOn_112 : decode cX6_goOn 112 = .ok (.iastore, 1) := by decide +kernel
theorem dX6_goOn_113 : decode cX6_goOn 113 = .ok (.iinc 5 1, 3) := by decide +kernel
theorem dX6_goOn_116 : decode cX6_goOn 116 = .ok (.goto (-83), 3) := by decide +kernel
theorem dX6_goOn_119 : decode cX6_goOn 119 = .ok (.iinc 4 1, 3) := by decide +kernel
theorem dX6_goOn_122 : decode cX6_goOn 122 = .ok (.goto (-117), 3) := by decide +kernel
theorem dX6_goOn_125 : decode cX6_goOn 125 = .ok (.iload_n 3, 1) := by decide +kernel
theorem dX6_goOn_126 : decode cX6_goOn 126 = .ok (.ireturn, 1) := by decide +kernel
theorem dX6_layAll_0 : decode cX6_layAll 0 = .ok (.iconst 0, 1) := by decide +kernel
theorem dX6_layAll_1 : decode cX6_layAll 1 = .ok (.istore_n 2, 1) := by decide +kernel
theorem dX6_layAll_2 : decode cX6_layAll 2 = .ok (.iload_n 2, 1) := by decide +kernel
theorem dX6_layAll_3 : decode cX6_layAll 3 = .ok (.sipush 8000, 3) := by decide +kernel
theorem dX6_layAll_6 : decode cX6_layAll 6 = .ok (.if_icmp .ge 17, 3) := by decide +kernel
theorem dX6_layAll_9 : decode cX6_layAll 9 = .ok (.aload_n 0, 1) := by decide +kernel
theorem dX6_layAll_10 : decode cX6_layAll 10 = .ok (.getfield 35, 3) := by decide +kernel
theorem dX6_layAll_13 : decode cX6_layAll 13 = .ok (.iload_n 2, 1) := by decide +kernel
theorem dX6_layAll_14 : decode cX6_layAll 14 = .ok (.bipush (-6), 2) := by decide +kernel
theorem dX6_layAll_16 : decode cX6_layAll 16 = .ok (.iastore, 1) := by decide +kernel
theorem dX6_layAll_17 : decode cX6_layAll 17 = .ok (.iinc 2 1, 3) := by decide +kernel
theorem dX6_layAll_20 : decode cX6_layAll 20 = .ok (.goto (-18), 3) := by decide +kernel
theorem dX6_layAll_23 : decode cX6_layAll 23 = .ok (.aload_n 0, 1) := by decide +kernel
theorem dX6_layAll_24 : decode cX6_layAll 24 = .ok (.getfield 35, 3) := by decide +kernel
theorem dX6_layAll_27 : decode cX6_layAll 27 = .ok (.aload_n 0, 1) := by decide +kernel
theorem dX6_layAll_28 : decode cX6_layAll 28 = .ok (.invokevirtual 102, 3) := by decide +kernel
theorem dX6_layAll_31 : decode cX6_layAll 31 = .ok (.iconst 0, 1) := by decide +kernel
theorem dX6_layAll_32 : decode cX6_layAll 32 = .ok (.iastore, 1) := by decide +kernel
theorem dX6_layAll_33 : decode cX6_layAll 33 = .ok (.iconst 0, 1) := by decide +kernel
theorem dX6_layAll_34 : decode cX6_layAll 34 = .ok (.istore_n 2, 1) := by decide +kernel
theorem dX6_layAll_35 : decode cX6_layAll 35 = .ok (.iconst 1, 1) := by decide +kernel
theorem dX6_layAll_36 : decode cX6_layAll 36 = .ok (.istore_n 3, 1) := by decide +kernel
theorem dX6_layAll_37 : decode cX6_layAll 37 = .ok (.iload_n 3, 1) := by decide +kernel
theorem dX6_layAll_38 : decode cX6_layAll 38 = .ok (.ifCond .eq 16, 3) := by decide +kernel
theorem dX6_layAll_41 : decode cX6_layAll 41 = .ok (.aload_n 0, 1) := by decide +kernel
theorem dX6_layAll_42 : decode cX6_layAll 42 = .ok (.iload_n 2, 1) := by decide +kernel
theorem dX6_layAll_43 : decode cX6_layAll 43 = .ok (.iload_n 1, 1) := by decide +kernel
theorem dX6_layAll_44 : decode cX6_layAll 44 = .ok (.invokevirtual 105, 3) := by decide +kernel
theorem dX6_layAll_47 : decode cX6_layAll 47 = .ok (.istore_n 3, 1) := by decide +kernel
theorem dX6_layAll_48 : decode cX6_layAll 48 = .ok (.iinc 2 1, 3) := by decide +kernel
theorem dX6_layAll_51 : decode cX6_layAll 51 = .ok (.goto (-14), 3) := by decide +kernel
theorem dX6_layAll_54 : decode cX6_layAll 54 = .ok (.return_, 1) := by decide +kernel
theorem dX6_readySet_0 : decode cX6_readySet 0 = .ok (.iconst 0, 1) := by decide +kernel
theorem dX6_readySet_1 : decode cX6_readySet 1 = .ok (.istore_n 1, 1) := by decide +kernel
theorem dX6_readySet_2 : decode cX6_readySet 2 = .ok (.iconst 0, 1) := by decide +kernel
theorem dX6_readySet_3 : decode cX6_readySet 3 = .ok (.istore_n 2, 1) := by decide +kernel
theorem dX6_readySet_4 : decode cX6_readySet 4 = .ok (.iload_n 2, 1) := by decide +kernel
theorem dX6_readySet_5 : decode cX6_readySet 5 = .ok (.aload_n 0, 1) := by decide +kernel
theorem dX6_readySet_6 : decode cX6_readySet 6 = .ok (.getfield 7, 3) := by decide +kernel
theorem dX6_readySet_9 : decode cX6_readySet 9 = .ok (.bipush 40, 2) := by decide +kernel
theorem dX6_readySet_11 : decode cX6_readySet 11 = .ok (.iaload, 1) := by decide +kernel
theorem dX6_readySet_12 : decode cX6_readySet 12 = .ok (.if_icmp .ge 29, 3) := by decide +kernel
theorem dX6_readySet_15 : decode cX6_readySet 15 = .ok (.iload_n 1, 1) := by decide +kernel
theorem dX6_readySet_16 : decode cX6_readySet 16 = .ok (.aload_n 0, 1) := by decide +kernel
theorem dX6_readySet_17 : decode cX6_readySet 17 = .ok (.getfield 23, 3) := by decide +kernel
theorem dX6_readySet_20 : decode cX6_readySet 20 = .ok (.iload_n 2, 1) := by decide +kernel
theorem dX6_readySet_21 : decode cX6_readySet 21 = .ok (.iaload, 1) := by decide +kernel
theorem dX6_readySet_22 : decode cX6_readySet 22 = .ok (.iconst 1, 1) := by decide +kernel
theorem dX6_readySet_23 : decode cX6_readySet 23 = .ok (.if_icmp .ne 9, 3) := by decide +kernel
theorem dX6_readySet_26 : decode cX6_readySet 26 = .ok (.iconst 1, 1) := by decide +kernel
theorem dX6_readySet_27 : decode cX6_readySet 27 = .ok (.iload_n 2, 1) := by decide +kernel
theorem dX6_readySet_28 : decode cX6_readySet 28 = .ok (.ishl, 1) := by decide +kernel
theorem dX6_readySet_29 : decode cX6_readySet 29 = .ok (.goto 4, 3) := by decide +kernel
theorem dX6_readySet_32 : decode cX6_readySet 32 = .ok (.iconst 0, 1) := by decide +kernel
theorem dX6_readySet_33 : decode cX6_readySet 33 = .ok (.ior, 1) := by decide +kernel
theorem dX6_readySet_34 : decode cX6_readySet 34 = .ok (.istore_n 1, 1) := by decide +kernel
theorem dX6_readySet_35 : decode cX6_readySet 35 = .ok (.iinc 2 1, 3) := by decide +kernel
theorem dX6_readySet_38 : decode cX6_readySet 38 = .ok (.goto (-34), 3) := by decide +kernel
theorem dX6_readySet_41 : decode cX6_readySet 41 = .ok (.iload_n 1, 1) := by decide +kernel
theorem dX6_readySet_42 : decode cX6_readySet 42 = .ok (.ireturn, 1) := by decide +kernel
theorem dX6_liveSet_0 : decode cX6_liveSet 0 = .ok (.iconst 0, 1) := by decide +kernel
theorem dX6_liveSet_1 : decode cX6_liveSet 1 = .ok (.istore_n 1, 1) := by decide +kernel
theorem dX6_liveSet_2 : decode cX6_liveSet 2 = .ok (.iconst 0, 1) := by decide +kernel
theorem dX6_liveSet_3 : decode cX6_liveSet 3 = .ok (.istore_n 2, 1) := by decide +kernel
theorem dX6_liveSet_4 : decode cX6_liveSet 4 = .ok (.iload_n 2, 1) := by decide +kernel
theorem dX6_liveSet_5 : decode cX6_liveSet 5 = .ok (.bipush 6, 2) := by decide +kernel
theorem dX6_liveSet_7 : decode cX6_liveSet 7 = .ok (.if_icmp .ge 27, 3) := by decide +kernel
theorem dX6_liveSet_10 : decode cX6_liveSet 10 = .ok (.iload_n 1, 1) := by decide +kernel
theorem dX6_liveSet_11 : decode cX6_liveSet 11 = .ok (.aload_n 0, 1) := by decide +kernel
theorem dX6_liveSet_12 : decode cX6_liveSet 12 = .ok (.iload_n 2, 1) := by decide +kernel
theorem dX6_liveSet_13 : decode cX6_liveSet 13 = .ok (.invokevirtual 72, 3) := by decide +kernel
theorem dX6_liveSet_16 : decode cX6_liveSet 16 = .ok (.ifCond .eq 9, 3) := by decide +kernel
theorem dX6_liveSet_19 : decode cX6_liveSet 19 = .ok (.iconst 1, 1) := by decide +kernel
theorem dX6_liveSet_20 : decode cX6_liveSet 20 = .ok (.iload_n 2, 1) := by decide +kernel
theorem dX6_liveSet_21 : decode cX6_liveSet 21 = .ok (.ishl, 1) := by decide +kernel
theorem dX6_liveSet_22 : decode cX6_liveSet 22 = .ok (.goto 4, 3) := by decide +kernel
theorem dX6_liveSet_25 : decode cX6_liveSet 25 = .ok (.iconst 0, 1) := by decide +kernel
theorem dX6_liveSet_26 : decode cX6_liveSet 26 = .ok (.ior, 1) := by decide +kernel
theorem dX6_liveSet_27 : decode cX6_liveSet 27 = .ok (.istore_n 1, 1) := by decide +kernel
theorem dX6_liveSet_28 : decode cX6_liveSet 28 = .ok (.iinc 2 1, 3) := by decide +kernel
theorem dX6_liveSet_31 : decode cX6_liveSet 31 = .ok (.goto (-27), 3) := by decide +kernel
theorem dX6_liveSet_34 : decode cX6_liveSet 34 = .ok (.iload_n 1, 1) := by decide +kernel
theorem dX6_liveSet_35 : decode cX6_liveSet 35 = .ok (.ireturn, 1) := by decide +kernel
theorem dX6_isGoal_0 : decode cX6_isGoal 0 = .ok (.aload_n 0, 1) := by decide +kernel
theorem dX6_isGoal_1 : decode cX6_isGoal 1 = .ok (.iload_n 1, 1) := by decide +kernel
theorem dX6_isGoal_2 : decode cX6_isGoal 2 = .ok (.invokevirtual 99, 3) := by decide +kernel
theorem dX6_isGoal_5 : decode cX6_isGoal 5 = .ok (.iload_n 2, 1) := by decide +kernel
theorem dX6_isGoal_6 : decode cX6_isGoal 6 = .ok (.aload_n 0, 1) := by decide +kernel
theorem dX6_isGoal_7 : decode cX6_isGoal 7 = .ok (.invokevirtual 109, 3) := by decide +kernel
theorem dX6_isGoal_10 : decode cX6_isGoal 10 = .ok (.iconst (-1), 1) := by decide +kernel
theorem dX6_isGoal_11 : decode cX6_isGoal 11 = .ok (.ixor, 1) := by decide +kernel
theorem dX6_isGoal_12 : decode cX6_isGoal 12 = .ok (.iand, 1) := by decide +kernel
theorem dX6_isGoal_13 : decode cX6_isGoal 13 = .ok (.ifCond .ne 18, 3) := by decide +kernel
theorem dX6_isGoal_16 : decode cX6_isGoal 16 = .ok (.iload_n 3, 1) := by decide +kernel
theorem dX6_isGoal_17 : decode cX6_isGoal 17 = .ok (.aload_n 0, 1) := by decide +kernel
theorem dX6_isGoal_18 : decode cX6_isGoal 18 = .ok (.invokevirtual 112, 3) := by decide +kernel
theorem dX6_isGoal_21 : decode cX6_isGoal 21 = .ok (.iconst (-1), 1) := by decide +kernel
theorem dX6_isGoal_22 : decode cX6_isGoal 22 = .ok (.ixor, 1) := by decide +kernel
theorem dX6_isGoal_23 : decode cX6_isGoal 23 = .ok (.iand, 1) := by decide +kernel
theorem dX6_isGoal_24 : decode cX6_isGoal 24 = .ok (.ifCond .ne 7, 3) := by decide +kernel
theorem dX6_isGoal_27 : decode cX6_isGoal 27 = .ok (.iconst 1, 1) := by decide +kernel
theorem dX6_isGoal_28 : decode cX6_isGoal 28 = .ok (.goto 4, 3) := by decide +kernel
theorem dX6_isGoal_31 : decode cX6_isGoal 31 = .ok (.iconst 0, 1) := by decide +kernel
theorem dX6_isGoal_32 : decode cX6_isGoal 32 = .ok (.ireturn, 1) := by decide +kernel
theorem dX6_reached_0 : decode cX6_reached 0 = .ok (.bipush (-6), 2) := by decide +kernel
theorem dX6_reached_2 : decode cX6_reached 2 = .ok (.istore_n 3, 1) := by decide +kernel
theorem dX6_reached_3 : decode cX6_reached 3 = .ok (.iconst 0, 1) := by decide +kernel
theorem dX6_reached_4 : decode cX6_reached 4 = .ok (.istore 4, 2) := by decide +kernel
theorem dX6_reached_6 : decode cX6_reached 6 = .ok (.iload 4, 2) := by decide +kernel
theorem dX6_reached_8 : decode cX6_reached 8 = .ok (.sipush 8000, 3) := by decide +kernel
theorem dX6_reached_11 : decode cX6_reached 11 = .ok (.if_icmp .ge 53, 3) := by decide +kernel
theorem dX6_reached_14 : decode cX6_reached 14 = .ok (.aload_n 0, 1) := by decide +kernel
theorem dX6_reached_15 : decode cX6_reached 15 = .ok (.getfield 35, 3) := by decide +kernel
theorem dX6_reached_18 : decode cX6_reached 18 = .ok (.iload 4, 2) := by decide +kernel
theorem dX6_reached_20 : decode cX6_reached 20 = .ok (.iaload, 1) := by decide +kernel
theorem dX6_reached_21 : decode cX6_reached 21 = .ok (.ifCond .lt 37, 3) := by decide +kernel
theorem dX6_reached_24 : decode cX6_reached 24 = .ok (.iload_n 3, 1) := by decide +kernel
theorem dX6_reached_25 : decode cX6_reached 25 = .ok (.ifCond .lt 14, 3) := by decide +kernel
theorem dX6_reached_28 : decode cX6_reached 28 = .ok (.aload_n 0, 1) := by decide +kernel
theorem dX6_reached_29 : decode cX6_reached 29 = .ok (.getfield 35, 3) := by decide +kernel
theorem dX6_reached_32 : decode cX6_reached 32 = .ok (.iload 4, 2) := by decide +kernel
theorem dX6_reached_34 : decode cX6_reached 34 = .ok (.iaload, 1) := by decide +kernel
theorem dX6_reached_35 : decode cX6_reached 35 = .ok (.iload_n 3, 1) := by decide +kernel
theorem dX6_reached_36 : decode cX6_reached 36 = .ok (.if_icmp .ge 22, 3) := by decide +kernel
theorem dX6_reached_39 : decode cX6_reached 39 = .ok (.aload_n 0, 1) := by decide +kernel
theorem dX6_reached_40 : decode cX6_reached 40 = .ok (.iload 4, 2) := by decide +kernel
theorem dX6_reached_42 : decode cX6_reached 42 = .ok (.iload_n 1, 1) := by decide +kernel
theorem dX6_reached_43 : decode cX6_reached 43 = .ok (.iload_n 2, 1) := by decide +kernel
theorem dX6_reached_44 : decode cX6_reached 44 = .ok (.invokevirtual 115, 3) := by decide +kernel
theorem dX6_reached_47 : decode cX6_reached 47 = .ok (.ifCond .eq 11, 3) := by decide +kernel
theorem dX6_reached_50 : decode cX6_reached 50 = .ok (.aload_n 0, 1) := by decide +kernel
theorem dX6_reached_51 : decode cX6_reached 51 = .ok (.getfield 35, 3) := by decide +kernel
theorem dX6_reached_54 : decode cX6_reached 54 = .ok (.iload 4, 2) := by decide +kernel
theorem dX6_reached_56 : decode cX6_reached 56 = .ok (.iaload, 1) := by decide +kernel
theorem dX6_reached_57 : decode cX6_reached 57 = .ok (.istore_n 3, 1) := by decide +kernel
theorem dX6_reached_58 : decode cX6_reached 58 = .ok (.iinc 4 1, 3) := by decide +kernel
theorem dX6_reached_61 : decode cX6_reached 61 = .ok (.goto (-55), 3) := by decide +kernel
theorem dX6_reached_64 : decode cX6_reached 64 = .ok (.iload_n 3, 1) := by decide +kernel
theorem dX6_reached_65 : decode cX6_reached 65 = .ok (.ireturn, 1) := by decide +kernel
theorem dX6_stepOn_0 : decode cX6_stepOn 0 = .ok (.aload_n 0, 1) := by decide +kernel
theorem dX6_stepOn_1 : decode cX6_stepOn 1 = .ok (.iload_n 1, 1) := by decide +kernel
theorem dX6_stepOn_2 : decode cX6_stepOn 2 = .ok (.invokevirtual 99, 3) := by decide +kernel
theorem dX6_stepOn_5 : decode cX6_stepOn 5 = .ok (.iconst 0, 1) := by decide +kernel
theorem dX6_stepOn_6 : decode cX6_stepOn 6 = .ok (.istore_n 2, 1) := by decide +kernel
theorem dX6_stepOn_7 : decode cX6_stepOn 7 = .ok (.iload_n 2, 1) := by decide +kernel
theorem dX6_stepOn_8 : decode cX6_stepOn 8 = .ok (.bipush 10, 2) := by decide +kernel
theorem dX6_stepOn_10 : decode cX6_stepOn 10 = .ok (.if_icmp .ge 51, 3) := by decide +kernel
theorem dX6_stepOn_13 : decode cX6_stepOn 13 = .ok (.aload_n 0, 1) := by decide +kernel
theorem dX6_stepOn_14 : decode cX6_stepOn 14 = .ok (.iload_n 2, 1) := by decide +kernel
theorem dX6_stepOn_15 : decode cX6_stepOn 15 = .ok (.invokevirtual 81, 3) := by decide +kernel
theorem dX6_stepOn_18 : decode cX6_stepOn 18 = .ok (.ifCond .eq 37, 3) := by decide +kernel
theorem dX6_stepOn_21 : decode cX6_stepOn 21 = .ok (.aload_n 0, 1) := by decide +kernel
theorem dX6_stepOn_22 : decode cX6_stepOn 22 = .ok (.iload_n 2, 1) := by decide +kernel
theorem dX6_stepOn_23 : decode cX6_stepOn 23 = .ok (.invokevirtual 88, 3) := by decide +kernel
theorem dX6_stepOn_26 : decode cX6_stepOn 26 = .ok (.istore_n 3, 1) := by decide +kernel
theorem dX6_stepOn_27 : decode cX6_stepOn 27 = .ok (.aload_n 0, 1) := by decide +kernel
theorem dX6_stepOn_28 : decode cX6_stepOn 28 = .ok (.getfield 35, 3) := by decide +kernel
theorem dX6_stepOn_31 : decode cX6_stepOn 31 = .ok (.iload_n 3, 1) := by decide +kernel
theorem dX6_stepOn_32 : decode cX6_stepOn 32 = .ok (.iaload, 1) := by decide +kernel
theorem dX6_stepOn_33 : decode cX6_stepOn 33 = .ok (.aload_n 0, 1) := by decide +kernel
theorem dX6_stepOn_34 : decode cX6_stepOn 34 = .ok (.getfield 35, 3) := by decide +kernel
theorem dX6_stepOn_37 : decode cX6_stepOn 37 = .ok (.iload_n 1, 1) := by decide +kernel
theorem dX6_stepOn_38 : decode cX6_stepOn 38 = .ok (.iaload, 1) := by decide +kernel
theorem dX6_stepOn_39 : decode cX6_stepOn 39 = .ok (.iconst 1, 1) := by decide +kernel
theorem dX6_stepOn_40 : decode cX6_stepOn 40 = .ok (.iadd, 1) := by decide +kernel
theorem dX6_stepOn_41 : decode cX6_stepOn 41 = .ok (.if_icmp .ne 14, 3) := by decide +kernel
theorem dX6_stepOn_44 : decode cX6_stepOn 44 = .ok (.aload_n 0, 1) := by decide +kernel
theorem dX6_stepOn_45 : decode cX6_stepOn 45 = .ok (.getfield 38, 3) := by decide +kernel
theorem dX6_stepOn_48 : decode cX6_stepOn 48 = .ok (.iload_n 3, 1) := by decide +kernel
theorem dX6_stepOn_49 : decode cX6_stepOn 49 = .ok (.baload, 1) := by decide +kernel
theorem dX6_stepOn_50 : decode cX6_stepOn 50 = .ok (.ifCond .eq 5, 3) := by decide +kernel
theorem dX6_stepOn_53 : decode cX6_stepOn 53 = .ok (.iload_n 2, 1) := by decide +kernel
theorem dX6_stepOn_54 : decode cX6_stepOn 54 = .ok (.ireturn, 1) := by decide +kernel
theorem dX6_stepOn_55 : decode cX6_stepOn 55 = .ok (.iinc 2 1, 3) := by decide +kernel
theorem dX6_stepOn_58 : decode cX6_stepOn 58 = .ok (.goto (-51), 3) := by decide +kernel
theorem dX6_stepOn_61 : decode cX6_stepOn 61 = .ok (.bipush (-6), 2) := by decide +kernel
theorem dX6_stepOn_63 : decode cX6_stepOn 63 = .ok (.ireturn, 1) := by decide +kernel
theorem dX6_layLeads_0 : decode cX6_layLeads 0 = .ok (.iconst 0, 1) := by decide +kernel
theorem dX6_layLeads_1 : decode cX6_layLeads 1 = .ok (.istore 4, 2) := by decide +kernel
theorem dX6_layLeads_3 : decode cX6_layLeads 3 = .ok (.iload 4, 2) := by decide +kernel
theorem dX6_layLeads_5 : decode cX6_layLeads 5 = .ok (.sipush 8000, 3) := by decide +kernel
theorem dX6_layLeads_8 : decode cX6_layLeads 8 = .ok (.if_icmp .ge 43, 3) := by decide +kernel
theorem dX6_layLeads_11 : decode cX6_layLeads 11 = .ok (.aload_n 0, 1) := by decide +kernel
theorem dX6_layLeads_12 : decode cX6_layLeads 12 = .ok (.getfield 38, 3) := by decide +kernel
theorem dX6_layLeads_15 : decode cX6_layLeads 15 = .ok (.iload 4, 2) := by decide +kernel
theorem dX6_layLeads_17 : decode cX6_layLeads 17 = .ok (.aload_n 0, 1) := by decide +kernel
theorem dX6_layLeads_18 : decode cX6_layLeads 18 = .ok (.getfield 35, 3) := by decide +kernel
theorem dX6_layLeads_21 : decode cX6_layLeads 21 = .ok (.iload 4, 2) := by decide +kernel
theorem dX6_layLeads_23 : decode cX6_layLeads 23 = .ok (.iaload, 1) := by decide +kernel
theorem dX6_layLeads_24 : decode cX6_layLeads 24 = .ok (.iload_n 1, 1) := by decide +kernel
theorem dX6_layLeads_25 : decode cX6_layLeads 25 = .ok (.if_icmp .ne 18, 3) := by decide +kernel
theorem dX6_layLeads_28 : decode cX6_layLeads 28 = .ok (.aload_n 0, 1) := by decide +kernel
theorem dX6_layLeads_29 : decode cX6_layLeads 29 = .ok (.iload 4, 2) := by decide +kernel
theorem dX6_layLeads_31 : decode cX6_layLeads 31 = .ok (.iload_n 2, 1) := by decide +kernel
theorem dX6_layLeads_32 : decode cX6_layLeads 32 = .ok (.iload_n 3, 1) := by decide +kernel
theorem dX6_layLeads_33 : decode cX6_layLeads 33 = .ok (.invokevirtual 115, 3) := by decide +kernel
theorem dX6_layLeads_36 : decode cX6_layLeads 36 = .ok (.ifCond .eq 7, 3) := by decide +kernel
theorem dX6_layLeads_39 : decode cX6_layLeads 39 = .ok (.iconst 1, 1) := by decide +kernel
theorem dX6_layLeads_40 : decode cX6_layLeads 40 = .ok (.goto 4, 3) := by decide +kernel
theorem dX6_layLeads_43 : decode cX6_layLeads 43 = .ok (.iconst 0, 1) := by decide +kernel
theorem dX6_layLeads_44 : decode cX6_layLeads 44 = .ok (.bastore, 1) := by decide +kernel
theorem dX6_layLeads_45 : decode cX6_layLeads 45 = .ok (.iinc 4 1, 3) := by decide +kernel
theorem dX6_layLeads_48 : decode cX6_layLeads 48 = .ok (.goto (-45), 3) := by decide +kernel
theorem dX6_layLeads_51 : decode cX6_layLeads 51 = .ok (.iload_n 1, 1) := by decide +kernel
theorem dX6_layLeads_52 : decode cX6_layLeads 52 = .ok (.iconst 1, 1) := by decide +kernel
theorem dX6_layLeads_53 : decode cX6_layLeads 53 = .ok (.isub, 1) := by decide +kernel
theorem dX6_layLeads_54 : decode cX6_layLeads 54 = .ok (.istore 4, 2) := by decide +kernel
theorem dX6_layLeads_56 : decode cX6_layLeads 56 = .ok (.iload 4, 2) := by decide +kernel
theorem dX6_layLeads_58 : decode cX6_layLeads 58 = .ok (.ifCond .lt 59, 3) := by decide +kernel
theorem dX6_layLeads_61 : decode cX6_layLeads 61 = .ok (.iconst 0, 1) := by decide +kernel
theorem dX6_layLeads_62 : decode cX6_layLeads 62 = .ok (.istore 5, 2) := by decide +kernel
theorem dX6_layLeads_64 : decode cX6_layLeads 64 = .ok (.iload 5, 2) := by decide +kernel
theorem dX6_layLeads_66 : decode cX6_layLeads 66 = .ok (.sipush 8000, 3) := by decide +kernel
theorem dX6_layLeads_69 : decode cX6_layLeads 69 = .ok (.if_icmp .ge 42, 3) := by decide +kernel
theorem dX6_layLeads_72 : decode cX6_layLeads 72 = .ok (.aload_n 0, 1) := by decide +kernel
theorem dX6_layLeads_73 : decode cX6_layLeads 73 = .ok (.getfield 35, 3) := by decide +kernel
theorem dX6_layLeads_76 : decode cX6_layLeads 76 = .ok (.iload 5, 2) := by decide +kernel
theorem dX6_layLeads_78 : decode cX6_layLeads 78 = .ok (.iaload, 1) := by decide +kernel
theorem dX6_layLeads_79 : decode cX6_layLeads 79 = .ok (.iload 4, 2) := by decide +kernel
theorem dX6_layLeads_81 : decode cX6_layLeads 81 = .ok (.if_icmp .ne 24, 3) := by decide +kernel
theorem dX6_layLeads_84 : decode cX6_layLeads 84 = .ok (.aload_n 0, 1) := by decide +kernel
theorem dX6_layLeads_85 : decode cX6_layLeads 85 = .ok (.getfield 38, 3) := by decide +kernel
theorem dX6_layLeads_88 : decode cX6_layLeads 88 = .ok (.iload 5, 2) := by decide +kernel
theorem dX6_layLeads_90 : decode cX6_layLeads 90 = .ok (.aload_n 0, 1) := by decide +kernel
theorem dX6_layLeads_91 : decode cX6_layLeads 91 = .ok (.iload 5, 2) := by decide +kernel
theorem dX6_layLeads_93 : decode cX6_layLeads 93 = .ok (.invokevirtual 118, 3) := by decide +kernel
theorem dX6_layLeads_96 : decode cX6_layLeads 96 = .ok (.ifCond .lt 7, 3) := by decide +kernel
theorem dX6_layLeads_99 : decode cX6_layLeads 99 = .ok (.iconst 1, 1) := by decide +kernel
theorem dX6_layLeads_100 : decode cX6_layLeads 100 = .ok (.goto 4, 3) := by decide +kernel
theorem dX6_layLeads_103 : decode cX6_layLeads 103 = .ok (.iconst 0, 1) := by decide +kernel
theorem dX6_layLeads_104 : decode cX6_layLeads 104 = .ok (.bastore, 1) := by decide +kernel
theorem dX6_layLeads_105 : decode cX6_layLeads 105 = .ok (.iinc 5 1, 3) := by decide +kernel
theorem dX6_layLeads_108 : decode cX6_layLeads 108 = .ok (.goto (-44), 3) := by decide +kernel
theorem dX6_layLeads_111 : decode cX6_layLeads 111 = .ok (.iinc 4 (-1), 3) := by decide +kernel
theorem dX6_layLeads_114 : decode cX6_layLeads 114 = .ok (.goto (-58), 3) := by decide +kernel
theorem dX6_layLeads_117 : decode cX6_layLeads 117 = .ok (.return_, 1) := by decide +kernel
theorem dX6_layWay_0 : decode cX6_layWay 0 = .ok (.aload_n 0, 1) := by decide +kernel
theorem dX6_layWay_1 : decode cX6_layWay 1 = .ok (.bipush (-6), 2) := by decide +kernel
theorem dX6_layWay_3 : decode cX6_layWay 3 = .ok (.invokevirtual 121, 3) := by decide +kernel
theorem dX6_layWay_6 : decode cX6_layWay 6 = .ok (.aload_n 0, 1) := by decide +kernel
theorem dX6_layWay_7 : decode cX6_layWay 7 = .ok (.iload_n 1, 1) := by decide +kernel
theorem dX6_layWay_8 : decode cX6_layWay 8 = .ok (.iload_n 2, 1) := by decide +kernel
theorem dX6_layWay_9 : decode cX6_layWay 9 = .ok (.invokevirtual 124, 3) := by decide +kernel
theorem dX6_layWay_12 : decode cX6_layWay 12 = .ok (.istore_n 3, 1) := by decide +kernel
theorem dX6_layWay_13 : decode cX6_layWay 13 = .ok (.iload_n 3, 1) := by decide +kernel
theorem dX6_layWay_14 : decode cX6_layWay 14 = .ok (.ifCond .ge 6, 3) := by decide +kernel
theorem dX6_layWay_17 : decode cX6_layWay 17 = .ok (.bipush (-6), 2) := by decide +kernel
theorem dX6_layWay_19 : decode cX6_layWay 19 = .ok (.ireturn, 1) := by decide +kernel
theorem dX6_layWay_20 : decode cX6_layWay 20 = .ok (.aload_n 0, 1) := by decide +kernel
theorem dX6_layWay_21 : decode cX6_layWay 21 = .ok (.iload_n 3, 1) := by decide +kernel
theorem dX6_layWay_22 : decode cX6_layWay 22 = .ok (.iload_n 1, 1) := by decide +kernel
theorem dX6_layWay_23 : decode cX6_layWay 23 = .ok (.iload_n 2, 1) := by decide +kernel
theorem dX6_layWay_24 : decode cX6_layWay 24 = .ok (.invokevirtual 127, 3) := by decide +kernel
theorem dX6_layWay_27 : decode cX6_layWay 27 = .ok (.aload_n 0, 1) := by decide +kernel
theorem dX6_layWay_28 : decode cX6_layWay 28 = .ok (.invokevirtual 102, 3) := by decide +kernel
theorem dX6_layWay_31 : decode cX6_layWay 31 = .ok (.istore 4, 2) := by decide +kernel
theorem dX6_layWay_33 : decode cX6_layWay 33 = .ok (.iconst 0, 1) := by decide +kernel
theorem dX6_layWay_34 : decode cX6_layWay 34 = .ok (.istore 5, 2) := by decide +kernel
theorem dX6_layWay_36 : decode cX6_layWay 36 = .ok (.iload 5, 2) := by decide +kernel
theorem dX6_layWay_38 : decode cX6_layWay 38 = .ok (.iload_n 3, 1) := by decide +kernel
theorem dX6_layWay_39 : decode cX6_layWay 39 = .ok (.if_icmp .ge 41, 3) := by decide +kernel
theorem dX6_layWay_42 : decode cX6_layWay 42 = .ok (.aload_n 0, 1) := by decide +kernel
theorem dX6_layWay_43 : decode cX6_layWay 43 = .ok (.getfield 41, 3) := by decide +kernel
theorem dX6_layWay_46 : decode cX6_layWay 46 = .ok (.iload 5, 2) := by decide +kernel
theorem dX6_layWay_48 : decode cX6_layWay 48 = .ok (.aload_n 0, 1) := by decide +kernel
theorem dX6_layWay_49 : decode cX6_layWay 49 = .ok (.iload 4, 2) := by decide +kernel
theorem dX6_layWay_51 : decode cX6_layWay 51 = .ok (.invokevirtual 118, 3) := by decide +kernel
theorem dX6_layWay_54 : decode cX6_layWay 54 = .ok (.iastore, 1) := by decide +kernel
theorem dX6_layWay_55 : decode cX6_layWay 55 = .ok (.aload_n 0, 1) := by decide +kernel
theorem dX6_layWay_56 : decode cX6_layWay 56 = .ok (.iload 4, 2) := by decide +kernel
theorem dX6_layWay_58 : decode cX6_layWay 58 = .ok (.invokevirtual 99, 3) := by decide +kernel
theorem dX6_layWay_61 : decode cX6_layWay 61 = .ok (.aload_n 0, 1) := by decide +kernel
theorem dX6_layWay_62 : decode cX6_layWay 62 = .ok (.aload_n 0, 1) := by decide +kernel
theorem dX6_layWay_63 : decode cX6_layWay 63 = .ok (.getfield 41, 3) := by decide +kernel
theorem dX6_layWay_66 : decode cX6_layWay 66 = .ok (.iload 5, 2) := by decide +kernel
theorem dX6_layWay_68 : decode cX6_layWay 68 = .ok (.iaload, 1) := by decide +kernel
theorem dX6_layWay_69 : decode cX6_layWay 69 = .ok (.invokevirtual 88, 3) := by decide +kernel
theorem dX6_layWay_72 : decode cX6_layWay 72 = .ok (.istore 4, 2) := by decide +kernel
theorem dX6_layWay_74 : decode cX6_layWay 74 = .ok (.iinc 5 1, 3) := by decide +kernel
theorem dX6_layWay_77 : decode cX6_layWay 77 = .ok (.goto (-41), 3) := by decide +kernel
theorem dX6_layWay_80 : decode cX6_layWay 80 = .ok (.aload_n 0, 1) := by decide +kernel
theorem dX6_layWay_81 : decode cX6_layWay 81 = .ok (.iload 4, 2) := by decide +kernel
theorem dX6_layWay_83 : decode cX6_layWay 83 = .ok (.putfield 131, 3) := by decide +kernel
theorem dX6_layWay_86 : decode cX6_layWay 86 = .ok (.iload_n 3, 1) := by decide +kernel
theorem dX6_layWay_87 : decode cX6_layWay 87 = .ok (.ireturn, 1) := by decide +kernel
theorem dX6_areSets_0 : decode cX6_areSets 0 = .ok (.iload_n 1, 1) := by decide +kernel
theorem dX6_areSets_1 : decode cX6_areSets 1 = .ok (.iconst 0, 1) := by decide +kernel
theorem dX6_areSets_2 : decode cX6_areSets 2 = .ok (.iconst 1, 1) := by decide +kernel
theorem dX6_areSets_3 : decode cX6_areSets 3 = .ok (.aload_n 0, 1) := by decide +kernel
theorem dX6_areSets_4 : decode cX6_areSets 4 = .ok (.getfield 7, 3) := by decide +kernel
theorem dX6_areSets_7 : decode cX6_areSets 7 = .ok (.bipush 40, 2) := by decide +kernel
theorem dX6_areSets_9 : decode cX6_areSets 9 = .ok (.iaload, 1) := by decide +kernel
theorem dX6_areSets_10 : decode cX6_areSets 10 = .ok (.ishl, 1) := by decide +kernel
theorem dX6_areSets_11 : decode cX6_areSets 11 = .ok (.iconst 1, 1) := by decide +kernel
theorem dX6_areSets_12 : decode cX6_areSets 12 = .ok (.isub, 1) := by decide +kernel
theorem dX6_areSets_13 : decode cX6_areSets 13 = .ok (.invokestatic 44, 3) := by decide +kernel
theorem dX6_areSets_16 : decode cX6_areSets 16 = .ok (.ifCond .eq 17, 3) := by decide +kernel
theorem dX6_areSets_19 : decode cX6_areSets 19 = .ok (.iload_n 2, 1) := by decide +kernel
theorem dX6_areSets_20 : decode cX6_areSets 20 = .ok (.iconst 0, 1) := by decide +kernel
theorem dX6_areSets_21 : decode cX6_areSets 21 = .ok (.bipush 63, 2) := by decide +kernel
theorem dX6_areSets_23 : decode cX6_areSets 23 = .ok (.invokestatic 44, 3) := by decide +kernel
theorem dX6_areSets_26 : decode cX6_areSets 26 = .ok (.ifCond .eq 7, 3) := by decide +kernel
theorem dX6_areSets_29 : decode cX6_areSets 29 = .ok (.iconst 1, 1) := by decide +kernel
theorem dX6_areSets_30 : decode cX6_areSets 30 = .ok (.goto 4, 3) := by decide +kernel
theorem dX6_areSets_33 : decode cX6_areSets 33 = .ok (.iconst 0, 1) := by decide +kernel
theorem dX6_areSets_34 : decode cX6_areSets 34 = .ok (.ireturn, 1) := by decide +kernel
theorem dX6_way_0 : decode cX6_way 0 = .ok (.aload_n 0, 1) := by decide +kernel
theorem dX6_way_1 : decode cX6_way 1 = .ok (.iload_n 1, 1) := by decide +kernel
theorem dX6_way_2 : decode cX6_way 2 = .ok (.iload_n 2, 1) := by decide +kernel
theorem dX6_way_3 : decode cX6_way 3 = .ok (.invokevirtual 135, 3) := by decide +kernel
theorem dX6_way_6 : decode cX6_way 6 = .ok (.ifCond .eq 8, 3) := by decide +kernel
theorem dX6_way_9 : decode cX6_way 9 = .ok (.iload_n 3, 1) := by decide +kernel
theorem dX6_way_10 : decode cX6_way 10 = .ok (.iconst (-1), 1) := by decide +kernel
theorem dX6_way_11 : decode cX6_way 11 = .ok (.if_icmp .ge 6, 3) := by decide +kernel
theorem dX6_way_14 : decode cX6_way 14 = .ok (.bipush (-2), 2) := by decide +kernel
theorem dX6_way_16 : decode cX6_way 16 = .ok (.ireturn, 1) := by decide +kernel
theorem dX6_way_17 : decode cX6_way 17 = .ok (.aload_n 0, 1) := by decide +kernel
theorem dX6_way_18 : decode cX6_way 18 = .ok (.iload_n 1, 1) := by decide +kernel
theorem dX6_way_19 : decode cX6_way 19 = .ok (.iload_n 2, 1) := by decide +kernel
theorem dX6_way_20 : decode cX6_way 20 = .ok (.invokevirtual 138, 3) := by decide +kernel
theorem dX6_way_23 : decode cX6_way 23 = .ok (.istore 4, 2) := by decide +kernel
theorem dX6_way_25 : decode cX6_way 25 = .ok (.iload 4, 2) := by decide +kernel
theorem dX6_way_27 : decode cX6_way 27 = .ok (.ifCond .lt 8, 3) := by decide +kernel
theorem dX6_way_30 : decode cX6_way 30 = .ok (.iload_n 3, 1) := by decide +kernel
theorem dX6_way_31 : decode cX6_way 31 = .ok (.iconst (-1), 1) := by decide +kernel
theorem dX6_way_32 : decode cX6_way 32 = .ok (.if_icmp .ne 8, 3) := by decide +kernel
theorem dX6_way_35 : decode cX6_way 35 = .ok (.iload 4, 2) := by decide +kernel
theorem dX6_way_37 : decode cX6_way 37 = .ok (.goto 20, 3) := by decide +kernel
theorem dX6_way_40 : decode cX6_way 40 = .ok (.iload_n 3, 1) := by decide +kernel
theorem dX6_way_41 : decode cX6_way 41 = .ok (.iload 4, 2) := by decide +kernel
theorem dX6_way_43 : decode cX6_way 43 = .ok (.if_icmp .ge 12, 3) := by decide +kernel
theorem dX6_way_46 : decode cX6_way 46 = .ok (.aload_n 0, 1) := by decide +kernel
theorem dX6_way_47 : decode cX6_way 47 = .ok (.getfield 41, 3) := by decide +kernel
theorem dX6_way_50 : decode cX6_way 50 = .ok (.iload_n 3, 1) := by decide +kernel
theorem dX6_way_51 : decode cX6_way 51 = .ok (.iaload, 1) := by decide +kernel
theorem dX6_way_52 : decode cX6_way 52 = .ok (.goto 5, 3) := by decide +kernel
theorem dX6_way_55 : decode cX6_way 55 = .ok (.bipush (-6), 2) := by decide +kernel
theorem dX6_way_57 : decode cX6_way 57 = .ok (.ireturn, 1) := by decide +kernel
theorem dX6_go_0 : decode cX6_go 0 = .ok (.aload_n 0, 1) := by decide +kernel
theorem dX6_go_1 : decode cX6_go 1 = .ok (.iload_n 1, 1) := by decide +kernel
theorem dX6_go_2 : decode cX6_go 2 = .ok (.iload_n 2, 1) := by decide +kernel
theorem dX6_go_3 : decode cX6_go 3 = .ok (.invokevirtual 135, 3) := by decide +kernel
theorem dX6_go_6 : decode cX6_go 6 = .ok (.ifCond .ne 6, 3) := by decide +kernel
theorem dX6_go_9 : decode cX6_go 9 = .ok (.bipush (-2), 2) := by decide +kernel
theorem dX6_go_11 : decode cX6_go 11 = .ok (.ireturn, 1) := by decide +kernel
theorem dX6_go_12 : decode cX6_go 12 = .ok (.aload_n 0, 1) := by decide +kernel
theorem dX6_go_13 : decode cX6_go 13 = .ok (.iload_n 1, 1) := by decide +kernel
theorem dX6_go_14 : decode cX6_go 14 = .ok (.iload_n 2, 1) := by decide +kernel
theorem dX6_go_15 : decode cX6_go 15 = .ok (.invokevirtual 138, 3) := by decide +kernel
theorem dX6_go_18 : decode cX6_go 18 = .ok (.istore_n 3, 1) := by decide +kernel
theorem dX6_go_19 : decode cX6_go 19 = .ok (.iload_n 3, 1) := by decide +kernel
theorem dX6_go_20 : decode cX6_go 20 = .ok (.ifCond .ge 6, 3) := by decide +kernel
theorem dX6_go_23 : decode cX6_go 23 = .ok (.bipush (-5), 2) := by decide +kernel
theorem dX6_go_25 : decode cX6_go 25 = .ok (.ireturn, 1) := by decide +kernel
theorem dX6_go_26 : decode cX6_go 26 = .ok (.aload_n 0, 1) := by decide +kernel
theorem dX6_go_27 : decode cX6_go 27 = .ok (.aload_n 0, 1) := by decide +kernel
theorem dX6_go_28 : decode cX6_go 28 = .ok (.getfield 131, 3) := by decide +kernel
theorem dX6_go_31 : decode cX6_go 31 = .ok (.invokevirtual 91, 3) := by decide +kernel
theorem dX6_go_34 : decode cX6_go 34 = .ok (.aload_n 0, 1) := by decide +kernel
theorem dX6_go_35 : decode cX6_go 35 = .ok (.getfield 7, 3) := by decide +kernel
theorem dX6_go_38 : decode cX6_go 38 = .ok (.bipush 41, 2) := by decide +kernel
theorem dX6_go_40 : decode cX6_go 40 = .ok (.dup2, 1) := by decide +kernel
theorem dX6_go_41 : decode cX6_go 41 = .ok (.iaload, 1) := by decide +kernel
theorem dX6_go_42 : decode cX6_go 42 = .ok (.iload_n 3, 1) := by decide +kernel
theorem dX6_go_43 : decode cX6_go 43 = .ok (.iadd, 1) := by decide +kernel
theorem dX6_go_44 : decode cX6_go 44 = .ok (.iastore, 1) := by decide +kernel
theorem dX6_go_45 : decode cX6_go 45 = .ok (.aload_n 0, 1) := by decide +kernel
theorem dX6_go_46 : decode cX6_go 46 = .ok (.getfield 7, 3) := by decide +kernel
theorem dX6_go_49 : decode cX6_go 49 = .ok (.bipush 41, 2) := by decide +kernel
theorem dX6_go_51 : decode cX6_go 51 = .ok (.iaload, 1) := by decide +kernel
theorem dX6_go_52 : decode cX6_go 52 = .ok (.ireturn, 1) := by decide +kernel
theorem dX6_canWithout_0 : decode cX6_canWithout 0 = .ok (.aload_n 0, 1) := by decide +kernel
theorem dX6_canWithout_1 : decode cX6_canWithout 1 = .ok (.iload_n 1, 1) := by decide +kernel
theorem dX6_canWithout_2 : decode cX6_canWithout 2 = .ok (.invokevirtual 121, 3) := by decide +kernel
theorem dX6_canWithout_5 : decode cX6_canWithout 5 = .ok (.aload_n 0, 1) := by decide +kernel
theorem dX6_canWithout_6 : decode cX6_canWithout 6 = .ok (.iload_n 2, 1) := by decide +kernel
theorem dX6_canWithout_7 : decode cX6_canWithout 7 = .ok (.iload_n 3, 1) := by decide +kernel
theorem dX6_canWithout_8 : decode cX6_canWithout 8 = .ok (.invokevirtual 124, 3) := by decide +kernel
theorem dX6_canWithout_11 : decode cX6_canWithout 11 = .ok (.ifCond .lt 7, 3) := by decide +kernel
theorem dX6_canWithout_14 : decode cX6_canWithout 14 = .ok (.iconst 1, 1) := by decide +kernel
theorem dX6_canWithout_15 : decode cX6_canWithout 15 = .ok (.goto 4, 3) := by decide +kernel
theorem dX6_canWithout_18 : decode cX6_canWithout 18 = .ok (.iconst 0, 1) := by decide +kernel
theorem dX6_canWithout_19 : decode cX6_canWithout 19 = .ok (.ireturn, 1) := by decide +kernel
theorem dX6_neededLines_0 : decode cX6_neededLines 0 = .ok (.iconst 0, 1) := by decide +kernel
theorem dX6_neededLines_1 : decode cX6_neededLines 1 = .ok (.istore_n 3, 1) := by decide +kernel
theorem dX6_neededLines_2 : decode cX6_neededLines 2 = .ok (.iconst 0, 1) := by decide +kernel
